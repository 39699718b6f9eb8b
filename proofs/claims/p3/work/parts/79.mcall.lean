abbrev cX12_primary : ByteArray := prog_14_method_69_code
def yX12_primary : MethodName := ⟨RX12, "primary", "(IJ)V"⟩
abbrev cX12_call : ByteArray := prog_14_method_72_code
def yX12_call : MethodName := ⟨RX12, "call", "(IJ)V"⟩
abbrev cX12_bang : ByteArray := prog_14_method_73_code
def yX12_bang : MethodName := ⟨RX12, "bang", "()V"⟩
abbrev cX12_worded : ByteArray := prog_14_method_75_code
def yX12_worded : MethodName := ⟨RX12, "worded", "()V"⟩
abbrev cX12_signed : ByteArray := prog_14_method_76_code
def yX12_signed : MethodName := ⟨RX12, "signed", "()V"⟩
theorem dX12_unary_0 : decode cX12_unary 0 = .ok (.aload_n 0, 1) := by decide +kernel
theorem dX12_unary_1 : decode cX12_unary 1 = .ok (.bipush 45, 2) := by decide +kernel
theorem dX12_unary_3 : decode cX12_unary 3 = .ok (.invokevirtual 292, 3) := by decide +kernel
theorem dX12_unary_6 : decode cX12_unary 6 = .ok (.ifCond .eq 42, 3) := by decide +kernel
theorem dX12_unary_9 : decode cX12_unary 9 = .ok (.aload_n 0, 1) := by decide +kernel
theorem dX12_unary_10 : decode cX12_unary 10 = .ok (.invokevirtual 310, 3) := by decide +kernel
theorem dX12_unary_13 : decode cX12_unary 13 = .ok (.aload_n 0, 1) := by decide +kernel
theorem dX12_unary_14 : decode cX12_unary 14 = .ok (.invokevirtual 483, 3) := by decide +kernel
theorem dX12_unary_17 : decode cX12_unary 17 = .ok (.aload_n 0, 1) := by decide +kernel
theorem dX12_unary_18 : decode cX12_unary 18 = .ok (.iconst 0, 1) := by decide +kernel
theorem dX12_unary_19 : decode cX12_unary 19 = .ok (.invokevirtual 468, 3) := by decide +kernel
theorem dX12_unary_22 : decode cX12_unary 22 = .ok (.istore_n 1, 1) := by decide +kernel
theorem dX12_unary_23 : decode cX12_unary 23 = .ok (.aload_n 0, 1) := by decide +kernel
theorem dX12_unary_24 : decode cX12_unary 24 = .ok (.bipush 32, 2) := by decide +kernel
theorem dX12_unary_26 : decode cX12_unary 26 = .ok (.lconst 0, 1) := by decide +kernel
theorem dX12_unary_27 : decode cX12_unary 27 = .ok (.iconst 0, 1) := by decide +kernel
theorem dX12_unary_28 : decode cX12_unary 28 = .ok (.invokevirtual 374, 3) := by decide +kernel
theorem dX12_unary_31 : decode cX12_unary 31 = .ok (.pop, 1) := by decide +kernel
theorem dX12_unary_32 : decode cX12_unary 32 = .ok (.aload_n 0, 1) := by decide +kernel
theorem dX12_unary_33 : decode cX12_unary 33 = .ok (.iload_n 1, 1) := by decide +kernel
theorem dX12_unary_34 : decode cX12_unary 34 = .ok (.invokevirtual 474, 3) := by decide +kernel
theorem dX12_unary_37 : decode cX12_unary 37 = .ok (.aload_n 0, 1) := by decide +kernel
theorem dX12_unary_38 : decode cX12_unary 38 = .ok (.dup, 1) := by decide +kernel
theorem dX12_unary_39 : decode cX12_unary 39 = .ok (.getfield 307, 3) := by decide +kernel
theorem dX12_unary_42 : decode cX12_unary 42 = .ok (.iconst 1, 1) := by decide +kernel
theorem dX12_unary_43 : decode cX12_unary 43 = .ok (.isub, 1) := by decide +kernel
theorem dX12_unary_44 : decode cX12_unary 44 = .ok (.putfield 307, 3) := by decide +kernel
theorem dX12_unary_47 : decode cX12_unary 47 = .ok (.return_, 1) := by decide +kernel
theorem dX12_unary_48 : decode cX12_unary 48 = .ok (.aload_n 0, 1) := by decide +kernel
theorem dX12_unary_49 : decode cX12_unary 49 = .ok (.invokevirtual 215, 3) := by decide +kernel
theorem dX12_unary_52 : decode cX12_unary 52 = .ok (.ifCond .eq 4, 3) := by decide +kernel
theorem dX12_unary_55 : decode cX12_unary 55 = .ok (.return_, 1) := by decide +kernel
theorem dX12_unary_56 : decode cX12_unary 56 = .ok (.aload_n 0, 1) := by decide +kernel
theorem dX12_unary_57 : decode cX12_unary 57 = .ok (.getfield 225, 3) := by decide +kernel
theorem dX12_unary_60 : decode cX12_unary 60 = .ok (.iconst 2, 1) := by decide +kernel
theorem dX12_unary_61 : decode cX12_unary 61 = .ok (.if_icmp .ne 21, 3) := by decide +kernel
theorem dX12_unary_64 : decode cX12_unary 64 = .ok (.aload_n 0, 1) := by decide +kernel
theorem dX12_unary_65 : decode cX12_unary 65 = .ok (.iconst 1, 1) := by decide +kernel
theorem dX12_unary_66 : decode cX12_unary 66 = .ok (.aload_n 0, 1) := by decide +kernel
theorem dX12_unary_67 : decode cX12_unary 67 = .ok (.getfield 261, 3) := by decide +kernel
theorem dX12_unary_70 : decode cX12_unary 70 = .ok (.iconst 0, 1) := by decide +kernel
theorem dX12_unary_71 : decode cX12_unary 71 = .ok (.invokevirtual 374, 3) := by decide +kernel
theorem dX12_unary_74 : decode cX12_unary 74 = .ok (.pop, 1) := by decide +kernel
theorem dX12_unary_75 : decode cX12_unary 75 = .ok (.aload_n 0, 1) := by decide +kernel
theorem dX12_unary_76 : decode cX12_unary 76 = .ok (.invokevirtual 295, 3) := by decide +kernel
theorem dX12_unary_79 : decode cX12_unary 79 = .ok (.goto 127, 3) := by decide +kernel
theorem dX12_unary_82 : decode cX12_unary 82 = .ok (.aload_n 0, 1) := by decide +kernel
theorem dX12_unary_83 : decode cX12_unary 83 = .ok (.getfield 225, 3) := by decide +kernel
theorem dX12_unary_86 : decode cX12_unary 86 = .ok (.ifCond .ne 101, 3) := by decide +kernel
theorem dX12_unary_89 : decode cX12_unary 89 = .ok (.aload_n 0, 1) := by decide +kernel
theorem dX12_unary_90 : decode cX12_unary 90 = .ok (.getfield 222, 3) := by decide +kernel
theorem dX12_unary_93 : decode cX12_unary 93 = .ok (.istore_n 1, 1) := by decide +kernel
theorem dX12_unary_94 : decode cX12_unary 94 = .ok (.aload_n 0, 1) := by decide +kernel
theorem dX12_unary_95 : decode cX12_unary 95 = .ok (.getfield 245, 3) := by decide +kernel
theorem dX12_unary_98 : decode cX12_unary 98 = .ok (.lstore_n 2, 1) := by decide +kernel
theorem dX12_unary_99 : decode cX12_unary 99 = .ok (.aload_n 0, 1) := by decide +kernel
theorem dX12_unary_100 : decode cX12_unary 100 = .ok (.invokevirtual 295, 3) := by decide +kernel
theorem dX12_unary_103 : decode cX12_unary 103 = .ok (.aload_n 0, 1) := by decide +kernel
theorem dX12_unary_104 : decode cX12_unary 104 = .ok (.bipush 91, 2) := by decide +kernel
theorem dX12_unary_106 : decode cX12_unary 106 = .ok (.invokevirtual 292, 3) := by decide +kernel
theorem dX12_unary_109 : decode cX12_unary 109 = .ok (.ifCond .eq 69, 3) := by decide +kernel
theorem dX12_unary_112 : decode cX12_unary 112 = .ok (.aload_n 0, 1) := by decide +kernel
theorem dX12_unary_113 : decode cX12_unary 113 = .ok (.iconst 3, 1) := by decide +kernel
theorem dX12_unary_114 : decode cX12_unary 114 = .ok (.aload_n 0, 1) := by decide +kernel
theorem dX12_unary_115 : decode cX12_unary 115 = .ok (.iload_n 1, 1) := by decide +kernel
theorem dX12_unary_116 : decode cX12_unary 116 = .ok (.lload_n 2, 1) := by decide +kernel
theorem dX12_unary_117 : decode cX12_unary 117 = .ok (.invokevirtual 447, 3) := by decide +kernel
theorem dX12_unary_120 : decode cX12_unary 120 = .ok (.i2l, 1) := by decide +kernel
theorem dX12_unary_121 : decode cX12_unary 121 = .ok (.iconst 0, 1) := by decide +kernel
theorem dX12_unary_122 : decode cX12_unary 122 = .ok (.invokevirtual 374, 3) := by decide +kernel
theorem dX12_unary_125 : decode cX12_unary 125 = .ok (.pop, 1) := by decide +kernel
theorem dX12_unary_126 : decode cX12_unary 126 = .ok (.aload_n 0, 1) := by decide +kernel
theorem dX12_unary_127 : decode cX12_unary 127 = .ok (.iconst 0, 1) := by decide +kernel
theorem dX12_unary_128 : decode cX12_unary 128 = .ok (.invokevirtual 468, 3) := by decide +kernel
theorem dX12_unary_131 : decode cX12_unary 131 = .ok (.istore 4, 2) := by decide +kernel
theorem dX12_unary_133 : decode cX12_unary 133 = .ok (.aload_n 0, 1) := by decide +kernel
theorem dX12_unary_134 : decode cX12_unary 134 = .ok (.invokevirtual 310, 3) := by decide +kernel
theorem dX12_unary_137 : decode cX12_unary 137 = .ok (.aload_n 0, 1) := by decide +kernel
theorem dX12_unary_138 : decode cX12_unary 138 = .ok (.invokevirtual 402, 3) := by decide +kernel
theorem dX12_unary_141 : decode cX12_unary 141 = .ok (.aload_n 0, 1) := by decide +kernel
theorem dX12_unary_142 : decode cX12_unary 142 = .ok (.bipush 93, 2) := by decide +kernel
theorem dX12_unary_144 : decode cX12_unary 144 = .ok (.invokevirtual 387, 3) := by decide +kernel
theorem dX12_unary_147 : decode cX12_unary 147 = .ok (.aload_n 0, 1) := by decide +kernel
theorem dX12_unary_148 : decode cX12_unary 148 = .ok (.iconst 1, 1) := by decide +kernel
theorem dX12_unary_149 : decode cX12_unary 149 = .ok (.invokevirtual 468, 3) := by decide +kernel
theorem dX12_unary_152 : decode cX12_unary 152 = .ok (.istore 5, 2) := by decide +kernel
theorem dX12_unary_154 : decode cX12_unary 154 = .ok (.aload_n 0, 1) := by decide +kernel
theorem dX12_unary_155 : decode cX12_unary 155 = .ok (.bipush 24, 2) := by decide +kernel
theorem dX12_unary_157 : decode cX12_unary 157 = .ok (.lconst 0, 1) := by decide +kernel
theorem dX12_unary_158 : decode cX12_unary 158 = .ok (.iconst 0, 1) := by decide +kernel
theorem dX12_unary_159 : decode cX12_unary 159 = .ok (.invokevirtual 374, 3) := by decide +kernel
theorem dX12_unary_162 : decode cX12_unary 162 = .ok (.pop, 1) := by decide +kernel
theorem dX12_unary_163 : decode cX12_unary 163 = .ok (.aload_n 0, 1) := by decide +kernel
theorem dX12_unary_164 : decode cX12_unary 164 = .ok (.iload 4, 2) := by decide +kernel
theorem dX12_unary_166 : decode cX12_unary 166 = .ok (.invokevirtual 474, 3) := by decide +kernel
theorem dX12_unary_169 : decode cX12_unary 169 = .ok (.aload_n 0, 1) := by decide +kernel
theorem dX12_unary_170 : decode cX12_unary 170 = .ok (.iload 5, 2) := by decide +kernel
theorem dX12_unary_172 : decode cX12_unary 172 = .ok (.invokevirtual 474, 3) := by decide +kernel
theorem dX12_unary_175 : decode cX12_unary 175 = .ok (.goto 9, 3) := by decide +kernel
theorem dX12_unary_178 : decode cX12_unary 178 = .ok (.aload_n 0, 1) := by decide +kernel
theorem dX12_unary_179 : decode cX12_unary 179 = .ok (.iload_n 1, 1) := by decide +kernel
theorem dX12_unary_180 : decode cX12_unary 180 = .ok (.lload_n 2, 1) := by decide +kernel
theorem dX12_unary_181 : decode cX12_unary 181 = .ok (.invokevirtual 489, 3) := by decide +kernel
theorem dX12_unary_184 : decode cX12_unary 184 = .ok (.goto 22, 3) := by decide +kernel
theorem dX12_unary_187 : decode cX12_unary 187 = .ok (.aload_n 0, 1) := by decide +kernel
theorem dX12_unary_188 : decode cX12_unary 188 = .ok (.getfield 225, 3) := by decide +kernel
theorem dX12_unary_191 : decode cX12_unary 191 = .ok (.iconst 1, 1) := by decide +kernel
theorem dX12_unary_192 : decode cX12_unary 192 = .ok (.if_icmp .ne 10, 3) := by decide +kernel
theorem dX12_unary_195 : decode cX12_unary 195 = .ok (.aload_n 0, 1) := by decide +kernel
theorem dX12_unary_196 : decode cX12_unary 196 = .ok (.invokevirtual 493, 3) := by decide +kernel
theorem dX12_unary_199 : decode cX12_unary 199 = .ok (.goto 7, 3) := by decide +kernel
theorem dX12_unary_202 : decode cX12_unary 202 = .ok (.aload_n 0, 1) := by decide +kernel
theorem dX12_unary_203 : decode cX12_unary 203 = .ok (.invokevirtual 496, 3) := by decide +kernel
theorem dX12_unary_206 : decode cX12_unary 206 = .ok (.return_, 1) := by decide +kernel
theorem dX12_primary_0 : decode cX12_primary 0 = .ok (.aload_n 0, 1) := by decide +kernel
theorem dX12_primary_1 : decode cX12_primary 1 = .ok (.bipush 40, 2) := by decide +kernel
theorem dX12_primary_3 : decode cX12_primary 3 = .ok (.invokevirtual 292, 3) := by decide +kernel
theorem dX12_primary_6 : decode cX12_primary 6 = .ok (.ifCond .eq 15, 3) := by decide +kernel
theorem dX12_primary_9 : decode cX12_primary 9 = .ok (.aload_n 0, 1) := by decide +kernel
theorem dX12_primary_10 : decode cX12_primary 10 = .ok (.aload_n 0, 1) := by decide +kernel
theorem dX12_primary_11 : decode cX12_primary 11 = .ok (.getfield 266, 3) := by decide +kernel
theorem dX12_primary_14 : decode cX12_primary 14 = .ok (.lload_n 2, 1) := by decide +kernel
theorem dX12_primary_15 : decode cX12_primary 15 = .ok (.invokevirtual 499, 3) := by decide +kernel
theorem dX12_primary_18 : decode cX12_primary 18 = .ok (.goto 51, 3) := by decide +kernel
theorem dX12_primary_21 : decode cX12_primary 21 = .ok (.aload_n 0, 1) := by decide +kernel
theorem dX12_primary_22 : decode cX12_primary 22 = .ok (.bipush 33, 2) := by decide +kernel
theorem dX12_primary_24 : decode cX12_primary 24 = .ok (.invokevirtual 292, 3) := by decide +kernel
theorem dX12_primary_27 : decode cX12_primary 27 = .ok (.ifCond .eq 28, 3) := by decide +kernel
theorem dX12_primary_30 : decode cX12_primary 30 = .ok (.aload_n 0, 1) := by decide +kernel
theorem dX12_primary_31 : decode cX12_primary 31 = .ok (.iconst 3, 1) := by decide +kernel
theorem dX12_primary_32 : decode cX12_primary 32 = .ok (.aload_n 0, 1) := by decide +kernel
theorem dX12_primary_33 : decode cX12_primary 33 = .ok (.iload_n 1, 1) := by decide +kernel
theorem dX12_primary_34 : decode cX12_primary 34 = .ok (.lload_n 2, 1) := by decide +kernel
theorem dX12_primary_35 : decode cX12_primary 35 = .ok (.invokevirtual 447, 3) := by decide +kernel
theorem dX12_primary_38 : decode cX12_primary 38 = .ok (.i2l, 1) := by decide +kernel
theorem dX12_primary_39 : decode cX12_primary 39 = .ok (.iconst 0, 1) := by decide +kernel
theorem dX12_primary_40 : decode cX12_primary 40 = .ok (.invokevirtual 374, 3) := by decide +kernel
theorem dX12_primary_43 : decode cX12_primary 43 = .ok (.pop, 1) := by decide +kernel
theorem dX12_primary_44 : decode cX12_primary 44 = .ok (.aload_n 0, 1) := by decide +kernel
theorem dX12_primary_45 : decode cX12_primary 45 = .ok (.invokevirtual 295, 3) := by decide +kernel
theorem dX12_primary_48 : decode cX12_primary 48 = .ok (.aload_n 0, 1) := by decide +kernel
theorem dX12_primary_49 : decode cX12_primary 49 = .ok (.invokevirtual 502, 3) := by decide +kernel
theorem dX12_primary_52 : decode cX12_primary 52 = .ok (.goto 17, 3) := by decide +kernel
theorem dX12_primary_55 : decode cX12_primary 55 = .ok (.aload_n 0, 1) := by decide +kernel
theorem dX12_primary_56 : decode cX12_primary 56 = .ok (.iconst 3, 1) := by decide +kernel
theorem dX12_primary_57 : decode cX12_primary 57 = .ok (.aload_n 0, 1) := by decide +kernel
theorem dX12_primary_58 : decode cX12_primary 58 = .ok (.iload_n 1, 1) := by decide +kernel
theorem dX12_primary_59 : decode cX12_primary 59 = .ok (.lload_n 2, 1) := by decide +kernel
theorem dX12_primary_60 : decode cX12_primary 60 = .ok (.invokevirtual 447, 3) := by decide +kernel
theorem dX12_primary_63 : decode cX12_primary 63 = .ok (.i2l, 1) := by decide +kernel
theorem dX12_primary_64 : decode cX12_primary 64 = .ok (.iconst 0, 1) := by decide +kernel
theorem dX12_primary_65 : decode cX12_primary 65 = .ok (.invokevirtual 374, 3) := by decide +kernel
theorem dX12_primary_68 : decode cX12_primary 68 = .ok (.pop, 1) := by decide +kernel
theorem dX12_primary_69 : decode cX12_primary 69 = .ok (.return_, 1) := by decide +kernel
theorem dX12_call_0 : decode cX12_call 0 = .ok (.aload_n 0, 1) := by decide +kernel
theorem dX12_call_1 : decode cX12_call 1 = .ok (.getfield 505, 3) := by decide +kernel
theorem dX12_call_4 : decode cX12_call 4 = .ok (.istore 4, 2) := by decide +kernel
theorem dX12_call_6 : decode cX12_call 6 = .ok (.aload_n 0, 1) := by decide +kernel
theorem dX12_call_7 : decode cX12_call 7 = .ok (.iconst 0, 1) := by decide +kernel
theorem dX12_call_8 : decode cX12_call 8 = .ok (.invokevirtual 508, 3) := by decide +kernel
theorem dX12_call_11 : decode cX12_call 11 = .ok (.istore 5, 2) := by decide +kernel
theorem dX12_call_13 : decode cX12_call 13 = .ok (.aload_n 0, 1) := by decide +kernel
theorem dX12_call_14 : decode cX12_call 14 = .ok (.bipush 25, 2) := by decide +kernel
theorem dX12_call_16 : decode cX12_call 16 = .ok (.lload_n 2, 1) := by decide +kernel
theorem dX12_call_17 : decode cX12_call 17 = .ok (.iconst 4, 1) := by decide +kernel
theorem dX12_call_18 : decode cX12_call 18 = .ok (.iload 5, 2) := by decide +kernel
theorem dX12_call_20 : decode cX12_call 20 = .ok (.imul, 1) := by decide +kernel
theorem dX12_call_21 : decode cX12_call 21 = .ok (.iload_n 1, 1) := by decide +kernel
theorem dX12_call_22 : decode cX12_call 22 = .ok (.iadd, 1) := by decide +kernel
theorem dX12_call_23 : decode cX12_call 23 = .ok (.invokevirtual 374, 3) := by decide +kernel
theorem dX12_call_26 : decode cX12_call 26 = .ok (.istore 6, 2) := by decide +kernel
theorem dX12_call_28 : decode cX12_call 28 = .ok (.aload_n 0, 1) := by decide +kernel
theorem dX12_call_29 : decode cX12_call 29 = .ok (.iload 4, 2) := by decide +kernel
theorem dX12_call_31 : decode cX12_call 31 = .ok (.invokevirtual 511, 3) := by decide +kernel
theorem dX12_call_34 : decode cX12_call 34 = .ok (.return_, 1) := by decide +kernel
theorem dX12_bang_0 : decode cX12_bang 0 = .ok (.aload_n 0, 1) := by decide +kernel
theorem dX12_bang_1 : decode cX12_bang 1 = .ok (.getfield 505, 3) := by decide +kernel
theorem dX12_bang_4 : decode cX12_bang 4 = .ok (.istore_n 1, 1) := by decide +kernel
theorem dX12_bang_5 : decode cX12_bang 5 = .ok (.aload_n 0, 1) := by decide +kernel
theorem dX12_bang_6 : decode cX12_bang 6 = .ok (.iconst 0, 1) := by decide +kernel
theorem dX12_bang_7 : decode cX12_bang 7 = .ok (.invokevirtual 468, 3) := by decide +kernel
theorem dX12_bang_10 : decode cX12_bang 10 = .ok (.istore_n 2, 1) := by decide +kernel
theorem dX12_bang_11 : decode cX12_bang 11 = .ok (.iload_n 2, 1) := by decide +kernel
theorem dX12_bang_12 : decode cX12_bang 12 = .ok (.iconst (-1), 1) := by decide +kernel
theorem dX12_bang_13 : decode cX12_bang 13 = .ok (.if_icmp .eq 23, 3) := by decide +kernel
theorem dX12_bang_16 : decode cX12_bang 16 = .ok (.aload_n 0, 1) := by decide +kernel
theorem dX12_bang_17 : decode cX12_bang 17 = .ok (.getfield 54, 3) := by decide +kernel
theorem dX12_bang_20 : decode cX12_bang 20 = .ok (.aload_n 0, 1) := by decide +kernel
theorem dX12_bang_21 : decode cX12_bang 21 = .ok (.getfield 505, 3) := by decide +kernel
theorem dX12_bang_24 : decode cX12_bang 24 = .ok (.iload_n 2, 1) := by decide +kernel
theorem dX12_bang_25 : decode cX12_bang 25 = .ok (.iastore, 1) := by decide +kernel
theorem dX12_bang_26 : decode cX12_bang 26 = .ok (.aload_n 0, 1) := by decide +kernel
theorem dX12_bang_27 : decode cX12_bang 27 = .ok (.dup, 1) := by decide +kernel
theorem dX12_bang_28 : decode cX12_bang 28 = .ok (.getfield 505, 3) := by decide +kernel
theorem dX12_bang_31 : decode cX12_bang 31 = .ok (.iconst 1, 1) := by decide +kernel
theorem dX12_bang_32 : decode cX12_bang 32 = .ok (.iadd, 1) := by decide +kernel
theorem dX12_bang_33 : decode cX12_bang 33 = .ok (.putfield 505, 3) := by decide +kernel
theorem dX12_bang_36 : decode cX12_bang 36 = .ok (.aload_n 0, 1) := by decide +kernel
theorem dX12_bang_37 : decode cX12_bang 37 = .ok (.iconst 1, 1) := by decide +kernel
theorem dX12_bang_38 : decode cX12_bang 38 = .ok (.invokevirtual 508, 3) := by decide +kernel
theorem dX12_bang_41 : decode cX12_bang 41 = .ok (.istore_n 3, 1) := by decide +kernel
theorem dX12_bang_42 : decode cX12_bang 42 = .ok (.aload_n 0, 1) := by decide +kernel
theorem dX12_bang_43 : decode cX12_bang 43 = .ok (.bipush 26, 2) := by decide +kernel
theorem dX12_bang_45 : decode cX12_bang 45 = .ok (.lconst 0, 1) := by decide +kernel
theorem dX12_bang_46 : decode cX12_bang 46 = .ok (.iload_n 3, 1) := by decide +kernel
theorem dX12_bang_47 : decode cX12_bang 47 = .ok (.invokevirtual 374, 3) := by decide +kernel
theorem dX12_bang_50 : decode cX12_bang 50 = .ok (.pop, 1) := by decide +kernel
theorem dX12_bang_51 : decode cX12_bang 51 = .ok (.aload_n 0, 1) := by decide +kernel
theorem dX12_bang_52 : decode cX12_bang 52 = .ok (.iload_n 1, 1) := by decide +kernel
theorem dX12_bang_53 : decode cX12_bang 53 = .ok (.invokevirtual 511, 3) := by decide +kernel
theorem dX12_bang_56 : decode cX12_bang 56 = .ok (.return_, 1) := by decide +kernel
theorem dX12_worded_0 : decode cX12_worded 0 = .ok (.aload_n 0, 1) := by decide +kernel
theorem dX12_worded_1 : decode cX12_worded 1 = .ok (.getfield 256, 3) := by decide +kernel
theorem dX12_worded_4 : decode cX12_worded 4 = .ok (.istore_n 1, 1) := by decide +kernel
theorem dX12_worded_5 : decode cX12_worded 5 = .ok (.iload_n 1, 1) := by decide +kernel
theorem dX12_worded_6 : decode cX12_worded 6 = .ok (.bipush 23, 2) := by decide +kernel
theorem dX12_worded_8 : decode cX12_worded 8 = .ok (.if_icmp .eq 17, 3) := by decide +kernel
theorem dX12_worded_11 : decode cX12_worded 11 = .ok (.iload_n 1, 1) := by decide +kernel
theorem dX12_worded_12 : decode cX12_worded 12 = .ok (.bipush 26, 2) := by decide +kernel
theorem dX12_worded_14 : decode cX12_worded 14 = .ok (.if_icmp .ne 37, 3) := by decide +kernel
theorem dX12_worded_17 : decode cX12_worded 17 = .ok (.aload_n 0, 1) := by decide +kernel
theorem dX12_worded_18 : decode cX12_worded 18 = .ok (.getfield 266, 3) := by decide +kernel
theorem dX12_worded_21 : decode cX12_worded 21 = .ok (.iconst 1, 1) := by decide +kernel
theorem dX12_worded_22 : decode cX12_worded 22 = .ok (.if_icmp .ne 29, 3) := by decide +kernel
theorem dX12_worded_25 : decode cX12_worded 25 = .ok (.aload_n 0, 1) := by decide +kernel
theorem dX12_worded_26 : decode cX12_worded 26 = .ok (.iload_n 1, 1) := by decide +kernel
theorem dX12_worded_27 : decode cX12_worded 27 = .ok (.bipush 23, 2) := by decide +kernel
theorem dX12_worded_29 : decode cX12_worded 29 = .ok (.if_icmp .ne 7, 3) := by decide +kernel
theorem dX12_worded_32 : decode cX12_worded 32 = .ok (.iconst 2, 1) := by decide +kernel
theorem dX12_worded_33 : decode cX12_worded 33 = .ok (.goto 5, 3) := by decide +kernel
theorem dX12_worded_36 : decode cX12_worded 36 = .ok (.bipush 28, 2) := by decide +kernel
theorem dX12_worded_38 : decode cX12_worded 38 = .ok (.lconst 0, 1) := by decide +kernel
theorem dX12_worded_39 : decode cX12_worded 39 = .ok (.iconst 0, 1) := by decide +kernel
theorem dX12_worded_40 : decode cX12_worded 40 = .ok (.invokevirtual 374, 3) := by decide +kernel
theorem dX12_worded_43 : decode cX12_worded 43 = .ok (.pop, 1) := by decide +kernel
theorem dX12_worded_44 : decode cX12_worded 44 = .ok (.aload_n 0, 1) := by decide +kernel
theorem dX12_worded_45 : decode cX12_worded 45 = .ok (.invokevirtual 295, 3) := by decide +kernel
theorem dX12_worded_48 : decode cX12_worded 48 = .ok (.goto 175, 3) := by decide +kernel
theorem dX12_worded_51 : decode cX12_worded 51 = .ok (.iload_n 1, 1) := by decide +kernel
theorem dX12_worded_52 : decode cX12_worded 52 = .ok (.bipush 24, 2) := by decide +kernel
theorem dX12_worded_54 : decode cX12_worded 54 = .ok (.if_icmp .ne 21, 3) := by decide +kernel
theorem dX12_worded_57 : decode cX12_worded 57 = .ok (.aload_n 0, 1) := by decide +kernel
theorem dX12_worded_58 : decode cX12_worded 58 = .ok (.invokevirtual 295, 3) := by decide +kernel
theorem dX12_worded_61 : decode cX12_worded 61 = .ok (.aload_n 0, 1) := by decide +kernel
theorem dX12_worded_62 : decode cX12_worded 62 = .ok (.bipush 22, 2) := by decide +kernel
theorem dX12_worded_64 : decode cX12_worded 64 = .ok (.bipush 91, 2) := by decide +kernel
theorem dX12_worded_66 : decode cX12_worded 66 = .ok (.bipush 93, 2) := by decide +kernel
theorem dX12_worded_68 : decode cX12_worded 68 = .ok (.iconst 0, 1) := by decide +kernel
theorem dX12_worded_69 : decode cX12_worded 69 = .ok (.invokevirtual 514, 3) := by decide +kernel
theorem dX12_worded_72 : decode cX12_worded 72 = .ok (.goto 151, 3) := by decide +kernel
theorem dX12_worded_75 : decode cX12_worded 75 = .ok (.iload_n 1, 1) := by decide +kernel
theorem dX12_worded_76 : decode cX12_worded 76 = .ok (.bipush 25, 2) := by decide +kernel
theorem dX12_worded_78 : decode cX12_worded 78 = .ok (.if_icmp .ne 21, 3) := by decide +kernel
theorem dX12_worded_81 : decode cX12_worded 81 = .ok (.aload_n 0, 1) := by decide +kernel
theorem dX12_worded_82 : decode cX12_worded 82 = .ok (.invokevirtual 295, 3) := by decide +kernel
theorem dX12_worded_85 : decode cX12_worded 85 = .ok (.aload_n 0, 1) := by decide +kernel
theorem dX12_worded_86 : decode cX12_worded 86 = .ok (.bipush 23, 2) := by decide +kernel
theorem dX12_worded_88 : decode cX12_worded 88 = .ok (.bipush 40, 2) := by decide +kernel
theorem dX12_worded_90 : decode cX12_worded 90 = .ok (.bipush 41, 2) := by decide +kernel
theorem dX12_worded_92 : decode cX12_worded 92 = .ok (.iconst 0, 1) := by decide +kernel
theorem dX12_worded_93 : decode cX12_worded 93 = .ok (.invokevirtual 514, 3) := by decide +kernel
theorem dX12_worded_96 : decode cX12_worded 96 = .ok (.goto 127, 3) := by decide +kernel
theorem dX12_worded_99 : decode cX12_worded 99 = .ok (.iload_n 1, 1) := by decide +kernel
theorem dX12_worded_100 : decode cX12_worded 100 = .ok (.bipush 28, 2) := by decide +kernel
theorem dX12_worded_102 : decode cX12_worded 102 = .ok (.if_icmp .ne 34, 3) := by decide +kernel
theorem dX12_worded_105 : decode cX12_worded 105 = .ok (.aload_n 0, 1) := by decide +kernel
theorem dX12_worded_106 : decode cX12_worded 106 = .ok (.getfield 266, 3) := by decide +kernel
theorem dX12_worded_109 : decode cX12_worded 109 = .ok (.iconst 2, 1) := by decide +kernel
theorem dX12_worded_110 : decode cX12_worded 110 = .ok (.if_icmp .ne 26, 3) := by decide +kernel
theorem dX12_worded_113 : decode cX12_worded 113 = .ok (.aload_n 0, 1) := by decide +kernel
theorem dX12_worded_114 : decode cX12_worded 114 = .ok (.invokevirtual 295, 3) := by decide +kernel
theorem dX12_worded_117 : decode cX12_worded 117 = .ok (.aload_n 0, 1) := by decide +kernel
theorem dX12_worded_118 : decode cX12_worded 118 = .ok (.invokevirtual 346, 3) := by decide +kernel
theorem dX12_worded_121 : decode cX12_worded 121 = .ok (.istore_n 2, 1) := by decide +kernel
theorem dX12_worded_122 : decode cX12_worded 122 = .ok (.aload_n 0, 1) := by decide +kernel
theorem dX12_worded_123 : decode cX12_worded 123 = .ok (.bipush 29, 2) := by decide +kernel
theorem dX12_worded_125 : decode cX12_worded 125 = .ok (.bipush 40, 2) := by decide +kernel
theorem dX12_worded_127 : decode cX12_worded 127 = .ok (.bipush 41, 2) := by decide +kernel
theorem dX12_worded_129 : decode cX12_worded 129 = .ok (.iload_n 2, 1) := by decide +kernel
theorem dX12_worded_130 : decode cX12_worded 130 = .ok (.invokevirtual 514, 3) := by decide +kernel
theorem dX12_worded_133 : decode cX12_worded 133 = .ok (.goto 90, 3) := by decide +kernel
theorem dX12_worded_136 : decode cX12_worded 136 = .ok (.iload_n 1, 1) := by decide +kernel
theorem dX12_worded_137 : decode cX12_worded 137 = .ok (.bipush 27, 2) := by decide +kernel
theorem dX12_worded_139 : decode cX12_worded 139 = .ok (.if_icmp .ne 43, 3) := by decide +kernel
theorem dX12_worded_142 : decode cX12_worded 142 = .ok (.aload_n 0, 1) := by decide +kernel
theorem dX12_worded_143 : decode cX12_worded 143 = .ok (.getfield 266, 3) := by decide +kernel
theorem dX12_worded_146 : decode cX12_worded 146 = .ok (.iconst 2, 1) := by decide +kernel
theorem dX12_worded_147 : decode cX12_worded 147 = .ok (.if_icmp .ne 35, 3) := by decide +kernel
theorem dX12_worded_150 : decode cX12_worded 150 = .ok (.aload_n 0, 1) := by decide +kernel
theorem dX12_worded_151 : decode cX12_worded 151 = .ok (.invokevirtual 295, 3) := by decide +kernel
theorem dX12_worded_154 : decode cX12_worded 154 = .ok (.aload_n 0, 1) := by decide +kernel
theorem dX12_worded_155 : decode cX12_worded 155 = .ok (.bipush 40, 2) := by decide +kernel
theorem dX12_worded_157 : decode cX12_worded 157 = .ok (.invokevirtual 378, 3) := by decide +kernel
theorem dX12_worded_160 : decode cX12_worded 160 = .ok (.aload_n 0, 1) := by decide +kernel
theorem dX12_worded_161 : decode cX12_worded 161 = .ok (.invokevirtual 402, 3) := by decide +kernel
theorem dX12_worded_164 : decode cX12_worded 164 = .ok (.aload_n 0, 1) := by decide +kernel
theorem dX12_worded_165 : decode cX12_worded 165 = .ok (.bipush 41, 2) := by decide +kernel
theorem dX12_worded_167 : decode cX12_worded 167 = .ok (.invokevirtual 387, 3) := by decide +kernel
theorem dX12_worded_170 : decode cX12_worded 170 = .ok (.aload_n 0, 1) := by decide +kernel
theorem dX12_worded_171 : decode cX12_worded 171 = .ok (.bipush 30, 2) := by decide +kernel
theorem dX12_worded_173 : decode cX12_worded 173 = .ok (.lconst 0, 1) := by decide +kernel
theorem dX12_worded_174 : decode cX12_worded 174 = .ok (.iconst 0, 1) := by decide +kernel
theorem dX12_worded_175 : decode cX12_worded 175 = .ok (.invokevirtual 374, 3) := by decide +kernel
theorem dX12_worded_178 : decode cX12_worded 178 = .ok (.pop, 1) := by decide +kernel
theorem dX12_worded_179 : decode cX12_worded 179 = .ok (.goto 44, 3) := by decide +kernel
theorem dX12_worded_182 : decode cX12_worded 182 = .ok (.iload_n 1, 1) := by decide +kernel
theorem dX12_worded_183 : decode cX12_worded 183 = .ok (.bipush 29, 2) := by decide +kernel
theorem dX12_worded_185 : decode cX12_worded 185 = .ok (.if_icmp .lt 30, 3) := by decide +kernel
theorem dX12_worded_188 : decode cX12_worded 188 = .ok (.aload_n 0, 1) := by decide +kernel
theorem dX12_worded_189 : decode cX12_worded 189 = .ok (.invokevirtual 295, 3) := by decide +kernel
theorem dX12_worded_192 : decode cX12_worded 192 = .ok (.aload_n 0, 1) := by decide +kernel
theorem dX12_worded_193 : decode cX12_worded 193 = .ok (.bipush 46, 2) := by decide +kernel
theorem dX12_worded_195 : decode cX12_worded 195 = .ok (.invokevirtual 313, 3) := by decide +kernel
theorem dX12_worded_198 : decode cX12_worded 198 = .ok (.aload_n 0, 1) := by decide +kernel
theorem dX12_worded_199 : decode cX12_worded 199 = .ok (.invokevirtual 329, 3) := by decide +kernel
theorem dX12_worded_202 : decode cX12_worded 202 = .ok (.lstore_n 2, 1) := by decide +kernel
theorem dX12_worded_203 : decode cX12_worded 203 = .ok (.aload_n 0, 1) := by decide +kernel
theorem dX12_worded_204 : decode cX12_worded 204 = .ok (.iload_n 1, 1) := by decide +kernel
theorem dX12_worded_205 : decode cX12_worded 205 = .ok (.bipush 29, 2) := by decide +kernel
theorem dX12_worded_207 : decode cX12_worded 207 = .ok (.isub, 1) := by decide +kernel
theorem dX12_worded_208 : decode cX12_worded 208 = .ok (.lload_n 2, 1) := by decide +kernel
theorem dX12_worded_209 : decode cX12_worded 209 = .ok (.invokevirtual 499, 3) := by decide +kernel
theorem dX12_worded_212 : decode cX12_worded 212 = .ok (.goto 11, 3) := by decide +kernel
theorem dX12_worded_215 : decode cX12_worded 215 = .ok (.aload_n 0, 1) := by decide +kernel
theorem dX12_worded_216 : decode cX12_worded 216 = .ok (.aload_n 0, 1) := by decide +kernel
theorem dX12_worded_217 : decode cX12_worded 217 = .ok (.getfield 222, 3) := by decide +kernel
theorem dX12_worded_220 : decode cX12_worded 220 = .ok (.invokevirtual 249, 3) := by decide +kernel
theorem dX12_worded_223 : decode cX12_worded 223 = .ok (.return_, 1) := by decide +kernel
theorem dX12_signed_0 : decode cX12_signed 0 = .ok (.aload_n 0, 1) := by decide +kernel
theorem dX12_signed_1 : decode cX12_signed 1 = .ok (.bipush 40, 2) := by decide +kernel
theorem dX12_signed_3 : decode cX12_signed 3 = .ok (.invokevirtual 292, 3) := by decide +kernel
theorem dX12_signed_6 : decode cX12_signed 6 = .ok (.ifCond .eq 20, 3) := by decide +kernel
theorem dX12_signed_9 : decode cX12_signed 9 = .ok (.aload_n 0, 1) := by decide +kernel
theorem dX12_signed_10 : decode cX12_signed 10 = .ok (.invokevirtual 310, 3) := by decide +kernel
theorem dX12_signed_13 : decode cX12_signed 13 = .ok (.aload_n 0, 1) := by decide +kernel
theorem dX12_signed_14 : decode cX12_signed 14 = .ok (.invokevirtual 402, 3) := by decide +kernel
theorem dX12_signed_17 : decode cX12_signed 17 = .ok (.aload_n 0, 1) := by decide +kernel
theorem dX12_signed_18 : decode cX12_signed 18 = .ok (.bipush 41, 2) := by decide +kernel
theorem dX12_signed_20 : decode cX12_signed 20 = .ok (.invokevirtual 387, 3) := by decide +kernel
theorem dX12_signed_23 : decode cX12_signed 23 = .ok (.goto 84, 3) := by decide +kernel
theorem dX12_signed_26 : decode cX12_signed 26 = .ok (.aload_n 0, 1) := by decide +kernel
theorem dX12_signed_27 : decode cX12_signed 27 = .ok (.bipush 38, 2) := by decide +kernel
theorem dX12_signed_29 : decode cX12_signed 29 = .ok (.invokevirtual 301, 3) := by decide +kernel
theorem dX12_signed_32 : decode cX12_signed 32 = .ok (.ifCond .eq 67, 3) := by decide +kernel
theorem dX12_signed_35 : decode cX12_signed 35 = .ok (.aload_n 0, 1) := by decide +kernel
theorem dX12_signed_36 : decode cX12_signed 36 = .ok (.getfield 266, 3) := by decide +kernel
theorem dX12_signed_39 : decode cX12_signed 39 = .ok (.istore_n 1, 1) := by decide +kernel
theorem dX12_signed_40 : decode cX12_signed 40 = .ok (.aload_n 0, 1) := by decide +kernel
theorem dX12_signed_41 : decode cX12_signed 41 = .ok (.invokevirtual 215, 3) := by decide +kernel
theorem dX12_signed_44 : decode cX12_signed 44 = .ok (.ifCond .ne 38, 3) := by decide +kernel
theorem dX12_signed_47 : decode cX12_signed 47 = .ok (.aload_n 0, 1) := by decide +kernel
theorem dX12_signed_48 : decode cX12_signed 48 = .ok (.getfield 225, 3) := by decide +kernel
theorem dX12_signed_51 : decode cX12_signed 51 = .ok (.iconst 1, 1) := by decide +kernel
theorem dX12_signed_52 : decode cX12_signed 52 = .ok (.if_icmp .ne 30, 3) := by decide +kernel
theorem dX12_signed_55 : decode cX12_signed 55 = .ok (.aload_n 0, 1) := by decide +kernel
theorem dX12_signed_56 : decode cX12_signed 56 = .ok (.getfield 256, 3) := by decide +kernel
theorem dX12_signed_59 : decode cX12_signed 59 = .ok (.bipush 29, 2) := by decide +kernel
theorem dX12_signed_61 : decode cX12_signed 61 = .ok (.if_icmp .lt 21, 3) := by decide +kernel
theorem dX12_signed_64 : decode cX12_signed 64 = .ok (.aload_n 0, 1) := by decide +kernel
theorem dX12_signed_65 : decode cX12_signed 65 = .ok (.getfield 256, 3) := by decide +kernel
theorem dX12_signed_68 : decode cX12_signed 68 = .ok (.bipush 29, 2) := by decide +kernel
theorem dX12_signed_70 : decode cX12_signed 70 = .ok (.isub, 1) := by decide +kernel
theorem dX12_signed_71 : decode cX12_signed 71 = .ok (.istore_n 1, 1) := by decide +kernel
theorem dX12_signed_72 : decode cX12_signed 72 = .ok (.aload_n 0, 1) := by decide +kernel
theorem dX12_signed_73 : decode cX12_signed 73 = .ok (.invokevirtual 295, 3) := by decide +kernel
theorem dX12_signed_76 : decode cX12_signed 76 = .ok (.aload_n 0, 1) := by decide +kernel
theorem dX12_signed_77 : decode cX12_signed 77 = .ok (.bipush 46, 2) := by decide +kernel
theorem dX12_signed_79 : decode cX12_signed 79 = .ok (.invokevirtual 313, 3) := by decide +kernel
theorem dX12_signed_82 : decode cX12_signed 82 = .ok (.aload_n 0, 1) := by decide +kernel
theorem dX12_signed_83 : decode cX12_signed 83 = .ok (.invokevirtual 329, 3) := by decide +kernel
theorem dX12_signed_86 : decode cX12_signed 86 = .ok (.lstore_n 2, 1) := by decide +kernel
theorem dX12_signed_87 : decode cX12_signed 87 = .ok (.aload_n 0, 1) := by decide +kernel
theorem dX12_signed_88 : decode cX12_signed 88 = .ok (.bipush 27, 2) := by decide +kernel
theorem dX12_signed_90 : decode cX12_signed 90 = .ok (.lload_n 2, 1) := by decide +kernel
theorem dX12_signed_91 : decode cX12_signed 91 = .ok (.iload_n 1, 1) := by decide +kernel
theorem dX12_signed_92 : decode cX12_signed 92 = .ok (.invokevirtual 374, 3) := by decide +kernel
theorem dX12_signed_95 : decode cX12_signed 95 = .ok (.pop, 1) := by decide +kernel
theorem dX12_signed_96 : decode cX12_signed 96 = .ok (.goto 11, 3) := by decide +kernel
theorem dX12_signed_99 : decode cX12_signed 99 = .ok (.aload_n 0, 1) := by decide +kernel
theorem dX12_signed_100 : decode cX12_signed 100 = .ok (.aload_n 0, 1) := by decide +kernel
theorem dX12_signed_101 : decode cX12_signed 101 = .ok (.getfield 222, 3) := by decide +kernel
theorem dX12_signed_104 : decode cX12_signed 104 = .ok (.invokevirtual 249, 3) := by decide +kernel
theorem dX12_signed_107 : decode cX12_signed 107 = .ok (.return_, 1) := by decide +kernel
theorem m4d {n t : Int} (h : 0 ≤ n) (h0 : 0 ≤ t) (h3 : t ≤ 3) : (4 * n + t).tdiv 4 = n := by
  rw [Int.tdiv_eq_ediv_of_nonneg (by omega)]; omega
theorem wls_em {μ : M3} {n : Int} {i : Int} : i ∈ wls μ n n ↔ i ∈ ([] : List Int) := by
  rw [mem_wls]
  constructor
  · intro h
    obtain ⟨k, hk, _⟩ := h
    omega
  · intro h
    cases h
theorem mPX.w0 {μo μ : M3} {t e w H : Int} {n : Int} (h : mPX μo μ t e w H []) : mPX μo μ t e w H (wls μ n n) := h.mem (fun _ => wls_em)
/-- the parts that wait land behind the call -/
theorem as_call {μo μ1 μ2 ν : M3} {t e H f n T : Int} {L : List Int} (h : mPX μo μ1 t e 1 H L) (he : e = 1) (a : mAIM μ1 ν (wls μ2 f n) T) (hT : T = μ1.1 111 22) (k : ∀ i, i ∈ wls μ2 f n ↔ i ∈ L) : mEX μo ν t 1 0 H := by
  subst he
  exact mPX.fin h a hT (by decide) k
set_option maxHeartbeats 4000000 in
set_option maxRecDepth 100000 in
theorem c_X12_call (ω : Om) (l : Launch) (μ : M3) (x1 : Int) (x2 : Int) (F : Nat) (Lo : Nat) (Fu : Nat) (Lu : Nat) (kf : Int) (tt : Int) (hx1 : ir x1) (hx2 : jr x2) (htt : tt = μ.1 111 14) (hF : 60 ≤ F) (hLo : 2000 ≤ Lo) (hFu : Fu ≤ F) (hLu : Lu ≤ Lo) (hE : ∀ (μ : M3) (tt : Int) (htt : tt = μ.1 111 14) (hPM : PM μ) (hnn : 0 ≤ nn μ ∧ nn μ ≤ 9 ∧ 9 * wr μ ≤ nn μ) (hn8 : nn μ ≤ 8 + wr μ) (hcd : 0 ≤ μ.1 111 22 ∧ μ.1 111 22 ≤ 2 * μ.1 111 9 + 200 + 40 * wr μ) (hW : 0 ≤ μ.1 111 39 ∧ μ.1 111 39 ≤ μ.1 111 22) (hsl : 0 ≤ μ.1 111 31 ∧ μ.1 111 31 ≤ 300) (hfu : 0 ≤ (kf - 1) ∧ 9 ≤ nn μ + (kf - 1)) (hH0 : ∀ _ : Unit, bd μ = 0 → mH0 μ), CtV ω l yX12_expr cX12_expr 1 (F + 0) (Lo + 0) [.ref (oP ω 111)] μ (fun (μ' : M3) => (FrM [111, 113, 115, 116, 117, 123, 126] μ μ') ∧ (∀ j, j ∉ ([6, 8, 9, 10, 11, 12, 13, 15, 16, 17, 18, 22, 29, 39] : List Int) → μ'.1 111 j = μ.1 111 j) ∧ (PM μ') ∧ (μ.1 111 22 ≤ μ'.1 111 22 ∧ μ'.1 111 22 ≤ μ.1 111 22 + 2 * (μ'.1 111 9 - μ.1 111 9) + (- 1 + 3 * wr μ' - 2 * wr μ)) ∧ (μ.1 111 9 ≤ μ'.1 111 9) ∧ (μ.1 111 29 ≤ μ'.1 111 29) ∧ (wr μ ≤ wr μ' ∧ bd μ ≤ bd μ') ∧ (nn μ ≤ nn μ' ∧ nn μ' ≤ nn μ + 9 * wr μ' ∧ nn μ' ≤ 9 ∧ 9 * wr μ' ≤ nn μ') ∧ (μ'.1 111 39 = μ.1 111 39) ∧ (∀ j, j < μ.1 111 39 → μ'.1 126 j = μ.1 126 j) ∧ (∀ _ : Unit, bd μ' = 0 → mEX μ μ' tt 1 0 (11 * (9 - nn μ))) ∧ (mEXT μ μ'))) (hU : ∀ (μ : M3) (tt : Int) (htt : tt = μ.1 111 14) (hPM : PM μ) (hnn : 0 ≤ nn μ ∧ nn μ ≤ 9 ∧ 9 * wr μ ≤ nn μ) (hn8 : nn μ ≤ 8 + wr μ) (hcd : 0 ≤ μ.1 111 22 ∧ μ.1 111 22 ≤ 2 * μ.1 111 9 + 200 + 40 * wr μ) (hW : 0 ≤ μ.1 111 39 ∧ μ.1 111 39 ≤ μ.1 111 22) (hsl : 0 ≤ μ.1 111 31 ∧ μ.1 111 31 ≤ 300) (hfu : 0 ≤ (kf - 1) ∧ 9 ≤ nn μ + (kf - 1)) (hH0 : ∀ _ : Unit, bd μ = 0 → mH0 μ), CtV ω l yX12_unary cX12_unary 6 (Fu + 0) (Lu + 0) [.ref (oP ω 111)] μ (fun (μ' : M3) => (FrM [111, 113, 115, 116, 117, 123, 126] μ μ') ∧ (∀ j, j ∉ ([6, 8, 9, 10, 11, 12, 13, 15, 16, 17, 18, 22, 29, 39] : List Int) → μ'.1 111 j = μ.1 111 j) ∧ (PM μ') ∧ (μ.1 111 22 ≤ μ'.1 111 22 ∧ μ'.1 111 22 ≤ μ.1 111 22 + 2 * (μ'.1 111 9 - μ.1 111 9) + (- 1 + 3 * wr μ' - 2 * wr μ)) ∧ (μ.1 111 9 ≤ μ'.1 111 9) ∧ (μ.1 111 29 ≤ μ'.1 111 29) ∧ (wr μ ≤ wr μ' ∧ bd μ ≤ bd μ') ∧ (nn μ ≤ nn μ' ∧ nn μ' ≤ nn μ + 9 * wr μ' ∧ nn μ' ≤ 9 ∧ 9 * wr μ' ≤ nn μ') ∧ (μ'.1 111 39 = μ.1 111 39) ∧ (∀ j, j < μ.1 111 39 → μ'.1 126 j = μ.1 126 j) ∧ (∀ _ : Unit, bd μ' = 0 → mEX μ μ' tt 1 0 (11 * (9 - nn μ) - 3)) ∧ (mEXT μ μ'))) (hPM : PM μ) (hnn : 0 ≤ nn μ ∧ nn μ ≤ 9 ∧ 9 * wr μ ≤ nn μ) (hn8 : nn μ ≤ 8 + wr μ) (hcd : 0 ≤ μ.1 111 22 ∧ μ.1 111 22 ≤ 2 * μ.1 111 9 + 200 + 40 * wr μ) (hW : 0 ≤ μ.1 111 39 ∧ μ.1 111 39 ≤ μ.1 111 22) (hsl : 0 ≤ μ.1 111 31 ∧ μ.1 111 31 ≤ 300) (hfu : 0 ≤ kf ∧ 9 ≤ nn μ + kf) (hH0 : ∀ _ : Unit, bd μ = 0 → mH0 μ) (ht03 : 0 ≤ x1 ∧ x1 ≤ 3) : CtV ω l yX12_call cX12_call 7 (F + 2) (Lo + 44) [.ref (oP ω 111), .int (iv x1), .long (jv x2)] μ (fun (μ' : M3) => (FrM [111, 113, 115, 116, 117, 123, 126] μ μ') ∧ (∀ j, j ∉ ([6, 8, 9, 10, 11, 12, 13, 15, 16, 17, 18, 22, 29, 39] : List Int) → μ'.1 111 j = μ.1 111 j) ∧ (PM μ') ∧ (μ.1 111 22 ≤ μ'.1 111 22 ∧ μ'.1 111 22 ≤ μ.1 111 22 + 2 * (μ'.1 111 9 - μ.1 111 9) + (- 1 + 3 * wr μ')) ∧ (μ.1 111 9 ≤ μ'.1 111 9) ∧ (μ.1 111 29 ≤ μ'.1 111 29) ∧ (wr μ ≤ wr μ' ∧ bd μ ≤ bd μ') ∧ (nn μ ≤ nn μ' ∧ nn μ' ≤ nn μ + 9 * wr μ' ∧ nn μ' ≤ 9 ∧ 9 * wr μ' ≤ nn μ') ∧ (μ'.1 111 39 = μ.1 111 39) ∧ (∀ j, j < μ.1 111 39 → μ'.1 126 j = μ.1 126 j) ∧ (∀ _ : Unit, bd μ' = 0 → mEX μ μ' tt 1 0 (11 * (9 - nn μ) - 3)) ∧ (mEXT μ μ')) := by
  refine CtV.go (by decide) (Nat.le_of_ble_eq_true rfl) (fun ρ p e s m below meth c R ls G hR hret hlk hl => ?_)
  have hx := G.1.1
  have hb := G.1.2.1
  have hl : lv_has ls 7 [(0, .ref (oP ω 111)), (1, .int (iv x1)), (2, .long (jv x2))] := hl
  generalize s.drawn = d0 at G ⊢
  have hr_x1 : -2147483648 ≤ x1 ∧ x1 ≤ 2147483647 := hx1
  have hw_0 := wr_r (μ := μ)
  have hpp_ := hPM.1.2.1
  have hpn_ := hPM.2.1
  have hpt_ := hPM.1.2.2.2.1
  have hpw_ := hPM.1.2.2.2.2.1
  have hpa_ := hPM.1.1
  have hX_1 : ∀ _ : Unit, bd μ = 0 → mPX μ μ tt 0 1 (11 * (9 - nn μ) - 3) [] := fun _ h0 => mPX.nil (hH0 () h0) (by omega)
  refine lv_aload_n hx hb dX12_call_0 rfl (lv_at hl 0 rfl) ?_
  refine xa_geti G fd_X12 (a := 111) (x := μ.1 111 39) 39 rfl (by decide) rfl (wm 7 188 rfl rfl) ⟨rfl, rfl, rfl⟩ dX12_call_1 rfl rfl ?_
  have hr_2 : -2147483648 ≤ μ.1 111 39 ∧ μ.1 111 39 ≤ 2147483647 := by have h9 := G.hr (a := 111) (k := 39) rfl; exact h9
  refine lv_istore (lv' := [(4, .int (iv (μ.1 111 39))), (0, .ref (oP ω 111)), (1, .int (iv x1)), (2, .long (jv x2))]) hx hb dX12_call_4 hl (by decide) rfl (fun ls hl => ?_)
  refine lv_aload_n hx hb dX12_call_6 rfl (lv_at hl 1 rfl) ?_
  refine lv_iconst (v := iv 0) hx hb dX12_call_7 rfl ?_
  have e_3 : μ.1 111 14 = tt := htt.symm
  refine xc_iV G (b := 111) (rest := []) (As := [.int (iv 0)]) (c_X12_arguments ω l μ 0 F Lo Fu Lu kf μ (11 * (9 - nn μ) - 3) (μ.1 111 39) (μ.1 111 22) tt (by unfold ir; omega) (by omega) hF hLo hFu hLu hE hU hPM (by omega) (by omega) (by omega) (by omega) (by omega) (by omega) (by omega) (by omega) (by omega) (fun j h1 h2 => absurd h1 (by omega)) (fun _ h0 => (mPX.w0 ((hX_1 ()) h0))) (by omega)) (wm 9 183 rfl rfl) (wm 9 185 rfl rfl) (wm 0 158 rfl rfl) rfl rfl (by decide) rfl (wm 1 18 rfl rfl) (wm 9 186 rfl rfl) (by decide) hR ⟨sfr (F := F) (a := 1) (by decide), slo (L := Lo) (m := 5) (a := 20) (by decide)⟩ (n := 1) rfl rfl (Nat.le_of_ble_eq_true rfl) hl.1 dX12_call_8 (fun r_5 μ4 ρ d0 H locs hr_r_5 hp G => ?_)
  have hr_r_5 : -2147483648 ≤ r_5 ∧ r_5 ≤ 2147483647 := hr_r_5
  obtain ⟨F_6, hp_7, hp_8, hp_9, hp_10, hp_11, hp_12, hp_13, hp_14, hp_15, hp_16, hp_17, hp_18, hp_19⟩ := hp
  have hpl_20 := hp_8.pl
  have hw_21 := wr_r (μ := μ4)
  have hxt_22 : mEXT μ μ4 := (mEXT.rf (μ := μ)).tr hp_19
  have hX_23 : ∀ _ : Unit, bd μ4 = 0 → mPX μ μ4 tt (0 + r_5) 1 (11 * (9 - nn μ) - 3) (wls μ4 (μ.1 111 39) (μ4.1 111 39) ++ []) := fun _ h0 => (by rw [List.append_nil]; exact hp_18 () h0)
  refine lv_istore (lv' := [(5, .int (iv r_5)), (4, .int (iv (μ.1 111 39))), (0, .ref (oP ω 111)), (1, .int (iv x1)), (2, .long (jv x2))]) hx hb dX12_call_11 hl (by decide) rfl (fun ls hl => ?_)
  refine lv_aload_n hx hb dX12_call_13 rfl (lv_at hl 2 rfl) ?_
  refine lv_bipush (v := iv 25) hx hb dX12_call_14 rfl ?_
  refine lv_lload_n hx hb dX12_call_16 rfl (lv_at hl 4 rfl) ?_
  refine lv_iconst (v := iv 4) hx hb dX12_call_17 rfl ?_
  refine lv_iload hx hb dX12_call_18 (lv_at hl 0 rfl) ?_
  refine xb_imul hx hb dX12_call_20 ?_
  refine lv_iload_n hx hb dX12_call_21 rfl (lv_at hl 3 rfl) ?_
  refine xb_iadd hx hb dX12_call_22 ?_
  refine xc_iV G (b := 111) (rest := []) (As := [.int (iv 25), .long (jv x2), .int (iv ((4 * r_5) + x1))]) (c_X12_emit ω l μ4 25 x2 ((4 * r_5) + x1) (by unfold ir; omega) hx2 (by unfold ir; omega) (by omega)) (wm 9 126 rfl rfl) (wm 9 128 rfl rfl) (wm 0 144 rfl rfl) rfl rfl (by decide) rfl (wm 1 18 rfl rfl) (wm 9 129 rfl rfl) (by decide) hR ⟨nfr hF (by decide), nlo hLo (by decide)⟩ (n := 3) rfl rfl (Nat.le_of_ble_eq_true rfl) hl.1 dX12_call_23 (fun r_25 μ24 ρ d0 H locs hr_r_25 hp G => ?_)
  have hr_r_25 : -2147483648 ≤ r_25 ∧ r_25 ≤ 2147483647 := hr_r_25
  obtain ⟨F_26, hp_27, hp_28, hp_29, hp_30⟩ := hp
  have hxt_31 : mEXT μ μ24 := hxt_22.tr hp_28.1
  have e_32 : wr μ24 = wr μ4 := (wr_cg (hp_27 15 (by decide)))
  have e_33 : bd μ24 = bd μ4 := (bd_cg (hp_27 15 (by decide)) (hp_27 16 (by decide)) (hp_27 17 (by decide)))
  have e_34 : nn μ24 = nn μ4 := (nn_cg (hp_27 15 (by decide)) (hp_27 18 (by decide)))
  have e_36 : μ24.1 111 29 = μ4.1 111 29 := (hp_27 29 (by decide))
  have hX_35 : ∀ _ : Unit, bd μ24 = 0 → mPX μ μ24 tt ((0 + r_5) + (1 - r_5)) 1 (11 * (9 - nn μ) - 3) (wls μ4 (μ.1 111 39) (μ4.1 111 39) ++ []) := fun _ h0 => ((((hX_23 ()) (by have e9 : bd μ4 = bd μ4 := rfl; have e8 : bd μ24 = bd μ4 := (bd_cg (hp_27 15 (by decide)) (hp_27 16 (by decide)) (hp_27 17 (by decide))); omega))).app (mAD.ex (t := tt) (e := 1 - r_5) hp_28 ((hX_23 ()) (by have e9 : bd μ4 = bd μ4 := rfl; have e8 : bd μ24 = bd μ4 := (bd_cg (hp_27 15 (by decide)) (hp_27 16 (by decide)) (hp_27 17 (by decide))); omega)).h1.1 (by unfold mpl; omega) (by show 1 - (Int.tdiv _ 4) = _; rw [m4d (by omega) (by omega) (by omega)]) (by have h9 := ((hX_23 ()) (by have e9 : bd μ4 = bd μ4 := rfl; have e8 : bd μ24 = bd μ4 := (bd_cg (hp_27 15 (by decide)) (hp_27 16 (by decide)) (hp_27 17 (by decide))); omega)).h1; omega) ⟨fun q => absurd q (by decide), ⟨fun q => absurd q (by decide), fun q => absurd q (by decide)⟩, fun q => absurd q (by decide), fun q => absurd q (by decide), fun q => absurd q (by decide), fun q => absurd q (by decide), fun q => absurd q (by decide), fun q => absurd q (by decide), fun q => absurd q (by decide), fun q => absurd q (by decide), fun q => absurd q (by decide), fun q => absurd q (by decide), fun q => absurd q (by decide), fun q => absurd q (by decide), fun q => absurd q (by decide), fun q => absurd q (by decide), fun _ => ⟨by omega, by omega, by have h9 := ((hX_23 ()) (by have e9 : bd μ4 = bd μ4 := rfl; have e8 : bd μ24 = bd μ4 := (bd_cg (hp_27 15 (by decide)) (hp_27 16 (by decide)) (hp_27 17 (by decide))); omega)).h1; rw [m4d (by omega) (by omega) (by omega), (hp_28.1.fo (t := tt) _ (Int.le_refl _)).1]; omega⟩, fun q => absurd q (by decide), fun q => absurd q (by decide), fun q => absurd q (by decide), fun q => absurd q (by decide), ⟨fun q => absurd q (by decide), fun q => absurd q (by decide), fun q => absurd q (by decide)⟩, ⟨by decide, by decide⟩⟩) (by have h9 := ((hX_23 ()) (by have e9 : bd μ4 = bd μ4 := rfl; have e8 : bd μ24 = bd μ4 := (bd_cg (hp_27 15 (by decide)) (hp_27 16 (by decide)) (hp_27 17 (by decide))); omega)).h1; omega)).ee (by omega)
  refine lv_istore (lv' := [(6, .int (iv r_25)), (5, .int (iv r_5)), (4, .int (iv (μ.1 111 39))), (0, .ref (oP ω 111)), (1, .int (iv x1)), (2, .long (jv x2))]) hx hb dX12_call_26 hl (by decide) rfl (fun ls hl => ?_)
  refine lv_aload_n hx hb dX12_call_28 rfl (lv_at hl 3 rfl) ?_
  refine lv_iload hx hb dX12_call_29 (lv_at hl 2 rfl) ?_
  have e_37 : μ24.1 111 39 = μ4.1 111 39 := (hp_27 39 (by decide))
  have e_38 : wr μ24 = wr μ4 := (wr_cg (hp_27 15 (by decide)))
  have e_39 : bd μ24 = bd μ4 := (bd_cg (hp_27 15 (by decide)) (hp_27 16 (by decide)) (hp_27 17 (by decide)))
  have e_40 : nn μ24 = nn μ4 := (nn_cg (hp_27 15 (by decide)) (hp_27 18 (by decide)))
  have e_41 : μ24.1 111 39 = μ4.1 111 39 := (hp_27 39 (by decide))
  have hwl_42 : ∀ j, (μ.1 111 39) ≤ j → j < μ24.1 111 39 → μ.1 111 22 ≤ μ24.1 126 j ∧ μ24.1 126 j < μ24.1 111 22 := (fun j h1 h2 => by rcases Int.lt_or_le j (μ4.1 111 39) with h9 | h9; (have b9 := hp_17 j h1 h9; rw [show μ24.1 126 j = μ4.1 126 j from (F_26.1 126 (by decide) j)]; exact ⟨b9.1, by omega⟩); (omega))
  have e_43 : μ24.1 111 29 = μ4.1 111 29 := (hp_27 29 (by decide))
  have e_44 : μ24.1 111 39 = μ4.1 111 39 := (hp_27 39 (by decide))
  have e_45 : μ24.1 111 39 = μ4.1 111 39 := (hp_27 39 (by decide))
  have e_46 : μ24.1 111 39 = μ4.1 111 39 := (hp_27 39 (by decide))
  have e_47 : μ24.1 111 39 = μ4.1 111 39 := (hp_27 39 (by decide))
  have e_48 : μ24.1 111 39 = μ4.1 111 39 := (hp_27 39 (by decide))
  have e_49 : μ24.1 111 39 = μ4.1 111 39 := (hp_27 39 (by decide))
  have e_50 : μ24.1 111 39 = μ4.1 111 39 := (hp_27 39 (by decide))
  refine xc_vV G (b := 111) (rest := []) (As := [.int (iv (μ.1 111 39))]) (c_X12_landsFrom ω l μ24 (μ.1 111 39) (by unfold ir; omega) (by omega) (by omega) (fun j h1 h2 => by have b9 := (hwl_42) j h1 h2; omega)) (wm 9 187 rfl rfl) (wm 9 189 rfl rfl) (wm 0 159 rfl rfl) rfl rfl (by decide) rfl (wm 1 18 rfl rfl) (wm 9 190 rfl rfl) (by decide) hR ⟨nfr hF (by decide), nlo hLo (by decide)⟩ (n := 1) rfl rfl (Nat.le_of_ble_eq_true rfl) hl.1 dX12_call_31 (fun μ51 ρ d0 H locs hp G => ?_)
  obtain ⟨F_52, hp_53, hp_54, hp_55⟩ := hp
  have hxt_56 : mEXT μ μ51 := hxt_31.am hp_54 (fun i hi => by obtain ⟨j9, hj9, hi9⟩ := mem_wls.1 hi; have b9 := (hwl_42) j9 hj9.1 (by omega); omega)
  have e_57 : wr μ51 = wr μ4 := ((wr_cg (hp_53 15 (by decide))).trans (wr_cg (hp_27 15 (by decide))))
  have e_58 : bd μ51 = bd μ4 := ((bd_cg (hp_53 15 (by decide)) (hp_53 16 (by decide)) (hp_53 17 (by decide))).trans (bd_cg (hp_27 15 (by decide)) (hp_27 16 (by decide)) (hp_27 17 (by decide))))
  have e_59 : nn μ51 = nn μ4 := ((nn_cg (hp_53 15 (by decide)) (hp_53 18 (by decide))).trans (nn_cg (hp_27 15 (by decide)) (hp_27 18 (by decide))))
  have e_61 : μ51.1 111 29 = μ4.1 111 29 := ((hp_53 29 (by decide)).trans (hp_27 29 (by decide)))
  have hX_60 : ∀ _ : Unit, bd μ51 = 0 → mPX μ μ51 tt 1 1 (11 * (9 - nn μ) - 3) [] := fun _ h0 => mPX.of (as_call ((hX_35 ()) (by have e9 : bd μ24 = bd μ4 := (bd_cg (hp_27 15 (by decide)) (hp_27 16 (by decide)) (hp_27 17 (by decide))); have e8 : bd μ51 = bd μ4 := ((bd_cg (hp_53 15 (by decide)) (hp_53 16 (by decide)) (hp_53 17 (by decide))).trans (bd_cg (hp_27 15 (by decide)) (hp_27 16 (by decide)) (hp_27 17 (by decide)))); omega)) (by omega) hp_54 rfl (fun i => wls_cg (fun j h1 h9 => (F_26.1 126 (by decide) j)) (by omega)))
  have e_62 : μ51.1 111 22 = μ24.1 111 22 := (hp_53 22 (by decide))
  have e_63 : μ51.1 111 9 = μ4.1 111 9 := ((hp_53 9 (by decide)).trans (hp_27 9 (by decide)))
  have e_64 : μ51.1 111 29 = μ4.1 111 29 := ((hp_53 29 (by decide)).trans (hp_27 29 (by decide)))
  have e_65 : wr μ51 = wr μ4 := ((wr_cg (hp_53 15 (by decide))).trans (wr_cg (hp_27 15 (by decide))))
  have e_66 : bd μ51 = bd μ4 := ((bd_cg (hp_53 15 (by decide)) (hp_53 16 (by decide)) (hp_53 17 (by decide))).trans (bd_cg (hp_27 15 (by decide)) (hp_27 16 (by decide)) (hp_27 17 (by decide))))
  have e_67 : nn μ51 = nn μ4 := ((nn_cg (hp_53 15 (by decide)) (hp_53 18 (by decide))).trans (nn_cg (hp_27 15 (by decide)) (hp_27 18 (by decide))))
  have hPM_68 : PM μ51 := hp_8.cg ((((hp_53 4 (by decide)).trans ((hp_27 4 (by decide)).trans (hp_7 4 (by decide))))).trans ((hp_7 4 (by decide))).symm) ((hp_53 6 (by decide)).trans (hp_27 6 (by decide))) ((((hp_53 7 (by decide)).trans ((hp_27 7 (by decide)).trans (hp_7 7 (by decide))))).trans ((hp_7 7 (by decide))).symm) ((hp_53 8 (by decide)).trans (hp_27 8 (by decide))) ((hp_53 9 (by decide)).trans (hp_27 9 (by decide))) ((hp_53 11 (by decide)).trans (hp_27 11 (by decide))) ((hp_53 12 (by decide)).trans (hp_27 12 (by decide))) ((((hp_53 14 (by decide)).trans ((hp_27 14 (by decide)).trans ((hp_7 14 (by decide)).trans htt.symm)))).trans (((hp_7 14 (by decide)).trans htt.symm)).symm) ((hp_53 15 (by decide)).trans (hp_27 15 (by decide))) ((hp_53 29 (by decide)).trans (hp_27 29 (by decide))) (fun j => ((F_52.1 123 (by decide) j).trans (F_26.1 123 (by decide) j)))
  have e_69 : μ51.1 111 22 = μ24.1 111 22 := (hp_53 22 (by decide))
  have e_70 : μ51.1 111 22 = μ24.1 111 22 := (hp_53 22 (by decide))
  have e_71 : μ51.1 111 9 = μ4.1 111 9 := ((hp_53 9 (by decide)).trans (hp_27 9 (by decide)))
  have e_72 : wr μ51 = wr μ4 := ((wr_cg (hp_53 15 (by decide))).trans (wr_cg (hp_27 15 (by decide))))
  have e_73 : μ51.1 111 9 = μ4.1 111 9 := ((hp_53 9 (by decide)).trans (hp_27 9 (by decide)))
  have e_74 : μ51.1 111 29 = μ4.1 111 29 := ((hp_53 29 (by decide)).trans (hp_27 29 (by decide)))
  have e_75 : wr μ51 = wr μ4 := ((wr_cg (hp_53 15 (by decide))).trans (wr_cg (hp_27 15 (by decide))))
  have e_76 : bd μ51 = bd μ4 := ((bd_cg (hp_53 15 (by decide)) (hp_53 16 (by decide)) (hp_53 17 (by decide))).trans (bd_cg (hp_27 15 (by decide)) (hp_27 16 (by decide)) (hp_27 17 (by decide))))
  have e_77 : wr μ51 = wr μ4 := ((wr_cg (hp_53 15 (by decide))).trans (wr_cg (hp_27 15 (by decide))))
  have e_78 : nn μ51 = nn μ4 := ((nn_cg (hp_53 15 (by decide)) (hp_53 18 (by decide))).trans (nn_cg (hp_27 15 (by decide)) (hp_27 18 (by decide))))
  exact xr_v G hret hlk dX12_call_34 ⟨(FrM.tr (FrM.tr (FrM.tr FrM.rf F_6 (by decide)) F_26 (by decide)) F_52 (by decide)), (fun j hj => ((hp_53 j (fun h9 => hj ((by decide : ∀ x ∈ ([39] : List Int), x ∈ ([6, 8, 9, 10, 11, 12, 13, 15, 16, 17, 18, 22, 29, 39] : List Int)) j h9))).trans ((hp_27 j (fun h9 => hj ((by decide : ∀ x ∈ ([22] : List Int), x ∈ ([6, 8, 9, 10, 11, 12, 13, 15, 16, 17, 18, 22, 29, 39] : List Int)) j h9))).trans (hp_7 j (fun h9 => hj ((by decide : ∀ x ∈ ([6, 8, 9, 10, 11, 12, 13, 15, 16, 17, 18, 22, 29, 39] : List Int), x ∈ ([6, 8, 9, 10, 11, 12, 13, 15, 16, 17, 18, 22, 29, 39] : List Int)) j h9)))))), hPM_68, (by omega), (by omega), (by omega), (by omega), (by omega), (by omega), (fun j hj => ((F_52.1 126 (by decide) j).trans ((F_26.1 126 (by decide) j).trans (hp_15 j (by omega))))), (fun _ h0 => (mPX.ex ((hX_60 ()) h0)).e (by omega)), hxt_56⟩

set_option maxHeartbeats 4000000 in
set_option maxRecDepth 100000 in
theorem c_X12_bang (ω : Om) (l : Launch) (μ : M3) (F : Nat) (Lo : Nat) (Fu : Nat) (Lu : Nat) (kf : Int) (μo : M3) (HH : Int) (tt : Int) (htt : tt = μ.1 111 14) (hF : 60 ≤ F) (hLo : 2000 ≤ Lo) (hFu : Fu ≤ F) (hLu : Lu ≤ Lo) (hE : ∀ (μ : M3) (tt : Int) (htt : tt = μ.1 111 14) (hPM : PM μ) (hnn : 0 ≤ nn μ ∧ nn μ ≤ 9 ∧ 9 * wr μ ≤ nn μ) (hn8 : nn μ ≤ 8 + wr μ) (hcd : 0 ≤ μ.1 111 22 ∧ μ.1 111 22 ≤ 2 * μ.1 111 9 + 200 + 40 * wr μ) (hW : 0 ≤ μ.1 111 39 ∧ μ.1 111 39 ≤ μ.1 111 22) (hsl : 0 ≤ μ.1 111 31 ∧ μ.1 111 31 ≤ 300) (hfu : 0 ≤ (kf - 1) ∧ 9 ≤ nn μ + (kf - 1)) (hH0 : ∀ _ : Unit, bd μ = 0 → mH0 μ), CtV ω l yX12_expr cX12_expr 1 (F + 0) (Lo + 0) [.ref (oP ω 111)] μ (fun (μ' : M3) => (FrM [111, 113, 115, 116, 117, 123, 126] μ μ') ∧ (∀ j, j ∉ ([6, 8, 9, 10, 11, 12, 13, 15, 16, 17, 18, 22, 29, 39] : List Int) → μ'.1 111 j = μ.1 111 j) ∧ (PM μ') ∧ (μ.1 111 22 ≤ μ'.1 111 22 ∧ μ'.1 111 22 ≤ μ.1 111 22 + 2 * (μ'.1 111 9 - μ.1 111 9) + (- 1 + 3 * wr μ' - 2 * wr μ)) ∧ (μ.1 111 9 ≤ μ'.1 111 9) ∧ (μ.1 111 29 ≤ μ'.1 111 29) ∧ (wr μ ≤ wr μ' ∧ bd μ ≤ bd μ') ∧ (nn μ ≤ nn μ' ∧ nn μ' ≤ nn μ + 9 * wr μ' ∧ nn μ' ≤ 9 ∧ 9 * wr μ' ≤ nn μ') ∧ (μ'.1 111 39 = μ.1 111 39) ∧ (∀ j, j < μ.1 111 39 → μ'.1 126 j = μ.1 126 j) ∧ (∀ _ : Unit, bd μ' = 0 → mEX μ μ' tt 1 0 (11 * (9 - nn μ))) ∧ (mEXT μ μ'))) (hU : ∀ (μ : M3) (tt : Int) (htt : tt = μ.1 111 14) (hPM : PM μ) (hnn : 0 ≤ nn μ ∧ nn μ ≤ 9 ∧ 9 * wr μ ≤ nn μ) (hn8 : nn μ ≤ 8 + wr μ) (hcd : 0 ≤ μ.1 111 22 ∧ μ.1 111 22 ≤ 2 * μ.1 111 9 + 200 + 40 * wr μ) (hW : 0 ≤ μ.1 111 39 ∧ μ.1 111 39 ≤ μ.1 111 22) (hsl : 0 ≤ μ.1 111 31 ∧ μ.1 111 31 ≤ 300) (hfu : 0 ≤ (kf - 1) ∧ 9 ≤ nn μ + (kf - 1)) (hH0 : ∀ _ : Unit, bd μ = 0 → mH0 μ), CtV ω l yX12_unary cX12_unary 6 (Fu + 0) (Lu + 0) [.ref (oP ω 111)] μ (fun (μ' : M3) => (FrM [111, 113, 115, 116, 117, 123, 126] μ μ') ∧ (∀ j, j ∉ ([6, 8, 9, 10, 11, 12, 13, 15, 16, 17, 18, 22, 29, 39] : List Int) → μ'.1 111 j = μ.1 111 j) ∧ (PM μ') ∧ (μ.1 111 22 ≤ μ'.1 111 22 ∧ μ'.1 111 22 ≤ μ.1 111 22 + 2 * (μ'.1 111 9 - μ.1 111 9) + (- 1 + 3 * wr μ' - 2 * wr μ)) ∧ (μ.1 111 9 ≤ μ'.1 111 9) ∧ (μ.1 111 29 ≤ μ'.1 111 29) ∧ (wr μ ≤ wr μ' ∧ bd μ ≤ bd μ') ∧ (nn μ ≤ nn μ' ∧ nn μ' ≤ nn μ + 9 * wr μ' ∧ nn μ' ≤ 9 ∧ 9 * wr μ' ≤ nn μ') ∧ (μ'.1 111 39 = μ.1 111 39) ∧ (∀ j, j < μ.1 111 39 → μ'.1 126 j = μ.1 126 j) ∧ (∀ _ : Unit, bd μ' = 0 → mEX μ μ' tt 1 0 (11 * (9 - nn μ) - 3)) ∧ (mEXT μ μ'))) (hPM : PM μ) (hnn : 0 ≤ nn μ ∧ nn μ ≤ 9 ∧ 9 * wr μ ≤ nn μ) (hn8 : nn μ ≤ 8 + wr μ) (hcd : 0 ≤ μ.1 111 22 ∧ μ.1 111 22 ≤ 2 * μ.1 111 9 + 198 + 40 * wr μ) (hW : 0 ≤ μ.1 111 39 ∧ μ.1 111 39 ≤ μ.1 111 22) (hsl : 0 ≤ μ.1 111 31 ∧ μ.1 111 31 ≤ 300) (hfu : 0 ≤ kf ∧ 9 ≤ nn μ + kf) (hEX : ∀ _ : Unit, bd μ = 0 → mEX μo μ tt 1 0 HH) (hHH : 11 * (9 - nn μ) - 3 ≤ HH) : CtV ω l yX12_bang cX12_bang 4 (F + 2) (Lo + 44) [.ref (oP ω 111)] μ (fun (μ' : M3) => (FrM [111, 113, 115, 116, 117, 123, 126] μ μ') ∧ (∀ j, j ∉ ([6, 8, 9, 10, 11, 12, 13, 15, 16, 17, 18, 22, 29, 39] : List Int) → μ'.1 111 j = μ.1 111 j) ∧ (PM μ') ∧ (μ.1 111 22 ≤ μ'.1 111 22 ∧ μ'.1 111 22 ≤ μ.1 111 22 + 2 * (μ'.1 111 9 - μ.1 111 9) + (0 + 3 * wr μ')) ∧ (μ.1 111 9 ≤ μ'.1 111 9) ∧ (μ.1 111 29 ≤ μ'.1 111 29) ∧ (wr μ ≤ wr μ' ∧ bd μ ≤ bd μ') ∧ (nn μ ≤ nn μ' ∧ nn μ' ≤ nn μ + 9 * wr μ' ∧ nn μ' ≤ 9 ∧ 9 * wr μ' ≤ nn μ') ∧ (μ'.1 111 39 = μ.1 111 39) ∧ (∀ j, j < μ.1 111 39 → μ'.1 126 j = μ.1 126 j) ∧ (∀ _ : Unit, bd μ' = 0 → mEX μo μ' tt 1 0 HH) ∧ (mEXT μ μ')) := by
  refine CtV.go (by decide) (Nat.le_of_ble_eq_true rfl) (fun ρ p e s m below meth c R ls G hR hret hlk hl => ?_)
  have hx := G.1.1
  have hb := G.1.2.1
  have hl : lv_has ls 4 [(0, .ref (oP ω 111))] := hl
  generalize s.drawn = d0 at G ⊢
  have hw_0 := wr_r (μ := μ)
  have hpp_ := hPM.1.2.1
  have hpn_ := hPM.2.1
  have hpt_ := hPM.1.2.2.2.1
  have hpw_ := hPM.1.2.2.2.2.1
  have hpa_ := hPM.1.1
  have hX_1 : ∀ _ : Unit, bd μ = 0 → mPX μo μ tt 1 1 HH (wls μ (μ.1 111 39) (μ.1 111 39) ++ []) := fun _ h0 => (by rw [List.append_nil]; exact mPX.w0 (mPX.of (hEX () h0)))
  have hwk : ∀ j, μ.1 111 39 ≤ j → j < μ.1 111 39 → μ.1 111 22 ≤ μ.1 126 j ∧ μ.1 126 j < μ.1 111 22 := fun j h1 h2 => absurd h1 (by omega)
  refine lv_aload_n hx hb dX12_bang_0 rfl (lv_at hl 0 rfl) ?_
  refine xa_geti G fd_X12 (a := 111) (x := μ.1 111 39) 39 rfl (by decide) rfl (wm 7 188 rfl rfl) ⟨rfl, rfl, rfl⟩ dX12_bang_1 rfl rfl ?_
  have hr_2 : -2147483648 ≤ μ.1 111 39 ∧ μ.1 111 39 ≤ 2147483647 := by have h9 := G.hr (a := 111) (k := 39) rfl; exact h9
  refine lv_istore_n (lv' := [(1, .int (iv (μ.1 111 39))), (0, .ref (oP ω 111))]) hx hb dX12_bang_4 rfl hl (by decide) rfl (fun ls hl => ?_)
  refine lv_aload_n hx hb dX12_bang_5 rfl (lv_at hl 1 rfl) ?_
  refine lv_iconst (v := iv 0) hx hb dX12_bang_6 rfl ?_
  have e_3 : μ.1 111 14 = tt := htt.symm
  refine xc_iV G (b := 111) (rest := []) (As := [.int (iv 0)]) (c_X12_skips ω l μ 0 tt (by unfold ir; omega) (by omega) (by omega)) (wm 9 159 rfl rfl) (wm 9 161 rfl rfl) (wm 0 152 rfl rfl) rfl rfl (by decide) rfl (wm 1 18 rfl rfl) (wm 9 162 rfl rfl) (by decide) hR ⟨nfr hF (by decide), nlo hLo (by decide)⟩ (n := 1) rfl rfl (Nat.le_of_ble_eq_true rfl) hl.1 dX12_bang_7 (fun r_5 μ4 ρ d0 H locs hr_r_5 hp G => ?_)
  have hr_r_5 : -2147483648 ≤ r_5 ∧ r_5 ≤ 2147483647 := hr_r_5
  obtain ⟨F_6, hp_7, hp_8, hp_9⟩ := hp
  have hqr_r_5 : (r_5 = -1) ∨ (μ.1 111 22 ≤ r_5 ∧ r_5 < μ4.1 111 22) := by rcases hp_8 with ⟨q1, q2, q3, q4⟩ | ⟨q1, q2, q3⟩; (right; have := q2.2.1; omega); (left; exact q2)
  have hxt_10 : mEXT μ μ4 := (mEXT.rf (μ := μ)).tr hp_8.ext
  have e_11 : μ4.1 111 31 = μ.1 111 31 := (hp_7 31 (by decide))
  have e_12 : wr μ4 = wr μ := (wr_cg (hp_7 15 (by decide)))
  have e_13 : bd μ4 = bd μ := (bd_cg (hp_7 15 (by decide)) (hp_7 16 (by decide)) (hp_7 17 (by decide)))
  have e_14 : nn μ4 = nn μ := (nn_cg (hp_7 15 (by decide)) (hp_7 18 (by decide)))
  replace hp_8 := fun _ : Unit => hp_8
  have e_16 : μ4.1 111 29 = μ.1 111 29 := (hp_7 29 (by decide))
  have hX_15 : ∀ _ : Unit, bd μ4 = 0 → mPX μo μ4 tt 1 1 HH (lsk r_5 ++ (wls μ (μ.1 111 39) (μ.1 111 39) ++ [])) := fun _ h0 => mPX.sk ((hX_1 ()) (by have e9 : bd μ = bd μ := rfl; have e8 : bd μ4 = bd μ := (bd_cg (hp_7 15 (by decide)) (hp_7 16 (by decide)) (hp_7 17 (by decide))); omega)) (hp_8 ()) (by omega) (by omega) (by decide)
  have hqs_r_5 : (r_5 = -1) ∨ (μ4.1 111 22 = μ.1 111 22 + 1 ∧ r_5 = μ.1 111 22) := by rcases hp_8 () with ⟨q1, q2, q3, q4⟩ | ⟨q1, q2, q3⟩; (right; exact ⟨q2.2.1, q3⟩); (left; exact q2)
  refine lv_istore_n (lv' := [(2, .int (iv r_5)), (1, .int (iv (μ.1 111 39))), (0, .ref (oP ω 111))]) hx hb dX12_bang_10 rfl hl (by decide) rfl (fun ls hl => ?_)
  refine lv_iload_n hx hb dX12_bang_11 rfl (lv_at hl 0 rfl) ?_
  refine lv_iconst (v := iv (-1)) hx hb dX12_bang_12 rfl ?_
  refine xb_icmp_eq (tgt := 36) hx hb (by unfold ir; omega) (by unfold ir; omega) dX12_bang_13 (by decide) (fun c_13 => ?_) (fun c_13 => ?_)
  · refine lv_aload_n hx hb dX12_bang_36 rfl (lv_at hl 2 rfl) ?_
    refine lv_iconst (v := iv 1) hx hb dX12_bang_37 rfl ?_
    have e_17 : μ4.1 111 39 = μ.1 111 39 := (hp_7 39 (by decide))
    have e_18 : wr μ4 = wr μ := (wr_cg (hp_7 15 (by decide)))
    have e_19 : bd μ4 = bd μ := (bd_cg (hp_7 15 (by decide)) (hp_7 16 (by decide)) (hp_7 17 (by decide)))
    have e_20 : nn μ4 = nn μ := (nn_cg (hp_7 15 (by decide)) (hp_7 18 (by decide)))
    have e_21 : μ4.1 111 39 = μ.1 111 39 := (hp_7 39 (by decide))
    have e_22 : μ4.1 111 29 = μ.1 111 29 := (hp_7 29 (by decide))
    have e_23 : μ4.1 111 14 = tt := ((hp_7 14 (by decide)).trans htt.symm)
    have hPM_24 : PM μ4 := hPM.cg (hp_7 4 (by decide)) (hp_7 6 (by decide)) (hp_7 7 (by decide)) (hp_7 8 (by decide)) (hp_7 9 (by decide)) (hp_7 11 (by decide)) (hp_7 12 (by decide)) ((((hp_7 14 (by decide)).trans htt.symm)).trans (htt.symm).symm) (hp_7 15 (by decide)) (hp_7 29 (by decide)) (fun j => (F_6.1 123 (by decide) j))
    have e_25 : wr μ4 = wr μ := (wr_cg (hp_7 15 (by decide)))
    have e_26 : nn μ4 = nn μ := (nn_cg (hp_7 15 (by decide)) (hp_7 18 (by decide)))
    have e_27 : wr μ4 = wr μ := (wr_cg (hp_7 15 (by decide)))
    have e_28 : nn μ4 = nn μ := (nn_cg (hp_7 15 (by decide)) (hp_7 18 (by decide)))
    have e_29 : μ4.1 111 9 = μ.1 111 9 := (hp_7 9 (by decide))
    have e_30 : wr μ4 = wr μ := (wr_cg (hp_7 15 (by decide)))
    have e_31 : μ4.1 111 39 = μ.1 111 39 := (hp_7 39 (by decide))
    have e_32 : μ4.1 111 39 = μ.1 111 39 := (hp_7 39 (by decide))
    have e_33 : μ4.1 111 31 = μ.1 111 31 := (hp_7 31 (by decide))
    have e_34 : μ4.1 111 31 = μ.1 111 31 := (hp_7 31 (by decide))
    have e_35 : nn μ4 = nn μ := (nn_cg (hp_7 15 (by decide)) (hp_7 18 (by decide)))
    have e_36 : μ4.1 111 39 = μ.1 111 39 := (hp_7 39 (by decide))
    have e_37 : μ4.1 111 39 = μ.1 111 39 := (hp_7 39 (by decide))
    have e_38 : μ4.1 111 39 = μ.1 111 39 := (hp_7 39 (by decide))
    have e_39 : nn μ4 = nn μ := (nn_cg (hp_7 15 (by decide)) (hp_7 18 (by decide)))
    have e_40 : μ4.1 111 9 = μ.1 111 9 := (hp_7 9 (by decide))
    have e_41 : μ4.1 111 9 = μ.1 111 9 := (hp_7 9 (by decide))
    have e_42 : μ4.1 111 29 = μ.1 111 29 := (hp_7 29 (by decide))
    have e_43 : wr μ4 = wr μ := (wr_cg (hp_7 15 (by decide)))
    have e_44 : bd μ4 = bd μ := (bd_cg (hp_7 15 (by decide)) (hp_7 16 (by decide)) (hp_7 17 (by decide)))
    have e_45 : nn μ4 = nn μ := (nn_cg (hp_7 15 (by decide)) (hp_7 18 (by decide)))
    have e_46 : μ4.1 111 39 = μ.1 111 39 := (hp_7 39 (by decide))
    refine xc_iV G (b := 111) (rest := []) (As := [.int (iv 1)]) (c_X12_arguments ω l μ4 1 F Lo Fu Lu kf μo (HH) (μ.1 111 39) (μ.1 111 22) tt (by unfold ir; omega) (by omega) hF hLo hFu hLu hE hU hPM_24 (by omega) (by omega) (by omega) (by omega) (by omega) (by omega) (by omega) (by omega) (by omega) (fun j h1 h2 => by rcases Int.lt_or_le j (μ.1 111 39) with h9 | h9; (have b9 := hwk j h1 h9; rw [show μ4.1 126 j = μ.1 126 j from (F_6.1 126 (by decide) j)]; exact ⟨b9.1, by omega⟩); (omega)) (fun _ h0 => (((hX_15 ()) h0).ee (by omega)).mem (fun i => wls_old (fun j h1 h9 => (F_6.1 126 (by decide) j)) (by omega) (by omega))) (by omega)) (wm 9 183 rfl rfl) (wm 9 185 rfl rfl) (wm 0 158 rfl rfl) rfl rfl (by decide) rfl (wm 1 18 rfl rfl) (wm 9 186 rfl rfl) (by decide) hR ⟨sfr (F := F) (a := 1) (by decide), slo (L := Lo) (m := 5) (a := 20) (by decide)⟩ (n := 1) rfl rfl (Nat.le_of_ble_eq_true rfl) hl.1 dX12_bang_38 (fun r_48 μ47 ρ d0 H locs hr_r_48 hp G => ?_)
    have hr_r_48 : -2147483648 ≤ r_48 ∧ r_48 ≤ 2147483647 := hr_r_48
    obtain ⟨F_49, hp_50, hp_51, hp_52, hp_53, hp_54, hp_55, hp_56, hp_57, hp_58, hp_59, hp_60, hp_61, hp_62⟩ := hp
    have hpl_63 := hp_51.pl
    have hw_64 := wr_r (μ := μ47)
    have hw_65 := wr_r (μ := μ4)
    have hxt_66 : mEXT μ μ47 := hxt_10.tr hp_62
    have hX_67 : ∀ _ : Unit, bd μ47 = 0 → mPX μo μ47 tt (1 + r_48) 1 HH (wls μ47 (μ.1 111 39) (μ47.1 111 39) ++ []) := fun _ h0 => (by rw [List.append_nil]; exact hp_61 () h0)
    refine lv_istore_n (lv' := [(3, .int (iv r_48)), (2, .int (iv r_5)), (1, .int (iv (μ.1 111 39))), (0, .ref (oP ω 111))]) hx hb dX12_bang_41 rfl hl (by decide) rfl (fun ls hl => ?_)
    refine lv_aload_n hx hb dX12_bang_42 rfl (lv_at hl 3 rfl) ?_
    refine lv_bipush (v := iv 26) hx hb dX12_bang_43 rfl ?_
    refine lv_lconst (v := jv 0) hx hb dX12_bang_45 rfl ?_
    refine lv_iload_n hx hb dX12_bang_46 rfl (lv_at hl 0 rfl) ?_
    refine xc_iV G (b := 111) (rest := []) (As := [.int (iv 26), .long (jv 0), .int (iv r_48)]) (c_X12_emit ω l μ47 26 0 r_48 (by unfold ir; omega) (by unfold jr; omega) (by unfold ir; omega) (by omega)) (wm 9 126 rfl rfl) (wm 9 128 rfl rfl) (wm 0 144 rfl rfl) rfl rfl (by decide) rfl (wm 1 18 rfl rfl) (wm 9 129 rfl rfl) (by decide) hR ⟨nfr hF (by decide), nlo hLo (by decide)⟩ (n := 3) rfl rfl (Nat.le_of_ble_eq_true rfl) hl.1 dX12_bang_47 (fun r_69 μ68 ρ d0 H locs hr_r_69 hp G => ?_)
    have hr_r_69 : -2147483648 ≤ r_69 ∧ r_69 ≤ 2147483647 := hr_r_69
    obtain ⟨F_70, hp_71, hp_72, hp_73, hp_74⟩ := hp
    have hxt_75 : mEXT μ μ68 := hxt_66.tr hp_72.1
    have e_76 : wr μ68 = wr μ47 := (wr_cg (hp_71 15 (by decide)))
    have e_77 : bd μ68 = bd μ47 := (bd_cg (hp_71 15 (by decide)) (hp_71 16 (by decide)) (hp_71 17 (by decide)))
    have e_78 : nn μ68 = nn μ47 := (nn_cg (hp_71 15 (by decide)) (hp_71 18 (by decide)))
    have e_80 : μ68.1 111 29 = μ47.1 111 29 := (hp_71 29 (by decide))
    have hX_79 : ∀ _ : Unit, bd μ68 = 0 → mPX μo μ68 tt ((1 + r_48) + (- r_48)) 1 HH (wls μ47 (μ.1 111 39) (μ47.1 111 39) ++ []) := fun _ h0 => ((((hX_67 ()) (by have e9 : bd μ47 = bd μ47 := rfl; have e8 : bd μ68 = bd μ47 := (bd_cg (hp_71 15 (by decide)) (hp_71 16 (by decide)) (hp_71 17 (by decide))); omega))).app (mAD.ex (t := tt) (e := - r_48) hp_72 ((hX_67 ()) (by have e9 : bd μ47 = bd μ47 := rfl; have e8 : bd μ68 = bd μ47 := (bd_cg (hp_71 15 (by decide)) (hp_71 16 (by decide)) (hp_71 17 (by decide))); omega)).h1.1 (by unfold mpl; omega) (by show - _ = _; omega) (by have h9 := ((hX_67 ()) (by have e9 : bd μ47 = bd μ47 := rfl; have e8 : bd μ68 = bd μ47 := (bd_cg (hp_71 15 (by decide)) (hp_71 16 (by decide)) (hp_71 17 (by decide))); omega)).h1; omega) ⟨fun q => absurd q (by decide), ⟨fun q => absurd q (by decide), fun q => absurd q (by decide)⟩, fun q => absurd q (by decide), fun q => absurd q (by decide), fun q => absurd q (by decide), fun q => absurd q (by decide), fun q => absurd q (by decide), fun q => absurd q (by decide), fun q => absurd q (by decide), fun q => absurd q (by decide), fun q => absurd q (by decide), fun q => absurd q (by decide), fun q => absurd q (by decide), fun q => absurd q (by decide), fun q => absurd q (by decide), fun q => absurd q (by decide), fun q => absurd q (by decide), fun _ => ⟨by omega, by omega, by have h9 := ((hX_67 ()) (by have e9 : bd μ47 = bd μ47 := rfl; have e8 : bd μ68 = bd μ47 := (bd_cg (hp_71 15 (by decide)) (hp_71 16 (by decide)) (hp_71 17 (by decide))); omega)).h1; rw [(hp_72.1.fo (t := tt) _ (Int.le_refl _)).1]; omega⟩, fun q => absurd q (by decide), fun q => absurd q (by decide), fun q => absurd q (by decide), ⟨fun q => absurd q (by decide), fun q => absurd q (by decide), fun q => absurd q (by decide)⟩, ⟨by decide, by decide⟩⟩) (by have h9 := ((hX_67 ()) (by have e9 : bd μ47 = bd μ47 := rfl; have e8 : bd μ68 = bd μ47 := (bd_cg (hp_71 15 (by decide)) (hp_71 16 (by decide)) (hp_71 17 (by decide))); omega)).h1; omega)).ee (by omega)
    refine lv_pop hx hb dX12_bang_50 rfl ?_
    refine lv_aload_n hx hb dX12_bang_51 rfl (lv_at hl 3 rfl) ?_
    refine lv_iload_n hx hb dX12_bang_52 rfl (lv_at hl 2 rfl) ?_
    have e_81 : μ68.1 111 39 = μ47.1 111 39 := (hp_71 39 (by decide))
    have e_82 : wr μ68 = wr μ47 := (wr_cg (hp_71 15 (by decide)))
    have e_83 : bd μ68 = bd μ47 := (bd_cg (hp_71 15 (by decide)) (hp_71 16 (by decide)) (hp_71 17 (by decide)))
    have e_84 : nn μ68 = nn μ47 := (nn_cg (hp_71 15 (by decide)) (hp_71 18 (by decide)))
    have e_85 : μ68.1 111 39 = μ47.1 111 39 := (hp_71 39 (by decide))
    have hwl_86 : ∀ j, (μ.1 111 39) ≤ j → j < μ68.1 111 39 → μ.1 111 22 ≤ μ68.1 126 j ∧ μ68.1 126 j < μ68.1 111 22 := (fun j h1 h2 => by rcases Int.lt_or_le j (μ47.1 111 39) with h9 | h9; (have b9 := hp_60 j h1 h9; rw [show μ68.1 126 j = μ47.1 126 j from (F_70.1 126 (by decide) j)]; exact ⟨b9.1, by omega⟩); (omega))
    have e_87 : μ68.1 111 29 = μ47.1 111 29 := (hp_71 29 (by decide))
    have e_88 : μ68.1 111 39 = μ47.1 111 39 := (hp_71 39 (by decide))
    have e_89 : μ68.1 111 39 = μ47.1 111 39 := (hp_71 39 (by decide))
    have e_90 : μ68.1 111 39 = μ47.1 111 39 := (hp_71 39 (by decide))
    have e_91 : μ68.1 111 39 = μ47.1 111 39 := (hp_71 39 (by decide))
    have e_92 : μ68.1 111 39 = μ47.1 111 39 := (hp_71 39 (by decide))
    have e_93 : μ68.1 111 39 = μ47.1 111 39 := (hp_71 39 (by decide))
    have e_94 : μ68.1 111 39 = μ47.1 111 39 := (hp_71 39 (by decide))
    refine xc_vV G (b := 111) (rest := []) (As := [.int (iv (μ.1 111 39))]) (c_X12_landsFrom ω l μ68 (μ.1 111 39) (by unfold ir; omega) (by omega) (by omega) (fun j h1 h2 => by have b9 := (hwl_86) j h1 h2; omega)) (wm 9 187 rfl rfl) (wm 9 189 rfl rfl) (wm 0 159 rfl rfl) rfl rfl (by decide) rfl (wm 1 18 rfl rfl) (wm 9 190 rfl rfl) (by decide) hR ⟨nfr hF (by decide), nlo hLo (by decide)⟩ (n := 1) rfl rfl (Nat.le_of_ble_eq_true rfl) hl.1 dX12_bang_53 (fun μ95 ρ d0 H locs hp G => ?_)
    obtain ⟨F_96, hp_97, hp_98, hp_99⟩ := hp
    have hxt_100 : mEXT μ μ95 := hxt_75.am hp_98 (fun i hi => by obtain ⟨j9, hj9, hi9⟩ := mem_wls.1 hi; have b9 := (hwl_86) j9 hj9.1 (by omega); omega)
    have e_101 : wr μ95 = wr μ47 := ((wr_cg (hp_97 15 (by decide))).trans (wr_cg (hp_71 15 (by decide))))
    have e_102 : bd μ95 = bd μ47 := ((bd_cg (hp_97 15 (by decide)) (hp_97 16 (by decide)) (hp_97 17 (by decide))).trans (bd_cg (hp_71 15 (by decide)) (hp_71 16 (by decide)) (hp_71 17 (by decide))))
    have e_103 : nn μ95 = nn μ47 := ((nn_cg (hp_97 15 (by decide)) (hp_97 18 (by decide))).trans (nn_cg (hp_71 15 (by decide)) (hp_71 18 (by decide))))
    have e_105 : μ95.1 111 29 = μ47.1 111 29 := ((hp_97 29 (by decide)).trans (hp_71 29 (by decide)))
    have hX_104 : ∀ _ : Unit, bd μ95 = 0 → mPX μo μ95 tt 1 1 HH [] := fun _ h0 => mPX.of (as_call ((hX_79 ()) (by have e9 : bd μ68 = bd μ47 := (bd_cg (hp_71 15 (by decide)) (hp_71 16 (by decide)) (hp_71 17 (by decide))); have e8 : bd μ95 = bd μ47 := ((bd_cg (hp_97 15 (by decide)) (hp_97 16 (by decide)) (hp_97 17 (by decide))).trans (bd_cg (hp_71 15 (by decide)) (hp_71 16 (by decide)) (hp_71 17 (by decide)))); omega)) (by omega) hp_98 rfl (fun i => wls_cg (fun j h1 h9 => (F_70.1 126 (by decide) j)) (by omega)))
    have e_106 : μ95.1 111 22 = μ68.1 111 22 := (hp_97 22 (by decide))
    have e_107 : μ95.1 111 9 = μ47.1 111 9 := ((hp_97 9 (by decide)).trans (hp_71 9 (by decide)))
    have e_108 : μ95.1 111 29 = μ47.1 111 29 := ((hp_97 29 (by decide)).trans (hp_71 29 (by decide)))
    have e_109 : wr μ95 = wr μ47 := ((wr_cg (hp_97 15 (by decide))).trans (wr_cg (hp_71 15 (by decide))))
    have e_110 : bd μ95 = bd μ47 := ((bd_cg (hp_97 15 (by decide)) (hp_97 16 (by decide)) (hp_97 17 (by decide))).trans (bd_cg (hp_71 15 (by decide)) (hp_71 16 (by decide)) (hp_71 17 (by decide))))
    have e_111 : nn μ95 = nn μ47 := ((nn_cg (hp_97 15 (by decide)) (hp_97 18 (by decide))).trans (nn_cg (hp_71 15 (by decide)) (hp_71 18 (by decide))))
    have hPM_112 : PM μ95 := hp_51.cg ((((hp_97 4 (by decide)).trans ((hp_71 4 (by decide)).trans ((hp_50 4 (by decide)).trans (hp_7 4 (by decide)))))).trans (((hp_50 4 (by decide)).trans (hp_7 4 (by decide)))).symm) ((hp_97 6 (by decide)).trans (hp_71 6 (by decide))) ((((hp_97 7 (by decide)).trans ((hp_71 7 (by decide)).trans ((hp_50 7 (by decide)).trans (hp_7 7 (by decide)))))).trans (((hp_50 7 (by decide)).trans (hp_7 7 (by decide)))).symm) ((hp_97 8 (by decide)).trans (hp_71 8 (by decide))) ((hp_97 9 (by decide)).trans (hp_71 9 (by decide))) ((hp_97 11 (by decide)).trans (hp_71 11 (by decide))) ((hp_97 12 (by decide)).trans (hp_71 12 (by decide))) ((((hp_97 14 (by decide)).trans ((hp_71 14 (by decide)).trans ((hp_50 14 (by decide)).trans ((hp_7 14 (by decide)).trans htt.symm))))).trans (((hp_50 14 (by decide)).trans ((hp_7 14 (by decide)).trans htt.symm))).symm) ((hp_97 15 (by decide)).trans (hp_71 15 (by decide))) ((hp_97 29 (by decide)).trans (hp_71 29 (by decide))) (fun j => ((F_96.1 123 (by decide) j).trans (F_70.1 123 (by decide) j)))
    have e_113 : μ95.1 111 22 = μ68.1 111 22 := (hp_97 22 (by decide))
    have e_114 : μ95.1 111 22 = μ68.1 111 22 := (hp_97 22 (by decide))
    have e_115 : μ95.1 111 9 = μ47.1 111 9 := ((hp_97 9 (by decide)).trans (hp_71 9 (by decide)))
    have e_116 : wr μ95 = wr μ47 := ((wr_cg (hp_97 15 (by decide))).trans (wr_cg (hp_71 15 (by decide))))
    have e_117 : μ95.1 111 9 = μ47.1 111 9 := ((hp_97 9 (by decide)).trans (hp_71 9 (by decide)))
    have e_118 : μ95.1 111 29 = μ47.1 111 29 := ((hp_97 29 (by decide)).trans (hp_71 29 (by decide)))
    have e_119 : wr μ95 = wr μ47 := ((wr_cg (hp_97 15 (by decide))).trans (wr_cg (hp_71 15 (by decide))))
    have e_120 : bd μ95 = bd μ47 := ((bd_cg (hp_97 15 (by decide)) (hp_97 16 (by decide)) (hp_97 17 (by decide))).trans (bd_cg (hp_71 15 (by decide)) (hp_71 16 (by decide)) (hp_71 17 (by decide))))
    have e_121 : wr μ95 = wr μ47 := ((wr_cg (hp_97 15 (by decide))).trans (wr_cg (hp_71 15 (by decide))))
    have e_122 : nn μ95 = nn μ47 := ((nn_cg (hp_97 15 (by decide)) (hp_97 18 (by decide))).trans (nn_cg (hp_71 15 (by decide)) (hp_71 18 (by decide))))
    exact xr_v G hret hlk dX12_bang_56 ⟨(FrM.tr (FrM.tr (FrM.tr (FrM.tr FrM.rf F_6 (by decide)) F_49 (by decide)) F_70 (by decide)) F_96 (by decide)), (fun j hj => ((hp_97 j (fun h9 => hj ((by decide : ∀ x ∈ ([39] : List Int), x ∈ ([6, 8, 9, 10, 11, 12, 13, 15, 16, 17, 18, 22, 29, 39] : List Int)) j h9))).trans ((hp_71 j (fun h9 => hj ((by decide : ∀ x ∈ ([22] : List Int), x ∈ ([6, 8, 9, 10, 11, 12, 13, 15, 16, 17, 18, 22, 29, 39] : List Int)) j h9))).trans ((hp_50 j (fun h9 => hj ((by decide : ∀ x ∈ ([6, 8, 9, 10, 11, 12, 13, 15, 16, 17, 18, 22, 29, 39] : List Int), x ∈ ([6, 8, 9, 10, 11, 12, 13, 15, 16, 17, 18, 22, 29, 39] : List Int)) j h9))).trans (hp_7 j (fun h9 => hj ((by decide : ∀ x ∈ ([22] : List Int), x ∈ ([6, 8, 9, 10, 11, 12, 13, 15, 16, 17, 18, 22, 29, 39] : List Int)) j h9))))))), hPM_112, (by omega), (by omega), (by omega), (by omega), (by omega), (by omega), (fun j hj => ((F_96.1 126 (by decide) j).trans ((F_70.1 126 (by decide) j).trans ((hp_58 j (by omega)).trans (F_6.1 126 (by decide) j))))), (fun _ h0 => (mPX.ex ((hX_104 ()) h0)).e (by omega)), hxt_100⟩
  · refine lv_aload_n hx hb dX12_bang_16 rfl (lv_at hl 2 rfl) ?_
    refine xa_getr G fd_X12 (a := 111) (x := 126) 38 rfl (by decide) rfl (wm 7 187 rfl rfl) ⟨rfl, rfl, rfl⟩ dX12_bang_17 rfl (G.sk 124 rfl) (by decide) rfl ?_
    refine lv_aload_n hx hb dX12_bang_20 rfl (lv_at hl 2 rfl) ?_
    refine xa_geti G fd_X12 (a := 111) (x := μ.1 111 39) 39 rfl (by decide) rfl (wm 7 188 rfl rfl) ⟨rfl, rfl, rfl⟩ dX12_bang_21 rfl (hp_7 39 (by decide)) ?_
    refine lv_iload_n hx hb dX12_bang_24 rfl (lv_at hl 0 rfl) ?_
    have e_123 : μ4.1 111 39 = μ.1 111 39 := (hp_7 39 (by decide))
    refine xa_iast G (a := 126) (i := μ.1 111 39) (x := r_5) rfl (by have h9 := G.lc (a := 126) (n := 12000) 64 rfl; omega) (by unfold ir; omega) dX12_bang_25 rfl (fun H locs G => ?_)
    refine lv_aload_n hx hb dX12_bang_26 rfl (lv_at hl 2 rfl) ?_
    refine lv_dup hx hb dX12_bang_27 rfl ?_
    refine xa_geti G fd_X12 (a := 111) (x := μ.1 111 39) 39 rfl (by decide) rfl (wm 7 188 rfl rfl) ⟨rfl, rfl, rfl⟩ dX12_bang_28 rfl ((sv_n _ (fun h9 => absurd h9.1 (by decide))).trans (hp_7 39 (by decide))) ?_
    refine lv_iconst (v := iv 1) hx hb dX12_bang_31 rfl ?_
    refine xb_iadd hx hb dX12_bang_32 ?_
    refine xa_puti G fd_X12 (a := 111) (x := (μ.1 111 39) + 1) 39 (kz := 39) rfl rfl (by decide) rfl (by unfold ir; omega) (wm 7 188 rfl rfl) ⟨rfl, rfl, rfl, rfl⟩ rfl dX12_bang_33 rfl (fun H locs G => ?_)
    refine lv_aload_n hx hb dX12_bang_36 rfl (lv_at hl 2 rfl) ?_
    refine lv_iconst (v := iv 1) hx hb dX12_bang_37 rfl ?_
    have e_124 : (sv (sv μ4 126 (μ.1 111 39) r_5) 111 39 ((μ.1 111 39) + 1)).1 111 39 = (μ.1 111 39) + 1 := (sv_s _ _ _ _)
    have e_125 : (sv (sv μ4 126 (μ.1 111 39) r_5) 111 39 ((μ.1 111 39) + 1)).1 111 22 = μ4.1 111 22 := ((sv_n _ (by decide)).trans (sv_n _ (fun h9 => absurd h9.1 (by decide))))
    have e_126 : wr (sv (sv μ4 126 (μ.1 111 39) r_5) 111 39 ((μ.1 111 39) + 1)) = wr μ := ((wr_cg (sv_n _ (by decide))).trans ((wr_cg (sv_n _ (fun h9 => absurd h9.1 (by decide)))).trans (wr_cg (hp_7 15 (by decide)))))
    have e_127 : bd (sv (sv μ4 126 (μ.1 111 39) r_5) 111 39 ((μ.1 111 39) + 1)) = bd μ := ((bd_cg (sv_n _ (by decide)) (sv_n _ (by decide)) (sv_n _ (by decide))).trans ((bd_cg (sv_n _ (fun h9 => absurd h9.1 (by decide))) (sv_n _ (fun h9 => absurd h9.1 (by decide))) (sv_n _ (fun h9 => absurd h9.1 (by decide)))).trans (bd_cg (hp_7 15 (by decide)) (hp_7 16 (by decide)) (hp_7 17 (by decide)))))
    have e_128 : nn (sv (sv μ4 126 (μ.1 111 39) r_5) 111 39 ((μ.1 111 39) + 1)) = nn μ := ((nn_cg (sv_n _ (by decide)) (sv_n _ (by decide))).trans ((nn_cg (sv_n _ (fun h9 => absurd h9.1 (by decide))) (sv_n _ (fun h9 => absurd h9.1 (by decide)))).trans (nn_cg (hp_7 15 (by decide)) (hp_7 18 (by decide)))))
    have e_129 : (sv (sv μ4 126 (μ.1 111 39) r_5) 111 39 ((μ.1 111 39) + 1)).1 111 29 = μ.1 111 29 := ((sv_n _ (by decide)).trans ((sv_n _ (fun h9 => absurd h9.1 (by decide))).trans (hp_7 29 (by decide))))
    have e_130 : wr (sv (sv μ4 126 (μ.1 111 39) r_5) 111 39 ((μ.1 111 39) + 1)) = wr μ := ((wr_cg (sv_n _ (by decide))).trans ((wr_cg (sv_n _ (fun h9 => absurd h9.1 (by decide)))).trans (wr_cg (hp_7 15 (by decide)))))
    have e_131 : bd (sv (sv μ4 126 (μ.1 111 39) r_5) 111 39 ((μ.1 111 39) + 1)) = bd μ := ((bd_cg (sv_n _ (by decide)) (sv_n _ (by decide)) (sv_n _ (by decide))).trans ((bd_cg (sv_n _ (fun h9 => absurd h9.1 (by decide))) (sv_n _ (fun h9 => absurd h9.1 (by decide))) (sv_n _ (fun h9 => absurd h9.1 (by decide)))).trans (bd_cg (hp_7 15 (by decide)) (hp_7 16 (by decide)) (hp_7 17 (by decide)))))
    have e_132 : nn (sv (sv μ4 126 (μ.1 111 39) r_5) 111 39 ((μ.1 111 39) + 1)) = nn μ := ((nn_cg (sv_n _ (by decide)) (sv_n _ (by decide))).trans ((nn_cg (sv_n _ (fun h9 => absurd h9.1 (by decide))) (sv_n _ (fun h9 => absurd h9.1 (by decide)))).trans (nn_cg (hp_7 15 (by decide)) (hp_7 18 (by decide)))))
    have e_134 : (sv (sv μ4 126 (μ.1 111 39) r_5) 111 39 ((μ.1 111 39) + 1)).1 111 29 = μ.1 111 29 := ((sv_n _ (by decide)).trans ((sv_n _ (fun h9 => absurd h9.1 (by decide))).trans (hp_7 29 (by decide))))
    have hX_133 : ∀ _ : Unit, bd (sv (sv μ4 126 (μ.1 111 39) r_5) 111 39 ((μ.1 111 39) + 1)) = 0 → mPX μo (sv (sv μ4 126 (μ.1 111 39) r_5) 111 39 ((μ.1 111 39) + 1)) tt 1 1 HH (lsk r_5 ++ (wls μ (μ.1 111 39) (μ.1 111 39) ++ [])) := fun _ h0 => (hX_15 () (by have e9 : bd μ4 = bd μ := (bd_cg (hp_7 15 (by decide)) (hp_7 16 (by decide)) (hp_7 17 (by decide))); have e8 : bd (sv (sv μ4 126 (μ.1 111 39) r_5) 111 39 ((μ.1 111 39) + 1)) = bd μ := ((bd_cg (sv_n _ (by decide)) (sv_n _ (by decide)) (sv_n _ (by decide))).trans ((bd_cg (sv_n _ (fun h9 => absurd h9.1 (by decide))) (sv_n _ (fun h9 => absurd h9.1 (by decide))) (sv_n _ (fun h9 => absurd h9.1 (by decide)))).trans (bd_cg (hp_7 15 (by decide)) (hp_7 16 (by decide)) (hp_7 17 (by decide))))); omega)).qm (q0m.fr (K := [111, 126]) (FrM.put (FrM.put FrM.rf (by decide)) (by decide)) (by decide) (by decide) (by decide) ((sv_n _ (by decide)).trans (sv_n _ (fun h9 => absurd h9.1 (by decide)))) (nS.le (by omega) (Int.le_of_eq (((((sv_n _ (by decide)).trans ((sv_n _ (fun h9 => absurd h9.1 (by decide))).trans (hp_7 31 (by decide))))).trans ((hp_7 31 (by decide))).symm)).symm)))
    have e_135 : (sv (sv μ4 126 (μ.1 111 39) r_5) 111 39 ((μ.1 111 39) + 1)).1 111 39 = (μ.1 111 39) + 1 := (sv_s _ _ _ _)
    have e_136 : (sv (sv μ4 126 (μ.1 111 39) r_5) 111 39 ((μ.1 111 39) + 1)).1 111 22 = μ4.1 111 22 := ((sv_n _ (by decide)).trans (sv_n _ (fun h9 => absurd h9.1 (by decide))))
    have e_137 : (sv (sv μ4 126 (μ.1 111 39) r_5) 111 39 ((μ.1 111 39) + 1)).1 111 29 = μ.1 111 29 := ((sv_n _ (by decide)).trans ((sv_n _ (fun h9 => absurd h9.1 (by decide))).trans (hp_7 29 (by decide))))
    have e_138 : (sv (sv μ4 126 (μ.1 111 39) r_5) 111 39 ((μ.1 111 39) + 1)).1 111 29 = μ.1 111 29 := ((sv_n _ (by decide)).trans ((sv_n _ (fun h9 => absurd h9.1 (by decide))).trans (hp_7 29 (by decide))))
    have hxt_139 : mEXT μ (sv (sv μ4 126 (μ.1 111 39) r_5) 111 39 ((μ.1 111 39) + 1)) := hxt_10.tr (q0m.fr (K := [111, 126]) (FrM.put (FrM.put FrM.rf (by decide)) (by decide)) (by decide) (by decide) (by decide) ((sv_n _ (by decide)).trans (sv_n _ (fun h9 => absurd h9.1 (by decide)))) (nS.le (by omega) (Int.le_of_eq (((((sv_n _ (by decide)).trans ((sv_n _ (fun h9 => absurd h9.1 (by decide))).trans (hp_7 31 (by decide))))).trans ((hp_7 31 (by decide))).symm)).symm))).1
    have e_140 : (sv (sv μ4 126 (μ.1 111 39) r_5) 111 39 ((μ.1 111 39) + 1)).1 111 14 = tt := ((sv_n _ (by decide)).trans ((sv_n _ (fun h9 => absurd h9.1 (by decide))).trans ((hp_7 14 (by decide)).trans htt.symm)))
    have hPM_141 : PM (sv (sv μ4 126 (μ.1 111 39) r_5) 111 39 ((μ.1 111 39) + 1)) := hPM.cg ((sv_n _ (by decide)).trans ((sv_n _ (fun h9 => absurd h9.1 (by decide))).trans (hp_7 4 (by decide)))) ((sv_n _ (by decide)).trans ((sv_n _ (fun h9 => absurd h9.1 (by decide))).trans (hp_7 6 (by decide)))) ((sv_n _ (by decide)).trans ((sv_n _ (fun h9 => absurd h9.1 (by decide))).trans (hp_7 7 (by decide)))) ((sv_n _ (by decide)).trans ((sv_n _ (fun h9 => absurd h9.1 (by decide))).trans (hp_7 8 (by decide)))) ((sv_n _ (by decide)).trans ((sv_n _ (fun h9 => absurd h9.1 (by decide))).trans (hp_7 9 (by decide)))) ((sv_n _ (by decide)).trans ((sv_n _ (fun h9 => absurd h9.1 (by decide))).trans (hp_7 11 (by decide)))) ((sv_n _ (by decide)).trans ((sv_n _ (fun h9 => absurd h9.1 (by decide))).trans (hp_7 12 (by decide)))) ((((sv_n _ (by decide)).trans ((sv_n _ (fun h9 => absurd h9.1 (by decide))).trans ((hp_7 14 (by decide)).trans htt.symm)))).trans (htt.symm).symm) ((sv_n _ (by decide)).trans ((sv_n _ (fun h9 => absurd h9.1 (by decide))).trans (hp_7 15 (by decide)))) ((sv_n _ (by decide)).trans ((sv_n _ (fun h9 => absurd h9.1 (by decide))).trans (hp_7 29 (by decide)))) (fun j => ((sv_n _ (by omega)).trans ((sv_n _ (by omega)).trans (F_6.1 123 (by decide) j))))
    have e_142 : wr (sv (sv μ4 126 (μ.1 111 39) r_5) 111 39 ((μ.1 111 39) + 1)) = wr μ := ((wr_cg (sv_n _ (by decide))).trans ((wr_cg (sv_n _ (fun h9 => absurd h9.1 (by decide)))).trans (wr_cg (hp_7 15 (by decide)))))
    have e_143 : nn (sv (sv μ4 126 (μ.1 111 39) r_5) 111 39 ((μ.1 111 39) + 1)) = nn μ := ((nn_cg (sv_n _ (by decide)) (sv_n _ (by decide))).trans ((nn_cg (sv_n _ (fun h9 => absurd h9.1 (by decide))) (sv_n _ (fun h9 => absurd h9.1 (by decide)))).trans (nn_cg (hp_7 15 (by decide)) (hp_7 18 (by decide)))))
    have e_144 : wr (sv (sv μ4 126 (μ.1 111 39) r_5) 111 39 ((μ.1 111 39) + 1)) = wr μ := ((wr_cg (sv_n _ (by decide))).trans ((wr_cg (sv_n _ (fun h9 => absurd h9.1 (by decide)))).trans (wr_cg (hp_7 15 (by decide)))))
    have e_145 : nn (sv (sv μ4 126 (μ.1 111 39) r_5) 111 39 ((μ.1 111 39) + 1)) = nn μ := ((nn_cg (sv_n _ (by decide)) (sv_n _ (by decide))).trans ((nn_cg (sv_n _ (fun h9 => absurd h9.1 (by decide))) (sv_n _ (fun h9 => absurd h9.1 (by decide)))).trans (nn_cg (hp_7 15 (by decide)) (hp_7 18 (by decide)))))
    have e_146 : (sv (sv μ4 126 (μ.1 111 39) r_5) 111 39 ((μ.1 111 39) + 1)).1 111 22 = μ4.1 111 22 := ((sv_n _ (by decide)).trans (sv_n _ (fun h9 => absurd h9.1 (by decide))))
    have e_147 : (sv (sv μ4 126 (μ.1 111 39) r_5) 111 39 ((μ.1 111 39) + 1)).1 111 22 = μ4.1 111 22 := ((sv_n _ (by decide)).trans (sv_n _ (fun h9 => absurd h9.1 (by decide))))
    have e_148 : (sv (sv μ4 126 (μ.1 111 39) r_5) 111 39 ((μ.1 111 39) + 1)).1 111 9 = μ.1 111 9 := ((sv_n _ (by decide)).trans ((sv_n _ (fun h9 => absurd h9.1 (by decide))).trans (hp_7 9 (by decide))))
    have e_149 : wr (sv (sv μ4 126 (μ.1 111 39) r_5) 111 39 ((μ.1 111 39) + 1)) = wr μ := ((wr_cg (sv_n _ (by decide))).trans ((wr_cg (sv_n _ (fun h9 => absurd h9.1 (by decide)))).trans (wr_cg (hp_7 15 (by decide)))))
    have e_150 : (sv (sv μ4 126 (μ.1 111 39) r_5) 111 39 ((μ.1 111 39) + 1)).1 111 39 = (μ.1 111 39) + 1 := (sv_s _ _ _ _)
    have e_151 : (sv (sv μ4 126 (μ.1 111 39) r_5) 111 39 ((μ.1 111 39) + 1)).1 111 39 = (μ.1 111 39) + 1 := (sv_s _ _ _ _)
    have e_152 : (sv (sv μ4 126 (μ.1 111 39) r_5) 111 39 ((μ.1 111 39) + 1)).1 111 22 = μ4.1 111 22 := ((sv_n _ (by decide)).trans (sv_n _ (fun h9 => absurd h9.1 (by decide))))
    have e_153 : (sv (sv μ4 126 (μ.1 111 39) r_5) 111 39 ((μ.1 111 39) + 1)).1 111 31 = μ.1 111 31 := ((sv_n _ (by decide)).trans ((sv_n _ (fun h9 => absurd h9.1 (by decide))).trans (hp_7 31 (by decide))))
    have e_154 : (sv (sv μ4 126 (μ.1 111 39) r_5) 111 39 ((μ.1 111 39) + 1)).1 111 31 = μ.1 111 31 := ((sv_n _ (by decide)).trans ((sv_n _ (fun h9 => absurd h9.1 (by decide))).trans (hp_7 31 (by decide))))
    have e_155 : nn (sv (sv μ4 126 (μ.1 111 39) r_5) 111 39 ((μ.1 111 39) + 1)) = nn μ := ((nn_cg (sv_n _ (by decide)) (sv_n _ (by decide))).trans ((nn_cg (sv_n _ (fun h9 => absurd h9.1 (by decide))) (sv_n _ (fun h9 => absurd h9.1 (by decide)))).trans (nn_cg (hp_7 15 (by decide)) (hp_7 18 (by decide)))))
    have e_156 : (sv (sv μ4 126 (μ.1 111 39) r_5) 111 39 ((μ.1 111 39) + 1)).1 111 39 = (μ.1 111 39) + 1 := (sv_s _ _ _ _)
    have e_157 : (sv (sv μ4 126 (μ.1 111 39) r_5) 111 39 ((μ.1 111 39) + 1)).1 111 39 = (μ.1 111 39) + 1 := (sv_s _ _ _ _)
    have e_158 : (sv (sv μ4 126 (μ.1 111 39) r_5) 111 39 ((μ.1 111 39) + 1)).1 111 39 = (μ.1 111 39) + 1 := (sv_s _ _ _ _)
    have e_159 : (sv (sv μ4 126 (μ.1 111 39) r_5) 111 39 ((μ.1 111 39) + 1)).1 111 22 = μ4.1 111 22 := ((sv_n _ (by decide)).trans (sv_n _ (fun h9 => absurd h9.1 (by decide))))
    have e_160 : (sv (sv μ4 126 (μ.1 111 39) r_5) 111 39 ((μ.1 111 39) + 1)).1 111 22 = μ4.1 111 22 := ((sv_n _ (by decide)).trans (sv_n _ (fun h9 => absurd h9.1 (by decide))))
    have e_161 : (sv (sv μ4 126 (μ.1 111 39) r_5) 111 39 ((μ.1 111 39) + 1)).1 111 22 = μ4.1 111 22 := ((sv_n _ (by decide)).trans (sv_n _ (fun h9 => absurd h9.1 (by decide))))
    have e_162 : nn (sv (sv μ4 126 (μ.1 111 39) r_5) 111 39 ((μ.1 111 39) + 1)) = nn μ := ((nn_cg (sv_n _ (by decide)) (sv_n _ (by decide))).trans ((nn_cg (sv_n _ (fun h9 => absurd h9.1 (by decide))) (sv_n _ (fun h9 => absurd h9.1 (by decide)))).trans (nn_cg (hp_7 15 (by decide)) (hp_7 18 (by decide)))))
    have e_163 : (sv (sv μ4 126 (μ.1 111 39) r_5) 111 39 ((μ.1 111 39) + 1)).1 111 22 = μ4.1 111 22 := ((sv_n _ (by decide)).trans (sv_n _ (fun h9 => absurd h9.1 (by decide))))
    have e_164 : (sv (sv μ4 126 (μ.1 111 39) r_5) 111 39 ((μ.1 111 39) + 1)).1 111 22 = μ4.1 111 22 := ((sv_n _ (by decide)).trans (sv_n _ (fun h9 => absurd h9.1 (by decide))))
    have e_165 : (sv (sv μ4 126 (μ.1 111 39) r_5) 111 39 ((μ.1 111 39) + 1)).1 111 9 = μ.1 111 9 := ((sv_n _ (by decide)).trans ((sv_n _ (fun h9 => absurd h9.1 (by decide))).trans (hp_7 9 (by decide))))
    have e_166 : (sv (sv μ4 126 (μ.1 111 39) r_5) 111 39 ((μ.1 111 39) + 1)).1 111 9 = μ.1 111 9 := ((sv_n _ (by decide)).trans ((sv_n _ (fun h9 => absurd h9.1 (by decide))).trans (hp_7 9 (by decide))))
    have e_167 : (sv (sv μ4 126 (μ.1 111 39) r_5) 111 39 ((μ.1 111 39) + 1)).1 111 29 = μ.1 111 29 := ((sv_n _ (by decide)).trans ((sv_n _ (fun h9 => absurd h9.1 (by decide))).trans (hp_7 29 (by decide))))
    have e_168 : wr (sv (sv μ4 126 (μ.1 111 39) r_5) 111 39 ((μ.1 111 39) + 1)) = wr μ := ((wr_cg (sv_n _ (by decide))).trans ((wr_cg (sv_n _ (fun h9 => absurd h9.1 (by decide)))).trans (wr_cg (hp_7 15 (by decide)))))
    have e_169 : bd (sv (sv μ4 126 (μ.1 111 39) r_5) 111 39 ((μ.1 111 39) + 1)) = bd μ := ((bd_cg (sv_n _ (by decide)) (sv_n _ (by decide)) (sv_n _ (by decide))).trans ((bd_cg (sv_n _ (fun h9 => absurd h9.1 (by decide))) (sv_n _ (fun h9 => absurd h9.1 (by decide))) (sv_n _ (fun h9 => absurd h9.1 (by decide)))).trans (bd_cg (hp_7 15 (by decide)) (hp_7 16 (by decide)) (hp_7 17 (by decide)))))
    have e_170 : nn (sv (sv μ4 126 (μ.1 111 39) r_5) 111 39 ((μ.1 111 39) + 1)) = nn μ := ((nn_cg (sv_n _ (by decide)) (sv_n _ (by decide))).trans ((nn_cg (sv_n _ (fun h9 => absurd h9.1 (by decide))) (sv_n _ (fun h9 => absurd h9.1 (by decide)))).trans (nn_cg (hp_7 15 (by decide)) (hp_7 18 (by decide)))))
    have e_171 : (sv (sv μ4 126 (μ.1 111 39) r_5) 111 39 ((μ.1 111 39) + 1)).1 111 39 = (μ.1 111 39) + 1 := (sv_s _ _ _ _)
    refine xc_iV G (b := 111) (rest := []) (As := [.int (iv 1)]) (c_X12_arguments ω l (sv (sv μ4 126 (μ.1 111 39) r_5) 111 39 ((μ.1 111 39) + 1)) 1 F Lo Fu Lu kf μo (HH) (μ.1 111 39) (μ.1 111 22) tt (by unfold ir; omega) (by omega) hF hLo hFu hLu hE hU hPM_141 (by omega) (by omega) (by omega) (by omega) (by omega) (by omega) (by omega) (by omega) (by omega) (fun j h1 h2 => by rcases Int.lt_or_le j (μ.1 111 39) with h9 | h9; (have b9 := hwk j h1 h9; rw [show (sv (sv μ4 126 (μ.1 111 39) r_5) 111 39 ((μ.1 111 39) + 1)).1 126 j = μ.1 126 j from ((sv_n _ (fun h9 => absurd h9.1 (by decide))).trans ((sv_n _ (by omega)).trans (F_6.1 126 (by decide) j)))]; exact ⟨b9.1, by omega⟩); (rw [show j = μ.1 111 39 by omega, show (sv (sv μ4 126 (μ.1 111 39) r_5) 111 39 ((μ.1 111 39) + 1)).1 126 (μ.1 111 39) = r_5 from ((sv_n _ (fun h9 => absurd h9.1 (by decide))).trans (sv_s _ _ _ _))]; omega)) (fun _ h0 => (((hX_133 ()) h0).ee (by omega)).mem (fun i => wls_new (by omega) (fun j h1 h9 => ((sv_n _ (fun h9 => absurd h9.1 (by decide))).trans ((sv_n _ (by omega)).trans (F_6.1 126 (by decide) j)))) (by omega) (by rw [show μ.1 111 39 = μ.1 111 39 by omega]; exact ((sv_n _ (fun h9 => absurd h9.1 (by decide))).trans (sv_s _ _ _ _))) (by omega))) (by omega)) (wm 9 183 rfl rfl) (wm 9 185 rfl rfl) (wm 0 158 rfl rfl) rfl rfl (by decide) rfl (wm 1 18 rfl rfl) (wm 9 186 rfl rfl) (by decide) hR ⟨sfr (F := F) (a := 1) (by decide), slo (L := Lo) (m := 5) (a := 20) (by decide)⟩ (n := 1) rfl rfl (Nat.le_of_ble_eq_true rfl) hl.1 dX12_bang_38 (fun r_173 μ172 ρ d0 H locs hr_r_173 hp G => ?_)
    have hr_r_173 : -2147483648 ≤ r_173 ∧ r_173 ≤ 2147483647 := hr_r_173
    obtain ⟨F_174, hp_175, hp_176, hp_177, hp_178, hp_179, hp_180, hp_181, hp_182, hp_183, hp_184, hp_185, hp_186, hp_187⟩ := hp
    have hpl_188 := hp_176.pl
    have hw_189 := wr_r (μ := μ172)
    have hxt_190 : mEXT μ μ172 := hxt_139.tr hp_187
    have hX_191 : ∀ _ : Unit, bd μ172 = 0 → mPX μo μ172 tt (1 + r_173) 1 HH (wls μ172 (μ.1 111 39) (μ172.1 111 39) ++ []) := fun _ h0 => (by rw [List.append_nil]; exact hp_186 () h0)
    refine lv_istore_n (lv' := [(3, .int (iv r_173)), (2, .int (iv r_5)), (1, .int (iv (μ.1 111 39))), (0, .ref (oP ω 111))]) hx hb dX12_bang_41 rfl hl (by decide) rfl (fun ls hl => ?_)
    refine lv_aload_n hx hb dX12_bang_42 rfl (lv_at hl 3 rfl) ?_
    refine lv_bipush (v := iv 26) hx hb dX12_bang_43 rfl ?_
    refine lv_lconst (v := jv 0) hx hb dX12_bang_45 rfl ?_
    refine lv_iload_n hx hb dX12_bang_46 rfl (lv_at hl 0 rfl) ?_
    refine xc_iV G (b := 111) (rest := []) (As := [.int (iv 26), .long (jv 0), .int (iv r_173)]) (c_X12_emit ω l μ172 26 0 r_173 (by unfold ir; omega) (by unfold jr; omega) (by unfold ir; omega) (by omega)) (wm 9 126 rfl rfl) (wm 9 128 rfl rfl) (wm 0 144 rfl rfl) rfl rfl (by decide) rfl (wm 1 18 rfl rfl) (wm 9 129 rfl rfl) (by decide) hR ⟨nfr hF (by decide), nlo hLo (by decide)⟩ (n := 3) rfl rfl (Nat.le_of_ble_eq_true rfl) hl.1 dX12_bang_47 (fun r_193 μ192 ρ d0 H locs hr_r_193 hp G => ?_)
    have hr_r_193 : -2147483648 ≤ r_193 ∧ r_193 ≤ 2147483647 := hr_r_193
    obtain ⟨F_194, hp_195, hp_196, hp_197, hp_198⟩ := hp
    have hxt_199 : mEXT μ μ192 := hxt_190.tr hp_196.1
    have e_200 : wr μ192 = wr μ172 := (wr_cg (hp_195 15 (by decide)))
    have e_201 : bd μ192 = bd μ172 := (bd_cg (hp_195 15 (by decide)) (hp_195 16 (by decide)) (hp_195 17 (by decide)))
    have e_202 : nn μ192 = nn μ172 := (nn_cg (hp_195 15 (by decide)) (hp_195 18 (by decide)))
    have e_204 : μ192.1 111 29 = μ172.1 111 29 := (hp_195 29 (by decide))
    have hX_203 : ∀ _ : Unit, bd μ192 = 0 → mPX μo μ192 tt ((1 + r_173) + (- r_173)) 1 HH (wls μ172 (μ.1 111 39) (μ172.1 111 39) ++ []) := fun _ h0 => ((((hX_191 ()) (by have e9 : bd μ172 = bd μ172 := rfl; have e8 : bd μ192 = bd μ172 := (bd_cg (hp_195 15 (by decide)) (hp_195 16 (by decide)) (hp_195 17 (by decide))); omega))).app (mAD.ex (t := tt) (e := - r_173) hp_196 ((hX_191 ()) (by have e9 : bd μ172 = bd μ172 := rfl; have e8 : bd μ192 = bd μ172 := (bd_cg (hp_195 15 (by decide)) (hp_195 16 (by decide)) (hp_195 17 (by decide))); omega)).h1.1 (by unfold mpl; omega) (by show - _ = _; omega) (by have h9 := ((hX_191 ()) (by have e9 : bd μ172 = bd μ172 := rfl; have e8 : bd μ192 = bd μ172 := (bd_cg (hp_195 15 (by decide)) (hp_195 16 (by decide)) (hp_195 17 (by decide))); omega)).h1; omega) ⟨fun q => absurd q (by decide), ⟨fun q => absurd q (by decide), fun q => absurd q (by decide)⟩, fun q => absurd q (by decide), fun q => absurd q (by decide), fun q => absurd q (by decide), fun q => absurd q (by decide), fun q => absurd q (by decide), fun q => absurd q (by decide), fun q => absurd q (by decide), fun q => absurd q (by decide), fun q => absurd q (by decide), fun q => absurd q (by decide), fun q => absurd q (by decide), fun q => absurd q (by decide), fun q => absurd q (by decide), fun q => absurd q (by decide), fun q => absurd q (by decide), fun _ => ⟨by omega, by omega, by have h9 := ((hX_191 ()) (by have e9 : bd μ172 = bd μ172 := rfl; have e8 : bd μ192 = bd μ172 := (bd_cg (hp_195 15 (by decide)) (hp_195 16 (by decide)) (hp_195 17 (by decide))); omega)).h1; rw [(hp_196.1.fo (t := tt) _ (Int.le_refl _)).1]; omega⟩, fun q => absurd q (by decide), fun q => absurd q (by decide), fun q => absurd q (by decide), ⟨fun q => absurd q (by decide), fun q => absurd q (by decide), fun q => absurd q (by decide)⟩, ⟨by decide, by decide⟩⟩) (by have h9 := ((hX_191 ()) (by have e9 : bd μ172 = bd μ172 := rfl; have e8 : bd μ192 = bd μ172 := (bd_cg (hp_195 15 (by decide)) (hp_195 16 (by decide)) (hp_195 17 (by decide))); omega)).h1; omega)).ee (by omega)
    refine lv_pop hx hb dX12_bang_50 rfl ?_
    refine lv_aload_n hx hb dX12_bang_51 rfl (lv_at hl 3 rfl) ?_
    refine lv_iload_n hx hb dX12_bang_52 rfl (lv_at hl 2 rfl) ?_
    have e_205 : μ192.1 111 39 = μ172.1 111 39 := (hp_195 39 (by decide))
    have e_206 : wr μ192 = wr μ172 := (wr_cg (hp_195 15 (by decide)))
    have e_207 : bd μ192 = bd μ172 := (bd_cg (hp_195 15 (by decide)) (hp_195 16 (by decide)) (hp_195 17 (by decide)))
    have e_208 : nn μ192 = nn μ172 := (nn_cg (hp_195 15 (by decide)) (hp_195 18 (by decide)))
    have e_209 : μ192.1 111 39 = μ172.1 111 39 := (hp_195 39 (by decide))
    have hwl_210 : ∀ j, (μ.1 111 39) ≤ j → j < μ192.1 111 39 → μ.1 111 22 ≤ μ192.1 126 j ∧ μ192.1 126 j < μ192.1 111 22 := (fun j h1 h2 => by rcases Int.lt_or_le j (μ172.1 111 39) with h9 | h9; (have b9 := hp_185 j h1 h9; rw [show μ192.1 126 j = μ172.1 126 j from (F_194.1 126 (by decide) j)]; exact ⟨b9.1, by omega⟩); (omega))
    have e_211 : μ192.1 111 29 = μ172.1 111 29 := (hp_195 29 (by decide))
    have e_212 : μ192.1 111 39 = μ172.1 111 39 := (hp_195 39 (by decide))
    have e_213 : μ192.1 111 39 = μ172.1 111 39 := (hp_195 39 (by decide))
    have e_214 : μ192.1 111 39 = μ172.1 111 39 := (hp_195 39 (by decide))
    have e_215 : μ192.1 111 39 = μ172.1 111 39 := (hp_195 39 (by decide))
    have e_216 : μ192.1 111 39 = μ172.1 111 39 := (hp_195 39 (by decide))
    have e_217 : μ192.1 111 39 = μ172.1 111 39 := (hp_195 39 (by decide))
    have e_218 : μ192.1 111 39 = μ172.1 111 39 := (hp_195 39 (by decide))
    refine xc_vV G (b := 111) (rest := []) (As := [.int (iv (μ.1 111 39))]) (c_X12_landsFrom ω l μ192 (μ.1 111 39) (by unfold ir; omega) (by omega) (by omega) (fun j h1 h2 => by have b9 := (hwl_210) j h1 h2; omega)) (wm 9 187 rfl rfl) (wm 9 189 rfl rfl) (wm 0 159 rfl rfl) rfl rfl (by decide) rfl (wm 1 18 rfl rfl) (wm 9 190 rfl rfl) (by decide) hR ⟨nfr hF (by decide), nlo hLo (by decide)⟩ (n := 1) rfl rfl (Nat.le_of_ble_eq_true rfl) hl.1 dX12_bang_53 (fun μ219 ρ d0 H locs hp G => ?_)
    obtain ⟨F_220, hp_221, hp_222, hp_223⟩ := hp
    have hxt_224 : mEXT μ μ219 := hxt_199.am hp_222 (fun i hi => by obtain ⟨j9, hj9, hi9⟩ := mem_wls.1 hi; have b9 := (hwl_210) j9 hj9.1 (by omega); omega)
    have e_225 : wr μ219 = wr μ172 := ((wr_cg (hp_221 15 (by decide))).trans (wr_cg (hp_195 15 (by decide))))
    have e_226 : bd μ219 = bd μ172 := ((bd_cg (hp_221 15 (by decide)) (hp_221 16 (by decide)) (hp_221 17 (by decide))).trans (bd_cg (hp_195 15 (by decide)) (hp_195 16 (by decide)) (hp_195 17 (by decide))))
    have e_227 : nn μ219 = nn μ172 := ((nn_cg (hp_221 15 (by decide)) (hp_221 18 (by decide))).trans (nn_cg (hp_195 15 (by decide)) (hp_195 18 (by decide))))
    have e_229 : μ219.1 111 29 = μ172.1 111 29 := ((hp_221 29 (by decide)).trans (hp_195 29 (by decide)))
    have hX_228 : ∀ _ : Unit, bd μ219 = 0 → mPX μo μ219 tt 1 1 HH [] := fun _ h0 => mPX.of (as_call ((hX_203 ()) (by have e9 : bd μ192 = bd μ172 := (bd_cg (hp_195 15 (by decide)) (hp_195 16 (by decide)) (hp_195 17 (by decide))); have e8 : bd μ219 = bd μ172 := ((bd_cg (hp_221 15 (by decide)) (hp_221 16 (by decide)) (hp_221 17 (by decide))).trans (bd_cg (hp_195 15 (by decide)) (hp_195 16 (by decide)) (hp_195 17 (by decide)))); omega)) (by omega) hp_222 rfl (fun i => wls_cg (fun j h1 h9 => (F_194.1 126 (by decide) j)) (by omega)))
    have e_230 : μ219.1 111 22 = μ192.1 111 22 := (hp_221 22 (by decide))
    have e_231 : μ219.1 111 9 = μ172.1 111 9 := ((hp_221 9 (by decide)).trans (hp_195 9 (by decide)))
    have e_232 : μ219.1 111 29 = μ172.1 111 29 := ((hp_221 29 (by decide)).trans (hp_195 29 (by decide)))
    have e_233 : wr μ219 = wr μ172 := ((wr_cg (hp_221 15 (by decide))).trans (wr_cg (hp_195 15 (by decide))))
    have e_234 : bd μ219 = bd μ172 := ((bd_cg (hp_221 15 (by decide)) (hp_221 16 (by decide)) (hp_221 17 (by decide))).trans (bd_cg (hp_195 15 (by decide)) (hp_195 16 (by decide)) (hp_195 17 (by decide))))
    have e_235 : nn μ219 = nn μ172 := ((nn_cg (hp_221 15 (by decide)) (hp_221 18 (by decide))).trans (nn_cg (hp_195 15 (by decide)) (hp_195 18 (by decide))))
    have hPM_236 : PM μ219 := hp_176.cg ((((hp_221 4 (by decide)).trans ((hp_195 4 (by decide)).trans ((hp_175 4 (by decide)).trans ((sv_n _ (by decide)).trans ((sv_n _ (fun h9 => absurd h9.1 (by decide))).trans (hp_7 4 (by decide)))))))).trans (((hp_175 4 (by decide)).trans ((sv_n _ (by decide)).trans ((sv_n _ (fun h9 => absurd h9.1 (by decide))).trans (hp_7 4 (by decide)))))).symm) ((hp_221 6 (by decide)).trans (hp_195 6 (by decide))) ((((hp_221 7 (by decide)).trans ((hp_195 7 (by decide)).trans ((hp_175 7 (by decide)).trans ((sv_n _ (by decide)).trans ((sv_n _ (fun h9 => absurd h9.1 (by decide))).trans (hp_7 7 (by decide)))))))).trans (((hp_175 7 (by decide)).trans ((sv_n _ (by decide)).trans ((sv_n _ (fun h9 => absurd h9.1 (by decide))).trans (hp_7 7 (by decide)))))).symm) ((hp_221 8 (by decide)).trans (hp_195 8 (by decide))) ((hp_221 9 (by decide)).trans (hp_195 9 (by decide))) ((hp_221 11 (by decide)).trans (hp_195 11 (by decide))) ((hp_221 12 (by decide)).trans (hp_195 12 (by decide))) ((((hp_221 14 (by decide)).trans ((hp_195 14 (by decide)).trans ((hp_175 14 (by decide)).trans ((sv_n _ (by decide)).trans ((sv_n _ (fun h9 => absurd h9.1 (by decide))).trans ((hp_7 14 (by decide)).trans htt.symm))))))).trans (((hp_175 14 (by decide)).trans ((sv_n _ (by decide)).trans ((sv_n _ (fun h9 => absurd h9.1 (by decide))).trans ((hp_7 14 (by decide)).trans htt.symm))))).symm) ((hp_221 15 (by decide)).trans (hp_195 15 (by decide))) ((hp_221 29 (by decide)).trans (hp_195 29 (by decide))) (fun j => ((F_220.1 123 (by decide) j).trans (F_194.1 123 (by decide) j)))
    have e_237 : μ219.1 111 22 = μ192.1 111 22 := (hp_221 22 (by decide))
    have e_238 : μ219.1 111 22 = μ192.1 111 22 := (hp_221 22 (by decide))
    have e_239 : μ219.1 111 9 = μ172.1 111 9 := ((hp_221 9 (by decide)).trans (hp_195 9 (by decide)))
    have e_240 : wr μ219 = wr μ172 := ((wr_cg (hp_221 15 (by decide))).trans (wr_cg (hp_195 15 (by decide))))
    have e_241 : μ219.1 111 9 = μ172.1 111 9 := ((hp_221 9 (by decide)).trans (hp_195 9 (by decide)))
    have e_242 : μ219.1 111 29 = μ172.1 111 29 := ((hp_221 29 (by decide)).trans (hp_195 29 (by decide)))
    have e_243 : wr μ219 = wr μ172 := ((wr_cg (hp_221 15 (by decide))).trans (wr_cg (hp_195 15 (by decide))))
    have e_244 : bd μ219 = bd μ172 := ((bd_cg (hp_221 15 (by decide)) (hp_221 16 (by decide)) (hp_221 17 (by decide))).trans (bd_cg (hp_195 15 (by decide)) (hp_195 16 (by decide)) (hp_195 17 (by decide))))
    have e_245 : wr μ219 = wr μ172 := ((wr_cg (hp_221 15 (by decide))).trans (wr_cg (hp_195 15 (by decide))))
    have e_246 : nn μ219 = nn μ172 := ((nn_cg (hp_221 15 (by decide)) (hp_221 18 (by decide))).trans (nn_cg (hp_195 15 (by decide)) (hp_195 18 (by decide))))
    exact xr_v G hret hlk dX12_bang_56 ⟨(FrM.tr (FrM.tr (FrM.tr (FrM.put (FrM.put (FrM.tr FrM.rf F_6 (by decide)) (by decide)) (by decide)) F_174 (by decide)) F_194 (by decide)) F_220 (by decide)), (fun j hj => ((hp_221 j (fun h9 => hj ((by decide : ∀ x ∈ ([39] : List Int), x ∈ ([6, 8, 9, 10, 11, 12, 13, 15, 16, 17, 18, 22, 29, 39] : List Int)) j h9))).trans ((hp_195 j (fun h9 => hj ((by decide : ∀ x ∈ ([22] : List Int), x ∈ ([6, 8, 9, 10, 11, 12, 13, 15, 16, 17, 18, 22, 29, 39] : List Int)) j h9))).trans ((hp_175 j (fun h9 => hj ((by decide : ∀ x ∈ ([6, 8, 9, 10, 11, 12, 13, 15, 16, 17, 18, 22, 29, 39] : List Int), x ∈ ([6, 8, 9, 10, 11, 12, 13, 15, 16, 17, 18, 22, 29, 39] : List Int)) j h9))).trans ((sv_n _ (fun h9 => hj (by rw [h9.2]; decide))).trans ((sv_n _ (fun h9 => absurd h9.1 (by decide))).trans (hp_7 j (fun h9 => hj ((by decide : ∀ x ∈ ([22] : List Int), x ∈ ([6, 8, 9, 10, 11, 12, 13, 15, 16, 17, 18, 22, 29, 39] : List Int)) j h9))))))))), hPM_236, (by omega), (by omega), (by omega), (by omega), (by omega), (by omega), (fun j hj => ((F_220.1 126 (by decide) j).trans ((F_194.1 126 (by decide) j).trans ((hp_183 j (by omega)).trans ((sv_n _ (fun h9 => absurd h9.1 (by decide))).trans ((sv_n _ (by omega)).trans (F_6.1 126 (by decide) j))))))), (fun _ h0 => (mPX.ex ((hX_228 ()) h0)).e (by omega)), hxt_224⟩

set_option maxHeartbeats 4000000 in
set_option maxRecDepth 100000 in
theorem c_X12_primary (ω : Om) (l : Launch) (μ : M3) (x1 : Int) (x2 : Int) (F : Nat) (Lo : Nat) (Fu : Nat) (Lu : Nat) (kf : Int) (tt : Int) (hx1 : ir x1) (hx2 : jr x2) (htt : tt = μ.1 111 14) (hF : 60 ≤ F) (hLo : 2000 ≤ Lo) (hFu : Fu ≤ F) (hLu : Lu ≤ Lo) (hE : ∀ (μ : M3) (tt : Int) (htt : tt = μ.1 111 14) (hPM : PM μ) (hnn : 0 ≤ nn μ ∧ nn μ ≤ 9 ∧ 9 * wr μ ≤ nn μ) (hn8 : nn μ ≤ 8 + wr μ) (hcd : 0 ≤ μ.1 111 22 ∧ μ.1 111 22 ≤ 2 * μ.1 111 9 + 200 + 40 * wr μ) (hW : 0 ≤ μ.1 111 39 ∧ μ.1 111 39 ≤ μ.1 111 22) (hsl : 0 ≤ μ.1 111 31 ∧ μ.1 111 31 ≤ 300) (hfu : 0 ≤ (kf - 1) ∧ 9 ≤ nn μ + (kf - 1)) (hH0 : ∀ _ : Unit, bd μ = 0 → mH0 μ), CtV ω l yX12_expr cX12_expr 1 (F + 0) (Lo + 0) [.ref (oP ω 111)] μ (fun (μ' : M3) => (FrM [111, 113, 115, 116, 117, 123, 126] μ μ') ∧ (∀ j, j ∉ ([6, 8, 9, 10, 11, 12, 13, 15, 16, 17, 18, 22, 29, 39] : List Int) → μ'.1 111 j = μ.1 111 j) ∧ (PM μ') ∧ (μ.1 111 22 ≤ μ'.1 111 22 ∧ μ'.1 111 22 ≤ μ.1 111 22 + 2 * (μ'.1 111 9 - μ.1 111 9) + (- 1 + 3 * wr μ' - 2 * wr μ)) ∧ (μ.1 111 9 ≤ μ'.1 111 9) ∧ (μ.1 111 29 ≤ μ'.1 111 29) ∧ (wr μ ≤ wr μ' ∧ bd μ ≤ bd μ') ∧ (nn μ ≤ nn μ' ∧ nn μ' ≤ nn μ + 9 * wr μ' ∧ nn μ' ≤ 9 ∧ 9 * wr μ' ≤ nn μ') ∧ (μ'.1 111 39 = μ.1 111 39) ∧ (∀ j, j < μ.1 111 39 → μ'.1 126 j = μ.1 126 j) ∧ (∀ _ : Unit, bd μ' = 0 → mEX μ μ' tt 1 0 (11 * (9 - nn μ))) ∧ (mEXT μ μ'))) (hU : ∀ (μ : M3) (tt : Int) (htt : tt = μ.1 111 14) (hPM : PM μ) (hnn : 0 ≤ nn μ ∧ nn μ ≤ 9 ∧ 9 * wr μ ≤ nn μ) (hn8 : nn μ ≤ 8 + wr μ) (hcd : 0 ≤ μ.1 111 22 ∧ μ.1 111 22 ≤ 2 * μ.1 111 9 + 200 + 40 * wr μ) (hW : 0 ≤ μ.1 111 39 ∧ μ.1 111 39 ≤ μ.1 111 22) (hsl : 0 ≤ μ.1 111 31 ∧ μ.1 111 31 ≤ 300) (hfu : 0 ≤ (kf - 1) ∧ 9 ≤ nn μ + (kf - 1)) (hH0 : ∀ _ : Unit, bd μ = 0 → mH0 μ), CtV ω l yX12_unary cX12_unary 6 (Fu + 0) (Lu + 0) [.ref (oP ω 111)] μ (fun (μ' : M3) => (FrM [111, 113, 115, 116, 117, 123, 126] μ μ') ∧ (∀ j, j ∉ ([6, 8, 9, 10, 11, 12, 13, 15, 16, 17, 18, 22, 29, 39] : List Int) → μ'.1 111 j = μ.1 111 j) ∧ (PM μ') ∧ (μ.1 111 22 ≤ μ'.1 111 22 ∧ μ'.1 111 22 ≤ μ.1 111 22 + 2 * (μ'.1 111 9 - μ.1 111 9) + (- 1 + 3 * wr μ' - 2 * wr μ)) ∧ (μ.1 111 9 ≤ μ'.1 111 9) ∧ (μ.1 111 29 ≤ μ'.1 111 29) ∧ (wr μ ≤ wr μ' ∧ bd μ ≤ bd μ') ∧ (nn μ ≤ nn μ' ∧ nn μ' ≤ nn μ + 9 * wr μ' ∧ nn μ' ≤ 9 ∧ 9 * wr μ' ≤ nn μ') ∧ (μ'.1 111 39 = μ.1 111 39) ∧ (∀ j, j < μ.1 111 39 → μ'.1 126 j = μ.1 126 j) ∧ (∀ _ : Unit, bd μ' = 0 → mEX μ μ' tt 1 0 (11 * (9 - nn μ) - 3)) ∧ (mEXT μ μ'))) (hPM : PM μ) (hnn : 0 ≤ nn μ ∧ nn μ ≤ 9 ∧ 9 * wr μ ≤ nn μ) (hn8 : nn μ ≤ 8 + wr μ) (hcd : 0 ≤ μ.1 111 22 ∧ μ.1 111 22 ≤ 2 * μ.1 111 9 + 198 + 40 * wr μ) (hW : 0 ≤ μ.1 111 39 ∧ μ.1 111 39 ≤ μ.1 111 22) (hsl : 0 ≤ μ.1 111 31 ∧ μ.1 111 31 ≤ 300) (hfu : 0 ≤ kf ∧ 9 ≤ nn μ + kf) (hH0 : ∀ _ : Unit, bd μ = 0 → mH0 μ) (hx1n : 0 ≤ x1) : CtV ω l yX12_primary cX12_primary 4 (F + 3) (Lo + 70) [.ref (oP ω 111), .int (iv x1), .long (jv x2)] μ (fun (μ' : M3) => (FrM [111, 113, 115, 116, 117, 123, 126] μ μ') ∧ (∀ j, j ∉ ([6, 8, 9, 10, 11, 12, 13, 15, 16, 17, 18, 22, 29, 39] : List Int) → μ'.1 111 j = μ.1 111 j) ∧ (PM μ') ∧ (μ.1 111 22 ≤ μ'.1 111 22 ∧ μ'.1 111 22 ≤ μ.1 111 22 + 2 * (μ'.1 111 9 - μ.1 111 9) + (1 + 3 * wr μ')) ∧ (μ.1 111 9 ≤ μ'.1 111 9) ∧ (μ.1 111 29 ≤ μ'.1 111 29) ∧ (wr μ ≤ wr μ' ∧ bd μ ≤ bd μ') ∧ (nn μ ≤ nn μ' ∧ nn μ' ≤ nn μ + 9 * wr μ' ∧ nn μ' ≤ 9 ∧ 9 * wr μ' ≤ nn μ') ∧ (μ'.1 111 39 = μ.1 111 39) ∧ (∀ j, j < μ.1 111 39 → μ'.1 126 j = μ.1 126 j) ∧ (∀ _ : Unit, bd μ' = 0 → mEX μ μ' tt 1 0 (11 * (9 - nn μ) - 3)) ∧ (mEXT μ μ')) := by
  refine CtV.go (by decide) (Nat.le_of_ble_eq_true rfl) (fun ρ p e s m below meth c R ls G hR hret hlk hl => ?_)
  have hx := G.1.1
  have hb := G.1.2.1
  have hl : lv_has ls 4 [(0, .ref (oP ω 111)), (1, .int (iv x1)), (2, .long (jv x2))] := hl
  generalize s.drawn = d0 at G ⊢
  have hr_x1 : -2147483648 ≤ x1 ∧ x1 ≤ 2147483647 := hx1
  have hw_0 := wr_r (μ := μ)
  have hpp_ := hPM.1.2.1
  have hpn_ := hPM.2.1
  have hpt_ := hPM.1.2.2.2.1
  have hpw_ := hPM.1.2.2.2.2.1
  have hpa_ := hPM.1.1
  have hX_1 : ∀ _ : Unit, bd μ = 0 → mPX μ μ tt 0 1 (11 * (9 - nn μ) - 3) [] := fun _ h0 => mPX.nil (hH0 () h0) (by omega)
  refine lv_aload_n hx hb dX12_primary_0 rfl (lv_at hl 0 rfl) ?_
  refine lv_bipush (v := iv 40) hx hb dX12_primary_1 rfl ?_
  refine xc_iV G (b := 111) (rest := []) (As := [.int (iv 40)]) (c_X12_isSign ω l μ 40 (by unfold ir; omega)) (wm 9 90 rfl rfl) (wm 9 92 rfl rfl) (wm 0 135 rfl rfl) rfl rfl (by decide) rfl (wm 1 18 rfl rfl) (wm 9 93 rfl rfl) (by decide) hR ⟨nfr hF (by decide), nlo hLo (by decide)⟩ (n := 1) rfl rfl (Nat.le_of_ble_eq_true rfl) hl.1 dX12_primary_3 (fun r_3 μ2 ρ d0 H locs hr_r_3 hp G => ?_)
  have hr_r_3 : -2147483648 ≤ r_3 ∧ r_3 ≤ 2147483647 := hr_r_3
  obtain ⟨hsm_4, hp_5⟩ := hp
  have hsm_4 := Eq.symm hsm_4
  subst hsm_4
  refine xb_if_eq (tgt := 21) hx hb (by unfold ir; omega) dX12_primary_6 (by decide) (fun c_6 => ?_) (fun c_6 => ?_)
  · refine lv_aload_n hx hb dX12_primary_21 rfl (lv_at hl 0 rfl) ?_
    refine lv_bipush (v := iv 33) hx hb dX12_primary_22 rfl ?_
    refine xc_iV G (b := 111) (rest := []) (As := [.int (iv 33)]) (c_X12_isSign ω l μ 33 (by unfold ir; omega)) (wm 9 90 rfl rfl) (wm 9 92 rfl rfl) (wm 0 135 rfl rfl) rfl rfl (by decide) rfl (wm 1 18 rfl rfl) (wm 9 93 rfl rfl) (by decide) hR ⟨nfr hF (by decide), nlo hLo (by decide)⟩ (n := 1) rfl rfl (Nat.le_of_ble_eq_true rfl) hl.1 dX12_primary_24 (fun r_7 μ6 ρ d0 H locs hr_r_7 hp G => ?_)
    have hr_r_7 : -2147483648 ≤ r_7 ∧ r_7 ≤ 2147483647 := hr_r_7
    obtain ⟨hsm_8, hp_9⟩ := hp
    have hsm_8 := Eq.symm hsm_8
    subst hsm_8
    refine xb_if_eq (tgt := 55) hx hb (by unfold ir; omega) dX12_primary_27 (by decide) (fun c_27 => ?_) (fun c_27 => ?_)
    · refine lv_aload_n hx hb dX12_primary_55 rfl (lv_at hl 0 rfl) ?_
      refine lv_iconst (v := iv 3) hx hb dX12_primary_56 rfl ?_
      refine lv_aload_n hx hb dX12_primary_57 rfl (lv_at hl 0 rfl) ?_
      refine lv_iload_n hx hb dX12_primary_58 rfl (lv_at hl 1 rfl) ?_
      refine lv_lload_n hx hb dX12_primary_59 rfl (lv_at hl 2 rfl) ?_
      refine xc_iV G (b := 111) (rest := [.int (iv 3), .ref (oP ω 111)]) (As := [.int (iv x1), .long (jv x2)]) (c_X12_slot ω l μ x1 x2 (by unfold ir; omega) hx2 (by omega) (by omega)) (wm 9 171 rfl rfl) (wm 9 173 rfl rfl) (wm 0 155 rfl rfl) rfl rfl (by decide) rfl (wm 1 18 rfl rfl) (wm 9 174 rfl rfl) (by decide) hR ⟨nfr hF (by decide), nlo hLo (by decide)⟩ (n := 2) rfl rfl (Nat.le_of_ble_eq_true rfl) hl.1 dX12_primary_60 (fun r_11 μ10 ρ d0 H locs hr_r_11 hp G => ?_)
      have hr_r_11 : -2147483648 ≤ r_11 ∧ r_11 ≤ 2147483647 := hr_r_11
      obtain ⟨F_12, hp_13, hp_14, hp_15, hp_16, hp_17⟩ := hp
      have hw_18 := wr_r (μ := μ10)
      have e_19 : μ10.1 111 31 = μ.1 111 31 := (hp_13 31 (by decide))
      have e_20 : wr μ10 = wr μ := (wr_cg (hp_13 15 (by decide)))
      have e_21 : nn μ10 = nn μ := (nn_cg (hp_13 15 (by decide)) (hp_13 18 (by decide)))
      refine xb_i2l hx hb (by unfold ir; omega) dX12_primary_63 ?_
      refine lv_iconst (v := iv 0) hx hb dX12_primary_64 rfl ?_
      have e_22 : μ10.1 111 29 = μ.1 111 29 := (hp_13 29 (by decide))
      have e_23 : wr μ10 = wr μ := (wr_cg (hp_13 15 (by decide)))
      have e_24 : nn μ10 = nn μ := (nn_cg (hp_13 15 (by decide)) (hp_13 18 (by decide)))
      have e_26 : μ10.1 111 29 = μ.1 111 29 := (hp_13 29 (by decide))
      have hX_25 : ∀ _ : Unit, bd μ10 = 0 → mPX μ μ10 tt 0 1 (11 * (9 - nn μ) - 3) [] := fun _ h0 => (hX_1 () (by have e9 : bd μ = bd μ := rfl; have e8 : bd μ10 = bd μ10 := rfl; omega)).qm (q0m.fr (K := [111]) (FrM.tr FrM.rf F_12 (by decide)) (by decide) (by decide) (by decide) (hp_13 22 (by decide)) (nS.le (by omega) (Int.le_of_eq ((hp_13 31 (by decide))).symm)))
      have e_27 : μ10.1 111 29 = μ.1 111 29 := (hp_13 29 (by decide))
      have e_28 : μ10.1 111 29 = μ.1 111 29 := (hp_13 29 (by decide))
      have hxt_29 : mEXT μ μ10 := (q0m.fr (K := [111]) (FrM.tr FrM.rf F_12 (by decide)) (by decide) (by decide) (by decide) (hp_13 22 (by decide)) (nS.le (by omega) (Int.le_of_eq ((hp_13 31 (by decide))).symm))).1
      have e_30 : μ10.1 111 22 = μ.1 111 22 := (hp_13 22 (by decide))
      have e_31 : μ10.1 111 22 = μ.1 111 22 := (hp_13 22 (by decide))
      have e_32 : μ10.1 111 22 = μ.1 111 22 := (hp_13 22 (by decide))
      have e_33 : μ10.1 111 22 = μ.1 111 22 := (hp_13 22 (by decide))
      refine xc_iV G (b := 111) (rest := []) (As := [.int (iv 3), .long (jv r_11), .int (iv 0)]) (c_X12_emit ω l μ10 3 r_11 0 (by unfold ir; omega) (by unfold jr; omega) (by unfold ir; omega) (by omega)) (wm 9 126 rfl rfl) (wm 9 128 rfl rfl) (wm 0 144 rfl rfl) rfl rfl (by decide) rfl (wm 1 18 rfl rfl) (wm 9 129 rfl rfl) (by decide) hR ⟨nfr hF (by decide), nlo hLo (by decide)⟩ (n := 3) rfl rfl (Nat.le_of_ble_eq_true rfl) hl.1 dX12_primary_65 (fun r_35 μ34 ρ d0 H locs hr_r_35 hp G => ?_)
      have hr_r_35 : -2147483648 ≤ r_35 ∧ r_35 ≤ 2147483647 := hr_r_35
      obtain ⟨F_36, hp_37, hp_38, hp_39, hp_40⟩ := hp
      have hxt_41 : mEXT μ μ34 := hxt_29.tr hp_38.1
      have e_42 : μ34.1 111 31 = μ.1 111 31 := ((hp_37 31 (by decide)).trans (hp_13 31 (by decide)))
      have e_43 : wr μ34 = wr μ := ((wr_cg (hp_37 15 (by decide))).trans (wr_cg (hp_13 15 (by decide))))
      have e_44 : bd μ34 = bd μ10 := (bd_cg (hp_37 15 (by decide)) (hp_37 16 (by decide)) (hp_37 17 (by decide)))
      have e_45 : nn μ34 = nn μ := ((nn_cg (hp_37 15 (by decide)) (hp_37 18 (by decide))).trans (nn_cg (hp_13 15 (by decide)) (hp_13 18 (by decide))))
      have e_47 : μ34.1 111 29 = μ.1 111 29 := ((hp_37 29 (by decide)).trans (hp_13 29 (by decide)))
      have hX_46 : ∀ _ : Unit, bd μ34 = 0 → mPX μ μ34 tt 1 1 (11 * (9 - nn μ) - 3) [] := fun _ h0 => (((hX_25 ()) (by have e9 : bd μ10 = bd μ10 := rfl; have e8 : bd μ34 = bd μ10 := (bd_cg (hp_37 15 (by decide)) (hp_37 16 (by decide)) (hp_37 17 (by decide))); omega)).app (mAD.ex (t := tt) (e := 1) hp_38 ((hX_25 ()) (by have e9 : bd μ10 = bd μ10 := rfl; have e8 : bd μ34 = bd μ10 := (bd_cg (hp_37 15 (by decide)) (hp_37 16 (by decide)) (hp_37 17 (by decide))); omega)).h1.1 (by unfold mpl; omega) rfl (by have h9 := ((hX_25 ()) (by have e9 : bd μ10 = bd μ10 := rfl; have e8 : bd μ34 = bd μ10 := (bd_cg (hp_37 15 (by decide)) (hp_37 16 (by decide)) (hp_37 17 (by decide))); omega)).h1; omega) ⟨fun q => absurd q (by decide), ⟨fun _ => ⟨by omega, by omega⟩, fun _ => (by unfold nS; dsimp only; omega)⟩, fun q => absurd q (by decide), fun q => absurd q (by decide), fun q => absurd q (by decide), fun q => absurd q (by decide), fun q => absurd q (by decide), fun q => absurd q (by decide), fun q => absurd q (by decide), fun q => absurd q (by decide), fun q => absurd q (by decide), fun q => absurd q (by decide), fun q => absurd q (by decide), fun q => absurd q (by decide), fun q => absurd q (by decide), fun q => absurd q (by decide), fun q => absurd q (by decide), fun q => absurd q (by decide), fun q => absurd q (by decide), fun q => absurd q (by decide), fun q => absurd q (by decide), ⟨fun q => absurd q (by decide), fun q => absurd q (by decide), fun q => absurd q (by decide)⟩, ⟨by decide, by decide⟩⟩) (by have h9 := ((hX_25 ()) (by have e9 : bd μ10 = bd μ10 := rfl; have e8 : bd μ34 = bd μ10 := (bd_cg (hp_37 15 (by decide)) (hp_37 16 (by decide)) (hp_37 17 (by decide))); omega)).h1; omega)).ee (by omega)
      refine lv_pop hx hb dX12_primary_68 rfl ?_
      have e_48 : μ34.1 111 9 = μ.1 111 9 := ((hp_37 9 (by decide)).trans (hp_13 9 (by decide)))
      have e_49 : μ34.1 111 29 = μ.1 111 29 := ((hp_37 29 (by decide)).trans (hp_13 29 (by decide)))
      have e_50 : μ34.1 111 39 = μ.1 111 39 := ((hp_37 39 (by decide)).trans (hp_13 39 (by decide)))
      have e_51 : wr μ34 = wr μ := ((wr_cg (hp_37 15 (by decide))).trans (wr_cg (hp_13 15 (by decide))))
      have e_52 : bd μ34 = bd μ10 := (bd_cg (hp_37 15 (by decide)) (hp_37 16 (by decide)) (hp_37 17 (by decide)))
      have e_53 : nn μ34 = nn μ := ((nn_cg (hp_37 15 (by decide)) (hp_37 18 (by decide))).trans (nn_cg (hp_13 15 (by decide)) (hp_13 18 (by decide))))
      have hPM_54 : PM μ34 := hPM.cg ((hp_37 4 (by decide)).trans (hp_13 4 (by decide))) ((hp_37 6 (by decide)).trans (hp_13 6 (by decide))) ((hp_37 7 (by decide)).trans (hp_13 7 (by decide))) ((hp_37 8 (by decide)).trans (hp_13 8 (by decide))) ((hp_37 9 (by decide)).trans (hp_13 9 (by decide))) ((hp_37 11 (by decide)).trans (hp_13 11 (by decide))) ((hp_37 12 (by decide)).trans (hp_13 12 (by decide))) ((((hp_37 14 (by decide)).trans ((hp_13 14 (by decide)).trans htt.symm))).trans (htt.symm).symm) ((hp_37 15 (by decide)).trans (hp_13 15 (by decide))) ((hp_37 29 (by decide)).trans (hp_13 29 (by decide))) (fun j => ((F_36.1 123 (by decide) j).trans (F_12.1 123 (by decide) j)))
      have e_55 : μ34.1 111 9 = μ.1 111 9 := ((hp_37 9 (by decide)).trans (hp_13 9 (by decide)))
      have e_56 : wr μ34 = wr μ := ((wr_cg (hp_37 15 (by decide))).trans (wr_cg (hp_13 15 (by decide))))
      have e_57 : μ34.1 111 9 = μ.1 111 9 := ((hp_37 9 (by decide)).trans (hp_13 9 (by decide)))
      have e_58 : μ34.1 111 29 = μ.1 111 29 := ((hp_37 29 (by decide)).trans (hp_13 29 (by decide)))
      have e_59 : wr μ34 = wr μ := ((wr_cg (hp_37 15 (by decide))).trans (wr_cg (hp_13 15 (by decide))))
      have e_60 : bd μ34 = bd μ10 := (bd_cg (hp_37 15 (by decide)) (hp_37 16 (by decide)) (hp_37 17 (by decide)))
      have e_61 : wr μ34 = wr μ := ((wr_cg (hp_37 15 (by decide))).trans (wr_cg (hp_13 15 (by decide))))
      have e_62 : nn μ34 = nn μ := ((nn_cg (hp_37 15 (by decide)) (hp_37 18 (by decide))).trans (nn_cg (hp_13 15 (by decide)) (hp_13 18 (by decide))))
      have e_63 : μ34.1 111 39 = μ.1 111 39 := ((hp_37 39 (by decide)).trans (hp_13 39 (by decide)))
      exact xr_v G hret hlk dX12_primary_69 ⟨(FrM.tr (FrM.tr FrM.rf F_12 (by decide)) F_36 (by decide)), (fun j hj => ((hp_37 j (fun h9 => hj ((by decide : ∀ x ∈ ([22] : List Int), x ∈ ([6, 8, 9, 10, 11, 12, 13, 15, 16, 17, 18, 22, 29, 39] : List Int)) j h9))).trans (hp_13 j (fun h9 => hj ((by decide : ∀ x ∈ ([17] : List Int), x ∈ ([6, 8, 9, 10, 11, 12, 13, 15, 16, 17, 18, 22, 29, 39] : List Int)) j h9))))), hPM_54, (by omega), (by omega), (by omega), (by omega), (by omega), (by omega), (fun j hj => ((F_36.1 126 (by decide) j).trans (F_12.1 126 (by decide) j))), (fun _ h0 => (mPX.ex ((hX_46 ()) h0)).e (by omega)), hxt_41⟩
    · refine lv_aload_n hx hb dX12_primary_30 rfl (lv_at hl 0 rfl) ?_
      refine lv_iconst (v := iv 3) hx hb dX12_primary_31 rfl ?_
      refine lv_aload_n hx hb dX12_primary_32 rfl (lv_at hl 0 rfl) ?_
      refine lv_iload_n hx hb dX12_primary_33 rfl (lv_at hl 1 rfl) ?_
      refine lv_lload_n hx hb dX12_primary_34 rfl (lv_at hl 2 rfl) ?_
      refine xc_iV G (b := 111) (rest := [.int (iv 3), .ref (oP ω 111)]) (As := [.int (iv x1), .long (jv x2)]) (c_X12_slot ω l μ x1 x2 (by unfold ir; omega) hx2 (by omega) (by omega)) (wm 9 171 rfl rfl) (wm 9 173 rfl rfl) (wm 0 155 rfl rfl) rfl rfl (by decide) rfl (wm 1 18 rfl rfl) (wm 9 174 rfl rfl) (by decide) hR ⟨nfr hF (by decide), nlo hLo (by decide)⟩ (n := 2) rfl rfl (Nat.le_of_ble_eq_true rfl) hl.1 dX12_primary_35 (fun r_65 μ64 ρ d0 H locs hr_r_65 hp G => ?_)
      have hr_r_65 : -2147483648 ≤ r_65 ∧ r_65 ≤ 2147483647 := hr_r_65
      obtain ⟨F_66, hp_67, hp_68, hp_69, hp_70, hp_71⟩ := hp
      have hw_72 := wr_r (μ := μ64)
      have e_73 : μ64.1 111 31 = μ.1 111 31 := (hp_67 31 (by decide))
      have e_74 : wr μ64 = wr μ := (wr_cg (hp_67 15 (by decide)))
      have e_75 : nn μ64 = nn μ := (nn_cg (hp_67 15 (by decide)) (hp_67 18 (by decide)))
      refine xb_i2l hx hb (by unfold ir; omega) dX12_primary_38 ?_
      refine lv_iconst (v := iv 0) hx hb dX12_primary_39 rfl ?_
      have e_76 : μ64.1 111 29 = μ.1 111 29 := (hp_67 29 (by decide))
      have e_77 : wr μ64 = wr μ := (wr_cg (hp_67 15 (by decide)))
      have e_78 : nn μ64 = nn μ := (nn_cg (hp_67 15 (by decide)) (hp_67 18 (by decide)))
      have e_80 : μ64.1 111 29 = μ.1 111 29 := (hp_67 29 (by decide))
      have hX_79 : ∀ _ : Unit, bd μ64 = 0 → mPX μ μ64 tt 0 1 (11 * (9 - nn μ) - 3) [] := fun _ h0 => (hX_1 () (by have e9 : bd μ = bd μ := rfl; have e8 : bd μ64 = bd μ64 := rfl; omega)).qm (q0m.fr (K := [111]) (FrM.tr FrM.rf F_66 (by decide)) (by decide) (by decide) (by decide) (hp_67 22 (by decide)) (nS.le (by omega) (Int.le_of_eq ((hp_67 31 (by decide))).symm)))
      have e_81 : μ64.1 111 29 = μ.1 111 29 := (hp_67 29 (by decide))
      have e_82 : μ64.1 111 29 = μ.1 111 29 := (hp_67 29 (by decide))
      have hxt_83 : mEXT μ μ64 := (q0m.fr (K := [111]) (FrM.tr FrM.rf F_66 (by decide)) (by decide) (by decide) (by decide) (hp_67 22 (by decide)) (nS.le (by omega) (Int.le_of_eq ((hp_67 31 (by decide))).symm))).1
      have e_84 : μ64.1 111 22 = μ.1 111 22 := (hp_67 22 (by decide))
      have e_85 : μ64.1 111 22 = μ.1 111 22 := (hp_67 22 (by decide))
      have e_86 : μ64.1 111 22 = μ.1 111 22 := (hp_67 22 (by decide))
      have e_87 : μ64.1 111 22 = μ.1 111 22 := (hp_67 22 (by decide))
      refine xc_iV G (b := 111) (rest := []) (As := [.int (iv 3), .long (jv r_65), .int (iv 0)]) (c_X12_emit ω l μ64 3 r_65 0 (by unfold ir; omega) (by unfold jr; omega) (by unfold ir; omega) (by omega)) (wm 9 126 rfl rfl) (wm 9 128 rfl rfl) (wm 0 144 rfl rfl) rfl rfl (by decide) rfl (wm 1 18 rfl rfl) (wm 9 129 rfl rfl) (by decide) hR ⟨nfr hF (by decide), nlo hLo (by decide)⟩ (n := 3) rfl rfl (Nat.le_of_ble_eq_true rfl) hl.1 dX12_primary_40 (fun r_89 μ88 ρ d0 H locs hr_r_89 hp G => ?_)
      have hr_r_89 : -2147483648 ≤ r_89 ∧ r_89 ≤ 2147483647 := hr_r_89
      obtain ⟨F_90, hp_91, hp_92, hp_93, hp_94⟩ := hp
      have hxt_95 : mEXT μ μ88 := hxt_83.tr hp_92.1
      have e_96 : μ88.1 111 31 = μ.1 111 31 := ((hp_91 31 (by decide)).trans (hp_67 31 (by decide)))
      have e_97 : wr μ88 = wr μ := ((wr_cg (hp_91 15 (by decide))).trans (wr_cg (hp_67 15 (by decide))))
      have e_98 : bd μ88 = bd μ64 := (bd_cg (hp_91 15 (by decide)) (hp_91 16 (by decide)) (hp_91 17 (by decide)))
      have e_99 : nn μ88 = nn μ := ((nn_cg (hp_91 15 (by decide)) (hp_91 18 (by decide))).trans (nn_cg (hp_67 15 (by decide)) (hp_67 18 (by decide))))
      have e_101 : μ88.1 111 29 = μ.1 111 29 := ((hp_91 29 (by decide)).trans (hp_67 29 (by decide)))
      have hX_100 : ∀ _ : Unit, bd μ88 = 0 → mPX μ μ88 tt 1 1 (11 * (9 - nn μ) - 3) [] := fun _ h0 => (((hX_79 ()) (by have e9 : bd μ64 = bd μ64 := rfl; have e8 : bd μ88 = bd μ64 := (bd_cg (hp_91 15 (by decide)) (hp_91 16 (by decide)) (hp_91 17 (by decide))); omega)).app (mAD.ex (t := tt) (e := 1) hp_92 ((hX_79 ()) (by have e9 : bd μ64 = bd μ64 := rfl; have e8 : bd μ88 = bd μ64 := (bd_cg (hp_91 15 (by decide)) (hp_91 16 (by decide)) (hp_91 17 (by decide))); omega)).h1.1 (by unfold mpl; omega) rfl (by have h9 := ((hX_79 ()) (by have e9 : bd μ64 = bd μ64 := rfl; have e8 : bd μ88 = bd μ64 := (bd_cg (hp_91 15 (by decide)) (hp_91 16 (by decide)) (hp_91 17 (by decide))); omega)).h1; omega) ⟨fun q => absurd q (by decide), ⟨fun _ => ⟨by omega, by omega⟩, fun _ => (by unfold nS; dsimp only; omega)⟩, fun q => absurd q (by decide), fun q => absurd q (by decide), fun q => absurd q (by decide), fun q => absurd q (by decide), fun q => absurd q (by decide), fun q => absurd q (by decide), fun q => absurd q (by decide), fun q => absurd q (by decide), fun q => absurd q (by decide), fun q => absurd q (by decide), fun q => absurd q (by decide), fun q => absurd q (by decide), fun q => absurd q (by decide), fun q => absurd q (by decide), fun q => absurd q (by decide), fun q => absurd q (by decide), fun q => absurd q (by decide), fun q => absurd q (by decide), fun q => absurd q (by decide), ⟨fun q => absurd q (by decide), fun q => absurd q (by decide), fun q => absurd q (by decide)⟩, ⟨by decide, by decide⟩⟩) (by have h9 := ((hX_79 ()) (by have e9 : bd μ64 = bd μ64 := rfl; have e8 : bd μ88 = bd μ64 := (bd_cg (hp_91 15 (by decide)) (hp_91 16 (by decide)) (hp_91 17 (by decide))); omega)).h1; omega)).ee (by omega)
      refine lv_pop hx hb dX12_primary_43 rfl ?_
      refine lv_aload_n hx hb dX12_primary_44 rfl (lv_at hl 0 rfl) ?_
      have hPM_102 : PM μ88 := hPM.cg ((hp_91 4 (by decide)).trans (hp_67 4 (by decide))) ((hp_91 6 (by decide)).trans (hp_67 6 (by decide))) ((hp_91 7 (by decide)).trans (hp_67 7 (by decide))) ((hp_91 8 (by decide)).trans (hp_67 8 (by decide))) ((hp_91 9 (by decide)).trans (hp_67 9 (by decide))) ((hp_91 11 (by decide)).trans (hp_67 11 (by decide))) ((hp_91 12 (by decide)).trans (hp_67 12 (by decide))) ((((hp_91 14 (by decide)).trans ((hp_67 14 (by decide)).trans htt.symm))).trans (htt.symm).symm) ((hp_91 15 (by decide)).trans (hp_67 15 (by decide))) ((hp_91 29 (by decide)).trans (hp_67 29 (by decide))) (fun j => ((F_90.1 123 (by decide) j).trans (F_66.1 123 (by decide) j)))
      have e_103 : wr μ88 = wr μ := ((wr_cg (hp_91 15 (by decide))).trans (wr_cg (hp_67 15 (by decide))))
      have e_104 : nn μ88 = nn μ := ((nn_cg (hp_91 15 (by decide)) (hp_91 18 (by decide))).trans (nn_cg (hp_67 15 (by decide)) (hp_67 18 (by decide))))
      have e_105 : μ88.1 111 8 = μ.1 111 8 := ((hp_91 8 (by decide)).trans (hp_67 8 (by decide)))
      have e_106 : wr μ88 = wr μ := ((wr_cg (hp_91 15 (by decide))).trans (wr_cg (hp_67 15 (by decide))))
      have e_107 : μ88.1 111 9 = μ.1 111 9 := ((hp_91 9 (by decide)).trans (hp_67 9 (by decide)))
      have e_108 : wr μ88 = wr μ := ((wr_cg (hp_91 15 (by decide))).trans (wr_cg (hp_67 15 (by decide))))
      have e_109 : wr μ88 = wr μ := ((wr_cg (hp_91 15 (by decide))).trans (wr_cg (hp_67 15 (by decide))))
      have e_110 : bd μ88 = bd μ64 := (bd_cg (hp_91 15 (by decide)) (hp_91 16 (by decide)) (hp_91 17 (by decide)))
      have e_111 : nn μ88 = nn μ := ((nn_cg (hp_91 15 (by decide)) (hp_91 18 (by decide))).trans (nn_cg (hp_67 15 (by decide)) (hp_67 18 (by decide))))
      refine xc_vV G (b := 111) (rest := []) (As := []) (c_X12_next ω l μ88  hPM_102 (by omega) (by omega)) (wm 9 0 rfl rfl) (wm 9 2 rfl rfl) (wm 0 119 rfl rfl) rfl rfl (by decide) rfl (wm 1 18 rfl rfl) (wm 9 3 rfl rfl) (by decide) hR ⟨nfr hF (by decide), nlo hLo (by decide)⟩ (n := 0) rfl rfl (Nat.le_of_ble_eq_true rfl) hl.1 dX12_primary_45 (fun μ112 ρ d0 H locs hp G => ?_)
      obtain ⟨F_113, hp_114, hp_115, hp_116, hp_117, hp_118⟩ := hp
      have hpl_119 := hp_115.pl
      have hw_120 := wr_r (μ := μ88)
      have hw_121 := wr_r (μ := μ112)
      have e_122 : μ112.1 111 31 = μ.1 111 31 := ((hp_114 31 (by decide)).trans ((hp_91 31 (by decide)).trans (hp_67 31 (by decide))))
      refine lv_aload_n hx hb dX12_primary_48 rfl (lv_at hl 0 rfl) ?_
      have e_123 : μ112.1 111 29 = μ.1 111 29 := ((hp_114 29 (by decide)).trans ((hp_91 29 (by decide)).trans (hp_67 29 (by decide))))
      have e_125 : μ112.1 111 29 = μ.1 111 29 := ((hp_114 29 (by decide)).trans ((hp_91 29 (by decide)).trans (hp_67 29 (by decide))))
      have hX_124 : ∀ _ : Unit, bd μ112 = 0 → mPX μ μ112 tt 1 1 (11 * (9 - nn μ) - 3) [] := fun _ h0 => (hX_100 () (by have e9 : bd μ88 = bd μ64 := (bd_cg (hp_91 15 (by decide)) (hp_91 16 (by decide)) (hp_91 17 (by decide))); have e8 : bd μ112 = bd μ112 := rfl; omega)).qm (q0m.fr (K := [111]) (FrM.tr FrM.rf F_113 (by decide)) (by decide) (by decide) (by decide) (hp_114 22 (by decide)) (nS.le (by omega) (Int.le_of_eq (((((hp_114 31 (by decide)).trans ((hp_91 31 (by decide)).trans (hp_67 31 (by decide))))).trans (((hp_91 31 (by decide)).trans (hp_67 31 (by decide)))).symm)).symm)))
      have e_126 : μ112.1 111 29 = μ.1 111 29 := ((hp_114 29 (by decide)).trans ((hp_91 29 (by decide)).trans (hp_67 29 (by decide))))
      have e_127 : μ112.1 111 29 = μ.1 111 29 := ((hp_114 29 (by decide)).trans ((hp_91 29 (by decide)).trans (hp_67 29 (by decide))))
      have hxt_128 : mEXT μ μ112 := hxt_95.tr (q0m.fr (K := [111]) (FrM.tr FrM.rf F_113 (by decide)) (by decide) (by decide) (by decide) (hp_114 22 (by decide)) (nS.le (by omega) (Int.le_of_eq (((((hp_114 31 (by decide)).trans ((hp_91 31 (by decide)).trans (hp_67 31 (by decide))))).trans (((hp_91 31 (by decide)).trans (hp_67 31 (by decide)))).symm)).symm))).1
      have e_129 : μ112.1 111 14 = tt := ((hp_114 14 (by decide)).trans ((hp_91 14 (by decide)).trans ((hp_67 14 (by decide)).trans htt.symm)))
      have e_130 : μ112.1 111 22 = μ88.1 111 22 := (hp_114 22 (by decide))
      have e_131 : μ112.1 111 22 = μ88.1 111 22 := (hp_114 22 (by decide))
      have e_132 : μ112.1 111 39 = μ.1 111 39 := ((hp_114 39 (by decide)).trans ((hp_91 39 (by decide)).trans (hp_67 39 (by decide))))
      have e_133 : μ112.1 111 39 = μ.1 111 39 := ((hp_114 39 (by decide)).trans ((hp_91 39 (by decide)).trans (hp_67 39 (by decide))))
      have e_134 : μ112.1 111 22 = μ88.1 111 22 := (hp_114 22 (by decide))
      have e_135 : μ112.1 111 31 = μ.1 111 31 := ((hp_114 31 (by decide)).trans ((hp_91 31 (by decide)).trans (hp_67 31 (by decide))))
      have e_136 : μ112.1 111 31 = μ.1 111 31 := ((hp_114 31 (by decide)).trans ((hp_91 31 (by decide)).trans (hp_67 31 (by decide))))
      have e_137 : μ112.1 111 22 = μ88.1 111 22 := (hp_114 22 (by decide))
      have e_138 : μ112.1 111 22 = μ88.1 111 22 := (hp_114 22 (by decide))
      have e_139 : μ112.1 111 29 = μ.1 111 29 := ((hp_114 29 (by decide)).trans ((hp_91 29 (by decide)).trans (hp_67 29 (by decide))))
      have e_140 : μ112.1 111 39 = μ.1 111 39 := ((hp_114 39 (by decide)).trans ((hp_91 39 (by decide)).trans (hp_67 39 (by decide))))
      refine xc_vV G (b := 111) (rest := []) (As := []) (c_X12_bang ω l μ112 F Lo Fu Lu kf μ (11 * (9 - nn μ) - 3) tt (by omega) hF hLo hFu hLu hE hU hp_115 (by omega) (by omega) (by omega) (by omega) (by omega) (by omega) (fun _ h0 => (mPX.ex ((hX_124 ()) h0)).e (by omega)) (by omega)) (wm 9 191 rfl rfl) (wm 9 193 rfl rfl) (wm 0 160 rfl rfl) rfl rfl (by decide) rfl (wm 1 18 rfl rfl) (wm 9 194 rfl rfl) (by decide) hR ⟨sfr (F := F) (a := 2) (by decide), slo (L := Lo) (m := 4) (a := 44) (by decide)⟩ (n := 0) rfl rfl (Nat.le_of_ble_eq_true rfl) hl.1 dX12_primary_49 (fun μ141 ρ d0 H locs hp G => ?_)
      obtain ⟨F_142, hp_143, hp_144, hp_145, hp_146, hp_147, hp_148, hp_149, hp_150, hp_151, hp_152, hp_153⟩ := hp
      have hpl_154 := hp_144.pl
      have hw_155 := wr_r (μ := μ141)
      have hxt_156 : mEXT μ μ141 := hxt_128.tr hp_153
      have hX_157 : ∀ _ : Unit, bd μ141 = 0 → mPX μ μ141 tt 1 1 (11 * (9 - nn μ) - 3) [] := fun _ h0 => mPX.of (hp_152 () h0)
      refine lv_goto (tgt := 69) hx hb dX12_primary_52 (by decide) ?_
      exact xr_v G hret hlk dX12_primary_69 ⟨(FrM.tr (FrM.tr (FrM.tr (FrM.tr FrM.rf F_66 (by decide)) F_90 (by decide)) F_113 (by decide)) F_142 (by decide)), (fun j hj => ((hp_143 j (fun h9 => hj ((by decide : ∀ x ∈ ([6, 8, 9, 10, 11, 12, 13, 15, 16, 17, 18, 22, 29, 39] : List Int), x ∈ ([6, 8, 9, 10, 11, 12, 13, 15, 16, 17, 18, 22, 29, 39] : List Int)) j h9))).trans ((hp_114 j (fun h9 => hj ((by decide : ∀ x ∈ ([6, 8, 9, 10, 11, 12, 13, 15] : List Int), x ∈ ([6, 8, 9, 10, 11, 12, 13, 15, 16, 17, 18, 22, 29, 39] : List Int)) j h9))).trans ((hp_91 j (fun h9 => hj ((by decide : ∀ x ∈ ([22] : List Int), x ∈ ([6, 8, 9, 10, 11, 12, 13, 15, 16, 17, 18, 22, 29, 39] : List Int)) j h9))).trans (hp_67 j (fun h9 => hj ((by decide : ∀ x ∈ ([17] : List Int), x ∈ ([6, 8, 9, 10, 11, 12, 13, 15, 16, 17, 18, 22, 29, 39] : List Int)) j h9))))))), hp_144, (by omega), (by omega), (by omega), (by omega), (by omega), (by omega), (fun j hj => ((hp_151 j (by omega)).trans ((F_113.1 126 (by decide) j).trans ((F_90.1 126 (by decide) j).trans (F_66.1 126 (by decide) j))))), (fun _ h0 => (mPX.ex ((hX_157 ()) h0)).e (by omega)), hxt_156⟩
  · refine lv_aload_n hx hb dX12_primary_9 rfl (lv_at hl 0 rfl) ?_
    refine lv_aload_n hx hb dX12_primary_10 rfl (lv_at hl 0 rfl) ?_
    refine xa_geti G fd_X12 (a := 111) (x := tt) 14 rfl (by decide) rfl (wm 7 163 rfl rfl) ⟨rfl, rfl, rfl⟩ dX12_primary_11 rfl htt.symm ?_
    have hr_158 : -2147483648 ≤ tt ∧ tt ≤ 2147483647 := by have h9 := G.hr (a := 111) (k := 14) rfl; rw [show μ.1 111 14 = tt from htt.symm] at h9; exact h9
    refine lv_lload_n hx hb dX12_primary_14 rfl (lv_at hl 2 rfl) ?_
    have e_159 : μ.1 111 14 = tt := htt.symm
    refine xc_vV G (b := 111) (rest := []) (As := [.int (iv tt), .long (jv x2)]) (c_X12_call ω l μ tt x2 F Lo Fu Lu kf tt (by unfold ir; omega) hx2 (by omega) hF hLo hFu hLu hE hU hPM (by omega) (by omega) (by omega) (by omega) (by omega) (by omega) (fun _ h0 => ((hX_1 ()) h0).h1.1) (by omega)) (wm 9 179 rfl rfl) (wm 9 181 rfl rfl) (wm 0 157 rfl rfl) rfl rfl (by decide) rfl (wm 1 18 rfl rfl) (wm 9 182 rfl rfl) (by decide) hR ⟨sfr (F := F) (a := 2) (by decide), slo (L := Lo) (m := 7) (a := 44) (by decide)⟩ (n := 2) rfl rfl (Nat.le_of_ble_eq_true rfl) hl.1 dX12_primary_15 (fun μ160 ρ d0 H locs hp G => ?_)
    obtain ⟨F_161, hp_162, hp_163, hp_164, hp_165, hp_166, hp_167, hp_168, hp_169, hp_170, hp_171, hp_172⟩ := hp
    have hpl_173 := hp_163.pl
    have hw_174 := wr_r (μ := μ160)
    have hxt_175 : mEXT μ μ160 := (mEXT.rf (μ := μ)).tr hp_172
    have e_176 : μ160.1 111 31 = μ.1 111 31 := (hp_162 31 (by decide))
    have hX_177 : ∀ _ : Unit, bd μ160 = 0 → mPX μ μ160 tt 1 1 (11 * (9 - nn μ) - 3) [] := fun _ h0 => (((hX_1 ()) (by have e9 : bd μ = bd μ := rfl; have e8 : bd μ160 = bd μ160 := rfl; omega)).app (hp_171 () h0) (by omega)).ee (by omega)
    refine lv_goto (tgt := 69) hx hb dX12_primary_18 (by decide) ?_
    exact xr_v G hret hlk dX12_primary_69 ⟨(FrM.tr FrM.rf F_161 (by decide)), (fun j hj => (hp_162 j (fun h9 => hj ((by decide : ∀ x ∈ ([6, 8, 9, 10, 11, 12, 13, 15, 16, 17, 18, 22, 29, 39] : List Int), x ∈ ([6, 8, 9, 10, 11, 12, 13, 15, 16, 17, 18, 22, 29, 39] : List Int)) j h9)))), hp_163, (by omega), (by omega), (by omega), (by omega), (by omega), (by omega), (fun j hj => (hp_170 j (by omega))), (fun _ h0 => (mPX.ex ((hX_177 ()) h0)).e (by omega)), hxt_175⟩

set_option maxHeartbeats 4000000 in
set_option maxRecDepth 100000 in
theorem c_X12_worded (ω : Om) (l : Launch) (μ : M3) (F : Nat) (Lo : Nat) (Fu : Nat) (Lu : Nat) (kf : Int) (tt : Int) (htt : tt = μ.1 111 14) (hF : 60 ≤ F) (hLo : 2000 ≤ Lo) (hFu : Fu ≤ F) (hLu : Lu ≤ Lo) (hE : ∀ (μ : M3) (tt : Int) (htt : tt = μ.1 111 14) (hPM : PM μ) (hnn : 0 ≤ nn μ ∧ nn μ ≤ 9 ∧ 9 * wr μ ≤ nn μ) (hn8 : nn μ ≤ 8 + wr μ) (hcd : 0 ≤ μ.1 111 22 ∧ μ.1 111 22 ≤ 2 * μ.1 111 9 + 200 + 40 * wr μ) (hW : 0 ≤ μ.1 111 39 ∧ μ.1 111 39 ≤ μ.1 111 22) (hsl : 0 ≤ μ.1 111 31 ∧ μ.1 111 31 ≤ 300) (hfu : 0 ≤ (kf - 1) ∧ 9 ≤ nn μ + (kf - 1)) (hH0 : ∀ _ : Unit, bd μ = 0 → mH0 μ), CtV ω l yX12_expr cX12_expr 1 (F + 0) (Lo + 0) [.ref (oP ω 111)] μ (fun (μ' : M3) => (FrM [111, 113, 115, 116, 117, 123, 126] μ μ') ∧ (∀ j, j ∉ ([6, 8, 9, 10, 11, 12, 13, 15, 16, 17, 18, 22, 29, 39] : List Int) → μ'.1 111 j = μ.1 111 j) ∧ (PM μ') ∧ (μ.1 111 22 ≤ μ'.1 111 22 ∧ μ'.1 111 22 ≤ μ.1 111 22 + 2 * (μ'.1 111 9 - μ.1 111 9) + (- 1 + 3 * wr μ' - 2 * wr μ)) ∧ (μ.1 111 9 ≤ μ'.1 111 9) ∧ (μ.1 111 29 ≤ μ'.1 111 29) ∧ (wr μ ≤ wr μ' ∧ bd μ ≤ bd μ') ∧ (nn μ ≤ nn μ' ∧ nn μ' ≤ nn μ + 9 * wr μ' ∧ nn μ' ≤ 9 ∧ 9 * wr μ' ≤ nn μ') ∧ (μ'.1 111 39 = μ.1 111 39) ∧ (∀ j, j < μ.1 111 39 → μ'.1 126 j = μ.1 126 j) ∧ (∀ _ : Unit, bd μ' = 0 → mEX μ μ' tt 1 0 (11 * (9 - nn μ))) ∧ (mEXT μ μ'))) (hU : ∀ (μ : M3) (tt : Int) (htt : tt = μ.1 111 14) (hPM : PM μ) (hnn : 0 ≤ nn μ ∧ nn μ ≤ 9 ∧ 9 * wr μ ≤ nn μ) (hn8 : nn μ ≤ 8 + wr μ) (hcd : 0 ≤ μ.1 111 22 ∧ μ.1 111 22 ≤ 2 * μ.1 111 9 + 200 + 40 * wr μ) (hW : 0 ≤ μ.1 111 39 ∧ μ.1 111 39 ≤ μ.1 111 22) (hsl : 0 ≤ μ.1 111 31 ∧ μ.1 111 31 ≤ 300) (hfu : 0 ≤ (kf - 1) ∧ 9 ≤ nn μ + (kf - 1)) (hH0 : ∀ _ : Unit, bd μ = 0 → mH0 μ), CtV ω l yX12_unary cX12_unary 6 (Fu + 0) (Lu + 0) [.ref (oP ω 111)] μ (fun (μ' : M3) => (FrM [111, 113, 115, 116, 117, 123, 126] μ μ') ∧ (∀ j, j ∉ ([6, 8, 9, 10, 11, 12, 13, 15, 16, 17, 18, 22, 29, 39] : List Int) → μ'.1 111 j = μ.1 111 j) ∧ (PM μ') ∧ (μ.1 111 22 ≤ μ'.1 111 22 ∧ μ'.1 111 22 ≤ μ.1 111 22 + 2 * (μ'.1 111 9 - μ.1 111 9) + (- 1 + 3 * wr μ' - 2 * wr μ)) ∧ (μ.1 111 9 ≤ μ'.1 111 9) ∧ (μ.1 111 29 ≤ μ'.1 111 29) ∧ (wr μ ≤ wr μ' ∧ bd μ ≤ bd μ') ∧ (nn μ ≤ nn μ' ∧ nn μ' ≤ nn μ + 9 * wr μ' ∧ nn μ' ≤ 9 ∧ 9 * wr μ' ≤ nn μ') ∧ (μ'.1 111 39 = μ.1 111 39) ∧ (∀ j, j < μ.1 111 39 → μ'.1 126 j = μ.1 126 j) ∧ (∀ _ : Unit, bd μ' = 0 → mEX μ μ' tt 1 0 (11 * (9 - nn μ) - 3)) ∧ (mEXT μ μ'))) (hPM : PM μ) (hnn : 0 ≤ nn μ ∧ nn μ ≤ 9 ∧ 9 * wr μ ≤ nn μ) (hn8 : nn μ ≤ 8 + wr μ) (hcd : 0 ≤ μ.1 111 22 ∧ μ.1 111 22 ≤ 2 * μ.1 111 9 + 200 + 40 * wr μ) (hW : 0 ≤ μ.1 111 39 ∧ μ.1 111 39 ≤ μ.1 111 22) (hsl : 0 ≤ μ.1 111 31 ∧ μ.1 111 31 ≤ 300) (hfu : 0 ≤ kf ∧ 9 ≤ nn μ + kf) (hH0 : ∀ _ : Unit, bd μ = 0 → mH0 μ) (hw0 : wr μ = 0) (hst : μ.1 111 8 = 1) : CtV ω l yX12_worded cX12_worded 4 (F + 3) (Lo + 70) [.ref (oP ω 111)] μ (fun (μ' : M3) => (FrM [111, 113, 115, 116, 117, 123, 126] μ μ') ∧ (∀ j, j ∉ ([6, 8, 9, 10, 11, 12, 13, 15, 16, 17, 18, 22, 29, 39] : List Int) → μ'.1 111 j = μ.1 111 j) ∧ (PM μ') ∧ (μ.1 111 22 ≤ μ'.1 111 22 ∧ μ'.1 111 22 ≤ μ.1 111 22 + 2 * (μ'.1 111 9 - μ.1 111 9) + (- 1 + 3 * wr μ' - 2 * wr μ)) ∧ (μ.1 111 9 ≤ μ'.1 111 9) ∧ (μ.1 111 29 ≤ μ'.1 111 29) ∧ (wr μ ≤ wr μ' ∧ bd μ ≤ bd μ') ∧ (nn μ ≤ nn μ' ∧ nn μ' ≤ nn μ + 9 * wr μ' ∧ nn μ' ≤ 9 ∧ 9 * wr μ' ≤ nn μ') ∧ (μ'.1 111 39 = μ.1 111 39) ∧ (∀ j, j < μ.1 111 39 → μ'.1 126 j = μ.1 126 j) ∧ (∀ _ : Unit, bd μ' = 0 → mEX μ μ' tt 1 0 (11 * (9 - nn μ) - 3)) ∧ (mEXT μ μ')) := by
  refine CtV.go (by decide) (Nat.le_of_ble_eq_true rfl) (fun ρ p e s m below meth c R ls G hR hret hlk hl => ?_)
  have hx := G.1.1
  have hb := G.1.2.1
  have hl : lv_has ls 4 [(0, .ref (oP ω 111))] := hl
  generalize s.drawn = d0 at G ⊢
  have hw_0 := wr_r (μ := μ)
  have hpp_ := hPM.1.2.1
  have hpn_ := hPM.2.1
  have hpt_ := hPM.1.2.2.2.1
  have hpw_ := hPM.1.2.2.2.2.1
  have hpa_ := hPM.1.1
  have hX_1 : ∀ _ : Unit, bd μ = 0 → mPX μ μ tt 0 1 (11 * (9 - nn μ) - 3) [] := fun _ h0 => mPX.nil (hH0 () h0) (by omega)
  refine lv_aload_n hx hb dX12_worded_0 rfl (lv_at hl 0 rfl) ?_
  refine xa_geti G fd_X12 (a := 111) (x := μ.1 111 11) 11 rfl (by decide) rfl (wm 7 160 rfl rfl) ⟨rfl, rfl, rfl⟩ dX12_worded_1 rfl rfl ?_
  have hr_2 : -2147483648 ≤ μ.1 111 11 ∧ μ.1 111 11 ≤ 2147483647 := by have h9 := G.hr (a := 111) (k := 11) rfl; exact h9
  refine lv_istore_n (lv' := [(1, .int (iv (μ.1 111 11))), (0, .ref (oP ω 111))]) hx hb dX12_worded_4 rfl hl (by decide) rfl (fun ls hl => ?_)
  refine lv_iload_n hx hb dX12_worded_5 rfl (lv_at hl 0 rfl) ?_
  refine lv_bipush (v := iv 23) hx hb dX12_worded_6 rfl ?_
  refine xb_icmp_eq (tgt := 25) hx hb (by unfold ir; omega) (by unfold ir; omega) dX12_worded_8 (by decide) (fun c_8 => ?_) (fun c_8 => ?_)
  · refine lv_aload_n hx hb dX12_worded_25 rfl (lv_at hl 1 rfl) ?_
    refine lv_iload_n hx hb dX12_worded_26 rfl (lv_at hl 0 rfl) ?_
    refine lv_bipush (v := iv 23) hx hb dX12_worded_27 rfl ?_
    refine xb_icmp_ne (tgt := 36) hx hb (by unfold ir; omega) (by unfold ir; omega) dX12_worded_29 (by decide) (fun c_29 => ?_) (fun c_29 => ?_)
    · refine lv_bipush (v := iv 28) hx hb dX12_worded_36 rfl ?_
      refine lv_lconst (v := jv 0) hx hb dX12_worded_38 rfl ?_
      refine lv_iconst (v := iv 0) hx hb dX12_worded_39 rfl ?_
      refine xc_iV G (b := 111) (rest := []) (As := [.int (iv 28), .long (jv 0), .int (iv 0)]) (c_X12_emit ω l μ 28 0 0 (by unfold ir; omega) (by unfold jr; omega) (by unfold ir; omega) (by omega)) (wm 9 126 rfl rfl) (wm 9 128 rfl rfl) (wm 0 144 rfl rfl) rfl rfl (by decide) rfl (wm 1 18 rfl rfl) (wm 9 129 rfl rfl) (by decide) hR ⟨nfr hF (by decide), nlo hLo (by decide)⟩ (n := 3) rfl rfl (Nat.le_of_ble_eq_true rfl) hl.1 dX12_worded_40 (fun r_4 μ3 ρ d0 H locs hr_r_4 hp G => ?_)
      have hr_r_4 : -2147483648 ≤ r_4 ∧ r_4 ≤ 2147483647 := hr_r_4
      obtain ⟨F_5, hp_6, hp_7, hp_8, hp_9⟩ := hp
      have hxt_10 : mEXT μ μ3 := (mEXT.rf (μ := μ)).tr hp_7.1
      have e_11 : μ3.1 111 31 = μ.1 111 31 := (hp_6 31 (by decide))
      have e_12 : wr μ3 = wr μ := (wr_cg (hp_6 15 (by decide)))
      have e_13 : bd μ3 = bd μ := (bd_cg (hp_6 15 (by decide)) (hp_6 16 (by decide)) (hp_6 17 (by decide)))
      have e_14 : nn μ3 = nn μ := (nn_cg (hp_6 15 (by decide)) (hp_6 18 (by decide)))
      have e_16 : μ3.1 111 29 = μ.1 111 29 := (hp_6 29 (by decide))
      have hX_15 : ∀ _ : Unit, bd μ3 = 0 → mPX μ μ3 tt 1 1 (11 * (9 - nn μ) - 3) [] := fun _ h0 => (((hX_1 ()) (by have e9 : bd μ = bd μ := rfl; have e8 : bd μ3 = bd μ := (bd_cg (hp_6 15 (by decide)) (hp_6 16 (by decide)) (hp_6 17 (by decide))); omega)).app (mAD.ex (t := tt) (e := 1) hp_7 ((hX_1 ()) (by have e9 : bd μ = bd μ := rfl; have e8 : bd μ3 = bd μ := (bd_cg (hp_6 15 (by decide)) (hp_6 16 (by decide)) (hp_6 17 (by decide))); omega)).h1.1 (by unfold mpl; omega) rfl (by have h9 := ((hX_1 ()) (by have e9 : bd μ = bd μ := rfl; have e8 : bd μ3 = bd μ := (bd_cg (hp_6 15 (by decide)) (hp_6 16 (by decide)) (hp_6 17 (by decide))); omega)).h1; omega) ⟨fun q => absurd q (by decide), ⟨fun q => absurd q (by decide), fun q => absurd q (by decide)⟩, fun q => absurd q (by decide), fun q => absurd q (by decide), fun q => absurd q (by decide), fun q => absurd q (by decide), fun q => absurd q (by decide), fun q => absurd q (by decide), fun q => absurd q (by decide), fun q => absurd q (by decide), fun q => absurd q (by decide), fun q => absurd q (by decide), fun q => absurd q (by decide), fun q => absurd q (by decide), fun q => absurd q (by decide), fun q => absurd q (by decide), fun q => absurd q (by decide), fun q => absurd q (by decide), fun q => absurd q (by decide), fun q => absurd q (by decide), fun q => absurd q (by decide), ⟨fun _ => by omega, fun q => absurd q (by decide), fun q => absurd q (by decide)⟩, ⟨by decide, by decide⟩⟩) (by have h9 := ((hX_1 ()) (by have e9 : bd μ = bd μ := rfl; have e8 : bd μ3 = bd μ := (bd_cg (hp_6 15 (by decide)) (hp_6 16 (by decide)) (hp_6 17 (by decide))); omega)).h1; omega)).ee (by omega)
      refine lv_pop hx hb dX12_worded_43 rfl ?_
      refine lv_aload_n hx hb dX12_worded_44 rfl (lv_at hl 1 rfl) ?_
      have hPM_17 : PM μ3 := hPM.cg (hp_6 4 (by decide)) (hp_6 6 (by decide)) (hp_6 7 (by decide)) (hp_6 8 (by decide)) (hp_6 9 (by decide)) (hp_6 11 (by decide)) (hp_6 12 (by decide)) ((((hp_6 14 (by decide)).trans htt.symm)).trans (htt.symm).symm) (hp_6 15 (by decide)) (hp_6 29 (by decide)) (fun j => (F_5.1 123 (by decide) j))
      have e_18 : wr μ3 = wr μ := (wr_cg (hp_6 15 (by decide)))
      have e_19 : nn μ3 = nn μ := (nn_cg (hp_6 15 (by decide)) (hp_6 18 (by decide)))
      have e_20 : μ3.1 111 8 = μ.1 111 8 := (hp_6 8 (by decide))
      have e_21 : wr μ3 = wr μ := (wr_cg (hp_6 15 (by decide)))
      have e_22 : μ3.1 111 9 = μ.1 111 9 := (hp_6 9 (by decide))
      have e_23 : wr μ3 = wr μ := (wr_cg (hp_6 15 (by decide)))
      have e_24 : wr μ3 = wr μ := (wr_cg (hp_6 15 (by decide)))
      have e_25 : bd μ3 = bd μ := (bd_cg (hp_6 15 (by decide)) (hp_6 16 (by decide)) (hp_6 17 (by decide)))
      have e_26 : nn μ3 = nn μ := (nn_cg (hp_6 15 (by decide)) (hp_6 18 (by decide)))
      refine xc_vV G (b := 111) (rest := []) (As := []) (c_X12_next ω l μ3  hPM_17 (by omega) (by omega)) (wm 9 0 rfl rfl) (wm 9 2 rfl rfl) (wm 0 119 rfl rfl) rfl rfl (by decide) rfl (wm 1 18 rfl rfl) (wm 9 3 rfl rfl) (by decide) hR ⟨nfr hF (by decide), nlo hLo (by decide)⟩ (n := 0) rfl rfl (Nat.le_of_ble_eq_true rfl) hl.1 dX12_worded_45 (fun μ27 ρ d0 H locs hp G => ?_)
      obtain ⟨F_28, hp_29, hp_30, hp_31, hp_32, hp_33⟩ := hp
      have hpl_34 := hp_30.pl
      have hw_35 := wr_r (μ := μ3)
      have hw_36 := wr_r (μ := μ27)
      have e_37 : μ27.1 111 31 = μ.1 111 31 := ((hp_29 31 (by decide)).trans (hp_6 31 (by decide)))
      refine lv_goto (tgt := 223) hx hb dX12_worded_48 (by decide) ?_
      have e_38 : μ27.1 111 22 = μ3.1 111 22 := (hp_29 22 (by decide))
      have e_39 : μ27.1 111 29 = μ.1 111 29 := ((hp_29 29 (by decide)).trans (hp_6 29 (by decide)))
      have e_40 : μ27.1 111 39 = μ.1 111 39 := ((hp_29 39 (by decide)).trans (hp_6 39 (by decide)))
      have e_41 : μ27.1 111 29 = μ.1 111 29 := ((hp_29 29 (by decide)).trans (hp_6 29 (by decide)))
      have e_43 : μ27.1 111 29 = μ.1 111 29 := ((hp_29 29 (by decide)).trans (hp_6 29 (by decide)))
      have hX_42 : ∀ _ : Unit, bd μ27 = 0 → mPX μ μ27 tt 1 1 (11 * (9 - nn μ) - 3) [] := fun _ h0 => (hX_15 () (by have e9 : bd μ3 = bd μ := (bd_cg (hp_6 15 (by decide)) (hp_6 16 (by decide)) (hp_6 17 (by decide))); have e8 : bd μ27 = bd μ27 := rfl; omega)).qm (q0m.fr (K := [111]) (FrM.tr FrM.rf F_28 (by decide)) (by decide) (by decide) (by decide) (hp_29 22 (by decide)) (nS.le (by omega) (Int.le_of_eq (((((hp_29 31 (by decide)).trans (hp_6 31 (by decide)))).trans ((hp_6 31 (by decide))).symm)).symm)))
      have e_44 : μ27.1 111 29 = μ.1 111 29 := ((hp_29 29 (by decide)).trans (hp_6 29 (by decide)))
      have hxt_45 : mEXT μ μ27 := hxt_10.tr (q0m.fr (K := [111]) (FrM.tr FrM.rf F_28 (by decide)) (by decide) (by decide) (by decide) (hp_29 22 (by decide)) (nS.le (by omega) (Int.le_of_eq (((((hp_29 31 (by decide)).trans (hp_6 31 (by decide)))).trans ((hp_6 31 (by decide))).symm)).symm))).1
      have e_46 : μ27.1 111 22 = μ3.1 111 22 := (hp_29 22 (by decide))
      have e_47 : μ27.1 111 22 = μ3.1 111 22 := (hp_29 22 (by decide))
      have e_48 : μ27.1 111 29 = μ.1 111 29 := ((hp_29 29 (by decide)).trans (hp_6 29 (by decide)))
      have e_49 : μ27.1 111 39 = μ.1 111 39 := ((hp_29 39 (by decide)).trans (hp_6 39 (by decide)))
      exact xr_v G hret hlk dX12_worded_223 ⟨(FrM.tr (FrM.tr FrM.rf F_5 (by decide)) F_28 (by decide)), (fun j hj => ((hp_29 j (fun h9 => hj ((by decide : ∀ x ∈ ([6, 8, 9, 10, 11, 12, 13, 15] : List Int), x ∈ ([6, 8, 9, 10, 11, 12, 13, 15, 16, 17, 18, 22, 29, 39] : List Int)) j h9))).trans (hp_6 j (fun h9 => hj ((by decide : ∀ x ∈ ([22] : List Int), x ∈ ([6, 8, 9, 10, 11, 12, 13, 15, 16, 17, 18, 22, 29, 39] : List Int)) j h9))))), hp_30, (by omega), (by omega), (by omega), (by omega), (by omega), (by omega), (fun j hj => ((F_28.1 126 (by decide) j).trans (F_5.1 126 (by decide) j))), (fun _ h0 => (mPX.ex ((hX_42 ()) h0)).e (by omega)), hxt_45⟩
    · refine lv_iconst (v := iv 2) hx hb dX12_worded_32 rfl ?_
      refine lv_goto (tgt := 38) hx hb dX12_worded_33 (by decide) ?_
      refine lv_lconst (v := jv 0) hx hb dX12_worded_38 rfl ?_
      refine lv_iconst (v := iv 0) hx hb dX12_worded_39 rfl ?_
      refine xc_iV G (b := 111) (rest := []) (As := [.int (iv 2), .long (jv 0), .int (iv 0)]) (c_X12_emit ω l μ 2 0 0 (by unfold ir; omega) (by unfold jr; omega) (by unfold ir; omega) (by omega)) (wm 9 126 rfl rfl) (wm 9 128 rfl rfl) (wm 0 144 rfl rfl) rfl rfl (by decide) rfl (wm 1 18 rfl rfl) (wm 9 129 rfl rfl) (by decide) hR ⟨nfr hF (by decide), nlo hLo (by decide)⟩ (n := 3) rfl rfl (Nat.le_of_ble_eq_true rfl) hl.1 dX12_worded_40 (fun r_51 μ50 ρ d0 H locs hr_r_51 hp G => ?_)
      have hr_r_51 : -2147483648 ≤ r_51 ∧ r_51 ≤ 2147483647 := hr_r_51
      obtain ⟨F_52, hp_53, hp_54, hp_55, hp_56⟩ := hp
      have hxt_57 : mEXT μ μ50 := (mEXT.rf (μ := μ)).tr hp_54.1
      have e_58 : μ50.1 111 31 = μ.1 111 31 := (hp_53 31 (by decide))
      have e_59 : wr μ50 = wr μ := (wr_cg (hp_53 15 (by decide)))
      have e_60 : bd μ50 = bd μ := (bd_cg (hp_53 15 (by decide)) (hp_53 16 (by decide)) (hp_53 17 (by decide)))
      have e_61 : nn μ50 = nn μ := (nn_cg (hp_53 15 (by decide)) (hp_53 18 (by decide)))
      have e_63 : μ50.1 111 29 = μ.1 111 29 := (hp_53 29 (by decide))
      have hX_62 : ∀ _ : Unit, bd μ50 = 0 → mPX μ μ50 tt 1 1 (11 * (9 - nn μ) - 3) [] := fun _ h0 => (((hX_1 ()) (by have e9 : bd μ = bd μ := rfl; have e8 : bd μ50 = bd μ := (bd_cg (hp_53 15 (by decide)) (hp_53 16 (by decide)) (hp_53 17 (by decide))); omega)).app (mAD.ex (t := tt) (e := 1) hp_54 ((hX_1 ()) (by have e9 : bd μ = bd μ := rfl; have e8 : bd μ50 = bd μ := (bd_cg (hp_53 15 (by decide)) (hp_53 16 (by decide)) (hp_53 17 (by decide))); omega)).h1.1 (by unfold mpl; omega) rfl (by have h9 := ((hX_1 ()) (by have e9 : bd μ = bd μ := rfl; have e8 : bd μ50 = bd μ := (bd_cg (hp_53 15 (by decide)) (hp_53 16 (by decide)) (hp_53 17 (by decide))); omega)).h1; omega) ⟨fun q => absurd q (by decide), ⟨fun q => absurd q (by decide), fun q => absurd q (by decide)⟩, fun q => absurd q (by decide), fun q => absurd q (by decide), fun q => absurd q (by decide), fun q => absurd q (by decide), fun q => absurd q (by decide), fun q => absurd q (by decide), fun q => absurd q (by decide), fun q => absurd q (by decide), fun q => absurd q (by decide), fun q => absurd q (by decide), fun q => absurd q (by decide), fun q => absurd q (by decide), fun q => absurd q (by decide), fun q => absurd q (by decide), fun q => absurd q (by decide), fun q => absurd q (by decide), fun q => absurd q (by decide), fun q => absurd q (by decide), fun q => absurd q (by decide), ⟨fun q => absurd q (by decide), fun q => absurd q (by decide), fun q => absurd q (by decide)⟩, ⟨by decide, by decide⟩⟩) (by have h9 := ((hX_1 ()) (by have e9 : bd μ = bd μ := rfl; have e8 : bd μ50 = bd μ := (bd_cg (hp_53 15 (by decide)) (hp_53 16 (by decide)) (hp_53 17 (by decide))); omega)).h1; omega)).ee (by omega)
      refine lv_pop hx hb dX12_worded_43 rfl ?_
      refine lv_aload_n hx hb dX12_worded_44 rfl (lv_at hl 1 rfl) ?_
      have hPM_64 : PM μ50 := hPM.cg (hp_53 4 (by decide)) (hp_53 6 (by decide)) (hp_53 7 (by decide)) (hp_53 8 (by decide)) (hp_53 9 (by decide)) (hp_53 11 (by decide)) (hp_53 12 (by decide)) ((((hp_53 14 (by decide)).trans htt.symm)).trans (htt.symm).symm) (hp_53 15 (by decide)) (hp_53 29 (by decide)) (fun j => (F_52.1 123 (by decide) j))
      have e_65 : wr μ50 = wr μ := (wr_cg (hp_53 15 (by decide)))
      have e_66 : nn μ50 = nn μ := (nn_cg (hp_53 15 (by decide)) (hp_53 18 (by decide)))
      have e_67 : μ50.1 111 8 = μ.1 111 8 := (hp_53 8 (by decide))
      have e_68 : wr μ50 = wr μ := (wr_cg (hp_53 15 (by decide)))
      have e_69 : μ50.1 111 9 = μ.1 111 9 := (hp_53 9 (by decide))
      have e_70 : wr μ50 = wr μ := (wr_cg (hp_53 15 (by decide)))
      have e_71 : wr μ50 = wr μ := (wr_cg (hp_53 15 (by decide)))
      have e_72 : bd μ50 = bd μ := (bd_cg (hp_53 15 (by decide)) (hp_53 16 (by decide)) (hp_53 17 (by decide)))
      have e_73 : nn μ50 = nn μ := (nn_cg (hp_53 15 (by decide)) (hp_53 18 (by decide)))
      refine xc_vV G (b := 111) (rest := []) (As := []) (c_X12_next ω l μ50  hPM_64 (by omega) (by omega)) (wm 9 0 rfl rfl) (wm 9 2 rfl rfl) (wm 0 119 rfl rfl) rfl rfl (by decide) rfl (wm 1 18 rfl rfl) (wm 9 3 rfl rfl) (by decide) hR ⟨nfr hF (by decide), nlo hLo (by decide)⟩ (n := 0) rfl rfl (Nat.le_of_ble_eq_true rfl) hl.1 dX12_worded_45 (fun μ74 ρ d0 H locs hp G => ?_)
      obtain ⟨F_75, hp_76, hp_77, hp_78, hp_79, hp_80⟩ := hp
      have hpl_81 := hp_77.pl
      have hw_82 := wr_r (μ := μ50)
      have hw_83 := wr_r (μ := μ74)
      have e_84 : μ74.1 111 31 = μ.1 111 31 := ((hp_76 31 (by decide)).trans (hp_53 31 (by decide)))
      refine lv_goto (tgt := 223) hx hb dX12_worded_48 (by decide) ?_
      have e_85 : μ74.1 111 22 = μ50.1 111 22 := (hp_76 22 (by decide))
      have e_86 : μ74.1 111 29 = μ.1 111 29 := ((hp_76 29 (by decide)).trans (hp_53 29 (by decide)))
      have e_87 : μ74.1 111 39 = μ.1 111 39 := ((hp_76 39 (by decide)).trans (hp_53 39 (by decide)))
      have e_88 : μ74.1 111 29 = μ.1 111 29 := ((hp_76 29 (by decide)).trans (hp_53 29 (by decide)))
      have e_90 : μ74.1 111 29 = μ.1 111 29 := ((hp_76 29 (by decide)).trans (hp_53 29 (by decide)))
      have hX_89 : ∀ _ : Unit, bd μ74 = 0 → mPX μ μ74 tt 1 1 (11 * (9 - nn μ) - 3) [] := fun _ h0 => (hX_62 () (by have e9 : bd μ50 = bd μ := (bd_cg (hp_53 15 (by decide)) (hp_53 16 (by decide)) (hp_53 17 (by decide))); have e8 : bd μ74 = bd μ74 := rfl; omega)).qm (q0m.fr (K := [111]) (FrM.tr FrM.rf F_75 (by decide)) (by decide) (by decide) (by decide) (hp_76 22 (by decide)) (nS.le (by omega) (Int.le_of_eq (((((hp_76 31 (by decide)).trans (hp_53 31 (by decide)))).trans ((hp_53 31 (by decide))).symm)).symm)))
      have e_91 : μ74.1 111 29 = μ.1 111 29 := ((hp_76 29 (by decide)).trans (hp_53 29 (by decide)))
      have hxt_92 : mEXT μ μ74 := hxt_57.tr (q0m.fr (K := [111]) (FrM.tr FrM.rf F_75 (by decide)) (by decide) (by decide) (by decide) (hp_76 22 (by decide)) (nS.le (by omega) (Int.le_of_eq (((((hp_76 31 (by decide)).trans (hp_53 31 (by decide)))).trans ((hp_53 31 (by decide))).symm)).symm))).1
      have e_93 : μ74.1 111 22 = μ50.1 111 22 := (hp_76 22 (by decide))
      have e_94 : μ74.1 111 22 = μ50.1 111 22 := (hp_76 22 (by decide))
      have e_95 : μ74.1 111 29 = μ.1 111 29 := ((hp_76 29 (by decide)).trans (hp_53 29 (by decide)))
      have e_96 : μ74.1 111 39 = μ.1 111 39 := ((hp_76 39 (by decide)).trans (hp_53 39 (by decide)))
      exact xr_v G hret hlk dX12_worded_223 ⟨(FrM.tr (FrM.tr FrM.rf F_52 (by decide)) F_75 (by decide)), (fun j hj => ((hp_76 j (fun h9 => hj ((by decide : ∀ x ∈ ([6, 8, 9, 10, 11, 12, 13, 15] : List Int), x ∈ ([6, 8, 9, 10, 11, 12, 13, 15, 16, 17, 18, 22, 29, 39] : List Int)) j h9))).trans (hp_53 j (fun h9 => hj ((by decide : ∀ x ∈ ([22] : List Int), x ∈ ([6, 8, 9, 10, 11, 12, 13, 15, 16, 17, 18, 22, 29, 39] : List Int)) j h9))))), hp_77, (by omega), (by omega), (by omega), (by omega), (by omega), (by omega), (fun j hj => ((F_75.1 126 (by decide) j).trans (F_52.1 126 (by decide) j))), (fun _ h0 => (mPX.ex ((hX_89 ()) h0)).e (by omega)), hxt_92⟩
  · refine lv_iload_n hx hb dX12_worded_11 rfl (lv_at hl 0 rfl) ?_
    refine lv_bipush (v := iv 26) hx hb dX12_worded_12 rfl ?_
    refine xb_icmp_ne (tgt := 51) hx hb (by unfold ir; omega) (by unfold ir; omega) dX12_worded_14 (by decide) (fun c_14 => ?_) (fun c_14 => ?_)
    · refine lv_iload_n hx hb dX12_worded_51 rfl (lv_at hl 0 rfl) ?_
      refine lv_bipush (v := iv 24) hx hb dX12_worded_52 rfl ?_
      refine xb_icmp_ne (tgt := 75) hx hb (by unfold ir; omega) (by unfold ir; omega) dX12_worded_54 (by decide) (fun c_54 => ?_) (fun c_54 => ?_)
      · refine lv_iload_n hx hb dX12_worded_75 rfl (lv_at hl 0 rfl) ?_
        refine lv_bipush (v := iv 25) hx hb dX12_worded_76 rfl ?_
        refine xb_icmp_ne (tgt := 99) hx hb (by unfold ir; omega) (by unfold ir; omega) dX12_worded_78 (by decide) (fun c_78 => ?_) (fun c_78 => ?_)
        · refine lv_iload_n hx hb dX12_worded_99 rfl (lv_at hl 0 rfl) ?_
          refine lv_bipush (v := iv 28) hx hb dX12_worded_100 rfl ?_
          refine xb_icmp_ne (tgt := 136) hx hb (by unfold ir; omega) (by unfold ir; omega) dX12_worded_102 (by decide) (fun c_102 => ?_) (fun c_102 => ?_)
          · refine lv_iload_n hx hb dX12_worded_136 rfl (lv_at hl 0 rfl) ?_
            refine lv_bipush (v := iv 27) hx hb dX12_worded_137 rfl ?_
            refine xb_icmp_ne (tgt := 182) hx hb (by unfold ir; omega) (by unfold ir; omega) dX12_worded_139 (by decide) (fun c_139 => ?_) (fun c_139 => ?_)
            · refine lv_iload_n hx hb dX12_worded_182 rfl (lv_at hl 0 rfl) ?_
              refine lv_bipush (v := iv 29) hx hb dX12_worded_183 rfl ?_
              refine xb_icmp_lt (tgt := 215) hx hb (by unfold ir; omega) (by unfold ir; omega) dX12_worded_185 (by decide) (fun c_185 => ?_) (fun c_185 => ?_)
              · refine lv_aload_n hx hb dX12_worded_215 rfl (lv_at hl 1 rfl) ?_
                refine lv_aload_n hx hb dX12_worded_216 rfl (lv_at hl 1 rfl) ?_
                refine xa_geti G fd_X12 (a := 111) (x := μ.1 111 9) 9 rfl (by decide) rfl (wm 7 158 rfl rfl) ⟨rfl, rfl, rfl⟩ dX12_worded_217 rfl rfl ?_
                have hr_97 : -2147483648 ≤ μ.1 111 9 ∧ μ.1 111 9 ≤ 2147483647 := by have h9 := G.hr (a := 111) (k := 9) rfl; exact h9
                refine xc_vV G (b := 111) (rest := []) (As := [.int (iv (μ.1 111 9))]) (c_X12_wrong ω l μ (μ.1 111 9) (by unfold ir; omega) (by omega)) (wm 9 22 rfl rfl) (wm 9 24 rfl rfl) (wm 0 123 rfl rfl) rfl rfl (by decide) rfl (wm 1 18 rfl rfl) (wm 9 25 rfl rfl) (by decide) hR ⟨nfr hF (by decide), nlo hLo (by decide)⟩ (n := 1) rfl rfl (Nat.le_of_ble_eq_true rfl) hl.1 dX12_worded_220 (fun μ98 ρ d0 H locs hp G => ?_)
                obtain ⟨F_99, hp_100, hp_101⟩ := hp
                have hw_102 := wr_r (μ := μ98)
                have e_103 : μ98.1 111 31 = μ.1 111 31 := (hp_100 31 (by decide))
                have e_104 : μ98.1 111 22 = μ.1 111 22 := (hp_100 22 (by decide))
                have e_105 : μ98.1 111 9 = μ.1 111 9 := (hp_100 9 (by decide))
                have e_106 : μ98.1 111 29 = μ.1 111 29 := (hp_100 29 (by decide))
                have e_107 : μ98.1 111 39 = μ.1 111 39 := (hp_100 39 (by decide))
                have e_108 : μ98.1 111 29 = μ.1 111 29 := (hp_100 29 (by decide))
                have e_110 : μ98.1 111 29 = μ.1 111 29 := (hp_100 29 (by decide))
                have hX_109 : ∀ _ : Unit, bd μ98 = 0 → mPX μ μ98 tt 0 1 (11 * (9 - nn μ) - 3) [] := fun _ h0 => (hX_1 () (by have e9 : bd μ = bd μ := rfl; have e8 : bd μ98 = bd μ98 := rfl; omega)).qm (q0m.fr (K := [111]) (FrM.tr FrM.rf F_99 (by decide)) (by decide) (by decide) (by decide) (hp_100 22 (by decide)) (nS.le (by omega) (Int.le_of_eq ((hp_100 31 (by decide))).symm)))
                have hPM_111 : PM μ98 := hPM.wg (hp_100 4 (by decide)) (hp_100 6 (by decide)) (hp_100 7 (by decide)) (hp_100 8 (by decide)) (hp_100 9 (by decide)) (hp_100 11 (by decide)) (hp_100 12 (by decide)) ((((hp_100 14 (by decide)).trans htt.symm)).trans (htt.symm).symm) (by omega) (hp_100 29 (by decide)) (fun j => (F_99.1 123 (by decide) j))
                have e_112 : μ98.1 111 29 = μ.1 111 29 := (hp_100 29 (by decide))
                have hxt_113 : mEXT μ μ98 := (q0m.fr (K := [111]) (FrM.tr FrM.rf F_99 (by decide)) (by decide) (by decide) (by decide) (hp_100 22 (by decide)) (nS.le (by omega) (Int.le_of_eq ((hp_100 31 (by decide))).symm))).1
                have e_114 : μ98.1 111 22 = μ.1 111 22 := (hp_100 22 (by decide))
                have e_115 : μ98.1 111 22 = μ.1 111 22 := (hp_100 22 (by decide))
                have e_116 : μ98.1 111 9 = μ.1 111 9 := (hp_100 9 (by decide))
                have e_117 : μ98.1 111 9 = μ.1 111 9 := (hp_100 9 (by decide))
                have e_118 : μ98.1 111 29 = μ.1 111 29 := (hp_100 29 (by decide))
                have e_119 : μ98.1 111 39 = μ.1 111 39 := (hp_100 39 (by decide))
                exact xr_v G hret hlk dX12_worded_223 ⟨(FrM.tr FrM.rf F_99 (by decide)), (fun j hj => (hp_100 j (fun h9 => hj ((by decide : ∀ x ∈ ([15] : List Int), x ∈ ([6, 8, 9, 10, 11, 12, 13, 15, 16, 17, 18, 22, 29, 39] : List Int)) j h9)))), hPM_111, (by omega), (by omega), (by omega), (by omega), (by omega), (by omega), (fun j hj => (F_99.1 126 (by decide) j)), (fun _ h0 => (mPX.ex ((hX_109 ()) h0)).e (by omega)), hxt_113⟩
              · refine lv_aload_n hx hb dX12_worded_188 rfl (lv_at hl 1 rfl) ?_
                refine xc_vV G (b := 111) (rest := []) (As := []) (c_X12_next ω l μ  hPM (by omega) (by omega)) (wm 9 0 rfl rfl) (wm 9 2 rfl rfl) (wm 0 119 rfl rfl) rfl rfl (by decide) rfl (wm 1 18 rfl rfl) (wm 9 3 rfl rfl) (by decide) hR ⟨nfr hF (by decide), nlo hLo (by decide)⟩ (n := 0) rfl rfl (Nat.le_of_ble_eq_true rfl) hl.1 dX12_worded_189 (fun μ120 ρ d0 H locs hp G => ?_)
                obtain ⟨F_121, hp_122, hp_123, hp_124, hp_125, hp_126⟩ := hp
                have hpl_127 := hp_123.pl
                have hw_128 := wr_r (μ := μ120)
                have e_129 : μ120.1 111 31 = μ.1 111 31 := (hp_122 31 (by decide))
                refine lv_aload_n hx hb dX12_worded_192 rfl (lv_at hl 1 rfl) ?_
                refine lv_bipush (v := iv 46) hx hb dX12_worded_193 rfl ?_
                have e_130 : μ120.1 111 29 = μ.1 111 29 := (hp_122 29 (by decide))
                have e_132 : μ120.1 111 29 = μ.1 111 29 := (hp_122 29 (by decide))
                have hX_131 : ∀ _ : Unit, bd μ120 = 0 → mPX μ μ120 tt 0 1 (11 * (9 - nn μ) - 3) [] := fun _ h0 => (hX_1 () (by have e9 : bd μ = bd μ := rfl; have e8 : bd μ120 = bd μ120 := rfl; omega)).qm (q0m.fr (K := [111]) (FrM.tr FrM.rf F_121 (by decide)) (by decide) (by decide) (by decide) (hp_122 22 (by decide)) (nS.le (by omega) (Int.le_of_eq ((hp_122 31 (by decide))).symm)))
                refine xc_vV G (b := 111) (rest := []) (As := [.int (iv 46)]) (c_X12_wantsSign ω l μ120 46 (by unfold ir; omega) hp_123 (by omega)) (wm 9 114 rfl rfl) (wm 9 116 rfl rfl) (wm 0 141 rfl rfl) rfl rfl (by decide) rfl (wm 1 18 rfl rfl) (wm 9 117 rfl rfl) (by decide) hR ⟨nfr hF (by decide), nlo hLo (by decide)⟩ (n := 1) rfl rfl (Nat.le_of_ble_eq_true rfl) hl.1 dX12_worded_195 (fun μ133 ρ d0 H locs hp G => ?_)
                obtain ⟨F_134, hp_135, hp_136, hp_137, hp_138, hp_139, hp_140⟩ := hp
                have hpl_141 := hp_136.pl
                have hw_142 := wr_r (μ := μ133)
                have e_143 : μ133.1 111 31 = μ.1 111 31 := ((hp_135 31 (by decide)).trans (hp_122 31 (by decide)))
                refine lv_aload_n hx hb dX12_worded_198 rfl (lv_at hl 1 rfl) ?_
                have e_144 : μ133.1 111 29 = μ.1 111 29 := ((hp_135 29 (by decide)).trans (hp_122 29 (by decide)))
                have e_146 : μ133.1 111 29 = μ.1 111 29 := ((hp_135 29 (by decide)).trans (hp_122 29 (by decide)))
                have hX_145 : ∀ _ : Unit, bd μ133 = 0 → mPX μ μ133 tt 0 1 (11 * (9 - nn μ) - 3) [] := fun _ h0 => (hX_131 () (by have e9 : bd μ120 = bd μ120 := rfl; have e8 : bd μ133 = bd μ133 := rfl; omega)).qm (q0m.fr (K := [111]) (FrM.tr FrM.rf F_134 (by decide)) (by decide) (by decide) (by decide) ((((hp_135 22 (by decide)).trans (hp_122 22 (by decide)))).trans ((hp_122 22 (by decide))).symm) (nS.le (by omega) (Int.le_of_eq (((((hp_135 31 (by decide)).trans (hp_122 31 (by decide)))).trans ((hp_122 31 (by decide))).symm)).symm)))
                refine xc_lV G (b := 111) (rest := []) (As := []) (c_X12_takesName ω l μ133  hp_136 (by omega)) (wm 9 70 rfl rfl) (wm 9 72 rfl rfl) (wm 0 130 rfl rfl) rfl rfl (by decide) rfl (wm 1 18 rfl rfl) (wm 9 73 rfl rfl) (by decide) hR ⟨nfr hF (by decide), nlo hLo (by decide)⟩ (n := 0) rfl rfl (Nat.le_of_ble_eq_true rfl) hl.1 dX12_worded_199 (fun r_148 μ147 ρ d0 H locs hr_r_148 hp G => ?_)
                obtain ⟨F_149, hp_150, hp_151, hp_152, hp_153, hp_154, hp_155⟩ := hp
                have hpl_156 := hp_151.pl
                have hw_157 := wr_r (μ := μ147)
                have e_158 : μ147.1 111 31 = μ.1 111 31 := ((hp_150 31 (by decide)).trans ((hp_135 31 (by decide)).trans (hp_122 31 (by decide))))
                refine lv_lstore_n (lv' := [(2, .long (jv r_148)), (1, .int (iv (μ.1 111 11))), (0, .ref (oP ω 111))]) hx hb dX12_worded_202 rfl hl (by decide) rfl (fun ls hl => ?_)
                refine lv_aload_n hx hb dX12_worded_203 rfl (lv_at hl 2 rfl) ?_
                refine lv_iload_n hx hb dX12_worded_204 rfl (lv_at hl 1 rfl) ?_
                refine lv_bipush (v := iv 29) hx hb dX12_worded_205 rfl ?_
                refine xb_isub hx hb dX12_worded_207 ?_
                refine lv_lload_n hx hb dX12_worded_208 rfl (lv_at hl 0 rfl) ?_
                have e_159 : μ147.1 111 29 = μ.1 111 29 := ((hp_150 29 (by decide)).trans ((hp_135 29 (by decide)).trans (hp_122 29 (by decide))))
                have e_161 : μ147.1 111 29 = μ.1 111 29 := ((hp_150 29 (by decide)).trans ((hp_135 29 (by decide)).trans (hp_122 29 (by decide))))
                have hX_160 : ∀ _ : Unit, bd μ147 = 0 → mPX μ μ147 tt 0 1 (11 * (9 - nn μ) - 3) [] := fun _ h0 => (hX_145 () (by have e9 : bd μ133 = bd μ133 := rfl; have e8 : bd μ147 = bd μ147 := rfl; omega)).qm (q0m.fr (K := [111]) (FrM.tr FrM.rf F_149 (by decide)) (by decide) (by decide) (by decide) ((((hp_150 22 (by decide)).trans ((hp_135 22 (by decide)).trans (hp_122 22 (by decide))))).trans (((hp_135 22 (by decide)).trans (hp_122 22 (by decide)))).symm) (nS.le (by omega) (Int.le_of_eq (((((hp_150 31 (by decide)).trans ((hp_135 31 (by decide)).trans (hp_122 31 (by decide))))).trans (((hp_135 31 (by decide)).trans (hp_122 31 (by decide)))).symm)).symm)))
                have e_162 : μ147.1 111 29 = μ.1 111 29 := ((hp_150 29 (by decide)).trans ((hp_135 29 (by decide)).trans (hp_122 29 (by decide))))
                have e_163 : μ147.1 111 29 = μ.1 111 29 := ((hp_150 29 (by decide)).trans ((hp_135 29 (by decide)).trans (hp_122 29 (by decide))))
                have hxt_164 : mEXT μ μ147 := (q0m.fr (K := [111]) (FrM.tr (FrM.tr (FrM.tr FrM.rf F_121 (by decide)) F_134 (by decide)) F_149 (by decide)) (by decide) (by decide) (by decide) ((hp_150 22 (by decide)).trans ((hp_135 22 (by decide)).trans (hp_122 22 (by decide)))) (nS.le (by omega) (Int.le_of_eq (((hp_150 31 (by decide)).trans ((hp_135 31 (by decide)).trans (hp_122 31 (by decide))))).symm))).1
                have e_165 : μ147.1 111 14 = tt := ((hp_150 14 (by decide)).trans ((hp_135 14 (by decide)).trans ((hp_122 14 (by decide)).trans htt.symm)))
                have e_166 : μ147.1 111 22 = μ.1 111 22 := ((hp_150 22 (by decide)).trans ((hp_135 22 (by decide)).trans (hp_122 22 (by decide))))
                have e_167 : μ147.1 111 22 = μ.1 111 22 := ((hp_150 22 (by decide)).trans ((hp_135 22 (by decide)).trans (hp_122 22 (by decide))))
                have e_168 : μ147.1 111 39 = μ.1 111 39 := ((hp_150 39 (by decide)).trans ((hp_135 39 (by decide)).trans (hp_122 39 (by decide))))
                have e_169 : μ147.1 111 39 = μ.1 111 39 := ((hp_150 39 (by decide)).trans ((hp_135 39 (by decide)).trans (hp_122 39 (by decide))))
                have e_170 : μ147.1 111 22 = μ.1 111 22 := ((hp_150 22 (by decide)).trans ((hp_135 22 (by decide)).trans (hp_122 22 (by decide))))
                have e_171 : μ147.1 111 31 = μ.1 111 31 := ((hp_150 31 (by decide)).trans ((hp_135 31 (by decide)).trans (hp_122 31 (by decide))))
                have e_172 : μ147.1 111 31 = μ.1 111 31 := ((hp_150 31 (by decide)).trans ((hp_135 31 (by decide)).trans (hp_122 31 (by decide))))
                have e_173 : μ147.1 111 22 = μ.1 111 22 := ((hp_150 22 (by decide)).trans ((hp_135 22 (by decide)).trans (hp_122 22 (by decide))))
                have e_174 : μ147.1 111 22 = μ.1 111 22 := ((hp_150 22 (by decide)).trans ((hp_135 22 (by decide)).trans (hp_122 22 (by decide))))
                have e_175 : μ147.1 111 29 = μ.1 111 29 := ((hp_150 29 (by decide)).trans ((hp_135 29 (by decide)).trans (hp_122 29 (by decide))))
                have e_176 : μ147.1 111 39 = μ.1 111 39 := ((hp_150 39 (by decide)).trans ((hp_135 39 (by decide)).trans (hp_122 39 (by decide))))
                refine xc_vV G (b := 111) (rest := []) (As := [.int (iv ((μ.1 111 11) - 29)), .long (jv r_148)]) (c_X12_call ω l μ147 ((μ.1 111 11) - 29) r_148 F Lo Fu Lu kf tt (by unfold ir; omega) hr_r_148 (by omega) hF hLo hFu hLu hE hU hp_151 (by omega) (by omega) (by omega) (by omega) (by omega) (by omega) (fun _ h0 => ((hX_160 ()) h0).h1.1) (by omega)) (wm 9 179 rfl rfl) (wm 9 181 rfl rfl) (wm 0 157 rfl rfl) rfl rfl (by decide) rfl (wm 1 18 rfl rfl) (wm 9 182 rfl rfl) (by decide) hR ⟨sfr (F := F) (a := 2) (by decide), slo (L := Lo) (m := 7) (a := 44) (by decide)⟩ (n := 2) rfl rfl (Nat.le_of_ble_eq_true rfl) hl.1 dX12_worded_209 (fun μ177 ρ d0 H locs hp G => ?_)
                obtain ⟨F_178, hp_179, hp_180, hp_181, hp_182, hp_183, hp_184, hp_185, hp_186, hp_187, hp_188, hp_189⟩ := hp
                have hpl_190 := hp_180.pl
                have hw_191 := wr_r (μ := μ177)
                have hxt_192 : mEXT μ μ177 := hxt_164.tr hp_189
                have e_193 : μ177.1 111 31 = μ.1 111 31 := ((hp_179 31 (by decide)).trans ((hp_150 31 (by decide)).trans ((hp_135 31 (by decide)).trans (hp_122 31 (by decide)))))
                have hX_194 : ∀ _ : Unit, bd μ177 = 0 → mPX μ μ177 tt 1 1 (11 * (9 - nn μ) - 3) [] := fun _ h0 => (((hX_160 ()) (by have e9 : bd μ147 = bd μ147 := rfl; have e8 : bd μ177 = bd μ177 := rfl; omega)).app (hp_188 () h0) (by omega)).ee (by omega)
                refine lv_goto (tgt := 223) hx hb dX12_worded_212 (by decide) ?_
                exact xr_v G hret hlk dX12_worded_223 ⟨(FrM.tr (FrM.tr (FrM.tr (FrM.tr FrM.rf F_121 (by decide)) F_134 (by decide)) F_149 (by decide)) F_178 (by decide)), (fun j hj => ((hp_179 j (fun h9 => hj ((by decide : ∀ x ∈ ([6, 8, 9, 10, 11, 12, 13, 15, 16, 17, 18, 22, 29, 39] : List Int), x ∈ ([6, 8, 9, 10, 11, 12, 13, 15, 16, 17, 18, 22, 29, 39] : List Int)) j h9))).trans ((hp_150 j (fun h9 => hj ((by decide : ∀ x ∈ ([6, 8, 9, 10, 11, 12, 13, 15] : List Int), x ∈ ([6, 8, 9, 10, 11, 12, 13, 15, 16, 17, 18, 22, 29, 39] : List Int)) j h9))).trans ((hp_135 j (fun h9 => hj ((by decide : ∀ x ∈ ([6, 8, 9, 10, 11, 12, 13, 15] : List Int), x ∈ ([6, 8, 9, 10, 11, 12, 13, 15, 16, 17, 18, 22, 29, 39] : List Int)) j h9))).trans (hp_122 j (fun h9 => hj ((by decide : ∀ x ∈ ([6, 8, 9, 10, 11, 12, 13, 15] : List Int), x ∈ ([6, 8, 9, 10, 11, 12, 13, 15, 16, 17, 18, 22, 29, 39] : List Int)) j h9))))))), hp_180, (by omega), (by omega), (by omega), (by omega), (by omega), (by omega), (fun j hj => ((hp_187 j (by omega)).trans ((F_149.1 126 (by decide) j).trans ((F_134.1 126 (by decide) j).trans (F_121.1 126 (by decide) j))))), (fun _ h0 => (mPX.ex ((hX_194 ()) h0)).e (by omega)), hxt_192⟩
            · refine lv_aload_n hx hb dX12_worded_142 rfl (lv_at hl 1 rfl) ?_
              refine xa_geti G fd_X12 (a := 111) (x := tt) 14 rfl (by decide) rfl (wm 7 163 rfl rfl) ⟨rfl, rfl, rfl⟩ dX12_worded_143 rfl htt.symm ?_
              have hr_195 : -2147483648 ≤ tt ∧ tt ≤ 2147483647 := by have h9 := G.hr (a := 111) (k := 14) rfl; rw [show μ.1 111 14 = tt from htt.symm] at h9; exact h9
              refine lv_iconst (v := iv 2) hx hb dX12_worded_146 rfl ?_
              refine xb_icmp_ne (tgt := 182) hx hb (by unfold ir; omega) (by unfold ir; omega) dX12_worded_147 (by decide) (fun c_147 => ?_) (fun c_147 => ?_)
              · refine lv_iload_n hx hb dX12_worded_182 rfl (lv_at hl 0 rfl) ?_
                refine lv_bipush (v := iv 29) hx hb dX12_worded_183 rfl ?_
                refine xb_icmp_lt (tgt := 215) hx hb (by unfold ir; omega) (by unfold ir; omega) dX12_worded_185 (by decide) (fun c_185 => ?_) (fun c_185 => ?_)
                · refine lv_aload_n hx hb dX12_worded_215 rfl (lv_at hl 1 rfl) ?_
                  refine lv_aload_n hx hb dX12_worded_216 rfl (lv_at hl 1 rfl) ?_
                  refine xa_geti G fd_X12 (a := 111) (x := μ.1 111 9) 9 rfl (by decide) rfl (wm 7 158 rfl rfl) ⟨rfl, rfl, rfl⟩ dX12_worded_217 rfl rfl ?_
                  have hr_196 : -2147483648 ≤ μ.1 111 9 ∧ μ.1 111 9 ≤ 2147483647 := by have h9 := G.hr (a := 111) (k := 9) rfl; exact h9
                  refine xc_vV G (b := 111) (rest := []) (As := [.int (iv (μ.1 111 9))]) (c_X12_wrong ω l μ (μ.1 111 9) (by unfold ir; omega) (by omega)) (wm 9 22 rfl rfl) (wm 9 24 rfl rfl) (wm 0 123 rfl rfl) rfl rfl (by decide) rfl (wm 1 18 rfl rfl) (wm 9 25 rfl rfl) (by decide) hR ⟨nfr hF (by decide), nlo hLo (by decide)⟩ (n := 1) rfl rfl (Nat.le_of_ble_eq_true rfl) hl.1 dX12_worded_220 (fun μ197 ρ d0 H locs hp G => ?_)
                  obtain ⟨F_198, hp_199, hp_200⟩ := hp
                  have hw_201 := wr_r (μ := μ197)
                  have e_202 : μ197.1 111 31 = μ.1 111 31 := (hp_199 31 (by decide))
                  have e_203 : μ197.1 111 22 = μ.1 111 22 := (hp_199 22 (by decide))
                  have e_204 : μ197.1 111 9 = μ.1 111 9 := (hp_199 9 (by decide))
                  have e_205 : μ197.1 111 29 = μ.1 111 29 := (hp_199 29 (by decide))
                  have e_206 : μ197.1 111 39 = μ.1 111 39 := (hp_199 39 (by decide))
                  have e_207 : μ197.1 111 29 = μ.1 111 29 := (hp_199 29 (by decide))
                  have e_209 : μ197.1 111 29 = μ.1 111 29 := (hp_199 29 (by decide))
                  have hX_208 : ∀ _ : Unit, bd μ197 = 0 → mPX μ μ197 tt 0 1 (11 * (9 - nn μ) - 3) [] := fun _ h0 => (hX_1 () (by have e9 : bd μ = bd μ := rfl; have e8 : bd μ197 = bd μ197 := rfl; omega)).qm (q0m.fr (K := [111]) (FrM.tr FrM.rf F_198 (by decide)) (by decide) (by decide) (by decide) (hp_199 22 (by decide)) (nS.le (by omega) (Int.le_of_eq ((hp_199 31 (by decide))).symm)))
                  have hPM_210 : PM μ197 := hPM.wg (hp_199 4 (by decide)) (hp_199 6 (by decide)) (hp_199 7 (by decide)) (hp_199 8 (by decide)) (hp_199 9 (by decide)) (hp_199 11 (by decide)) (hp_199 12 (by decide)) ((((hp_199 14 (by decide)).trans htt.symm)).trans (htt.symm).symm) (by omega) (hp_199 29 (by decide)) (fun j => (F_198.1 123 (by decide) j))
                  have e_211 : μ197.1 111 29 = μ.1 111 29 := (hp_199 29 (by decide))
                  have hxt_212 : mEXT μ μ197 := (q0m.fr (K := [111]) (FrM.tr FrM.rf F_198 (by decide)) (by decide) (by decide) (by decide) (hp_199 22 (by decide)) (nS.le (by omega) (Int.le_of_eq ((hp_199 31 (by decide))).symm))).1
                  have e_213 : μ197.1 111 22 = μ.1 111 22 := (hp_199 22 (by decide))
                  have e_214 : μ197.1 111 22 = μ.1 111 22 := (hp_199 22 (by decide))
                  have e_215 : μ197.1 111 9 = μ.1 111 9 := (hp_199 9 (by decide))
                  have e_216 : μ197.1 111 9 = μ.1 111 9 := (hp_199 9 (by decide))
                  have e_217 : μ197.1 111 29 = μ.1 111 29 := (hp_199 29 (by decide))
                  have e_218 : μ197.1 111 39 = μ.1 111 39 := (hp_199 39 (by decide))
                  exact xr_v G hret hlk dX12_worded_223 ⟨(FrM.tr FrM.rf F_198 (by decide)), (fun j hj => (hp_199 j (fun h9 => hj ((by decide : ∀ x ∈ ([15] : List Int), x ∈ ([6, 8, 9, 10, 11, 12, 13, 15, 16, 17, 18, 22, 29, 39] : List Int)) j h9)))), hPM_210, (by omega), (by omega), (by omega), (by omega), (by omega), (by omega), (fun j hj => (F_198.1 126 (by decide) j)), (fun _ h0 => (mPX.ex ((hX_208 ()) h0)).e (by omega)), hxt_212⟩
                · refine lv_aload_n hx hb dX12_worded_188 rfl (lv_at hl 1 rfl) ?_
                  refine xc_vV G (b := 111) (rest := []) (As := []) (c_X12_next ω l μ  hPM (by omega) (by omega)) (wm 9 0 rfl rfl) (wm 9 2 rfl rfl) (wm 0 119 rfl rfl) rfl rfl (by decide) rfl (wm 1 18 rfl rfl) (wm 9 3 rfl rfl) (by decide) hR ⟨nfr hF (by decide), nlo hLo (by decide)⟩ (n := 0) rfl rfl (Nat.le_of_ble_eq_true rfl) hl.1 dX12_worded_189 (fun μ219 ρ d0 H locs hp G => ?_)
                  obtain ⟨F_220, hp_221, hp_222, hp_223, hp_224, hp_225⟩ := hp
                  have hpl_226 := hp_222.pl
                  have hw_227 := wr_r (μ := μ219)
                  have e_228 : μ219.1 111 31 = μ.1 111 31 := (hp_221 31 (by decide))
                  refine lv_aload_n hx hb dX12_worded_192 rfl (lv_at hl 1 rfl) ?_
                  refine lv_bipush (v := iv 46) hx hb dX12_worded_193 rfl ?_
                  have e_229 : μ219.1 111 29 = μ.1 111 29 := (hp_221 29 (by decide))
                  have e_231 : μ219.1 111 29 = μ.1 111 29 := (hp_221 29 (by decide))
                  have hX_230 : ∀ _ : Unit, bd μ219 = 0 → mPX μ μ219 tt 0 1 (11 * (9 - nn μ) - 3) [] := fun _ h0 => (hX_1 () (by have e9 : bd μ = bd μ := rfl; have e8 : bd μ219 = bd μ219 := rfl; omega)).qm (q0m.fr (K := [111]) (FrM.tr FrM.rf F_220 (by decide)) (by decide) (by decide) (by decide) (hp_221 22 (by decide)) (nS.le (by omega) (Int.le_of_eq ((hp_221 31 (by decide))).symm)))
                  refine xc_vV G (b := 111) (rest := []) (As := [.int (iv 46)]) (c_X12_wantsSign ω l μ219 46 (by unfold ir; omega) hp_222 (by omega)) (wm 9 114 rfl rfl) (wm 9 116 rfl rfl) (wm 0 141 rfl rfl) rfl rfl (by decide) rfl (wm 1 18 rfl rfl) (wm 9 117 rfl rfl) (by decide) hR ⟨nfr hF (by decide), nlo hLo (by decide)⟩ (n := 1) rfl rfl (Nat.le_of_ble_eq_true rfl) hl.1 dX12_worded_195 (fun μ232 ρ d0 H locs hp G => ?_)
                  obtain ⟨F_233, hp_234, hp_235, hp_236, hp_237, hp_238, hp_239⟩ := hp
                  have hpl_240 := hp_235.pl
                  have hw_241 := wr_r (μ := μ232)
                  have e_242 : μ232.1 111 31 = μ.1 111 31 := ((hp_234 31 (by decide)).trans (hp_221 31 (by decide)))
                  refine lv_aload_n hx hb dX12_worded_198 rfl (lv_at hl 1 rfl) ?_
                  have e_243 : μ232.1 111 29 = μ.1 111 29 := ((hp_234 29 (by decide)).trans (hp_221 29 (by decide)))
                  have e_245 : μ232.1 111 29 = μ.1 111 29 := ((hp_234 29 (by decide)).trans (hp_221 29 (by decide)))
                  have hX_244 : ∀ _ : Unit, bd μ232 = 0 → mPX μ μ232 tt 0 1 (11 * (9 - nn μ) - 3) [] := fun _ h0 => (hX_230 () (by have e9 : bd μ219 = bd μ219 := rfl; have e8 : bd μ232 = bd μ232 := rfl; omega)).qm (q0m.fr (K := [111]) (FrM.tr FrM.rf F_233 (by decide)) (by decide) (by decide) (by decide) ((((hp_234 22 (by decide)).trans (hp_221 22 (by decide)))).trans ((hp_221 22 (by decide))).symm) (nS.le (by omega) (Int.le_of_eq (((((hp_234 31 (by decide)).trans (hp_221 31 (by decide)))).trans ((hp_221 31 (by decide))).symm)).symm)))
                  refine xc_lV G (b := 111) (rest := []) (As := []) (c_X12_takesName ω l μ232  hp_235 (by omega)) (wm 9 70 rfl rfl) (wm 9 72 rfl rfl) (wm 0 130 rfl rfl) rfl rfl (by decide) rfl (wm 1 18 rfl rfl) (wm 9 73 rfl rfl) (by decide) hR ⟨nfr hF (by decide), nlo hLo (by decide)⟩ (n := 0) rfl rfl (Nat.le_of_ble_eq_true rfl) hl.1 dX12_worded_199 (fun r_247 μ246 ρ d0 H locs hr_r_247 hp G => ?_)
                  obtain ⟨F_248, hp_249, hp_250, hp_251, hp_252, hp_253, hp_254⟩ := hp
                  have hpl_255 := hp_250.pl
                  have hw_256 := wr_r (μ := μ246)
                  have e_257 : μ246.1 111 31 = μ.1 111 31 := ((hp_249 31 (by decide)).trans ((hp_234 31 (by decide)).trans (hp_221 31 (by decide))))
                  refine lv_lstore_n (lv' := [(2, .long (jv r_247)), (1, .int (iv (μ.1 111 11))), (0, .ref (oP ω 111))]) hx hb dX12_worded_202 rfl hl (by decide) rfl (fun ls hl => ?_)
                  refine lv_aload_n hx hb dX12_worded_203 rfl (lv_at hl 2 rfl) ?_
                  refine lv_iload_n hx hb dX12_worded_204 rfl (lv_at hl 1 rfl) ?_
                  refine lv_bipush (v := iv 29) hx hb dX12_worded_205 rfl ?_
                  refine xb_isub hx hb dX12_worded_207 ?_
                  refine lv_lload_n hx hb dX12_worded_208 rfl (lv_at hl 0 rfl) ?_
                  have e_258 : μ246.1 111 29 = μ.1 111 29 := ((hp_249 29 (by decide)).trans ((hp_234 29 (by decide)).trans (hp_221 29 (by decide))))
                  have e_260 : μ246.1 111 29 = μ.1 111 29 := ((hp_249 29 (by decide)).trans ((hp_234 29 (by decide)).trans (hp_221 29 (by decide))))
                  have hX_259 : ∀ _ : Unit, bd μ246 = 0 → mPX μ μ246 tt 0 1 (11 * (9 - nn μ) - 3) [] := fun _ h0 => (hX_244 () (by have e9 : bd μ232 = bd μ232 := rfl; have e8 : bd μ246 = bd μ246 := rfl; omega)).qm (q0m.fr (K := [111]) (FrM.tr FrM.rf F_248 (by decide)) (by decide) (by decide) (by decide) ((((hp_249 22 (by decide)).trans ((hp_234 22 (by decide)).trans (hp_221 22 (by decide))))).trans (((hp_234 22 (by decide)).trans (hp_221 22 (by decide)))).symm) (nS.le (by omega) (Int.le_of_eq (((((hp_249 31 (by decide)).trans ((hp_234 31 (by decide)).trans (hp_221 31 (by decide))))).trans (((hp_234 31 (by decide)).trans (hp_221 31 (by decide)))).symm)).symm)))
                  have e_261 : μ246.1 111 29 = μ.1 111 29 := ((hp_249 29 (by decide)).trans ((hp_234 29 (by decide)).trans (hp_221 29 (by decide))))
                  have e_262 : μ246.1 111 29 = μ.1 111 29 := ((hp_249 29 (by decide)).trans ((hp_234 29 (by decide)).trans (hp_221 29 (by decide))))
                  have hxt_263 : mEXT μ μ246 := (q0m.fr (K := [111]) (FrM.tr (FrM.tr (FrM.tr FrM.rf F_220 (by decide)) F_233 (by decide)) F_248 (by decide)) (by decide) (by decide) (by decide) ((hp_249 22 (by decide)).trans ((hp_234 22 (by decide)).trans (hp_221 22 (by decide)))) (nS.le (by omega) (Int.le_of_eq (((hp_249 31 (by decide)).trans ((hp_234 31 (by decide)).trans (hp_221 31 (by decide))))).symm))).1
                  have e_264 : μ246.1 111 14 = tt := ((hp_249 14 (by decide)).trans ((hp_234 14 (by decide)).trans ((hp_221 14 (by decide)).trans htt.symm)))
                  have e_265 : μ246.1 111 22 = μ.1 111 22 := ((hp_249 22 (by decide)).trans ((hp_234 22 (by decide)).trans (hp_221 22 (by decide))))
                  have e_266 : μ246.1 111 22 = μ.1 111 22 := ((hp_249 22 (by decide)).trans ((hp_234 22 (by decide)).trans (hp_221 22 (by decide))))
                  have e_267 : μ246.1 111 39 = μ.1 111 39 := ((hp_249 39 (by decide)).trans ((hp_234 39 (by decide)).trans (hp_221 39 (by decide))))
                  have e_268 : μ246.1 111 39 = μ.1 111 39 := ((hp_249 39 (by decide)).trans ((hp_234 39 (by decide)).trans (hp_221 39 (by decide))))
                  have e_269 : μ246.1 111 22 = μ.1 111 22 := ((hp_249 22 (by decide)).trans ((hp_234 22 (by decide)).trans (hp_221 22 (by decide))))
                  have e_270 : μ246.1 111 31 = μ.1 111 31 := ((hp_249 31 (by decide)).trans ((hp_234 31 (by decide)).trans (hp_221 31 (by decide))))
                  have e_271 : μ246.1 111 31 = μ.1 111 31 := ((hp_249 31 (by decide)).trans ((hp_234 31 (by decide)).trans (hp_221 31 (by decide))))
                  have e_272 : μ246.1 111 22 = μ.1 111 22 := ((hp_249 22 (by decide)).trans ((hp_234 22 (by decide)).trans (hp_221 22 (by decide))))
                  have e_273 : μ246.1 111 22 = μ.1 111 22 := ((hp_249 22 (by decide)).trans ((hp_234 22 (by decide)).trans (hp_221 22 (by decide))))
                  have e_274 : μ246.1 111 29 = μ.1 111 29 := ((hp_249 29 (by decide)).trans ((hp_234 29 (by decide)).trans (hp_221 29 (by decide))))
                  have e_275 : μ246.1 111 39 = μ.1 111 39 := ((hp_249 39 (by decide)).trans ((hp_234 39 (by decide)).trans (hp_221 39 (by decide))))
                  refine xc_vV G (b := 111) (rest := []) (As := [.int (iv ((μ.1 111 11) - 29)), .long (jv r_247)]) (c_X12_call ω l μ246 ((μ.1 111 11) - 29) r_247 F Lo Fu Lu kf tt (by unfold ir; omega) hr_r_247 (by omega) hF hLo hFu hLu hE hU hp_250 (by omega) (by omega) (by omega) (by omega) (by omega) (by omega) (fun _ h0 => ((hX_259 ()) h0).h1.1) (by omega)) (wm 9 179 rfl rfl) (wm 9 181 rfl rfl) (wm 0 157 rfl rfl) rfl rfl (by decide) rfl (wm 1 18 rfl rfl) (wm 9 182 rfl rfl) (by decide) hR ⟨sfr (F := F) (a := 2) (by decide), slo (L := Lo) (m := 7) (a := 44) (by decide)⟩ (n := 2) rfl rfl (Nat.le_of_ble_eq_true rfl) hl.1 dX12_worded_209 (fun μ276 ρ d0 H locs hp G => ?_)
                  obtain ⟨F_277, hp_278, hp_279, hp_280, hp_281, hp_282, hp_283, hp_284, hp_285, hp_286, hp_287, hp_288⟩ := hp
                  have hpl_289 := hp_279.pl
                  have hw_290 := wr_r (μ := μ276)
                  have hxt_291 : mEXT μ μ276 := hxt_263.tr hp_288
                  have e_292 : μ276.1 111 31 = μ.1 111 31 := ((hp_278 31 (by decide)).trans ((hp_249 31 (by decide)).trans ((hp_234 31 (by decide)).trans (hp_221 31 (by decide)))))
                  have hX_293 : ∀ _ : Unit, bd μ276 = 0 → mPX μ μ276 tt 1 1 (11 * (9 - nn μ) - 3) [] := fun _ h0 => (((hX_259 ()) (by have e9 : bd μ246 = bd μ246 := rfl; have e8 : bd μ276 = bd μ276 := rfl; omega)).app (hp_287 () h0) (by omega)).ee (by omega)
                  refine lv_goto (tgt := 223) hx hb dX12_worded_212 (by decide) ?_
                  exact xr_v G hret hlk dX12_worded_223 ⟨(FrM.tr (FrM.tr (FrM.tr (FrM.tr FrM.rf F_220 (by decide)) F_233 (by decide)) F_248 (by decide)) F_277 (by decide)), (fun j hj => ((hp_278 j (fun h9 => hj ((by decide : ∀ x ∈ ([6, 8, 9, 10, 11, 12, 13, 15, 16, 17, 18, 22, 29, 39] : List Int), x ∈ ([6, 8, 9, 10, 11, 12, 13, 15, 16, 17, 18, 22, 29, 39] : List Int)) j h9))).trans ((hp_249 j (fun h9 => hj ((by decide : ∀ x ∈ ([6, 8, 9, 10, 11, 12, 13, 15] : List Int), x ∈ ([6, 8, 9, 10, 11, 12, 13, 15, 16, 17, 18, 22, 29, 39] : List Int)) j h9))).trans ((hp_234 j (fun h9 => hj ((by decide : ∀ x ∈ ([6, 8, 9, 10, 11, 12, 13, 15] : List Int), x ∈ ([6, 8, 9, 10, 11, 12, 13, 15, 16, 17, 18, 22, 29, 39] : List Int)) j h9))).trans (hp_221 j (fun h9 => hj ((by decide : ∀ x ∈ ([6, 8, 9, 10, 11, 12, 13, 15] : List Int), x ∈ ([6, 8, 9, 10, 11, 12, 13, 15, 16, 17, 18, 22, 29, 39] : List Int)) j h9))))))), hp_279, (by omega), (by omega), (by omega), (by omega), (by omega), (by omega), (fun j hj => ((hp_286 j (by omega)).trans ((F_248.1 126 (by decide) j).trans ((F_233.1 126 (by decide) j).trans (F_220.1 126 (by decide) j))))), (fun _ h0 => (mPX.ex ((hX_293 ()) h0)).e (by omega)), hxt_291⟩
              · refine lv_aload_n hx hb dX12_worded_150 rfl (lv_at hl 1 rfl) ?_
                refine xc_vV G (b := 111) (rest := []) (As := []) (c_X12_next ω l μ  hPM (by omega) (by omega)) (wm 9 0 rfl rfl) (wm 9 2 rfl rfl) (wm 0 119 rfl rfl) rfl rfl (by decide) rfl (wm 1 18 rfl rfl) (wm 9 3 rfl rfl) (by decide) hR ⟨nfr hF (by decide), nlo hLo (by decide)⟩ (n := 0) rfl rfl (Nat.le_of_ble_eq_true rfl) hl.1 dX12_worded_151 (fun μ294 ρ d0 H locs hp G => ?_)
                obtain ⟨F_295, hp_296, hp_297, hp_298, hp_299, hp_300⟩ := hp
                have hpl_301 := hp_297.pl
                have hw_302 := wr_r (μ := μ294)
                have e_303 : μ294.1 111 31 = μ.1 111 31 := (hp_296 31 (by decide))
                refine lv_aload_n hx hb dX12_worded_154 rfl (lv_at hl 1 rfl) ?_
                refine lv_bipush (v := iv 40) hx hb dX12_worded_155 rfl ?_
                have e_304 : μ294.1 111 29 = μ.1 111 29 := (hp_296 29 (by decide))
                have e_306 : μ294.1 111 29 = μ.1 111 29 := (hp_296 29 (by decide))
                have hX_305 : ∀ _ : Unit, bd μ294 = 0 → mPX μ μ294 tt 0 1 (11 * (9 - nn μ) - 3) [] := fun _ h0 => (hX_1 () (by have e9 : bd μ = bd μ := rfl; have e8 : bd μ294 = bd μ294 := rfl; omega)).qm (q0m.fr (K := [111]) (FrM.tr FrM.rf F_295 (by decide)) (by decide) (by decide) (by decide) (hp_296 22 (by decide)) (nS.le (by omega) (Int.le_of_eq ((hp_296 31 (by decide))).symm)))
                refine xc_vV G (b := 111) (rest := []) (As := [.int (iv 40)]) (c_X12_opensWith ω l μ294 40 (by unfold ir; omega) hp_297 (by omega) (by omega)) (wm 9 86 rfl rfl) (wm 9 88 rfl rfl) (wm 0 134 rfl rfl) rfl rfl (by decide) rfl (wm 1 18 rfl rfl) (wm 9 89 rfl rfl) (by decide) hR ⟨nfr hF (by decide), nlo hLo (by decide)⟩ (n := 1) rfl rfl (Nat.le_of_ble_eq_true rfl) hl.1 dX12_worded_157 (fun μ307 ρ d0 H locs hp G => ?_)
                obtain ⟨F_308, hp_309, hp_310, hp_311, hp_312, hp_313, hp_314⟩ := hp
                have hpl_315 := hp_310.pl
                have hw_316 := wr_r (μ := μ307)
                have e_317 : μ307.1 111 31 = μ.1 111 31 := ((hp_309 31 (by decide)).trans (hp_296 31 (by decide)))
                refine lv_aload_n hx hb dX12_worded_160 rfl (lv_at hl 1 rfl) ?_
                have e_318 : μ307.1 111 29 = μ.1 111 29 := ((hp_309 29 (by decide)).trans (hp_296 29 (by decide)))
                have e_320 : μ307.1 111 29 = μ.1 111 29 := ((hp_309 29 (by decide)).trans (hp_296 29 (by decide)))
                have hX_319 : ∀ _ : Unit, bd μ307 = 0 → mPX μ μ307 tt 0 1 (11 * (9 - nn μ) - 3) [] := fun _ h0 => (hX_305 () (by have e9 : bd μ294 = bd μ294 := rfl; have e8 : bd μ307 = bd μ307 := rfl; omega)).qm (q0m.fr (K := [111]) (FrM.tr FrM.rf F_308 (by decide)) (by decide) (by decide) (by decide) ((((hp_309 22 (by decide)).trans (hp_296 22 (by decide)))).trans ((hp_296 22 (by decide))).symm) (nS.le (by omega) (Int.le_of_eq (((((hp_309 31 (by decide)).trans (hp_296 31 (by decide)))).trans ((hp_296 31 (by decide))).symm)).symm)))
                have e_321 : μ307.1 111 29 = μ.1 111 29 := ((hp_309 29 (by decide)).trans (hp_296 29 (by decide)))
                have e_322 : μ307.1 111 29 = μ.1 111 29 := ((hp_309 29 (by decide)).trans (hp_296 29 (by decide)))
                have hxt_323 : mEXT μ μ307 := (q0m.fr (K := [111]) (FrM.tr (FrM.tr FrM.rf F_295 (by decide)) F_308 (by decide)) (by decide) (by decide) (by decide) ((hp_309 22 (by decide)).trans (hp_296 22 (by decide))) (nS.le (by omega) (Int.le_of_eq (((hp_309 31 (by decide)).trans (hp_296 31 (by decide)))).symm))).1
                have e_324 : μ307.1 111 14 = tt := ((hp_309 14 (by decide)).trans ((hp_296 14 (by decide)).trans htt.symm))
                have e_325 : μ307.1 111 22 = μ.1 111 22 := ((hp_309 22 (by decide)).trans (hp_296 22 (by decide)))
                have e_326 : μ307.1 111 22 = μ.1 111 22 := ((hp_309 22 (by decide)).trans (hp_296 22 (by decide)))
                have e_327 : μ307.1 111 39 = μ.1 111 39 := ((hp_309 39 (by decide)).trans (hp_296 39 (by decide)))
                have e_328 : μ307.1 111 39 = μ.1 111 39 := ((hp_309 39 (by decide)).trans (hp_296 39 (by decide)))
                have e_329 : μ307.1 111 22 = μ.1 111 22 := ((hp_309 22 (by decide)).trans (hp_296 22 (by decide)))
                have e_330 : μ307.1 111 31 = μ.1 111 31 := ((hp_309 31 (by decide)).trans (hp_296 31 (by decide)))
                have e_331 : μ307.1 111 31 = μ.1 111 31 := ((hp_309 31 (by decide)).trans (hp_296 31 (by decide)))
                have e_332 : μ307.1 111 22 = μ.1 111 22 := ((hp_309 22 (by decide)).trans (hp_296 22 (by decide)))
                have e_333 : μ307.1 111 22 = μ.1 111 22 := ((hp_309 22 (by decide)).trans (hp_296 22 (by decide)))
                have e_334 : μ307.1 111 29 = μ.1 111 29 := ((hp_309 29 (by decide)).trans (hp_296 29 (by decide)))
                have e_335 : μ307.1 111 39 = μ.1 111 39 := ((hp_309 39 (by decide)).trans (hp_296 39 (by decide)))
                refine xc_vV G (b := 111) (rest := []) (As := []) (((fun (_ : Om) (_ : Launch) => hE)) ω l μ307 tt (by omega) hp_310 (by omega) (by omega) (by omega) (by omega) (by omega) (by omega) (fun _ h0 => ((hX_319 ()) h0).h1.1)) (wm 9 139 rfl rfl) (wm 9 141 rfl rfl) (wm 0 147 rfl rfl) rfl rfl (by decide) rfl (wm 1 18 rfl rfl) (wm 9 142 rfl rfl) (by decide) hR ⟨sfr (F := F) (a := 0) (by decide), slo (L := Lo) (m := 1) (a := 0) (by decide)⟩ (n := 0) rfl rfl (Nat.le_of_ble_eq_true rfl) hl.1 dX12_worded_161 (fun μ336 ρ d0 H locs hp G => ?_)
                obtain ⟨F_337, hp_338, hp_339, hp_340, hp_341, hp_342, hp_343, hp_344, hp_345, hp_346, hp_347, hp_348⟩ := hp
                have hpl_349 := hp_339.pl
                have hw_350 := wr_r (μ := μ336)
                have hxt_351 : mEXT μ μ336 := hxt_323.tr hp_348
                have e_352 : μ336.1 111 31 = μ.1 111 31 := ((hp_338 31 (by decide)).trans ((hp_309 31 (by decide)).trans (hp_296 31 (by decide))))
                have hX_353 : ∀ _ : Unit, bd μ336 = 0 → mPX μ μ336 tt 1 1 (11 * (9 - nn μ) - 3) [] := fun _ h0 => (((hX_319 ()) (by have e9 : bd μ307 = bd μ307 := rfl; have e8 : bd μ336 = bd μ336 := rfl; omega)).app (hp_347 () h0) (by omega)).ee (by omega)
                refine lv_aload_n hx hb dX12_worded_164 rfl (lv_at hl 1 rfl) ?_
                refine lv_bipush (v := iv 41) hx hb dX12_worded_165 rfl ?_
                refine xc_vV G (b := 111) (rest := []) (As := [.int (iv 41)]) (c_X12_closesWith ω l μ336 41 (by unfold ir; omega) hp_339 (by omega) (by omega)) (wm 9 110 rfl rfl) (wm 9 112 rfl rfl) (wm 0 140 rfl rfl) rfl rfl (by decide) rfl (wm 1 18 rfl rfl) (wm 9 113 rfl rfl) (by decide) hR ⟨nfr hF (by decide), nlo hLo (by decide)⟩ (n := 1) rfl rfl (Nat.le_of_ble_eq_true rfl) hl.1 dX12_worded_167 (fun μ354 ρ d0 H locs hp G => ?_)
                obtain ⟨F_355, hp_356, hp_357, hp_358, hp_359, hp_360, hp_361⟩ := hp
                have hpl_362 := hp_357.pl
                have hw_363 := wr_r (μ := μ354)
                have e_364 : μ354.1 111 31 = μ.1 111 31 := ((hp_356 31 (by decide)).trans ((hp_338 31 (by decide)).trans ((hp_309 31 (by decide)).trans (hp_296 31 (by decide)))))
                refine lv_aload_n hx hb dX12_worded_170 rfl (lv_at hl 1 rfl) ?_
                refine lv_bipush (v := iv 30) hx hb dX12_worded_171 rfl ?_
                refine lv_lconst (v := jv 0) hx hb dX12_worded_173 rfl ?_
                refine lv_iconst (v := iv 0) hx hb dX12_worded_174 rfl ?_
                have e_365 : μ354.1 111 29 = μ336.1 111 29 := (hp_356 29 (by decide))
                have e_367 : μ354.1 111 29 = μ336.1 111 29 := (hp_356 29 (by decide))
                have hX_366 : ∀ _ : Unit, bd μ354 = 0 → mPX μ μ354 tt 1 1 (11 * (9 - nn μ) - 3) [] := fun _ h0 => (hX_353 () (by have e9 : bd μ336 = bd μ336 := rfl; have e8 : bd μ354 = bd μ354 := rfl; omega)).qm (q0m.fr (K := [111]) (FrM.tr FrM.rf F_355 (by decide)) (by decide) (by decide) (by decide) (hp_356 22 (by decide)) (nS.le (by omega) (Int.le_of_eq (((((hp_356 31 (by decide)).trans ((hp_338 31 (by decide)).trans ((hp_309 31 (by decide)).trans (hp_296 31 (by decide)))))).trans (((hp_338 31 (by decide)).trans ((hp_309 31 (by decide)).trans (hp_296 31 (by decide))))).symm)).symm)))
                have e_368 : μ354.1 111 29 = μ336.1 111 29 := (hp_356 29 (by decide))
                have e_369 : μ354.1 111 29 = μ336.1 111 29 := (hp_356 29 (by decide))
                have hxt_370 : mEXT μ μ354 := hxt_351.tr (q0m.fr (K := [111]) (FrM.tr FrM.rf F_355 (by decide)) (by decide) (by decide) (by decide) (hp_356 22 (by decide)) (nS.le (by omega) (Int.le_of_eq (((((hp_356 31 (by decide)).trans ((hp_338 31 (by decide)).trans ((hp_309 31 (by decide)).trans (hp_296 31 (by decide)))))).trans (((hp_338 31 (by decide)).trans ((hp_309 31 (by decide)).trans (hp_296 31 (by decide))))).symm)).symm))).1
                have e_371 : μ354.1 111 22 = μ336.1 111 22 := (hp_356 22 (by decide))
                have e_372 : μ354.1 111 22 = μ336.1 111 22 := (hp_356 22 (by decide))
                have e_373 : μ354.1 111 22 = μ336.1 111 22 := (hp_356 22 (by decide))
                have e_374 : μ354.1 111 22 = μ336.1 111 22 := (hp_356 22 (by decide))
                refine xc_iV G (b := 111) (rest := []) (As := [.int (iv 30), .long (jv 0), .int (iv 0)]) (c_X12_emit ω l μ354 30 0 0 (by unfold ir; omega) (by unfold jr; omega) (by unfold ir; omega) (by omega)) (wm 9 126 rfl rfl) (wm 9 128 rfl rfl) (wm 0 144 rfl rfl) rfl rfl (by decide) rfl (wm 1 18 rfl rfl) (wm 9 129 rfl rfl) (by decide) hR ⟨nfr hF (by decide), nlo hLo (by decide)⟩ (n := 3) rfl rfl (Nat.le_of_ble_eq_true rfl) hl.1 dX12_worded_175 (fun r_376 μ375 ρ d0 H locs hr_r_376 hp G => ?_)
                have hr_r_376 : -2147483648 ≤ r_376 ∧ r_376 ≤ 2147483647 := hr_r_376
                obtain ⟨F_377, hp_378, hp_379, hp_380, hp_381⟩ := hp
                have hxt_382 : mEXT μ μ375 := hxt_370.tr hp_379.1
                have e_383 : wr μ375 = wr μ354 := (wr_cg (hp_378 15 (by decide)))
                have e_384 : bd μ375 = bd μ354 := (bd_cg (hp_378 15 (by decide)) (hp_378 16 (by decide)) (hp_378 17 (by decide)))
                have e_385 : nn μ375 = nn μ354 := (nn_cg (hp_378 15 (by decide)) (hp_378 18 (by decide)))
                have e_387 : μ375.1 111 29 = μ336.1 111 29 := ((hp_378 29 (by decide)).trans (hp_356 29 (by decide)))
                have hX_386 : ∀ _ : Unit, bd μ375 = 0 → mPX μ μ375 tt 1 1 (11 * (9 - nn μ) - 3) [] := fun _ h0 => ((((hX_366 ()) (by have e9 : bd μ354 = bd μ354 := rfl; have e8 : bd μ375 = bd μ354 := (bd_cg (hp_378 15 (by decide)) (hp_378 16 (by decide)) (hp_378 17 (by decide))); omega))).app (mAD.ex (t := tt) (e := 0) hp_379 ((hX_366 ()) (by have e9 : bd μ354 = bd μ354 := rfl; have e8 : bd μ375 = bd μ354 := (bd_cg (hp_378 15 (by decide)) (hp_378 16 (by decide)) (hp_378 17 (by decide))); omega)).h1.1 (by unfold mpl; omega) rfl (by have h9 := ((hX_366 ()) (by have e9 : bd μ354 = bd μ354 := rfl; have e8 : bd μ375 = bd μ354 := (bd_cg (hp_378 15 (by decide)) (hp_378 16 (by decide)) (hp_378 17 (by decide))); omega)).h1; omega) ⟨fun q => absurd q (by decide), ⟨fun q => absurd q (by decide), fun q => absurd q (by decide)⟩, fun _ => by have h9 := ((hX_366 ()) (by have e9 : bd μ354 = bd μ354 := rfl; have e8 : bd μ375 = bd μ354 := (bd_cg (hp_378 15 (by decide)) (hp_378 16 (by decide)) (hp_378 17 (by decide))); omega)).h1; rw [(hp_379.1.fo (t := tt) _ (Int.le_refl _)).1]; omega, fun q => absurd q (by decide), fun q => absurd q (by decide), fun q => absurd q (by decide), fun q => absurd q (by decide), fun q => absurd q (by decide), fun q => absurd q (by decide), fun q => absurd q (by decide), fun q => absurd q (by decide), fun q => absurd q (by decide), fun q => absurd q (by decide), fun q => absurd q (by decide), fun q => absurd q (by decide), fun q => absurd q (by decide), fun q => absurd q (by decide), fun q => absurd q (by decide), fun q => absurd q (by decide), fun q => absurd q (by decide), fun q => absurd q (by decide), ⟨fun q => absurd q (by decide), fun q => absurd q (by decide), fun q => absurd q (by decide)⟩, ⟨by decide, by decide⟩⟩) (by have h9 := ((hX_366 ()) (by have e9 : bd μ354 = bd μ354 := rfl; have e8 : bd μ375 = bd μ354 := (bd_cg (hp_378 15 (by decide)) (hp_378 16 (by decide)) (hp_378 17 (by decide))); omega)).h1; omega)).ee (by omega)
                refine lv_pop hx hb dX12_worded_178 rfl ?_
                refine lv_goto (tgt := 223) hx hb dX12_worded_179 (by decide) ?_
                have e_388 : μ375.1 111 9 = μ354.1 111 9 := (hp_378 9 (by decide))
                have e_389 : μ375.1 111 29 = μ336.1 111 29 := ((hp_378 29 (by decide)).trans (hp_356 29 (by decide)))
                have e_390 : μ375.1 111 39 = μ336.1 111 39 := ((hp_378 39 (by decide)).trans (hp_356 39 (by decide)))
                have e_391 : wr μ375 = wr μ354 := (wr_cg (hp_378 15 (by decide)))
                have e_392 : bd μ375 = bd μ354 := (bd_cg (hp_378 15 (by decide)) (hp_378 16 (by decide)) (hp_378 17 (by decide)))
                have e_393 : nn μ375 = nn μ354 := (nn_cg (hp_378 15 (by decide)) (hp_378 18 (by decide)))
                have hPM_394 : PM μ375 := hp_357.cg ((((hp_378 4 (by decide)).trans ((hp_356 4 (by decide)).trans ((hp_338 4 (by decide)).trans ((hp_309 4 (by decide)).trans (hp_296 4 (by decide))))))).trans (((hp_356 4 (by decide)).trans ((hp_338 4 (by decide)).trans ((hp_309 4 (by decide)).trans (hp_296 4 (by decide)))))).symm) (hp_378 6 (by decide)) ((((hp_378 7 (by decide)).trans ((hp_356 7 (by decide)).trans ((hp_338 7 (by decide)).trans ((hp_309 7 (by decide)).trans (hp_296 7 (by decide))))))).trans (((hp_356 7 (by decide)).trans ((hp_338 7 (by decide)).trans ((hp_309 7 (by decide)).trans (hp_296 7 (by decide)))))).symm) (hp_378 8 (by decide)) (hp_378 9 (by decide)) (hp_378 11 (by decide)) (hp_378 12 (by decide)) ((((hp_378 14 (by decide)).trans ((hp_356 14 (by decide)).trans ((hp_338 14 (by decide)).trans ((hp_309 14 (by decide)).trans ((hp_296 14 (by decide)).trans htt.symm)))))).trans (((hp_356 14 (by decide)).trans ((hp_338 14 (by decide)).trans ((hp_309 14 (by decide)).trans ((hp_296 14 (by decide)).trans htt.symm))))).symm) (hp_378 15 (by decide)) ((((hp_378 29 (by decide)).trans (hp_356 29 (by decide)))).trans ((hp_356 29 (by decide))).symm) (fun j => (F_377.1 123 (by decide) j))
                have e_395 : μ375.1 111 9 = μ354.1 111 9 := (hp_378 9 (by decide))
                have e_396 : wr μ375 = wr μ354 := (wr_cg (hp_378 15 (by decide)))
                have e_397 : μ375.1 111 9 = μ354.1 111 9 := (hp_378 9 (by decide))
                have e_398 : μ375.1 111 29 = μ336.1 111 29 := ((hp_378 29 (by decide)).trans (hp_356 29 (by decide)))
                have e_399 : wr μ375 = wr μ354 := (wr_cg (hp_378 15 (by decide)))
                have e_400 : bd μ375 = bd μ354 := (bd_cg (hp_378 15 (by decide)) (hp_378 16 (by decide)) (hp_378 17 (by decide)))
                have e_401 : wr μ375 = wr μ354 := (wr_cg (hp_378 15 (by decide)))
                have e_402 : nn μ375 = nn μ354 := (nn_cg (hp_378 15 (by decide)) (hp_378 18 (by decide)))
                have e_403 : μ375.1 111 39 = μ336.1 111 39 := ((hp_378 39 (by decide)).trans (hp_356 39 (by decide)))
                exact xr_v G hret hlk dX12_worded_223 ⟨(FrM.tr (FrM.tr (FrM.tr (FrM.tr (FrM.tr FrM.rf F_295 (by decide)) F_308 (by decide)) F_337 (by decide)) F_355 (by decide)) F_377 (by decide)), (fun j hj => ((hp_378 j (fun h9 => hj ((by decide : ∀ x ∈ ([22] : List Int), x ∈ ([6, 8, 9, 10, 11, 12, 13, 15, 16, 17, 18, 22, 29, 39] : List Int)) j h9))).trans ((hp_356 j (fun h9 => hj ((by decide : ∀ x ∈ ([6, 8, 9, 10, 11, 12, 13, 15, 18] : List Int), x ∈ ([6, 8, 9, 10, 11, 12, 13, 15, 16, 17, 18, 22, 29, 39] : List Int)) j h9))).trans ((hp_338 j (fun h9 => hj ((by decide : ∀ x ∈ ([6, 8, 9, 10, 11, 12, 13, 15, 16, 17, 18, 22, 29, 39] : List Int), x ∈ ([6, 8, 9, 10, 11, 12, 13, 15, 16, 17, 18, 22, 29, 39] : List Int)) j h9))).trans ((hp_309 j (fun h9 => hj ((by decide : ∀ x ∈ ([6, 8, 9, 10, 11, 12, 13, 15, 18] : List Int), x ∈ ([6, 8, 9, 10, 11, 12, 13, 15, 16, 17, 18, 22, 29, 39] : List Int)) j h9))).trans (hp_296 j (fun h9 => hj ((by decide : ∀ x ∈ ([6, 8, 9, 10, 11, 12, 13, 15] : List Int), x ∈ ([6, 8, 9, 10, 11, 12, 13, 15, 16, 17, 18, 22, 29, 39] : List Int)) j h9)))))))), hPM_394, (by omega), (by omega), (by omega), (by omega), (by omega), (by omega), (fun j hj => ((F_377.1 126 (by decide) j).trans ((F_355.1 126 (by decide) j).trans ((hp_346 j (by omega)).trans ((F_308.1 126 (by decide) j).trans (F_295.1 126 (by decide) j)))))), (fun _ h0 => (mPX.ex ((hX_386 ()) h0)).e (by omega)), hxt_382⟩
          · refine lv_aload_n hx hb dX12_worded_105 rfl (lv_at hl 1 rfl) ?_
            refine xa_geti G fd_X12 (a := 111) (x := tt) 14 rfl (by decide) rfl (wm 7 163 rfl rfl) ⟨rfl, rfl, rfl⟩ dX12_worded_106 rfl htt.symm ?_
            have hr_404 : -2147483648 ≤ tt ∧ tt ≤ 2147483647 := by have h9 := G.hr (a := 111) (k := 14) rfl; rw [show μ.1 111 14 = tt from htt.symm] at h9; exact h9
            refine lv_iconst (v := iv 2) hx hb dX12_worded_109 rfl ?_
            refine xb_icmp_ne (tgt := 136) hx hb (by unfold ir; omega) (by unfold ir; omega) dX12_worded_110 (by decide) (fun c_110 => ?_) (fun c_110 => ?_)
            · refine lv_iload_n hx hb dX12_worded_136 rfl (lv_at hl 0 rfl) ?_
              refine lv_bipush (v := iv 27) hx hb dX12_worded_137 rfl ?_
              refine xb_icmp_ne (tgt := 182) hx hb (by unfold ir; omega) (by unfold ir; omega) dX12_worded_139 (by decide) (fun c_139 => ?_) (fun c_139 => ?_)
              · refine lv_iload_n hx hb dX12_worded_182 rfl (lv_at hl 0 rfl) ?_
                refine lv_bipush (v := iv 29) hx hb dX12_worded_183 rfl ?_
                refine xb_icmp_lt (tgt := 215) hx hb (by unfold ir; omega) (by unfold ir; omega) dX12_worded_185 (by decide) (fun c_185 => ?_) (fun c_185 => ?_)
                · refine lv_aload_n hx hb dX12_worded_215 rfl (lv_at hl 1 rfl) ?_
                  refine lv_aload_n hx hb dX12_worded_216 rfl (lv_at hl 1 rfl) ?_
                  refine xa_geti G fd_X12 (a := 111) (x := μ.1 111 9) 9 rfl (by decide) rfl (wm 7 158 rfl rfl) ⟨rfl, rfl, rfl⟩ dX12_worded_217 rfl rfl ?_
                  have hr_405 : -2147483648 ≤ μ.1 111 9 ∧ μ.1 111 9 ≤ 2147483647 := by have h9 := G.hr (a := 111) (k := 9) rfl; exact h9
                  refine xc_vV G (b := 111) (rest := []) (As := [.int (iv (μ.1 111 9))]) (c_X12_wrong ω l μ (μ.1 111 9) (by unfold ir; omega) (by omega)) (wm 9 22 rfl rfl) (wm 9 24 rfl rfl) (wm 0 123 rfl rfl) rfl rfl (by decide) rfl (wm 1 18 rfl rfl) (wm 9 25 rfl rfl) (by decide) hR ⟨nfr hF (by decide), nlo hLo (by decide)⟩ (n := 1) rfl rfl (Nat.le_of_ble_eq_true rfl) hl.1 dX12_worded_220 (fun μ406 ρ d0 H locs hp G => ?_)
                  obtain ⟨F_407, hp_408, hp_409⟩ := hp
                  have hw_410 := wr_r (μ := μ406)
                  have e_411 : μ406.1 111 31 = μ.1 111 31 := (hp_408 31 (by decide))
                  have e_412 : μ406.1 111 22 = μ.1 111 22 := (hp_408 22 (by decide))
                  have e_413 : μ406.1 111 9 = μ.1 111 9 := (hp_408 9 (by decide))
                  have e_414 : μ406.1 111 29 = μ.1 111 29 := (hp_408 29 (by decide))
                  have e_415 : μ406.1 111 39 = μ.1 111 39 := (hp_408 39 (by decide))
                  have e_416 : μ406.1 111 29 = μ.1 111 29 := (hp_408 29 (by decide))
                  have e_418 : μ406.1 111 29 = μ.1 111 29 := (hp_408 29 (by decide))
                  have hX_417 : ∀ _ : Unit, bd μ406 = 0 → mPX μ μ406 tt 0 1 (11 * (9 - nn μ) - 3) [] := fun _ h0 => (hX_1 () (by have e9 : bd μ = bd μ := rfl; have e8 : bd μ406 = bd μ406 := rfl; omega)).qm (q0m.fr (K := [111]) (FrM.tr FrM.rf F_407 (by decide)) (by decide) (by decide) (by decide) (hp_408 22 (by decide)) (nS.le (by omega) (Int.le_of_eq ((hp_408 31 (by decide))).symm)))
                  have hPM_419 : PM μ406 := hPM.wg (hp_408 4 (by decide)) (hp_408 6 (by decide)) (hp_408 7 (by decide)) (hp_408 8 (by decide)) (hp_408 9 (by decide)) (hp_408 11 (by decide)) (hp_408 12 (by decide)) ((((hp_408 14 (by decide)).trans htt.symm)).trans (htt.symm).symm) (by omega) (hp_408 29 (by decide)) (fun j => (F_407.1 123 (by decide) j))
                  have e_420 : μ406.1 111 29 = μ.1 111 29 := (hp_408 29 (by decide))
                  have hxt_421 : mEXT μ μ406 := (q0m.fr (K := [111]) (FrM.tr FrM.rf F_407 (by decide)) (by decide) (by decide) (by decide) (hp_408 22 (by decide)) (nS.le (by omega) (Int.le_of_eq ((hp_408 31 (by decide))).symm))).1
                  have e_422 : μ406.1 111 22 = μ.1 111 22 := (hp_408 22 (by decide))
                  have e_423 : μ406.1 111 22 = μ.1 111 22 := (hp_408 22 (by decide))
                  have e_424 : μ406.1 111 9 = μ.1 111 9 := (hp_408 9 (by decide))
                  have e_425 : μ406.1 111 9 = μ.1 111 9 := (hp_408 9 (by decide))
                  have e_426 : μ406.1 111 29 = μ.1 111 29 := (hp_408 29 (by decide))
                  have e_427 : μ406.1 111 39 = μ.1 111 39 := (hp_408 39 (by decide))
                  exact xr_v G hret hlk dX12_worded_223 ⟨(FrM.tr FrM.rf F_407 (by decide)), (fun j hj => (hp_408 j (fun h9 => hj ((by decide : ∀ x ∈ ([15] : List Int), x ∈ ([6, 8, 9, 10, 11, 12, 13, 15, 16, 17, 18, 22, 29, 39] : List Int)) j h9)))), hPM_419, (by omega), (by omega), (by omega), (by omega), (by omega), (by omega), (fun j hj => (F_407.1 126 (by decide) j)), (fun _ h0 => (mPX.ex ((hX_417 ()) h0)).e (by omega)), hxt_421⟩
                · refine lv_aload_n hx hb dX12_worded_188 rfl (lv_at hl 1 rfl) ?_
                  refine xc_vV G (b := 111) (rest := []) (As := []) (c_X12_next ω l μ  hPM (by omega) (by omega)) (wm 9 0 rfl rfl) (wm 9 2 rfl rfl) (wm 0 119 rfl rfl) rfl rfl (by decide) rfl (wm 1 18 rfl rfl) (wm 9 3 rfl rfl) (by decide) hR ⟨nfr hF (by decide), nlo hLo (by decide)⟩ (n := 0) rfl rfl (Nat.le_of_ble_eq_true rfl) hl.1 dX12_worded_189 (fun μ428 ρ d0 H locs hp G => ?_)
                  obtain ⟨F_429, hp_430, hp_431, hp_432, hp_433, hp_434⟩ := hp
                  have hpl_435 := hp_431.pl
                  have hw_436 := wr_r (μ := μ428)
                  have e_437 : μ428.1 111 31 = μ.1 111 31 := (hp_430 31 (by decide))
                  refine lv_aload_n hx hb dX12_worded_192 rfl (lv_at hl 1 rfl) ?_
                  refine lv_bipush (v := iv 46) hx hb dX12_worded_193 rfl ?_
                  have e_438 : μ428.1 111 29 = μ.1 111 29 := (hp_430 29 (by decide))
                  have e_440 : μ428.1 111 29 = μ.1 111 29 := (hp_430 29 (by decide))
                  have hX_439 : ∀ _ : Unit, bd μ428 = 0 → mPX μ μ428 tt 0 1 (11 * (9 - nn μ) - 3) [] := fun _ h0 => (hX_1 () (by have e9 : bd μ = bd μ := rfl; have e8 : bd μ428 = bd μ428 := rfl; omega)).qm (q0m.fr (K := [111]) (FrM.tr FrM.rf F_429 (by decide)) (by decide) (by decide) (by decide) (hp_430 22 (by decide)) (nS.le (by omega) (Int.le_of_eq ((hp_430 31 (by decide))).symm)))
                  refine xc_vV G (b := 111) (rest := []) (As := [.int (iv 46)]) (c_X12_wantsSign ω l μ428 46 (by unfold ir; omega) hp_431 (by omega)) (wm 9 114 rfl rfl) (wm 9 116 rfl rfl) (wm 0 141 rfl rfl) rfl rfl (by decide) rfl (wm 1 18 rfl rfl) (wm 9 117 rfl rfl) (by decide) hR ⟨nfr hF (by decide), nlo hLo (by decide)⟩ (n := 1) rfl rfl (Nat.le_of_ble_eq_true rfl) hl.1 dX12_worded_195 (fun μ441 ρ d0 H locs hp G => ?_)
                  obtain ⟨F_442, hp_443, hp_444, hp_445, hp_446, hp_447, hp_448⟩ := hp
                  have hpl_449 := hp_444.pl
                  have hw_450 := wr_r (μ := μ441)
                  have e_451 : μ441.1 111 31 = μ.1 111 31 := ((hp_443 31 (by decide)).trans (hp_430 31 (by decide)))
                  refine lv_aload_n hx hb dX12_worded_198 rfl (lv_at hl 1 rfl) ?_
                  have e_452 : μ441.1 111 29 = μ.1 111 29 := ((hp_443 29 (by decide)).trans (hp_430 29 (by decide)))
                  have e_454 : μ441.1 111 29 = μ.1 111 29 := ((hp_443 29 (by decide)).trans (hp_430 29 (by decide)))
                  have hX_453 : ∀ _ : Unit, bd μ441 = 0 → mPX μ μ441 tt 0 1 (11 * (9 - nn μ) - 3) [] := fun _ h0 => (hX_439 () (by have e9 : bd μ428 = bd μ428 := rfl; have e8 : bd μ441 = bd μ441 := rfl; omega)).qm (q0m.fr (K := [111]) (FrM.tr FrM.rf F_442 (by decide)) (by decide) (by decide) (by decide) ((((hp_443 22 (by decide)).trans (hp_430 22 (by decide)))).trans ((hp_430 22 (by decide))).symm) (nS.le (by omega) (Int.le_of_eq (((((hp_443 31 (by decide)).trans (hp_430 31 (by decide)))).trans ((hp_430 31 (by decide))).symm)).symm)))
                  refine xc_lV G (b := 111) (rest := []) (As := []) (c_X12_takesName ω l μ441  hp_444 (by omega)) (wm 9 70 rfl rfl) (wm 9 72 rfl rfl) (wm 0 130 rfl rfl) rfl rfl (by decide) rfl (wm 1 18 rfl rfl) (wm 9 73 rfl rfl) (by decide) hR ⟨nfr hF (by decide), nlo hLo (by decide)⟩ (n := 0) rfl rfl (Nat.le_of_ble_eq_true rfl) hl.1 dX12_worded_199 (fun r_456 μ455 ρ d0 H locs hr_r_456 hp G => ?_)
                  obtain ⟨F_457, hp_458, hp_459, hp_460, hp_461, hp_462, hp_463⟩ := hp
                  have hpl_464 := hp_459.pl
                  have hw_465 := wr_r (μ := μ455)
                  have e_466 : μ455.1 111 31 = μ.1 111 31 := ((hp_458 31 (by decide)).trans ((hp_443 31 (by decide)).trans (hp_430 31 (by decide))))
                  refine lv_lstore_n (lv' := [(2, .long (jv r_456)), (1, .int (iv (μ.1 111 11))), (0, .ref (oP ω 111))]) hx hb dX12_worded_202 rfl hl (by decide) rfl (fun ls hl => ?_)
                  refine lv_aload_n hx hb dX12_worded_203 rfl (lv_at hl 2 rfl) ?_
                  refine lv_iload_n hx hb dX12_worded_204 rfl (lv_at hl 1 rfl) ?_
                  refine lv_bipush (v := iv 29) hx hb dX12_worded_205 rfl ?_
                  refine xb_isub hx hb dX12_worded_207 ?_
                  refine lv_lload_n hx hb dX12_worded_208 rfl (lv_at hl 0 rfl) ?_
                  have e_467 : μ455.1 111 29 = μ.1 111 29 := ((hp_458 29 (by decide)).trans ((hp_443 29 (by decide)).trans (hp_430 29 (by decide))))
                  have e_469 : μ455.1 111 29 = μ.1 111 29 := ((hp_458 29 (by decide)).trans ((hp_443 29 (by decide)).trans (hp_430 29 (by decide))))
                  have hX_468 : ∀ _ : Unit, bd μ455 = 0 → mPX μ μ455 tt 0 1 (11 * (9 - nn μ) - 3) [] := fun _ h0 => (hX_453 () (by have e9 : bd μ441 = bd μ441 := rfl; have e8 : bd μ455 = bd μ455 := rfl; omega)).qm (q0m.fr (K := [111]) (FrM.tr FrM.rf F_457 (by decide)) (by decide) (by decide) (by decide) ((((hp_458 22 (by decide)).trans ((hp_443 22 (by decide)).trans (hp_430 22 (by decide))))).trans (((hp_443 22 (by decide)).trans (hp_430 22 (by decide)))).symm) (nS.le (by omega) (Int.le_of_eq (((((hp_458 31 (by decide)).trans ((hp_443 31 (by decide)).trans (hp_430 31 (by decide))))).trans (((hp_443 31 (by decide)).trans (hp_430 31 (by decide)))).symm)).symm)))
                  have e_470 : μ455.1 111 29 = μ.1 111 29 := ((hp_458 29 (by decide)).trans ((hp_443 29 (by decide)).trans (hp_430 29 (by decide))))
                  have e_471 : μ455.1 111 29 = μ.1 111 29 := ((hp_458 29 (by decide)).trans ((hp_443 29 (by decide)).trans (hp_430 29 (by decide))))
                  have hxt_472 : mEXT μ μ455 := (q0m.fr (K := [111]) (FrM.tr (FrM.tr (FrM.tr FrM.rf F_429 (by decide)) F_442 (by decide)) F_457 (by decide)) (by decide) (by decide) (by decide) ((hp_458 22 (by decide)).trans ((hp_443 22 (by decide)).trans (hp_430 22 (by decide)))) (nS.le (by omega) (Int.le_of_eq (((hp_458 31 (by decide)).trans ((hp_443 31 (by decide)).trans (hp_430 31 (by decide))))).symm))).1
                  have e_473 : μ455.1 111 14 = tt := ((hp_458 14 (by decide)).trans ((hp_443 14 (by decide)).trans ((hp_430 14 (by decide)).trans htt.symm)))
                  have e_474 : μ455.1 111 22 = μ.1 111 22 := ((hp_458 22 (by decide)).trans ((hp_443 22 (by decide)).trans (hp_430 22 (by decide))))
                  have e_475 : μ455.1 111 22 = μ.1 111 22 := ((hp_458 22 (by decide)).trans ((hp_443 22 (by decide)).trans (hp_430 22 (by decide))))
                  have e_476 : μ455.1 111 39 = μ.1 111 39 := ((hp_458 39 (by decide)).trans ((hp_443 39 (by decide)).trans (hp_430 39 (by decide))))
                  have e_477 : μ455.1 111 39 = μ.1 111 39 := ((hp_458 39 (by decide)).trans ((hp_443 39 (by decide)).trans (hp_430 39 (by decide))))
                  have e_478 : μ455.1 111 22 = μ.1 111 22 := ((hp_458 22 (by decide)).trans ((hp_443 22 (by decide)).trans (hp_430 22 (by decide))))
                  have e_479 : μ455.1 111 31 = μ.1 111 31 := ((hp_458 31 (by decide)).trans ((hp_443 31 (by decide)).trans (hp_430 31 (by decide))))
                  have e_480 : μ455.1 111 31 = μ.1 111 31 := ((hp_458 31 (by decide)).trans ((hp_443 31 (by decide)).trans (hp_430 31 (by decide))))
                  have e_481 : μ455.1 111 22 = μ.1 111 22 := ((hp_458 22 (by decide)).trans ((hp_443 22 (by decide)).trans (hp_430 22 (by decide))))
                  have e_482 : μ455.1 111 22 = μ.1 111 22 := ((hp_458 22 (by decide)).trans ((hp_443 22 (by decide)).trans (hp_430 22 (by decide))))
                  have e_483 : μ455.1 111 29 = μ.1 111 29 := ((hp_458 29 (by decide)).trans ((hp_443 29 (by decide)).trans (hp_430 29 (by decide))))
                  have e_484 : μ455.1 111 39 = μ.1 111 39 := ((hp_458 39 (by decide)).trans ((hp_443 39 (by decide)).trans (hp_430 39 (by decide))))
                  refine xc_vV G (b := 111) (rest := []) (As := [.int (iv ((μ.1 111 11) - 29)), .long (jv r_456)]) (c_X12_call ω l μ455 ((μ.1 111 11) - 29) r_456 F Lo Fu Lu kf tt (by unfold ir; omega) hr_r_456 (by omega) hF hLo hFu hLu hE hU hp_459 (by omega) (by omega) (by omega) (by omega) (by omega) (by omega) (fun _ h0 => ((hX_468 ()) h0).h1.1) (by omega)) (wm 9 179 rfl rfl) (wm 9 181 rfl rfl) (wm 0 157 rfl rfl) rfl rfl (by decide) rfl (wm 1 18 rfl rfl) (wm 9 182 rfl rfl) (by decide) hR ⟨sfr (F := F) (a := 2) (by decide), slo (L := Lo) (m := 7) (a := 44) (by decide)⟩ (n := 2) rfl rfl (Nat.le_of_ble_eq_true rfl) hl.1 dX12_worded_209 (fun μ485 ρ d0 H locs hp G => ?_)
                  obtain ⟨F_486, hp_487, hp_488, hp_489, hp_490, hp_491, hp_492, hp_493, hp_494, hp_495, hp_496, hp_497⟩ := hp
                  have hpl_498 := hp_488.pl
                  have hw_499 := wr_r (μ := μ485)
                  have hxt_500 : mEXT μ μ485 := hxt_472.tr hp_497
                  have e_501 : μ485.1 111 31 = μ.1 111 31 := ((hp_487 31 (by decide)).trans ((hp_458 31 (by decide)).trans ((hp_443 31 (by decide)).trans (hp_430 31 (by decide)))))
                  have hX_502 : ∀ _ : Unit, bd μ485 = 0 → mPX μ μ485 tt 1 1 (11 * (9 - nn μ) - 3) [] := fun _ h0 => (((hX_468 ()) (by have e9 : bd μ455 = bd μ455 := rfl; have e8 : bd μ485 = bd μ485 := rfl; omega)).app (hp_496 () h0) (by omega)).ee (by omega)
                  refine lv_goto (tgt := 223) hx hb dX12_worded_212 (by decide) ?_
                  exact xr_v G hret hlk dX12_worded_223 ⟨(FrM.tr (FrM.tr (FrM.tr (FrM.tr FrM.rf F_429 (by decide)) F_442 (by decide)) F_457 (by decide)) F_486 (by decide)), (fun j hj => ((hp_487 j (fun h9 => hj ((by decide : ∀ x ∈ ([6, 8, 9, 10, 11, 12, 13, 15, 16, 17, 18, 22, 29, 39] : List Int), x ∈ ([6, 8, 9, 10, 11, 12, 13, 15, 16, 17, 18, 22, 29, 39] : List Int)) j h9))).trans ((hp_458 j (fun h9 => hj ((by decide : ∀ x ∈ ([6, 8, 9, 10, 11, 12, 13, 15] : List Int), x ∈ ([6, 8, 9, 10, 11, 12, 13, 15, 16, 17, 18, 22, 29, 39] : List Int)) j h9))).trans ((hp_443 j (fun h9 => hj ((by decide : ∀ x ∈ ([6, 8, 9, 10, 11, 12, 13, 15] : List Int), x ∈ ([6, 8, 9, 10, 11, 12, 13, 15, 16, 17, 18, 22, 29, 39] : List Int)) j h9))).trans (hp_430 j (fun h9 => hj ((by decide : ∀ x ∈ ([6, 8, 9, 10, 11, 12, 13, 15] : List Int), x ∈ ([6, 8, 9, 10, 11, 12, 13, 15, 16, 17, 18, 22, 29, 39] : List Int)) j h9))))))), hp_488, (by omega), (by omega), (by omega), (by omega), (by omega), (by omega), (fun j hj => ((hp_495 j (by omega)).trans ((F_457.1 126 (by decide) j).trans ((F_442.1 126 (by decide) j).trans (F_429.1 126 (by decide) j))))), (fun _ h0 => (mPX.ex ((hX_502 ()) h0)).e (by omega)), hxt_500⟩
              · refine lv_aload_n hx hb dX12_worded_142 rfl (lv_at hl 1 rfl) ?_
                refine xa_geti G fd_X12 (a := 111) (x := tt) 14 rfl (by decide) rfl (wm 7 163 rfl rfl) ⟨rfl, rfl, rfl⟩ dX12_worded_143 rfl htt.symm ?_
                refine lv_iconst (v := iv 2) hx hb dX12_worded_146 rfl ?_
                refine xb_icmp_ne (tgt := 182) hx hb (by unfold ir; omega) (by unfold ir; omega) dX12_worded_147 (by decide) (fun c_147 => ?_) (fun c_147 => ?_)
                · refine lv_iload_n hx hb dX12_worded_182 rfl (lv_at hl 0 rfl) ?_
                  refine lv_bipush (v := iv 29) hx hb dX12_worded_183 rfl ?_
                  refine xb_icmp_lt (tgt := 215) hx hb (by unfold ir; omega) (by unfold ir; omega) dX12_worded_185 (by decide) (fun c_185 => ?_) (fun c_185 => ?_)
                  · refine lv_aload_n hx hb dX12_worded_215 rfl (lv_at hl 1 rfl) ?_
                    refine lv_aload_n hx hb dX12_worded_216 rfl (lv_at hl 1 rfl) ?_
                    refine xa_geti G fd_X12 (a := 111) (x := μ.1 111 9) 9 rfl (by decide) rfl (wm 7 158 rfl rfl) ⟨rfl, rfl, rfl⟩ dX12_worded_217 rfl rfl ?_
                    have hr_503 : -2147483648 ≤ μ.1 111 9 ∧ μ.1 111 9 ≤ 2147483647 := by have h9 := G.hr (a := 111) (k := 9) rfl; exact h9
                    refine xc_vV G (b := 111) (rest := []) (As := [.int (iv (μ.1 111 9))]) (c_X12_wrong ω l μ (μ.1 111 9) (by unfold ir; omega) (by omega)) (wm 9 22 rfl rfl) (wm 9 24 rfl rfl) (wm 0 123 rfl rfl) rfl rfl (by decide) rfl (wm 1 18 rfl rfl) (wm 9 25 rfl rfl) (by decide) hR ⟨nfr hF (by decide), nlo hLo (by decide)⟩ (n := 1) rfl rfl (Nat.le_of_ble_eq_true rfl) hl.1 dX12_worded_220 (fun μ504 ρ d0 H locs hp G => ?_)
                    obtain ⟨F_505, hp_506, hp_507⟩ := hp
                    have hw_508 := wr_r (μ := μ504)
                    have e_509 : μ504.1 111 31 = μ.1 111 31 := (hp_506 31 (by decide))
                    have e_510 : μ504.1 111 22 = μ.1 111 22 := (hp_506 22 (by decide))
                    have e_511 : μ504.1 111 9 = μ.1 111 9 := (hp_506 9 (by decide))
                    have e_512 : μ504.1 111 29 = μ.1 111 29 := (hp_506 29 (by decide))
                    have e_513 : μ504.1 111 39 = μ.1 111 39 := (hp_506 39 (by decide))
                    have e_514 : μ504.1 111 29 = μ.1 111 29 := (hp_506 29 (by decide))
                    have e_516 : μ504.1 111 29 = μ.1 111 29 := (hp_506 29 (by decide))
                    have hX_515 : ∀ _ : Unit, bd μ504 = 0 → mPX μ μ504 tt 0 1 (11 * (9 - nn μ) - 3) [] := fun _ h0 => (hX_1 () (by have e9 : bd μ = bd μ := rfl; have e8 : bd μ504 = bd μ504 := rfl; omega)).qm (q0m.fr (K := [111]) (FrM.tr FrM.rf F_505 (by decide)) (by decide) (by decide) (by decide) (hp_506 22 (by decide)) (nS.le (by omega) (Int.le_of_eq ((hp_506 31 (by decide))).symm)))
                    have hPM_517 : PM μ504 := hPM.wg (hp_506 4 (by decide)) (hp_506 6 (by decide)) (hp_506 7 (by decide)) (hp_506 8 (by decide)) (hp_506 9 (by decide)) (hp_506 11 (by decide)) (hp_506 12 (by decide)) ((((hp_506 14 (by decide)).trans htt.symm)).trans (htt.symm).symm) (by omega) (hp_506 29 (by decide)) (fun j => (F_505.1 123 (by decide) j))
                    have e_518 : μ504.1 111 29 = μ.1 111 29 := (hp_506 29 (by decide))
                    have hxt_519 : mEXT μ μ504 := (q0m.fr (K := [111]) (FrM.tr FrM.rf F_505 (by decide)) (by decide) (by decide) (by decide) (hp_506 22 (by decide)) (nS.le (by omega) (Int.le_of_eq ((hp_506 31 (by decide))).symm))).1
                    have e_520 : μ504.1 111 22 = μ.1 111 22 := (hp_506 22 (by decide))
                    have e_521 : μ504.1 111 22 = μ.1 111 22 := (hp_506 22 (by decide))
                    have e_522 : μ504.1 111 9 = μ.1 111 9 := (hp_506 9 (by decide))
                    have e_523 : μ504.1 111 9 = μ.1 111 9 := (hp_506 9 (by decide))
                    have e_524 : μ504.1 111 29 = μ.1 111 29 := (hp_506 29 (by decide))
                    have e_525 : μ504.1 111 39 = μ.1 111 39 := (hp_506 39 (by decide))
                    exact xr_v G hret hlk dX12_worded_223 ⟨(FrM.tr FrM.rf F_505 (by decide)), (fun j hj => (hp_506 j (fun h9 => hj ((by decide : ∀ x ∈ ([15] : List Int), x ∈ ([6, 8, 9, 10, 11, 12, 13, 15, 16, 17, 18, 22, 29, 39] : List Int)) j h9)))), hPM_517, (by omega), (by omega), (by omega), (by omega), (by omega), (by omega), (fun j hj => (F_505.1 126 (by decide) j)), (fun _ h0 => (mPX.ex ((hX_515 ()) h0)).e (by omega)), hxt_519⟩
                  · refine lv_aload_n hx hb dX12_worded_188 rfl (lv_at hl 1 rfl) ?_
                    refine xc_vV G (b := 111) (rest := []) (As := []) (c_X12_next ω l μ  hPM (by omega) (by omega)) (wm 9 0 rfl rfl) (wm 9 2 rfl rfl) (wm 0 119 rfl rfl) rfl rfl (by decide) rfl (wm 1 18 rfl rfl) (wm 9 3 rfl rfl) (by decide) hR ⟨nfr hF (by decide), nlo hLo (by decide)⟩ (n := 0) rfl rfl (Nat.le_of_ble_eq_true rfl) hl.1 dX12_worded_189 (fun μ526 ρ d0 H locs hp G => ?_)
                    obtain ⟨F_527, hp_528, hp_529, hp_530, hp_531, hp_532⟩ := hp
                    have hpl_533 := hp_529.pl
                    have hw_534 := wr_r (μ := μ526)
                    have e_535 : μ526.1 111 31 = μ.1 111 31 := (hp_528 31 (by decide))
                    refine lv_aload_n hx hb dX12_worded_192 rfl (lv_at hl 1 rfl) ?_
                    refine lv_bipush (v := iv 46) hx hb dX12_worded_193 rfl ?_
                    have e_536 : μ526.1 111 29 = μ.1 111 29 := (hp_528 29 (by decide))
                    have e_538 : μ526.1 111 29 = μ.1 111 29 := (hp_528 29 (by decide))
                    have hX_537 : ∀ _ : Unit, bd μ526 = 0 → mPX μ μ526 tt 0 1 (11 * (9 - nn μ) - 3) [] := fun _ h0 => (hX_1 () (by have e9 : bd μ = bd μ := rfl; have e8 : bd μ526 = bd μ526 := rfl; omega)).qm (q0m.fr (K := [111]) (FrM.tr FrM.rf F_527 (by decide)) (by decide) (by decide) (by decide) (hp_528 22 (by decide)) (nS.le (by omega) (Int.le_of_eq ((hp_528 31 (by decide))).symm)))
                    refine xc_vV G (b := 111) (rest := []) (As := [.int (iv 46)]) (c_X12_wantsSign ω l μ526 46 (by unfold ir; omega) hp_529 (by omega)) (wm 9 114 rfl rfl) (wm 9 116 rfl rfl) (wm 0 141 rfl rfl) rfl rfl (by decide) rfl (wm 1 18 rfl rfl) (wm 9 117 rfl rfl) (by decide) hR ⟨nfr hF (by decide), nlo hLo (by decide)⟩ (n := 1) rfl rfl (Nat.le_of_ble_eq_true rfl) hl.1 dX12_worded_195 (fun μ539 ρ d0 H locs hp G => ?_)
                    obtain ⟨F_540, hp_541, hp_542, hp_543, hp_544, hp_545, hp_546⟩ := hp
                    have hpl_547 := hp_542.pl
                    have hw_548 := wr_r (μ := μ539)
                    have e_549 : μ539.1 111 31 = μ.1 111 31 := ((hp_541 31 (by decide)).trans (hp_528 31 (by decide)))
                    refine lv_aload_n hx hb dX12_worded_198 rfl (lv_at hl 1 rfl) ?_
                    have e_550 : μ539.1 111 29 = μ.1 111 29 := ((hp_541 29 (by decide)).trans (hp_528 29 (by decide)))
                    have e_552 : μ539.1 111 29 = μ.1 111 29 := ((hp_541 29 (by decide)).trans (hp_528 29 (by decide)))
                    have hX_551 : ∀ _ : Unit, bd μ539 = 0 → mPX μ μ539 tt 0 1 (11 * (9 - nn μ) - 3) [] := fun _ h0 => (hX_537 () (by have e9 : bd μ526 = bd μ526 := rfl; have e8 : bd μ539 = bd μ539 := rfl; omega)).qm (q0m.fr (K := [111]) (FrM.tr FrM.rf F_540 (by decide)) (by decide) (by decide) (by decide) ((((hp_541 22 (by decide)).trans (hp_528 22 (by decide)))).trans ((hp_528 22 (by decide))).symm) (nS.le (by omega) (Int.le_of_eq (((((hp_541 31 (by decide)).trans (hp_528 31 (by decide)))).trans ((hp_528 31 (by decide))).symm)).symm)))
                    refine xc_lV G (b := 111) (rest := []) (As := []) (c_X12_takesName ω l μ539  hp_542 (by omega)) (wm 9 70 rfl rfl) (wm 9 72 rfl rfl) (wm 0 130 rfl rfl) rfl rfl (by decide) rfl (wm 1 18 rfl rfl) (wm 9 73 rfl rfl) (by decide) hR ⟨nfr hF (by decide), nlo hLo (by decide)⟩ (n := 0) rfl rfl (Nat.le_of_ble_eq_true rfl) hl.1 dX12_worded_199 (fun r_554 μ553 ρ d0 H locs hr_r_554 hp G => ?_)
                    obtain ⟨F_555, hp_556, hp_557, hp_558, hp_559, hp_560, hp_561⟩ := hp
                    have hpl_562 := hp_557.pl
                    have hw_563 := wr_r (μ := μ553)
                    have e_564 : μ553.1 111 31 = μ.1 111 31 := ((hp_556 31 (by decide)).trans ((hp_541 31 (by decide)).trans (hp_528 31 (by decide))))
                    refine lv_lstore_n (lv' := [(2, .long (jv r_554)), (1, .int (iv (μ.1 111 11))), (0, .ref (oP ω 111))]) hx hb dX12_worded_202 rfl hl (by decide) rfl (fun ls hl => ?_)
                    refine lv_aload_n hx hb dX12_worded_203 rfl (lv_at hl 2 rfl) ?_
                    refine lv_iload_n hx hb dX12_worded_204 rfl (lv_at hl 1 rfl) ?_
                    refine lv_bipush (v := iv 29) hx hb dX12_worded_205 rfl ?_
                    refine xb_isub hx hb dX12_worded_207 ?_
                    refine lv_lload_n hx hb dX12_worded_208 rfl (lv_at hl 0 rfl) ?_
                    have e_565 : μ553.1 111 29 = μ.1 111 29 := ((hp_556 29 (by decide)).trans ((hp_541 29 (by decide)).trans (hp_528 29 (by decide))))
                    have e_567 : μ553.1 111 29 = μ.1 111 29 := ((hp_556 29 (by decide)).trans ((hp_541 29 (by decide)).trans (hp_528 29 (by decide))))
                    have hX_566 : ∀ _ : Unit, bd μ553 = 0 → mPX μ μ553 tt 0 1 (11 * (9 - nn μ) - 3) [] := fun _ h0 => (hX_551 () (by have e9 : bd μ539 = bd μ539 := rfl; have e8 : bd μ553 = bd μ553 := rfl; omega)).qm (q0m.fr (K := [111]) (FrM.tr FrM.rf F_555 (by decide)) (by decide) (by decide) (by decide) ((((hp_556 22 (by decide)).trans ((hp_541 22 (by decide)).trans (hp_528 22 (by decide))))).trans (((hp_541 22 (by decide)).trans (hp_528 22 (by decide)))).symm) (nS.le (by omega) (Int.le_of_eq (((((hp_556 31 (by decide)).trans ((hp_541 31 (by decide)).trans (hp_528 31 (by decide))))).trans (((hp_541 31 (by decide)).trans (hp_528 31 (by decide)))).symm)).symm)))
                    have e_568 : μ553.1 111 29 = μ.1 111 29 := ((hp_556 29 (by decide)).trans ((hp_541 29 (by decide)).trans (hp_528 29 (by decide))))
                    have e_569 : μ553.1 111 29 = μ.1 111 29 := ((hp_556 29 (by decide)).trans ((hp_541 29 (by decide)).trans (hp_528 29 (by decide))))
                    have hxt_570 : mEXT μ μ553 := (q0m.fr (K := [111]) (FrM.tr (FrM.tr (FrM.tr FrM.rf F_527 (by decide)) F_540 (by decide)) F_555 (by decide)) (by decide) (by decide) (by decide) ((hp_556 22 (by decide)).trans ((hp_541 22 (by decide)).trans (hp_528 22 (by decide)))) (nS.le (by omega) (Int.le_of_eq (((hp_556 31 (by decide)).trans ((hp_541 31 (by decide)).trans (hp_528 31 (by decide))))).symm))).1
                    have e_571 : μ553.1 111 14 = tt := ((hp_556 14 (by decide)).trans ((hp_541 14 (by decide)).trans ((hp_528 14 (by decide)).trans htt.symm)))
                    have e_572 : μ553.1 111 22 = μ.1 111 22 := ((hp_556 22 (by decide)).trans ((hp_541 22 (by decide)).trans (hp_528 22 (by decide))))
                    have e_573 : μ553.1 111 22 = μ.1 111 22 := ((hp_556 22 (by decide)).trans ((hp_541 22 (by decide)).trans (hp_528 22 (by decide))))
                    have e_574 : μ553.1 111 39 = μ.1 111 39 := ((hp_556 39 (by decide)).trans ((hp_541 39 (by decide)).trans (hp_528 39 (by decide))))
                    have e_575 : μ553.1 111 39 = μ.1 111 39 := ((hp_556 39 (by decide)).trans ((hp_541 39 (by decide)).trans (hp_528 39 (by decide))))
                    have e_576 : μ553.1 111 22 = μ.1 111 22 := ((hp_556 22 (by decide)).trans ((hp_541 22 (by decide)).trans (hp_528 22 (by decide))))
                    have e_577 : μ553.1 111 31 = μ.1 111 31 := ((hp_556 31 (by decide)).trans ((hp_541 31 (by decide)).trans (hp_528 31 (by decide))))
                    have e_578 : μ553.1 111 31 = μ.1 111 31 := ((hp_556 31 (by decide)).trans ((hp_541 31 (by decide)).trans (hp_528 31 (by decide))))
                    have e_579 : μ553.1 111 22 = μ.1 111 22 := ((hp_556 22 (by decide)).trans ((hp_541 22 (by decide)).trans (hp_528 22 (by decide))))
                    have e_580 : μ553.1 111 22 = μ.1 111 22 := ((hp_556 22 (by decide)).trans ((hp_541 22 (by decide)).trans (hp_528 22 (by decide))))
                    have e_581 : μ553.1 111 29 = μ.1 111 29 := ((hp_556 29 (by decide)).trans ((hp_541 29 (by decide)).trans (hp_528 29 (by decide))))
                    have e_582 : μ553.1 111 39 = μ.1 111 39 := ((hp_556 39 (by decide)).trans ((hp_541 39 (by decide)).trans (hp_528 39 (by decide))))
                    refine xc_vV G (b := 111) (rest := []) (As := [.int (iv ((μ.1 111 11) - 29)), .long (jv r_554)]) (c_X12_call ω l μ553 ((μ.1 111 11) - 29) r_554 F Lo Fu Lu kf tt (by unfold ir; omega) hr_r_554 (by omega) hF hLo hFu hLu hE hU hp_557 (by omega) (by omega) (by omega) (by omega) (by omega) (by omega) (fun _ h0 => ((hX_566 ()) h0).h1.1) (by omega)) (wm 9 179 rfl rfl) (wm 9 181 rfl rfl) (wm 0 157 rfl rfl) rfl rfl (by decide) rfl (wm 1 18 rfl rfl) (wm 9 182 rfl rfl) (by decide) hR ⟨sfr (F := F) (a := 2) (by decide), slo (L := Lo) (m := 7) (a := 44) (by decide)⟩ (n := 2) rfl rfl (Nat.le_of_ble_eq_true rfl) hl.1 dX12_worded_209 (fun μ583 ρ d0 H locs hp G => ?_)
                    obtain ⟨F_584, hp_585, hp_586, hp_587, hp_588, hp_589, hp_590, hp_591, hp_592, hp_593, hp_594, hp_595⟩ := hp
                    have hpl_596 := hp_586.pl
                    have hw_597 := wr_r (μ := μ583)
                    have hxt_598 : mEXT μ μ583 := hxt_570.tr hp_595
                    have e_599 : μ583.1 111 31 = μ.1 111 31 := ((hp_585 31 (by decide)).trans ((hp_556 31 (by decide)).trans ((hp_541 31 (by decide)).trans (hp_528 31 (by decide)))))
                    have hX_600 : ∀ _ : Unit, bd μ583 = 0 → mPX μ μ583 tt 1 1 (11 * (9 - nn μ) - 3) [] := fun _ h0 => (((hX_566 ()) (by have e9 : bd μ553 = bd μ553 := rfl; have e8 : bd μ583 = bd μ583 := rfl; omega)).app (hp_594 () h0) (by omega)).ee (by omega)
                    refine lv_goto (tgt := 223) hx hb dX12_worded_212 (by decide) ?_
                    exact xr_v G hret hlk dX12_worded_223 ⟨(FrM.tr (FrM.tr (FrM.tr (FrM.tr FrM.rf F_527 (by decide)) F_540 (by decide)) F_555 (by decide)) F_584 (by decide)), (fun j hj => ((hp_585 j (fun h9 => hj ((by decide : ∀ x ∈ ([6, 8, 9, 10, 11, 12, 13, 15, 16, 17, 18, 22, 29, 39] : List Int), x ∈ ([6, 8, 9, 10, 11, 12, 13, 15, 16, 17, 18, 22, 29, 39] : List Int)) j h9))).trans ((hp_556 j (fun h9 => hj ((by decide : ∀ x ∈ ([6, 8, 9, 10, 11, 12, 13, 15] : List Int), x ∈ ([6, 8, 9, 10, 11, 12, 13, 15, 16, 17, 18, 22, 29, 39] : List Int)) j h9))).trans ((hp_541 j (fun h9 => hj ((by decide : ∀ x ∈ ([6, 8, 9, 10, 11, 12, 13, 15] : List Int), x ∈ ([6, 8, 9, 10, 11, 12, 13, 15, 16, 17, 18, 22, 29, 39] : List Int)) j h9))).trans (hp_528 j (fun h9 => hj ((by decide : ∀ x ∈ ([6, 8, 9, 10, 11, 12, 13, 15] : List Int), x ∈ ([6, 8, 9, 10, 11, 12, 13, 15, 16, 17, 18, 22, 29, 39] : List Int)) j h9))))))), hp_586, (by omega), (by omega), (by omega), (by omega), (by omega), (by omega), (fun j hj => ((hp_593 j (by omega)).trans ((F_555.1 126 (by decide) j).trans ((F_540.1 126 (by decide) j).trans (F_527.1 126 (by decide) j))))), (fun _ h0 => (mPX.ex ((hX_600 ()) h0)).e (by omega)), hxt_598⟩
                · refine lv_aload_n hx hb dX12_worded_150 rfl (lv_at hl 1 rfl) ?_
                  refine xc_vV G (b := 111) (rest := []) (As := []) (c_X12_next ω l μ  hPM (by omega) (by omega)) (wm 9 0 rfl rfl) (wm 9 2 rfl rfl) (wm 0 119 rfl rfl) rfl rfl (by decide) rfl (wm 1 18 rfl rfl) (wm 9 3 rfl rfl) (by decide) hR ⟨nfr hF (by decide), nlo hLo (by decide)⟩ (n := 0) rfl rfl (Nat.le_of_ble_eq_true rfl) hl.1 dX12_worded_151 (fun μ601 ρ d0 H locs hp G => ?_)
                  obtain ⟨F_602, hp_603, hp_604, hp_605, hp_606, hp_607⟩ := hp
                  have hpl_608 := hp_604.pl
                  have hw_609 := wr_r (μ := μ601)
                  have e_610 : μ601.1 111 31 = μ.1 111 31 := (hp_603 31 (by decide))
                  refine lv_aload_n hx hb dX12_worded_154 rfl (lv_at hl 1 rfl) ?_
                  refine lv_bipush (v := iv 40) hx hb dX12_worded_155 rfl ?_
                  have e_611 : μ601.1 111 29 = μ.1 111 29 := (hp_603 29 (by decide))
                  have e_613 : μ601.1 111 29 = μ.1 111 29 := (hp_603 29 (by decide))
                  have hX_612 : ∀ _ : Unit, bd μ601 = 0 → mPX μ μ601 tt 0 1 (11 * (9 - nn μ) - 3) [] := fun _ h0 => (hX_1 () (by have e9 : bd μ = bd μ := rfl; have e8 : bd μ601 = bd μ601 := rfl; omega)).qm (q0m.fr (K := [111]) (FrM.tr FrM.rf F_602 (by decide)) (by decide) (by decide) (by decide) (hp_603 22 (by decide)) (nS.le (by omega) (Int.le_of_eq ((hp_603 31 (by decide))).symm)))
                  refine xc_vV G (b := 111) (rest := []) (As := [.int (iv 40)]) (c_X12_opensWith ω l μ601 40 (by unfold ir; omega) hp_604 (by omega) (by omega)) (wm 9 86 rfl rfl) (wm 9 88 rfl rfl) (wm 0 134 rfl rfl) rfl rfl (by decide) rfl (wm 1 18 rfl rfl) (wm 9 89 rfl rfl) (by decide) hR ⟨nfr hF (by decide), nlo hLo (by decide)⟩ (n := 1) rfl rfl (Nat.le_of_ble_eq_true rfl) hl.1 dX12_worded_157 (fun μ614 ρ d0 H locs hp G => ?_)
                  obtain ⟨F_615, hp_616, hp_617, hp_618, hp_619, hp_620, hp_621⟩ := hp
                  have hpl_622 := hp_617.pl
                  have hw_623 := wr_r (μ := μ614)
                  have e_624 : μ614.1 111 31 = μ.1 111 31 := ((hp_616 31 (by decide)).trans (hp_603 31 (by decide)))
                  refine lv_aload_n hx hb dX12_worded_160 rfl (lv_at hl 1 rfl) ?_
                  have e_625 : μ614.1 111 29 = μ.1 111 29 := ((hp_616 29 (by decide)).trans (hp_603 29 (by decide)))
                  have e_627 : μ614.1 111 29 = μ.1 111 29 := ((hp_616 29 (by decide)).trans (hp_603 29 (by decide)))
                  have hX_626 : ∀ _ : Unit, bd μ614 = 0 → mPX μ μ614 tt 0 1 (11 * (9 - nn μ) - 3) [] := fun _ h0 => (hX_612 () (by have e9 : bd μ601 = bd μ601 := rfl; have e8 : bd μ614 = bd μ614 := rfl; omega)).qm (q0m.fr (K := [111]) (FrM.tr FrM.rf F_615 (by decide)) (by decide) (by decide) (by decide) ((((hp_616 22 (by decide)).trans (hp_603 22 (by decide)))).trans ((hp_603 22 (by decide))).symm) (nS.le (by omega) (Int.le_of_eq (((((hp_616 31 (by decide)).trans (hp_603 31 (by decide)))).trans ((hp_603 31 (by decide))).symm)).symm)))
                  have e_628 : μ614.1 111 29 = μ.1 111 29 := ((hp_616 29 (by decide)).trans (hp_603 29 (by decide)))
                  have e_629 : μ614.1 111 29 = μ.1 111 29 := ((hp_616 29 (by decide)).trans (hp_603 29 (by decide)))
                  have hxt_630 : mEXT μ μ614 := (q0m.fr (K := [111]) (FrM.tr (FrM.tr FrM.rf F_602 (by decide)) F_615 (by decide)) (by decide) (by decide) (by decide) ((hp_616 22 (by decide)).trans (hp_603 22 (by decide))) (nS.le (by omega) (Int.le_of_eq (((hp_616 31 (by decide)).trans (hp_603 31 (by decide)))).symm))).1
                  have e_631 : μ614.1 111 14 = tt := ((hp_616 14 (by decide)).trans ((hp_603 14 (by decide)).trans htt.symm))
                  have e_632 : μ614.1 111 22 = μ.1 111 22 := ((hp_616 22 (by decide)).trans (hp_603 22 (by decide)))
                  have e_633 : μ614.1 111 22 = μ.1 111 22 := ((hp_616 22 (by decide)).trans (hp_603 22 (by decide)))
                  have e_634 : μ614.1 111 39 = μ.1 111 39 := ((hp_616 39 (by decide)).trans (hp_603 39 (by decide)))
                  have e_635 : μ614.1 111 39 = μ.1 111 39 := ((hp_616 39 (by decide)).trans (hp_603 39 (by decide)))
                  have e_636 : μ614.1 111 22 = μ.1 111 22 := ((hp_616 22 (by decide)).trans (hp_603 22 (by decide)))
                  have e_637 : μ614.1 111 31 = μ.1 111 31 := ((hp_616 31 (by decide)).trans (hp_603 31 (by decide)))
                  have e_638 : μ614.1 111 31 = μ.1 111 31 := ((hp_616 31 (by decide)).trans (hp_603 31 (by decide)))
                  have e_639 : μ614.1 111 22 = μ.1 111 22 := ((hp_616 22 (by decide)).trans (hp_603 22 (by decide)))
                  have e_640 : μ614.1 111 22 = μ.1 111 22 := ((hp_616 22 (by decide)).trans (hp_603 22 (by decide)))
                  have e_641 : μ614.1 111 29 = μ.1 111 29 := ((hp_616 29 (by decide)).trans (hp_603 29 (by decide)))
                  have e_642 : μ614.1 111 39 = μ.1 111 39 := ((hp_616 39 (by decide)).trans (hp_603 39 (by decide)))
                  refine xc_vV G (b := 111) (rest := []) (As := []) (((fun (_ : Om) (_ : Launch) => hE)) ω l μ614 tt (by omega) hp_617 (by omega) (by omega) (by omega) (by omega) (by omega) (by omega) (fun _ h0 => ((hX_626 ()) h0).h1.1)) (wm 9 139 rfl rfl) (wm 9 141 rfl rfl) (wm 0 147 rfl rfl) rfl rfl (by decide) rfl (wm 1 18 rfl rfl) (wm 9 142 rfl rfl) (by decide) hR ⟨sfr (F := F) (a := 0) (by decide), slo (L := Lo) (m := 1) (a := 0) (by decide)⟩ (n := 0) rfl rfl (Nat.le_of_ble_eq_true rfl) hl.1 dX12_worded_161 (fun μ643 ρ d0 H locs hp G => ?_)
                  obtain ⟨F_644, hp_645, hp_646, hp_647, hp_648, hp_649, hp_650, hp_651, hp_652, hp_653, hp_654, hp_655⟩ := hp
                  have hpl_656 := hp_646.pl
                  have hw_657 := wr_r (μ := μ643)
                  have hxt_658 : mEXT μ μ643 := hxt_630.tr hp_655
                  have e_659 : μ643.1 111 31 = μ.1 111 31 := ((hp_645 31 (by decide)).trans ((hp_616 31 (by decide)).trans (hp_603 31 (by decide))))
                  have hX_660 : ∀ _ : Unit, bd μ643 = 0 → mPX μ μ643 tt 1 1 (11 * (9 - nn μ) - 3) [] := fun _ h0 => (((hX_626 ()) (by have e9 : bd μ614 = bd μ614 := rfl; have e8 : bd μ643 = bd μ643 := rfl; omega)).app (hp_654 () h0) (by omega)).ee (by omega)
                  refine lv_aload_n hx hb dX12_worded_164 rfl (lv_at hl 1 rfl) ?_
                  refine lv_bipush (v := iv 41) hx hb dX12_worded_165 rfl ?_
                  refine xc_vV G (b := 111) (rest := []) (As := [.int (iv 41)]) (c_X12_closesWith ω l μ643 41 (by unfold ir; omega) hp_646 (by omega) (by omega)) (wm 9 110 rfl rfl) (wm 9 112 rfl rfl) (wm 0 140 rfl rfl) rfl rfl (by decide) rfl (wm 1 18 rfl rfl) (wm 9 113 rfl rfl) (by decide) hR ⟨nfr hF (by decide), nlo hLo (by decide)⟩ (n := 1) rfl rfl (Nat.le_of_ble_eq_true rfl) hl.1 dX12_worded_167 (fun μ661 ρ d0 H locs hp G => ?_)
                  obtain ⟨F_662, hp_663, hp_664, hp_665, hp_666, hp_667, hp_668⟩ := hp
                  have hpl_669 := hp_664.pl
                  have hw_670 := wr_r (μ := μ661)
                  have e_671 : μ661.1 111 31 = μ.1 111 31 := ((hp_663 31 (by decide)).trans ((hp_645 31 (by decide)).trans ((hp_616 31 (by decide)).trans (hp_603 31 (by decide)))))
                  refine lv_aload_n hx hb dX12_worded_170 rfl (lv_at hl 1 rfl) ?_
                  refine lv_bipush (v := iv 30) hx hb dX12_worded_171 rfl ?_
                  refine lv_lconst (v := jv 0) hx hb dX12_worded_173 rfl ?_
                  refine lv_iconst (v := iv 0) hx hb dX12_worded_174 rfl ?_
                  have e_672 : μ661.1 111 29 = μ643.1 111 29 := (hp_663 29 (by decide))
                  have e_674 : μ661.1 111 29 = μ643.1 111 29 := (hp_663 29 (by decide))
                  have hX_673 : ∀ _ : Unit, bd μ661 = 0 → mPX μ μ661 tt 1 1 (11 * (9 - nn μ) - 3) [] := fun _ h0 => (hX_660 () (by have e9 : bd μ643 = bd μ643 := rfl; have e8 : bd μ661 = bd μ661 := rfl; omega)).qm (q0m.fr (K := [111]) (FrM.tr FrM.rf F_662 (by decide)) (by decide) (by decide) (by decide) (hp_663 22 (by decide)) (nS.le (by omega) (Int.le_of_eq (((((hp_663 31 (by decide)).trans ((hp_645 31 (by decide)).trans ((hp_616 31 (by decide)).trans (hp_603 31 (by decide)))))).trans (((hp_645 31 (by decide)).trans ((hp_616 31 (by decide)).trans (hp_603 31 (by decide))))).symm)).symm)))
                  have e_675 : μ661.1 111 29 = μ643.1 111 29 := (hp_663 29 (by decide))
                  have e_676 : μ661.1 111 29 = μ643.1 111 29 := (hp_663 29 (by decide))
                  have hxt_677 : mEXT μ μ661 := hxt_658.tr (q0m.fr (K := [111]) (FrM.tr FrM.rf F_662 (by decide)) (by decide) (by decide) (by decide) (hp_663 22 (by decide)) (nS.le (by omega) (Int.le_of_eq (((((hp_663 31 (by decide)).trans ((hp_645 31 (by decide)).trans ((hp_616 31 (by decide)).trans (hp_603 31 (by decide)))))).trans (((hp_645 31 (by decide)).trans ((hp_616 31 (by decide)).trans (hp_603 31 (by decide))))).symm)).symm))).1
                  have e_678 : μ661.1 111 22 = μ643.1 111 22 := (hp_663 22 (by decide))
                  have e_679 : μ661.1 111 22 = μ643.1 111 22 := (hp_663 22 (by decide))
                  have e_680 : μ661.1 111 22 = μ643.1 111 22 := (hp_663 22 (by decide))
                  have e_681 : μ661.1 111 22 = μ643.1 111 22 := (hp_663 22 (by decide))
                  refine xc_iV G (b := 111) (rest := []) (As := [.int (iv 30), .long (jv 0), .int (iv 0)]) (c_X12_emit ω l μ661 30 0 0 (by unfold ir; omega) (by unfold jr; omega) (by unfold ir; omega) (by omega)) (wm 9 126 rfl rfl) (wm 9 128 rfl rfl) (wm 0 144 rfl rfl) rfl rfl (by decide) rfl (wm 1 18 rfl rfl) (wm 9 129 rfl rfl) (by decide) hR ⟨nfr hF (by decide), nlo hLo (by decide)⟩ (n := 3) rfl rfl (Nat.le_of_ble_eq_true rfl) hl.1 dX12_worded_175 (fun r_683 μ682 ρ d0 H locs hr_r_683 hp G => ?_)
                  have hr_r_683 : -2147483648 ≤ r_683 ∧ r_683 ≤ 2147483647 := hr_r_683
                  obtain ⟨F_684, hp_685, hp_686, hp_687, hp_688⟩ := hp
                  have hxt_689 : mEXT μ μ682 := hxt_677.tr hp_686.1
                  have e_690 : wr μ682 = wr μ661 := (wr_cg (hp_685 15 (by decide)))
                  have e_691 : bd μ682 = bd μ661 := (bd_cg (hp_685 15 (by decide)) (hp_685 16 (by decide)) (hp_685 17 (by decide)))
                  have e_692 : nn μ682 = nn μ661 := (nn_cg (hp_685 15 (by decide)) (hp_685 18 (by decide)))
                  have e_694 : μ682.1 111 29 = μ643.1 111 29 := ((hp_685 29 (by decide)).trans (hp_663 29 (by decide)))
                  have hX_693 : ∀ _ : Unit, bd μ682 = 0 → mPX μ μ682 tt 1 1 (11 * (9 - nn μ) - 3) [] := fun _ h0 => ((((hX_673 ()) (by have e9 : bd μ661 = bd μ661 := rfl; have e8 : bd μ682 = bd μ661 := (bd_cg (hp_685 15 (by decide)) (hp_685 16 (by decide)) (hp_685 17 (by decide))); omega))).app (mAD.ex (t := tt) (e := 0) hp_686 ((hX_673 ()) (by have e9 : bd μ661 = bd μ661 := rfl; have e8 : bd μ682 = bd μ661 := (bd_cg (hp_685 15 (by decide)) (hp_685 16 (by decide)) (hp_685 17 (by decide))); omega)).h1.1 (by unfold mpl; omega) rfl (by have h9 := ((hX_673 ()) (by have e9 : bd μ661 = bd μ661 := rfl; have e8 : bd μ682 = bd μ661 := (bd_cg (hp_685 15 (by decide)) (hp_685 16 (by decide)) (hp_685 17 (by decide))); omega)).h1; omega) ⟨fun q => absurd q (by decide), ⟨fun q => absurd q (by decide), fun q => absurd q (by decide)⟩, fun _ => by have h9 := ((hX_673 ()) (by have e9 : bd μ661 = bd μ661 := rfl; have e8 : bd μ682 = bd μ661 := (bd_cg (hp_685 15 (by decide)) (hp_685 16 (by decide)) (hp_685 17 (by decide))); omega)).h1; rw [(hp_686.1.fo (t := tt) _ (Int.le_refl _)).1]; omega, fun q => absurd q (by decide), fun q => absurd q (by decide), fun q => absurd q (by decide), fun q => absurd q (by decide), fun q => absurd q (by decide), fun q => absurd q (by decide), fun q => absurd q (by decide), fun q => absurd q (by decide), fun q => absurd q (by decide), fun q => absurd q (by decide), fun q => absurd q (by decide), fun q => absurd q (by decide), fun q => absurd q (by decide), fun q => absurd q (by decide), fun q => absurd q (by decide), fun q => absurd q (by decide), fun q => absurd q (by decide), fun q => absurd q (by decide), ⟨fun q => absurd q (by decide), fun q => absurd q (by decide), fun q => absurd q (by decide)⟩, ⟨by decide, by decide⟩⟩) (by have h9 := ((hX_673 ()) (by have e9 : bd μ661 = bd μ661 := rfl; have e8 : bd μ682 = bd μ661 := (bd_cg (hp_685 15 (by decide)) (hp_685 16 (by decide)) (hp_685 17 (by decide))); omega)).h1; omega)).ee (by omega)
                  refine lv_pop hx hb dX12_worded_178 rfl ?_
                  refine lv_goto (tgt := 223) hx hb dX12_worded_179 (by decide) ?_
                  have e_695 : μ682.1 111 9 = μ661.1 111 9 := (hp_685 9 (by decide))
                  have e_696 : μ682.1 111 29 = μ643.1 111 29 := ((hp_685 29 (by decide)).trans (hp_663 29 (by decide)))
                  have e_697 : μ682.1 111 39 = μ643.1 111 39 := ((hp_685 39 (by decide)).trans (hp_663 39 (by decide)))
                  have e_698 : wr μ682 = wr μ661 := (wr_cg (hp_685 15 (by decide)))
                  have e_699 : bd μ682 = bd μ661 := (bd_cg (hp_685 15 (by decide)) (hp_685 16 (by decide)) (hp_685 17 (by decide)))
                  have e_700 : nn μ682 = nn μ661 := (nn_cg (hp_685 15 (by decide)) (hp_685 18 (by decide)))
                  have hPM_701 : PM μ682 := hp_664.cg ((((hp_685 4 (by decide)).trans ((hp_663 4 (by decide)).trans ((hp_645 4 (by decide)).trans ((hp_616 4 (by decide)).trans (hp_603 4 (by decide))))))).trans (((hp_663 4 (by decide)).trans ((hp_645 4 (by decide)).trans ((hp_616 4 (by decide)).trans (hp_603 4 (by decide)))))).symm) (hp_685 6 (by decide)) ((((hp_685 7 (by decide)).trans ((hp_663 7 (by decide)).trans ((hp_645 7 (by decide)).trans ((hp_616 7 (by decide)).trans (hp_603 7 (by decide))))))).trans (((hp_663 7 (by decide)).trans ((hp_645 7 (by decide)).trans ((hp_616 7 (by decide)).trans (hp_603 7 (by decide)))))).symm) (hp_685 8 (by decide)) (hp_685 9 (by decide)) (hp_685 11 (by decide)) (hp_685 12 (by decide)) ((((hp_685 14 (by decide)).trans ((hp_663 14 (by decide)).trans ((hp_645 14 (by decide)).trans ((hp_616 14 (by decide)).trans ((hp_603 14 (by decide)).trans htt.symm)))))).trans (((hp_663 14 (by decide)).trans ((hp_645 14 (by decide)).trans ((hp_616 14 (by decide)).trans ((hp_603 14 (by decide)).trans htt.symm))))).symm) (hp_685 15 (by decide)) ((((hp_685 29 (by decide)).trans (hp_663 29 (by decide)))).trans ((hp_663 29 (by decide))).symm) (fun j => (F_684.1 123 (by decide) j))
                  have e_702 : μ682.1 111 9 = μ661.1 111 9 := (hp_685 9 (by decide))
                  have e_703 : wr μ682 = wr μ661 := (wr_cg (hp_685 15 (by decide)))
                  have e_704 : μ682.1 111 9 = μ661.1 111 9 := (hp_685 9 (by decide))
                  have e_705 : μ682.1 111 29 = μ643.1 111 29 := ((hp_685 29 (by decide)).trans (hp_663 29 (by decide)))
                  have e_706 : wr μ682 = wr μ661 := (wr_cg (hp_685 15 (by decide)))
                  have e_707 : bd μ682 = bd μ661 := (bd_cg (hp_685 15 (by decide)) (hp_685 16 (by decide)) (hp_685 17 (by decide)))
                  have e_708 : wr μ682 = wr μ661 := (wr_cg (hp_685 15 (by decide)))
                  have e_709 : nn μ682 = nn μ661 := (nn_cg (hp_685 15 (by decide)) (hp_685 18 (by decide)))
                  have e_710 : μ682.1 111 39 = μ643.1 111 39 := ((hp_685 39 (by decide)).trans (hp_663 39 (by decide)))
                  exact xr_v G hret hlk dX12_worded_223 ⟨(FrM.tr (FrM.tr (FrM.tr (FrM.tr (FrM.tr FrM.rf F_602 (by decide)) F_615 (by decide)) F_644 (by decide)) F_662 (by decide)) F_684 (by decide)), (fun j hj => ((hp_685 j (fun h9 => hj ((by decide : ∀ x ∈ ([22] : List Int), x ∈ ([6, 8, 9, 10, 11, 12, 13, 15, 16, 17, 18, 22, 29, 39] : List Int)) j h9))).trans ((hp_663 j (fun h9 => hj ((by decide : ∀ x ∈ ([6, 8, 9, 10, 11, 12, 13, 15, 18] : List Int), x ∈ ([6, 8, 9, 10, 11, 12, 13, 15, 16, 17, 18, 22, 29, 39] : List Int)) j h9))).trans ((hp_645 j (fun h9 => hj ((by decide : ∀ x ∈ ([6, 8, 9, 10, 11, 12, 13, 15, 16, 17, 18, 22, 29, 39] : List Int), x ∈ ([6, 8, 9, 10, 11, 12, 13, 15, 16, 17, 18, 22, 29, 39] : List Int)) j h9))).trans ((hp_616 j (fun h9 => hj ((by decide : ∀ x ∈ ([6, 8, 9, 10, 11, 12, 13, 15, 18] : List Int), x ∈ ([6, 8, 9, 10, 11, 12, 13, 15, 16, 17, 18, 22, 29, 39] : List Int)) j h9))).trans (hp_603 j (fun h9 => hj ((by decide : ∀ x ∈ ([6, 8, 9, 10, 11, 12, 13, 15] : List Int), x ∈ ([6, 8, 9, 10, 11, 12, 13, 15, 16, 17, 18, 22, 29, 39] : List Int)) j h9)))))))), hPM_701, (by omega), (by omega), (by omega), (by omega), (by omega), (by omega), (fun j hj => ((F_684.1 126 (by decide) j).trans ((F_662.1 126 (by decide) j).trans ((hp_653 j (by omega)).trans ((F_615.1 126 (by decide) j).trans (F_602.1 126 (by decide) j)))))), (fun _ h0 => (mPX.ex ((hX_693 ()) h0)).e (by omega)), hxt_689⟩
            · refine lv_aload_n hx hb dX12_worded_113 rfl (lv_at hl 1 rfl) ?_
              refine xc_vV G (b := 111) (rest := []) (As := []) (c_X12_next ω l μ  hPM (by omega) (by omega)) (wm 9 0 rfl rfl) (wm 9 2 rfl rfl) (wm 0 119 rfl rfl) rfl rfl (by decide) rfl (wm 1 18 rfl rfl) (wm 9 3 rfl rfl) (by decide) hR ⟨nfr hF (by decide), nlo hLo (by decide)⟩ (n := 0) rfl rfl (Nat.le_of_ble_eq_true rfl) hl.1 dX12_worded_114 (fun μ711 ρ d0 H locs hp G => ?_)
              obtain ⟨F_712, hp_713, hp_714, hp_715, hp_716, hp_717⟩ := hp
              have hpl_718 := hp_714.pl
              have hw_719 := wr_r (μ := μ711)
              have e_720 : μ711.1 111 31 = μ.1 111 31 := (hp_713 31 (by decide))
              refine lv_aload_n hx hb dX12_worded_117 rfl (lv_at hl 1 rfl) ?_
              have e_721 : μ711.1 111 29 = μ.1 111 29 := (hp_713 29 (by decide))
              have e_723 : μ711.1 111 29 = μ.1 111 29 := (hp_713 29 (by decide))
              have hX_722 : ∀ _ : Unit, bd μ711 = 0 → mPX μ μ711 tt 0 1 (11 * (9 - nn μ) - 3) [] := fun _ h0 => (hX_1 () (by have e9 : bd μ = bd μ := rfl; have e8 : bd μ711 = bd μ711 := rfl; omega)).qm (q0m.fr (K := [111]) (FrM.tr FrM.rf F_712 (by decide)) (by decide) (by decide) (by decide) (hp_713 22 (by decide)) (nS.le (by omega) (Int.le_of_eq ((hp_713 31 (by decide))).symm)))
              have e_724 : μ711.1 111 29 = μ.1 111 29 := (hp_713 29 (by decide))
              refine xc_iV G (b := 111) (rest := []) (As := []) (c_X12_takesKind ω l μ711  hp_714 (by omega)) (wm 9 203 rfl rfl) (wm 9 205 rfl rfl) (wm 0 163 rfl rfl) rfl rfl (by decide) rfl (wm 1 18 rfl rfl) (wm 9 206 rfl rfl) (by decide) hR ⟨nfr hF (by decide), nlo hLo (by decide)⟩ (n := 0) rfl rfl (Nat.le_of_ble_eq_true rfl) hl.1 dX12_worded_118 (fun r_726 μ725 ρ d0 H locs hr_r_726 hp G => ?_)
              have hr_r_726 : -2147483648 ≤ r_726 ∧ r_726 ≤ 2147483647 := hr_r_726
              obtain ⟨F_727, hp_728, hp_729, hp_730, hp_731, hp_732, hp_733, hp_734, hp_735⟩ := hp
              have hpl_736 := hp_729.pl
              have hw_737 := wr_r (μ := μ725)
              have e_738 : μ725.1 111 31 = μ.1 111 31 := ((hp_728 31 (by decide)).trans (hp_713 31 (by decide)))
              refine lv_istore_n (lv' := [(2, .int (iv r_726)), (1, .int (iv (μ.1 111 11))), (0, .ref (oP ω 111))]) hx hb dX12_worded_121 rfl hl (by decide) rfl (fun ls hl => ?_)
              refine lv_aload_n hx hb dX12_worded_122 rfl (lv_at hl 2 rfl) ?_
              refine lv_bipush (v := iv 29) hx hb dX12_worded_123 rfl ?_
              refine lv_bipush (v := iv 40) hx hb dX12_worded_125 rfl ?_
              refine lv_bipush (v := iv 41) hx hb dX12_worded_127 rfl ?_
              refine lv_iload_n hx hb dX12_worded_129 rfl (lv_at hl 0 rfl) ?_
              have hX_739 : ∀ _ : Unit, bd μ725 = 0 → mPX μ μ725 tt 0 1 (11 * (9 - nn μ) - 3) [] := fun _ h0 => (hX_722 () (by have e9 : bd μ711 = bd μ711 := rfl; have e8 : bd μ725 = bd μ725 := rfl; omega)).qm (q0m.fr (K := [111, 113, 123]) (FrM.tr FrM.rf F_727 (by decide)) (by decide) (by decide) (by decide) ((((hp_728 22 (by decide)).trans (hp_713 22 (by decide)))).trans ((hp_713 22 (by decide))).symm) (nS.le (by omega) (Int.le_of_eq (((((hp_728 31 (by decide)).trans (hp_713 31 (by decide)))).trans ((hp_713 31 (by decide))).symm)).symm)))
              have hxt_740 : mEXT μ μ725 := (q0m.fr (K := [111, 113, 123]) (FrM.tr (FrM.tr FrM.rf F_712 (by decide)) F_727 (by decide)) (by decide) (by decide) (by decide) ((hp_728 22 (by decide)).trans (hp_713 22 (by decide))) (nS.le (by omega) (Int.le_of_eq (((hp_728 31 (by decide)).trans (hp_713 31 (by decide)))).symm))).1
              have e_741 : μ725.1 111 14 = tt := ((hp_728 14 (by decide)).trans ((hp_713 14 (by decide)).trans htt.symm))
              have e_742 : μ725.1 111 22 = μ.1 111 22 := ((hp_728 22 (by decide)).trans (hp_713 22 (by decide)))
              have e_743 : μ725.1 111 22 = μ.1 111 22 := ((hp_728 22 (by decide)).trans (hp_713 22 (by decide)))
              have e_744 : μ725.1 111 39 = μ.1 111 39 := ((hp_728 39 (by decide)).trans (hp_713 39 (by decide)))
              have e_745 : μ725.1 111 39 = μ.1 111 39 := ((hp_728 39 (by decide)).trans (hp_713 39 (by decide)))
              have e_746 : μ725.1 111 22 = μ.1 111 22 := ((hp_728 22 (by decide)).trans (hp_713 22 (by decide)))
              have e_747 : μ725.1 111 31 = μ.1 111 31 := ((hp_728 31 (by decide)).trans (hp_713 31 (by decide)))
              have e_748 : μ725.1 111 31 = μ.1 111 31 := ((hp_728 31 (by decide)).trans (hp_713 31 (by decide)))
              have e_749 : μ725.1 111 22 = μ.1 111 22 := ((hp_728 22 (by decide)).trans (hp_713 22 (by decide)))
              have e_750 : μ725.1 111 22 = μ.1 111 22 := ((hp_728 22 (by decide)).trans (hp_713 22 (by decide)))
              have e_751 : μ725.1 111 39 = μ.1 111 39 := ((hp_728 39 (by decide)).trans (hp_713 39 (by decide)))
              refine xc_vV G (b := 111) (rest := []) (As := [.int (iv 29), .int (iv 40), .int (iv 41), .int (iv r_726)]) (c_X12_ofPart ω l μ725 29 40 41 r_726 F Lo Fu Lu kf tt (by unfold ir; omega) (by unfold ir; omega) (by unfold ir; omega) (by unfold ir; omega) (by omega) hF hLo hFu hLu hE hU hp_729 (by omega) (by omega) (by omega) (by omega) (by omega) (by omega) (fun _ h0 => ((hX_739 ()) h0).h1.1) (by omega) (by omega) (by omega)) (wm 9 199 rfl rfl) (wm 9 201 rfl rfl) (wm 0 162 rfl rfl) rfl rfl (by decide) rfl (wm 1 18 rfl rfl) (wm 9 202 rfl rfl) (by decide) hR ⟨sfr (F := F) (a := 1) (by decide), slo (L := Lo) (m := 6) (a := 20) (by decide)⟩ (n := 4) rfl rfl (Nat.le_of_ble_eq_true rfl) hl.1 dX12_worded_130 (fun μ752 ρ d0 H locs hp G => ?_)
              obtain ⟨F_753, hp_754, hp_755, hp_756, hp_757, hp_758, hp_759, hp_760, hp_761, hp_762, hp_763, hp_764⟩ := hp
              have hpl_765 := hp_755.pl
              have hw_766 := wr_r (μ := μ752)
              have hxt_767 : mEXT μ μ752 := hxt_740.tr hp_764
              have e_768 : μ752.1 111 31 = μ.1 111 31 := ((hp_754 31 (by decide)).trans ((hp_728 31 (by decide)).trans (hp_713 31 (by decide))))
              have hX_769 : ∀ _ : Unit, bd μ752 = 0 → mPX μ μ752 tt 1 1 (11 * (9 - nn μ) - 3) [] := fun _ h0 => (((hX_739 ()) (by have e9 : bd μ725 = bd μ725 := rfl; have e8 : bd μ752 = bd μ752 := rfl; omega)).app (hp_763 () h0) (by omega)).ee (by omega)
              refine lv_goto (tgt := 223) hx hb dX12_worded_133 (by decide) ?_
              exact xr_v G hret hlk dX12_worded_223 ⟨(FrM.tr (FrM.tr (FrM.tr FrM.rf F_712 (by decide)) F_727 (by decide)) F_753 (by decide)), (fun j hj => ((hp_754 j (fun h9 => hj ((by decide : ∀ x ∈ ([6, 8, 9, 10, 11, 12, 13, 15, 16, 17, 18, 22, 29, 39] : List Int), x ∈ ([6, 8, 9, 10, 11, 12, 13, 15, 16, 17, 18, 22, 29, 39] : List Int)) j h9))).trans ((hp_728 j (fun h9 => hj ((by decide : ∀ x ∈ ([6, 8, 9, 10, 11, 12, 13, 15, 16, 29] : List Int), x ∈ ([6, 8, 9, 10, 11, 12, 13, 15, 16, 17, 18, 22, 29, 39] : List Int)) j h9))).trans (hp_713 j (fun h9 => hj ((by decide : ∀ x ∈ ([6, 8, 9, 10, 11, 12, 13, 15] : List Int), x ∈ ([6, 8, 9, 10, 11, 12, 13, 15, 16, 17, 18, 22, 29, 39] : List Int)) j h9)))))), hp_755, (by omega), (by omega), (by omega), (by omega), (by omega), (by omega), (fun j hj => ((hp_762 j (by omega)).trans ((F_727.1 126 (by decide) j).trans (F_712.1 126 (by decide) j)))), (fun _ h0 => (mPX.ex ((hX_769 ()) h0)).e (by omega)), hxt_767⟩
        · refine lv_aload_n hx hb dX12_worded_81 rfl (lv_at hl 1 rfl) ?_
          refine xc_vV G (b := 111) (rest := []) (As := []) (c_X12_next ω l μ  hPM (by omega) (by omega)) (wm 9 0 rfl rfl) (wm 9 2 rfl rfl) (wm 0 119 rfl rfl) rfl rfl (by decide) rfl (wm 1 18 rfl rfl) (wm 9 3 rfl rfl) (by decide) hR ⟨nfr hF (by decide), nlo hLo (by decide)⟩ (n := 0) rfl rfl (Nat.le_of_ble_eq_true rfl) hl.1 dX12_worded_82 (fun μ770 ρ d0 H locs hp G => ?_)
          obtain ⟨F_771, hp_772, hp_773, hp_774, hp_775, hp_776⟩ := hp
          have hpl_777 := hp_773.pl
          have hw_778 := wr_r (μ := μ770)
          have e_779 : μ770.1 111 31 = μ.1 111 31 := (hp_772 31 (by decide))
          refine lv_aload_n hx hb dX12_worded_85 rfl (lv_at hl 1 rfl) ?_
          refine lv_bipush (v := iv 23) hx hb dX12_worded_86 rfl ?_
          refine lv_bipush (v := iv 40) hx hb dX12_worded_88 rfl ?_
          refine lv_bipush (v := iv 41) hx hb dX12_worded_90 rfl ?_
          refine lv_iconst (v := iv 0) hx hb dX12_worded_92 rfl ?_
          have e_780 : μ770.1 111 29 = μ.1 111 29 := (hp_772 29 (by decide))
          have e_782 : μ770.1 111 29 = μ.1 111 29 := (hp_772 29 (by decide))
          have hX_781 : ∀ _ : Unit, bd μ770 = 0 → mPX μ μ770 tt 0 1 (11 * (9 - nn μ) - 3) [] := fun _ h0 => (hX_1 () (by have e9 : bd μ = bd μ := rfl; have e8 : bd μ770 = bd μ770 := rfl; omega)).qm (q0m.fr (K := [111]) (FrM.tr FrM.rf F_771 (by decide)) (by decide) (by decide) (by decide) (hp_772 22 (by decide)) (nS.le (by omega) (Int.le_of_eq ((hp_772 31 (by decide))).symm)))
          have e_783 : μ770.1 111 29 = μ.1 111 29 := (hp_772 29 (by decide))
          have e_784 : μ770.1 111 29 = μ.1 111 29 := (hp_772 29 (by decide))
          have hxt_785 : mEXT μ μ770 := (q0m.fr (K := [111]) (FrM.tr FrM.rf F_771 (by decide)) (by decide) (by decide) (by decide) (hp_772 22 (by decide)) (nS.le (by omega) (Int.le_of_eq ((hp_772 31 (by decide))).symm))).1
          have e_786 : μ770.1 111 14 = tt := ((hp_772 14 (by decide)).trans htt.symm)
          have e_787 : μ770.1 111 22 = μ.1 111 22 := (hp_772 22 (by decide))
          have e_788 : μ770.1 111 22 = μ.1 111 22 := (hp_772 22 (by decide))
          have e_789 : μ770.1 111 39 = μ.1 111 39 := (hp_772 39 (by decide))
          have e_790 : μ770.1 111 39 = μ.1 111 39 := (hp_772 39 (by decide))
          have e_791 : μ770.1 111 22 = μ.1 111 22 := (hp_772 22 (by decide))
          have e_792 : μ770.1 111 31 = μ.1 111 31 := (hp_772 31 (by decide))
          have e_793 : μ770.1 111 31 = μ.1 111 31 := (hp_772 31 (by decide))
          have e_794 : μ770.1 111 22 = μ.1 111 22 := (hp_772 22 (by decide))
          have e_795 : μ770.1 111 22 = μ.1 111 22 := (hp_772 22 (by decide))
          have e_796 : μ770.1 111 29 = μ.1 111 29 := (hp_772 29 (by decide))
          have e_797 : μ770.1 111 39 = μ.1 111 39 := (hp_772 39 (by decide))
          refine xc_vV G (b := 111) (rest := []) (As := [.int (iv 23), .int (iv 40), .int (iv 41), .int (iv 0)]) (c_X12_ofPart ω l μ770 23 40 41 0 F Lo Fu Lu kf tt (by unfold ir; omega) (by unfold ir; omega) (by unfold ir; omega) (by unfold ir; omega) (by omega) hF hLo hFu hLu hE hU hp_773 (by omega) (by omega) (by omega) (by omega) (by omega) (by omega) (fun _ h0 => ((hX_781 ()) h0).h1.1) (by omega) (by omega) (by omega)) (wm 9 199 rfl rfl) (wm 9 201 rfl rfl) (wm 0 162 rfl rfl) rfl rfl (by decide) rfl (wm 1 18 rfl rfl) (wm 9 202 rfl rfl) (by decide) hR ⟨sfr (F := F) (a := 1) (by decide), slo (L := Lo) (m := 6) (a := 20) (by decide)⟩ (n := 4) rfl rfl (Nat.le_of_ble_eq_true rfl) hl.1 dX12_worded_93 (fun μ798 ρ d0 H locs hp G => ?_)
          obtain ⟨F_799, hp_800, hp_801, hp_802, hp_803, hp_804, hp_805, hp_806, hp_807, hp_808, hp_809, hp_810⟩ := hp
          have hpl_811 := hp_801.pl
          have hw_812 := wr_r (μ := μ798)
          have hxt_813 : mEXT μ μ798 := hxt_785.tr hp_810
          have e_814 : μ798.1 111 31 = μ.1 111 31 := ((hp_800 31 (by decide)).trans (hp_772 31 (by decide)))
          have hX_815 : ∀ _ : Unit, bd μ798 = 0 → mPX μ μ798 tt 1 1 (11 * (9 - nn μ) - 3) [] := fun _ h0 => (((hX_781 ()) (by have e9 : bd μ770 = bd μ770 := rfl; have e8 : bd μ798 = bd μ798 := rfl; omega)).app (hp_809 () h0) (by omega)).ee (by omega)
          refine lv_goto (tgt := 223) hx hb dX12_worded_96 (by decide) ?_
          exact xr_v G hret hlk dX12_worded_223 ⟨(FrM.tr (FrM.tr FrM.rf F_771 (by decide)) F_799 (by decide)), (fun j hj => ((hp_800 j (fun h9 => hj ((by decide : ∀ x ∈ ([6, 8, 9, 10, 11, 12, 13, 15, 16, 17, 18, 22, 29, 39] : List Int), x ∈ ([6, 8, 9, 10, 11, 12, 13, 15, 16, 17, 18, 22, 29, 39] : List Int)) j h9))).trans (hp_772 j (fun h9 => hj ((by decide : ∀ x ∈ ([6, 8, 9, 10, 11, 12, 13, 15] : List Int), x ∈ ([6, 8, 9, 10, 11, 12, 13, 15, 16, 17, 18, 22, 29, 39] : List Int)) j h9))))), hp_801, (by omega), (by omega), (by omega), (by omega), (by omega), (by omega), (fun j hj => ((hp_808 j (by omega)).trans (F_771.1 126 (by decide) j))), (fun _ h0 => (mPX.ex ((hX_815 ()) h0)).e (by omega)), hxt_813⟩
      · refine lv_aload_n hx hb dX12_worded_57 rfl (lv_at hl 1 rfl) ?_
        refine xc_vV G (b := 111) (rest := []) (As := []) (c_X12_next ω l μ  hPM (by omega) (by omega)) (wm 9 0 rfl rfl) (wm 9 2 rfl rfl) (wm 0 119 rfl rfl) rfl rfl (by decide) rfl (wm 1 18 rfl rfl) (wm 9 3 rfl rfl) (by decide) hR ⟨nfr hF (by decide), nlo hLo (by decide)⟩ (n := 0) rfl rfl (Nat.le_of_ble_eq_true rfl) hl.1 dX12_worded_58 (fun μ816 ρ d0 H locs hp G => ?_)
        obtain ⟨F_817, hp_818, hp_819, hp_820, hp_821, hp_822⟩ := hp
        have hpl_823 := hp_819.pl
        have hw_824 := wr_r (μ := μ816)
        have e_825 : μ816.1 111 31 = μ.1 111 31 := (hp_818 31 (by decide))
        refine lv_aload_n hx hb dX12_worded_61 rfl (lv_at hl 1 rfl) ?_
        refine lv_bipush (v := iv 22) hx hb dX12_worded_62 rfl ?_
        refine lv_bipush (v := iv 91) hx hb dX12_worded_64 rfl ?_
        refine lv_bipush (v := iv 93) hx hb dX12_worded_66 rfl ?_
        refine lv_iconst (v := iv 0) hx hb dX12_worded_68 rfl ?_
        have e_826 : μ816.1 111 29 = μ.1 111 29 := (hp_818 29 (by decide))
        have e_828 : μ816.1 111 29 = μ.1 111 29 := (hp_818 29 (by decide))
        have hX_827 : ∀ _ : Unit, bd μ816 = 0 → mPX μ μ816 tt 0 1 (11 * (9 - nn μ) - 3) [] := fun _ h0 => (hX_1 () (by have e9 : bd μ = bd μ := rfl; have e8 : bd μ816 = bd μ816 := rfl; omega)).qm (q0m.fr (K := [111]) (FrM.tr FrM.rf F_817 (by decide)) (by decide) (by decide) (by decide) (hp_818 22 (by decide)) (nS.le (by omega) (Int.le_of_eq ((hp_818 31 (by decide))).symm)))
        have e_829 : μ816.1 111 29 = μ.1 111 29 := (hp_818 29 (by decide))
        have e_830 : μ816.1 111 29 = μ.1 111 29 := (hp_818 29 (by decide))
        have hxt_831 : mEXT μ μ816 := (q0m.fr (K := [111]) (FrM.tr FrM.rf F_817 (by decide)) (by decide) (by decide) (by decide) (hp_818 22 (by decide)) (nS.le (by omega) (Int.le_of_eq ((hp_818 31 (by decide))).symm))).1
        have e_832 : μ816.1 111 14 = tt := ((hp_818 14 (by decide)).trans htt.symm)
        have e_833 : μ816.1 111 22 = μ.1 111 22 := (hp_818 22 (by decide))
        have e_834 : μ816.1 111 22 = μ.1 111 22 := (hp_818 22 (by decide))
        have e_835 : μ816.1 111 39 = μ.1 111 39 := (hp_818 39 (by decide))
        have e_836 : μ816.1 111 39 = μ.1 111 39 := (hp_818 39 (by decide))
        have e_837 : μ816.1 111 22 = μ.1 111 22 := (hp_818 22 (by decide))
        have e_838 : μ816.1 111 31 = μ.1 111 31 := (hp_818 31 (by decide))
        have e_839 : μ816.1 111 31 = μ.1 111 31 := (hp_818 31 (by decide))
        have e_840 : μ816.1 111 22 = μ.1 111 22 := (hp_818 22 (by decide))
        have e_841 : μ816.1 111 22 = μ.1 111 22 := (hp_818 22 (by decide))
        have e_842 : μ816.1 111 29 = μ.1 111 29 := (hp_818 29 (by decide))
        have e_843 : μ816.1 111 39 = μ.1 111 39 := (hp_818 39 (by decide))
        refine xc_vV G (b := 111) (rest := []) (As := [.int (iv 22), .int (iv 91), .int (iv 93), .int (iv 0)]) (c_X12_ofPart ω l μ816 22 91 93 0 F Lo Fu Lu kf tt (by unfold ir; omega) (by unfold ir; omega) (by unfold ir; omega) (by unfold ir; omega) (by omega) hF hLo hFu hLu hE hU hp_819 (by omega) (by omega) (by omega) (by omega) (by omega) (by omega) (fun _ h0 => ((hX_827 ()) h0).h1.1) (by omega) (by omega) (by omega)) (wm 9 199 rfl rfl) (wm 9 201 rfl rfl) (wm 0 162 rfl rfl) rfl rfl (by decide) rfl (wm 1 18 rfl rfl) (wm 9 202 rfl rfl) (by decide) hR ⟨sfr (F := F) (a := 1) (by decide), slo (L := Lo) (m := 6) (a := 20) (by decide)⟩ (n := 4) rfl rfl (Nat.le_of_ble_eq_true rfl) hl.1 dX12_worded_69 (fun μ844 ρ d0 H locs hp G => ?_)
        obtain ⟨F_845, hp_846, hp_847, hp_848, hp_849, hp_850, hp_851, hp_852, hp_853, hp_854, hp_855, hp_856⟩ := hp
        have hpl_857 := hp_847.pl
        have hw_858 := wr_r (μ := μ844)
        have hxt_859 : mEXT μ μ844 := hxt_831.tr hp_856
        have e_860 : μ844.1 111 31 = μ.1 111 31 := ((hp_846 31 (by decide)).trans (hp_818 31 (by decide)))
        have hX_861 : ∀ _ : Unit, bd μ844 = 0 → mPX μ μ844 tt 1 1 (11 * (9 - nn μ) - 3) [] := fun _ h0 => (((hX_827 ()) (by have e9 : bd μ816 = bd μ816 := rfl; have e8 : bd μ844 = bd μ844 := rfl; omega)).app (hp_855 () h0) (by omega)).ee (by omega)
        refine lv_goto (tgt := 223) hx hb dX12_worded_72 (by decide) ?_
        exact xr_v G hret hlk dX12_worded_223 ⟨(FrM.tr (FrM.tr FrM.rf F_817 (by decide)) F_845 (by decide)), (fun j hj => ((hp_846 j (fun h9 => hj ((by decide : ∀ x ∈ ([6, 8, 9, 10, 11, 12, 13, 15, 16, 17, 18, 22, 29, 39] : List Int), x ∈ ([6, 8, 9, 10, 11, 12, 13, 15, 16, 17, 18, 22, 29, 39] : List Int)) j h9))).trans (hp_818 j (fun h9 => hj ((by decide : ∀ x ∈ ([6, 8, 9, 10, 11, 12, 13, 15] : List Int), x ∈ ([6, 8, 9, 10, 11, 12, 13, 15, 16, 17, 18, 22, 29, 39] : List Int)) j h9))))), hp_847, (by omega), (by omega), (by omega), (by omega), (by omega), (by omega), (fun j hj => ((hp_854 j (by omega)).trans (F_817.1 126 (by decide) j))), (fun _ h0 => (mPX.ex ((hX_861 ()) h0)).e (by omega)), hxt_859⟩
    · refine lv_aload_n hx hb dX12_worded_17 rfl (lv_at hl 1 rfl) ?_
      refine xa_geti G fd_X12 (a := 111) (x := tt) 14 rfl (by decide) rfl (wm 7 163 rfl rfl) ⟨rfl, rfl, rfl⟩ dX12_worded_18 rfl htt.symm ?_
      have hr_862 : -2147483648 ≤ tt ∧ tt ≤ 2147483647 := by have h9 := G.hr (a := 111) (k := 14) rfl; rw [show μ.1 111 14 = tt from htt.symm] at h9; exact h9
      refine lv_iconst (v := iv 1) hx hb dX12_worded_21 rfl ?_
      refine xb_icmp_ne (tgt := 51) hx hb (by unfold ir; omega) (by unfold ir; omega) dX12_worded_22 (by decide) (fun c_22 => ?_) (fun c_22 => ?_)
      · refine lv_iload_n hx hb dX12_worded_51 rfl (lv_at hl 0 rfl) ?_
        refine lv_bipush (v := iv 24) hx hb dX12_worded_52 rfl ?_
        refine xb_icmp_ne (tgt := 75) hx hb (by unfold ir; omega) (by unfold ir; omega) dX12_worded_54 (by decide) (fun c_54 => ?_) (fun c_54 => ?_)
        · refine lv_iload_n hx hb dX12_worded_75 rfl (lv_at hl 0 rfl) ?_
          refine lv_bipush (v := iv 25) hx hb dX12_worded_76 rfl ?_
          refine xb_icmp_ne (tgt := 99) hx hb (by unfold ir; omega) (by unfold ir; omega) dX12_worded_78 (by decide) (fun c_78 => ?_) (fun c_78 => ?_)
          · refine lv_iload_n hx hb dX12_worded_99 rfl (lv_at hl 0 rfl) ?_
            refine lv_bipush (v := iv 28) hx hb dX12_worded_100 rfl ?_
            refine xb_icmp_ne (tgt := 136) hx hb (by unfold ir; omega) (by unfold ir; omega) dX12_worded_102 (by decide) (fun c_102 => ?_) (fun c_102 => ?_)
            · refine lv_iload_n hx hb dX12_worded_136 rfl (lv_at hl 0 rfl) ?_
              refine lv_bipush (v := iv 27) hx hb dX12_worded_137 rfl ?_
              refine xb_icmp_ne (tgt := 182) hx hb (by unfold ir; omega) (by unfold ir; omega) dX12_worded_139 (by decide) (fun c_139 => ?_) (fun c_139 => ?_)
              · refine lv_iload_n hx hb dX12_worded_182 rfl (lv_at hl 0 rfl) ?_
                refine lv_bipush (v := iv 29) hx hb dX12_worded_183 rfl ?_
                refine xb_icmp_lt (tgt := 215) hx hb (by unfold ir; omega) (by unfold ir; omega) dX12_worded_185 (by decide) (fun c_185 => ?_) (fun c_185 => ?_)
                · refine lv_aload_n hx hb dX12_worded_215 rfl (lv_at hl 1 rfl) ?_
                  refine lv_aload_n hx hb dX12_worded_216 rfl (lv_at hl 1 rfl) ?_
                  refine xa_geti G fd_X12 (a := 111) (x := μ.1 111 9) 9 rfl (by decide) rfl (wm 7 158 rfl rfl) ⟨rfl, rfl, rfl⟩ dX12_worded_217 rfl rfl ?_
                  have hr_863 : -2147483648 ≤ μ.1 111 9 ∧ μ.1 111 9 ≤ 2147483647 := by have h9 := G.hr (a := 111) (k := 9) rfl; exact h9
                  refine xc_vV G (b := 111) (rest := []) (As := [.int (iv (μ.1 111 9))]) (c_X12_wrong ω l μ (μ.1 111 9) (by unfold ir; omega) (by omega)) (wm 9 22 rfl rfl) (wm 9 24 rfl rfl) (wm 0 123 rfl rfl) rfl rfl (by decide) rfl (wm 1 18 rfl rfl) (wm 9 25 rfl rfl) (by decide) hR ⟨nfr hF (by decide), nlo hLo (by decide)⟩ (n := 1) rfl rfl (Nat.le_of_ble_eq_true rfl) hl.1 dX12_worded_220 (fun μ864 ρ d0 H locs hp G => ?_)
                  obtain ⟨F_865, hp_866, hp_867⟩ := hp
                  have hw_868 := wr_r (μ := μ864)
                  have e_869 : μ864.1 111 31 = μ.1 111 31 := (hp_866 31 (by decide))
                  have e_870 : μ864.1 111 22 = μ.1 111 22 := (hp_866 22 (by decide))
                  have e_871 : μ864.1 111 9 = μ.1 111 9 := (hp_866 9 (by decide))
                  have e_872 : μ864.1 111 29 = μ.1 111 29 := (hp_866 29 (by decide))
                  have e_873 : μ864.1 111 39 = μ.1 111 39 := (hp_866 39 (by decide))
                  have e_874 : μ864.1 111 29 = μ.1 111 29 := (hp_866 29 (by decide))
                  have e_876 : μ864.1 111 29 = μ.1 111 29 := (hp_866 29 (by decide))
                  have hX_875 : ∀ _ : Unit, bd μ864 = 0 → mPX μ μ864 tt 0 1 (11 * (9 - nn μ) - 3) [] := fun _ h0 => (hX_1 () (by have e9 : bd μ = bd μ := rfl; have e8 : bd μ864 = bd μ864 := rfl; omega)).qm (q0m.fr (K := [111]) (FrM.tr FrM.rf F_865 (by decide)) (by decide) (by decide) (by decide) (hp_866 22 (by decide)) (nS.le (by omega) (Int.le_of_eq ((hp_866 31 (by decide))).symm)))
                  have hPM_877 : PM μ864 := hPM.wg (hp_866 4 (by decide)) (hp_866 6 (by decide)) (hp_866 7 (by decide)) (hp_866 8 (by decide)) (hp_866 9 (by decide)) (hp_866 11 (by decide)) (hp_866 12 (by decide)) ((((hp_866 14 (by decide)).trans htt.symm)).trans (htt.symm).symm) (by omega) (hp_866 29 (by decide)) (fun j => (F_865.1 123 (by decide) j))
                  have e_878 : μ864.1 111 29 = μ.1 111 29 := (hp_866 29 (by decide))
                  have hxt_879 : mEXT μ μ864 := (q0m.fr (K := [111]) (FrM.tr FrM.rf F_865 (by decide)) (by decide) (by decide) (by decide) (hp_866 22 (by decide)) (nS.le (by omega) (Int.le_of_eq ((hp_866 31 (by decide))).symm))).1
                  have e_880 : μ864.1 111 22 = μ.1 111 22 := (hp_866 22 (by decide))
                  have e_881 : μ864.1 111 22 = μ.1 111 22 := (hp_866 22 (by decide))
                  have e_882 : μ864.1 111 9 = μ.1 111 9 := (hp_866 9 (by decide))
                  have e_883 : μ864.1 111 9 = μ.1 111 9 := (hp_866 9 (by decide))
                  have e_884 : μ864.1 111 29 = μ.1 111 29 := (hp_866 29 (by decide))
                  have e_885 : μ864.1 111 39 = μ.1 111 39 := (hp_866 39 (by decide))
                  exact xr_v G hret hlk dX12_worded_223 ⟨(FrM.tr FrM.rf F_865 (by decide)), (fun j hj => (hp_866 j (fun h9 => hj ((by decide : ∀ x ∈ ([15] : List Int), x ∈ ([6, 8, 9, 10, 11, 12, 13, 15, 16, 17, 18, 22, 29, 39] : List Int)) j h9)))), hPM_877, (by omega), (by omega), (by omega), (by omega), (by omega), (by omega), (fun j hj => (F_865.1 126 (by decide) j)), (fun _ h0 => (mPX.ex ((hX_875 ()) h0)).e (by omega)), hxt_879⟩
                · refine lv_aload_n hx hb dX12_worded_188 rfl (lv_at hl 1 rfl) ?_
                  refine xc_vV G (b := 111) (rest := []) (As := []) (c_X12_next ω l μ  hPM (by omega) (by omega)) (wm 9 0 rfl rfl) (wm 9 2 rfl rfl) (wm 0 119 rfl rfl) rfl rfl (by decide) rfl (wm 1 18 rfl rfl) (wm 9 3 rfl rfl) (by decide) hR ⟨nfr hF (by decide), nlo hLo (by decide)⟩ (n := 0) rfl rfl (Nat.le_of_ble_eq_true rfl) hl.1 dX12_worded_189 (fun μ886 ρ d0 H locs hp G => ?_)
                  obtain ⟨F_887, hp_888, hp_889, hp_890, hp_891, hp_892⟩ := hp
                  have hpl_893 := hp_889.pl
                  have hw_894 := wr_r (μ := μ886)
                  have e_895 : μ886.1 111 31 = μ.1 111 31 := (hp_888 31 (by decide))
                  refine lv_aload_n hx hb dX12_worded_192 rfl (lv_at hl 1 rfl) ?_
                  refine lv_bipush (v := iv 46) hx hb dX12_worded_193 rfl ?_
                  have e_896 : μ886.1 111 29 = μ.1 111 29 := (hp_888 29 (by decide))
                  have e_898 : μ886.1 111 29 = μ.1 111 29 := (hp_888 29 (by decide))
                  have hX_897 : ∀ _ : Unit, bd μ886 = 0 → mPX μ μ886 tt 0 1 (11 * (9 - nn μ) - 3) [] := fun _ h0 => (hX_1 () (by have e9 : bd μ = bd μ := rfl; have e8 : bd μ886 = bd μ886 := rfl; omega)).qm (q0m.fr (K := [111]) (FrM.tr FrM.rf F_887 (by decide)) (by decide) (by decide) (by decide) (hp_888 22 (by decide)) (nS.le (by omega) (Int.le_of_eq ((hp_888 31 (by decide))).symm)))
                  refine xc_vV G (b := 111) (rest := []) (As := [.int (iv 46)]) (c_X12_wantsSign ω l μ886 46 (by unfold ir; omega) hp_889 (by omega)) (wm 9 114 rfl rfl) (wm 9 116 rfl rfl) (wm 0 141 rfl rfl) rfl rfl (by decide) rfl (wm 1 18 rfl rfl) (wm 9 117 rfl rfl) (by decide) hR ⟨nfr hF (by decide), nlo hLo (by decide)⟩ (n := 1) rfl rfl (Nat.le_of_ble_eq_true rfl) hl.1 dX12_worded_195 (fun μ899 ρ d0 H locs hp G => ?_)
                  obtain ⟨F_900, hp_901, hp_902, hp_903, hp_904, hp_905, hp_906⟩ := hp
                  have hpl_907 := hp_902.pl
                  have hw_908 := wr_r (μ := μ899)
                  have e_909 : μ899.1 111 31 = μ.1 111 31 := ((hp_901 31 (by decide)).trans (hp_888 31 (by decide)))
                  refine lv_aload_n hx hb dX12_worded_198 rfl (lv_at hl 1 rfl) ?_
                  have e_910 : μ899.1 111 29 = μ.1 111 29 := ((hp_901 29 (by decide)).trans (hp_888 29 (by decide)))
                  have e_912 : μ899.1 111 29 = μ.1 111 29 := ((hp_901 29 (by decide)).trans (hp_888 29 (by decide)))
                  have hX_911 : ∀ _ : Unit, bd μ899 = 0 → mPX μ μ899 tt 0 1 (11 * (9 - nn μ) - 3) [] := fun _ h0 => (hX_897 () (by have e9 : bd μ886 = bd μ886 := rfl; have e8 : bd μ899 = bd μ899 := rfl; omega)).qm (q0m.fr (K := [111]) (FrM.tr FrM.rf F_900 (by decide)) (by decide) (by decide) (by decide) ((((hp_901 22 (by decide)).trans (hp_888 22 (by decide)))).trans ((hp_888 22 (by decide))).symm) (nS.le (by omega) (Int.le_of_eq (((((hp_901 31 (by decide)).trans (hp_888 31 (by decide)))).trans ((hp_888 31 (by decide))).symm)).symm)))
                  refine xc_lV G (b := 111) (rest := []) (As := []) (c_X12_takesName ω l μ899  hp_902 (by omega)) (wm 9 70 rfl rfl) (wm 9 72 rfl rfl) (wm 0 130 rfl rfl) rfl rfl (by decide) rfl (wm 1 18 rfl rfl) (wm 9 73 rfl rfl) (by decide) hR ⟨nfr hF (by decide), nlo hLo (by decide)⟩ (n := 0) rfl rfl (Nat.le_of_ble_eq_true rfl) hl.1 dX12_worded_199 (fun r_914 μ913 ρ d0 H locs hr_r_914 hp G => ?_)
                  obtain ⟨F_915, hp_916, hp_917, hp_918, hp_919, hp_920, hp_921⟩ := hp
                  have hpl_922 := hp_917.pl
                  have hw_923 := wr_r (μ := μ913)
                  have e_924 : μ913.1 111 31 = μ.1 111 31 := ((hp_916 31 (by decide)).trans ((hp_901 31 (by decide)).trans (hp_888 31 (by decide))))
                  refine lv_lstore_n (lv' := [(2, .long (jv r_914)), (1, .int (iv (μ.1 111 11))), (0, .ref (oP ω 111))]) hx hb dX12_worded_202 rfl hl (by decide) rfl (fun ls hl => ?_)
                  refine lv_aload_n hx hb dX12_worded_203 rfl (lv_at hl 2 rfl) ?_
                  refine lv_iload_n hx hb dX12_worded_204 rfl (lv_at hl 1 rfl) ?_
                  refine lv_bipush (v := iv 29) hx hb dX12_worded_205 rfl ?_
                  refine xb_isub hx hb dX12_worded_207 ?_
                  refine lv_lload_n hx hb dX12_worded_208 rfl (lv_at hl 0 rfl) ?_
                  have e_925 : μ913.1 111 29 = μ.1 111 29 := ((hp_916 29 (by decide)).trans ((hp_901 29 (by decide)).trans (hp_888 29 (by decide))))
                  have e_927 : μ913.1 111 29 = μ.1 111 29 := ((hp_916 29 (by decide)).trans ((hp_901 29 (by decide)).trans (hp_888 29 (by decide))))
                  have hX_926 : ∀ _ : Unit, bd μ913 = 0 → mPX μ μ913 tt 0 1 (11 * (9 - nn μ) - 3) [] := fun _ h0 => (hX_911 () (by have e9 : bd μ899 = bd μ899 := rfl; have e8 : bd μ913 = bd μ913 := rfl; omega)).qm (q0m.fr (K := [111]) (FrM.tr FrM.rf F_915 (by decide)) (by decide) (by decide) (by decide) ((((hp_916 22 (by decide)).trans ((hp_901 22 (by decide)).trans (hp_888 22 (by decide))))).trans (((hp_901 22 (by decide)).trans (hp_888 22 (by decide)))).symm) (nS.le (by omega) (Int.le_of_eq (((((hp_916 31 (by decide)).trans ((hp_901 31 (by decide)).trans (hp_888 31 (by decide))))).trans (((hp_901 31 (by decide)).trans (hp_888 31 (by decide)))).symm)).symm)))
                  have e_928 : μ913.1 111 29 = μ.1 111 29 := ((hp_916 29 (by decide)).trans ((hp_901 29 (by decide)).trans (hp_888 29 (by decide))))
                  have e_929 : μ913.1 111 29 = μ.1 111 29 := ((hp_916 29 (by decide)).trans ((hp_901 29 (by decide)).trans (hp_888 29 (by decide))))
                  have hxt_930 : mEXT μ μ913 := (q0m.fr (K := [111]) (FrM.tr (FrM.tr (FrM.tr FrM.rf F_887 (by decide)) F_900 (by decide)) F_915 (by decide)) (by decide) (by decide) (by decide) ((hp_916 22 (by decide)).trans ((hp_901 22 (by decide)).trans (hp_888 22 (by decide)))) (nS.le (by omega) (Int.le_of_eq (((hp_916 31 (by decide)).trans ((hp_901 31 (by decide)).trans (hp_888 31 (by decide))))).symm))).1
                  have e_931 : μ913.1 111 14 = tt := ((hp_916 14 (by decide)).trans ((hp_901 14 (by decide)).trans ((hp_888 14 (by decide)).trans htt.symm)))
                  have e_932 : μ913.1 111 22 = μ.1 111 22 := ((hp_916 22 (by decide)).trans ((hp_901 22 (by decide)).trans (hp_888 22 (by decide))))
                  have e_933 : μ913.1 111 22 = μ.1 111 22 := ((hp_916 22 (by decide)).trans ((hp_901 22 (by decide)).trans (hp_888 22 (by decide))))
                  have e_934 : μ913.1 111 39 = μ.1 111 39 := ((hp_916 39 (by decide)).trans ((hp_901 39 (by decide)).trans (hp_888 39 (by decide))))
                  have e_935 : μ913.1 111 39 = μ.1 111 39 := ((hp_916 39 (by decide)).trans ((hp_901 39 (by decide)).trans (hp_888 39 (by decide))))
                  have e_936 : μ913.1 111 22 = μ.1 111 22 := ((hp_916 22 (by decide)).trans ((hp_901 22 (by decide)).trans (hp_888 22 (by decide))))
                  have e_937 : μ913.1 111 31 = μ.1 111 31 := ((hp_916 31 (by decide)).trans ((hp_901 31 (by decide)).trans (hp_888 31 (by decide))))
                  have e_938 : μ913.1 111 31 = μ.1 111 31 := ((hp_916 31 (by decide)).trans ((hp_901 31 (by decide)).trans (hp_888 31 (by decide))))
                  have e_939 : μ913.1 111 22 = μ.1 111 22 := ((hp_916 22 (by decide)).trans ((hp_901 22 (by decide)).trans (hp_888 22 (by decide))))
                  have e_940 : μ913.1 111 22 = μ.1 111 22 := ((hp_916 22 (by decide)).trans ((hp_901 22 (by decide)).trans (hp_888 22 (by decide))))
                  have e_941 : μ913.1 111 29 = μ.1 111 29 := ((hp_916 29 (by decide)).trans ((hp_901 29 (by decide)).trans (hp_888 29 (by decide))))
                  have e_942 : μ913.1 111 39 = μ.1 111 39 := ((hp_916 39 (by decide)).trans ((hp_901 39 (by decide)).trans (hp_888 39 (by decide))))
                  refine xc_vV G (b := 111) (rest := []) (As := [.int (iv ((μ.1 111 11) - 29)), .long (jv r_914)]) (c_X12_call ω l μ913 ((μ.1 111 11) - 29) r_914 F Lo Fu Lu kf tt (by unfold ir; omega) hr_r_914 (by omega) hF hLo hFu hLu hE hU hp_917 (by omega) (by omega) (by omega) (by omega) (by omega) (by omega) (fun _ h0 => ((hX_926 ()) h0).h1.1) (by omega)) (wm 9 179 rfl rfl) (wm 9 181 rfl rfl) (wm 0 157 rfl rfl) rfl rfl (by decide) rfl (wm 1 18 rfl rfl) (wm 9 182 rfl rfl) (by decide) hR ⟨sfr (F := F) (a := 2) (by decide), slo (L := Lo) (m := 7) (a := 44) (by decide)⟩ (n := 2) rfl rfl (Nat.le_of_ble_eq_true rfl) hl.1 dX12_worded_209 (fun μ943 ρ d0 H locs hp G => ?_)
                  obtain ⟨F_944, hp_945, hp_946, hp_947, hp_948, hp_949, hp_950, hp_951, hp_952, hp_953, hp_954, hp_955⟩ := hp
                  have hpl_956 := hp_946.pl
                  have hw_957 := wr_r (μ := μ943)
                  have hxt_958 : mEXT μ μ943 := hxt_930.tr hp_955
                  have e_959 : μ943.1 111 31 = μ.1 111 31 := ((hp_945 31 (by decide)).trans ((hp_916 31 (by decide)).trans ((hp_901 31 (by decide)).trans (hp_888 31 (by decide)))))
                  have hX_960 : ∀ _ : Unit, bd μ943 = 0 → mPX μ μ943 tt 1 1 (11 * (9 - nn μ) - 3) [] := fun _ h0 => (((hX_926 ()) (by have e9 : bd μ913 = bd μ913 := rfl; have e8 : bd μ943 = bd μ943 := rfl; omega)).app (hp_954 () h0) (by omega)).ee (by omega)
                  refine lv_goto (tgt := 223) hx hb dX12_worded_212 (by decide) ?_
                  exact xr_v G hret hlk dX12_worded_223 ⟨(FrM.tr (FrM.tr (FrM.tr (FrM.tr FrM.rf F_887 (by decide)) F_900 (by decide)) F_915 (by decide)) F_944 (by decide)), (fun j hj => ((hp_945 j (fun h9 => hj ((by decide : ∀ x ∈ ([6, 8, 9, 10, 11, 12, 13, 15, 16, 17, 18, 22, 29, 39] : List Int), x ∈ ([6, 8, 9, 10, 11, 12, 13, 15, 16, 17, 18, 22, 29, 39] : List Int)) j h9))).trans ((hp_916 j (fun h9 => hj ((by decide : ∀ x ∈ ([6, 8, 9, 10, 11, 12, 13, 15] : List Int), x ∈ ([6, 8, 9, 10, 11, 12, 13, 15, 16, 17, 18, 22, 29, 39] : List Int)) j h9))).trans ((hp_901 j (fun h9 => hj ((by decide : ∀ x ∈ ([6, 8, 9, 10, 11, 12, 13, 15] : List Int), x ∈ ([6, 8, 9, 10, 11, 12, 13, 15, 16, 17, 18, 22, 29, 39] : List Int)) j h9))).trans (hp_888 j (fun h9 => hj ((by decide : ∀ x ∈ ([6, 8, 9, 10, 11, 12, 13, 15] : List Int), x ∈ ([6, 8, 9, 10, 11, 12, 13, 15, 16, 17, 18, 22, 29, 39] : List Int)) j h9))))))), hp_946, (by omega), (by omega), (by omega), (by omega), (by omega), (by omega), (fun j hj => ((hp_953 j (by omega)).trans ((F_915.1 126 (by decide) j).trans ((F_900.1 126 (by decide) j).trans (F_887.1 126 (by decide) j))))), (fun _ h0 => (mPX.ex ((hX_960 ()) h0)).e (by omega)), hxt_958⟩
              · refine lv_aload_n hx hb dX12_worded_142 rfl (lv_at hl 1 rfl) ?_
                refine xa_geti G fd_X12 (a := 111) (x := tt) 14 rfl (by decide) rfl (wm 7 163 rfl rfl) ⟨rfl, rfl, rfl⟩ dX12_worded_143 rfl htt.symm ?_
                refine lv_iconst (v := iv 2) hx hb dX12_worded_146 rfl ?_
                refine xb_icmp_ne (tgt := 182) hx hb (by unfold ir; omega) (by unfold ir; omega) dX12_worded_147 (by decide) (fun c_147 => ?_) (fun c_147 => ?_)
                · refine lv_iload_n hx hb dX12_worded_182 rfl (lv_at hl 0 rfl) ?_
                  refine lv_bipush (v := iv 29) hx hb dX12_worded_183 rfl ?_
                  refine xb_icmp_lt (tgt := 215) hx hb (by unfold ir; omega) (by unfold ir; omega) dX12_worded_185 (by decide) (fun c_185 => ?_) (fun c_185 => ?_)
                  · refine lv_aload_n hx hb dX12_worded_215 rfl (lv_at hl 1 rfl) ?_
                    refine lv_aload_n hx hb dX12_worded_216 rfl (lv_at hl 1 rfl) ?_
                    refine xa_geti G fd_X12 (a := 111) (x := μ.1 111 9) 9 rfl (by decide) rfl (wm 7 158 rfl rfl) ⟨rfl, rfl, rfl⟩ dX12_worded_217 rfl rfl ?_
                    have hr_961 : -2147483648 ≤ μ.1 111 9 ∧ μ.1 111 9 ≤ 2147483647 := by have h9 := G.hr (a := 111) (k := 9) rfl; exact h9
                    refine xc_vV G (b := 111) (rest := []) (As := [.int (iv (μ.1 111 9))]) (c_X12_wrong ω l μ (μ.1 111 9) (by unfold ir; omega) (by omega)) (wm 9 22 rfl rfl) (wm 9 24 rfl rfl) (wm 0 123 rfl rfl) rfl rfl (by decide) rfl (wm 1 18 rfl rfl) (wm 9 25 rfl rfl) (by decide) hR ⟨nfr hF (by decide), nlo hLo (by decide)⟩ (n := 1) rfl rfl (Nat.le_of_ble_eq_true rfl) hl.1 dX12_worded_220 (fun μ962 ρ d0 H locs hp G => ?_)
                    obtain ⟨F_963, hp_964, hp_965⟩ := hp
                    have hw_966 := wr_r (μ := μ962)
                    have e_967 : μ962.1 111 31 = μ.1 111 31 := (hp_964 31 (by decide))
                    have e_968 : μ962.1 111 22 = μ.1 111 22 := (hp_964 22 (by decide))
                    have e_969 : μ962.1 111 9 = μ.1 111 9 := (hp_964 9 (by decide))
                    have e_970 : μ962.1 111 29 = μ.1 111 29 := (hp_964 29 (by decide))
                    have e_971 : μ962.1 111 39 = μ.1 111 39 := (hp_964 39 (by decide))
                    have e_972 : μ962.1 111 29 = μ.1 111 29 := (hp_964 29 (by decide))
                    have e_974 : μ962.1 111 29 = μ.1 111 29 := (hp_964 29 (by decide))
                    have hX_973 : ∀ _ : Unit, bd μ962 = 0 → mPX μ μ962 tt 0 1 (11 * (9 - nn μ) - 3) [] := fun _ h0 => (hX_1 () (by have e9 : bd μ = bd μ := rfl; have e8 : bd μ962 = bd μ962 := rfl; omega)).qm (q0m.fr (K := [111]) (FrM.tr FrM.rf F_963 (by decide)) (by decide) (by decide) (by decide) (hp_964 22 (by decide)) (nS.le (by omega) (Int.le_of_eq ((hp_964 31 (by decide))).symm)))
                    have hPM_975 : PM μ962 := hPM.wg (hp_964 4 (by decide)) (hp_964 6 (by decide)) (hp_964 7 (by decide)) (hp_964 8 (by decide)) (hp_964 9 (by decide)) (hp_964 11 (by decide)) (hp_964 12 (by decide)) ((((hp_964 14 (by decide)).trans htt.symm)).trans (htt.symm).symm) (by omega) (hp_964 29 (by decide)) (fun j => (F_963.1 123 (by decide) j))
                    have e_976 : μ962.1 111 29 = μ.1 111 29 := (hp_964 29 (by decide))
                    have hxt_977 : mEXT μ μ962 := (q0m.fr (K := [111]) (FrM.tr FrM.rf F_963 (by decide)) (by decide) (by decide) (by decide) (hp_964 22 (by decide)) (nS.le (by omega) (Int.le_of_eq ((hp_964 31 (by decide))).symm))).1
                    have e_978 : μ962.1 111 22 = μ.1 111 22 := (hp_964 22 (by decide))
                    have e_979 : μ962.1 111 22 = μ.1 111 22 := (hp_964 22 (by decide))
                    have e_980 : μ962.1 111 9 = μ.1 111 9 := (hp_964 9 (by decide))
                    have e_981 : μ962.1 111 9 = μ.1 111 9 := (hp_964 9 (by decide))
                    have e_982 : μ962.1 111 29 = μ.1 111 29 := (hp_964 29 (by decide))
                    have e_983 : μ962.1 111 39 = μ.1 111 39 := (hp_964 39 (by decide))
                    exact xr_v G hret hlk dX12_worded_223 ⟨(FrM.tr FrM.rf F_963 (by decide)), (fun j hj => (hp_964 j (fun h9 => hj ((by decide : ∀ x ∈ ([15] : List Int), x ∈ ([6, 8, 9, 10, 11, 12, 13, 15, 16, 17, 18, 22, 29, 39] : List Int)) j h9)))), hPM_975, (by omega), (by omega), (by omega), (by omega), (by omega), (by omega), (fun j hj => (F_963.1 126 (by decide) j)), (fun _ h0 => (mPX.ex ((hX_973 ()) h0)).e (by omega)), hxt_977⟩
                  · refine lv_aload_n hx hb dX12_worded_188 rfl (lv_at hl 1 rfl) ?_
                    refine xc_vV G (b := 111) (rest := []) (As := []) (c_X12_next ω l μ  hPM (by omega) (by omega)) (wm 9 0 rfl rfl) (wm 9 2 rfl rfl) (wm 0 119 rfl rfl) rfl rfl (by decide) rfl (wm 1 18 rfl rfl) (wm 9 3 rfl rfl) (by decide) hR ⟨nfr hF (by decide), nlo hLo (by decide)⟩ (n := 0) rfl rfl (Nat.le_of_ble_eq_true rfl) hl.1 dX12_worded_189 (fun μ984 ρ d0 H locs hp G => ?_)
                    obtain ⟨F_985, hp_986, hp_987, hp_988, hp_989, hp_990⟩ := hp
                    have hpl_991 := hp_987.pl
                    have hw_992 := wr_r (μ := μ984)
                    have e_993 : μ984.1 111 31 = μ.1 111 31 := (hp_986 31 (by decide))
                    refine lv_aload_n hx hb dX12_worded_192 rfl (lv_at hl 1 rfl) ?_
                    refine lv_bipush (v := iv 46) hx hb dX12_worded_193 rfl ?_
                    have e_994 : μ984.1 111 29 = μ.1 111 29 := (hp_986 29 (by decide))
                    have e_996 : μ984.1 111 29 = μ.1 111 29 := (hp_986 29 (by decide))
                    have hX_995 : ∀ _ : Unit, bd μ984 = 0 → mPX μ μ984 tt 0 1 (11 * (9 - nn μ) - 3) [] := fun _ h0 => (hX_1 () (by have e9 : bd μ = bd μ := rfl; have e8 : bd μ984 = bd μ984 := rfl; omega)).qm (q0m.fr (K := [111]) (FrM.tr FrM.rf F_985 (by decide)) (by decide) (by decide) (by decide) (hp_986 22 (by decide)) (nS.le (by omega) (Int.le_of_eq ((hp_986 31 (by decide))).symm)))
                    refine xc_vV G (b := 111) (rest := []) (As := [.int (iv 46)]) (c_X12_wantsSign ω l μ984 46 (by unfold ir; omega) hp_987 (by omega)) (wm 9 114 rfl rfl) (wm 9 116 rfl rfl) (wm 0 141 rfl rfl) rfl rfl (by decide) rfl (wm 1 18 rfl rfl) (wm 9 117 rfl rfl) (by decide) hR ⟨nfr hF (by decide), nlo hLo (by decide)⟩ (n := 1) rfl rfl (Nat.le_of_ble_eq_true rfl) hl.1 dX12_worded_195 (fun μ997 ρ d0 H locs hp G => ?_)
                    obtain ⟨F_998, hp_999, hp_1000, hp_1001, hp_1002, hp_1003, hp_1004⟩ := hp
                    have hpl_1005 := hp_1000.pl
                    have hw_1006 := wr_r (μ := μ997)
                    have e_1007 : μ997.1 111 31 = μ.1 111 31 := ((hp_999 31 (by decide)).trans (hp_986 31 (by decide)))
                    refine lv_aload_n hx hb dX12_worded_198 rfl (lv_at hl 1 rfl) ?_
                    have e_1008 : μ997.1 111 29 = μ.1 111 29 := ((hp_999 29 (by decide)).trans (hp_986 29 (by decide)))
                    have e_1010 : μ997.1 111 29 = μ.1 111 29 := ((hp_999 29 (by decide)).trans (hp_986 29 (by decide)))
                    have hX_1009 : ∀ _ : Unit, bd μ997 = 0 → mPX μ μ997 tt 0 1 (11 * (9 - nn μ) - 3) [] := fun _ h0 => (hX_995 () (by have e9 : bd μ984 = bd μ984 := rfl; have e8 : bd μ997 = bd μ997 := rfl; omega)).qm (q0m.fr (K := [111]) (FrM.tr FrM.rf F_998 (by decide)) (by decide) (by decide) (by decide) ((((hp_999 22 (by decide)).trans (hp_986 22 (by decide)))).trans ((hp_986 22 (by decide))).symm) (nS.le (by omega) (Int.le_of_eq (((((hp_999 31 (by decide)).trans (hp_986 31 (by decide)))).trans ((hp_986 31 (by decide))).symm)).symm)))
                    refine xc_lV G (b := 111) (rest := []) (As := []) (c_X12_takesName ω l μ997  hp_1000 (by omega)) (wm 9 70 rfl rfl) (wm 9 72 rfl rfl) (wm 0 130 rfl rfl) rfl rfl (by decide) rfl (wm 1 18 rfl rfl) (wm 9 73 rfl rfl) (by decide) hR ⟨nfr hF (by decide), nlo hLo (by decide)⟩ (n := 0) rfl rfl (Nat.le_of_ble_eq_true rfl) hl.1 dX12_worded_199 (fun r_1012 μ1011 ρ d0 H locs hr_r_1012 hp G => ?_)
                    obtain ⟨F_1013, hp_1014, hp_1015, hp_1016, hp_1017, hp_1018, hp_1019⟩ := hp
                    have hpl_1020 := hp_1015.pl
                    have hw_1021 := wr_r (μ := μ1011)
                    have e_1022 : μ1011.1 111 31 = μ.1 111 31 := ((hp_1014 31 (by decide)).trans ((hp_999 31 (by decide)).trans (hp_986 31 (by decide))))
                    refine lv_lstore_n (lv' := [(2, .long (jv r_1012)), (1, .int (iv (μ.1 111 11))), (0, .ref (oP ω 111))]) hx hb dX12_worded_202 rfl hl (by decide) rfl (fun ls hl => ?_)
                    refine lv_aload_n hx hb dX12_worded_203 rfl (lv_at hl 2 rfl) ?_
                    refine lv_iload_n hx hb dX12_worded_204 rfl (lv_at hl 1 rfl) ?_
                    refine lv_bipush (v := iv 29) hx hb dX12_worded_205 rfl ?_
                    refine xb_isub hx hb dX12_worded_207 ?_
                    refine lv_lload_n hx hb dX12_worded_208 rfl (lv_at hl 0 rfl) ?_
                    have e_1023 : μ1011.1 111 29 = μ.1 111 29 := ((hp_1014 29 (by decide)).trans ((hp_999 29 (by decide)).trans (hp_986 29 (by decide))))
                    have e_1025 : μ1011.1 111 29 = μ.1 111 29 := ((hp_1014 29 (by decide)).trans ((hp_999 29 (by decide)).trans (hp_986 29 (by decide))))
                    have hX_1024 : ∀ _ : Unit, bd μ1011 = 0 → mPX μ μ1011 tt 0 1 (11 * (9 - nn μ) - 3) [] := fun _ h0 => (hX_1009 () (by have e9 : bd μ997 = bd μ997 := rfl; have e8 : bd μ1011 = bd μ1011 := rfl; omega)).qm (q0m.fr (K := [111]) (FrM.tr FrM.rf F_1013 (by decide)) (by decide) (by decide) (by decide) ((((hp_1014 22 (by decide)).trans ((hp_999 22 (by decide)).trans (hp_986 22 (by decide))))).trans (((hp_999 22 (by decide)).trans (hp_986 22 (by decide)))).symm) (nS.le (by omega) (Int.le_of_eq (((((hp_1014 31 (by decide)).trans ((hp_999 31 (by decide)).trans (hp_986 31 (by decide))))).trans (((hp_999 31 (by decide)).trans (hp_986 31 (by decide)))).symm)).symm)))
                    have e_1026 : μ1011.1 111 29 = μ.1 111 29 := ((hp_1014 29 (by decide)).trans ((hp_999 29 (by decide)).trans (hp_986 29 (by decide))))
                    have e_1027 : μ1011.1 111 29 = μ.1 111 29 := ((hp_1014 29 (by decide)).trans ((hp_999 29 (by decide)).trans (hp_986 29 (by decide))))
                    have hxt_1028 : mEXT μ μ1011 := (q0m.fr (K := [111]) (FrM.tr (FrM.tr (FrM.tr FrM.rf F_985 (by decide)) F_998 (by decide)) F_1013 (by decide)) (by decide) (by decide) (by decide) ((hp_1014 22 (by decide)).trans ((hp_999 22 (by decide)).trans (hp_986 22 (by decide)))) (nS.le (by omega) (Int.le_of_eq (((hp_1014 31 (by decide)).trans ((hp_999 31 (by decide)).trans (hp_986 31 (by decide))))).symm))).1
                    have e_1029 : μ1011.1 111 14 = tt := ((hp_1014 14 (by decide)).trans ((hp_999 14 (by decide)).trans ((hp_986 14 (by decide)).trans htt.symm)))
                    have e_1030 : μ1011.1 111 22 = μ.1 111 22 := ((hp_1014 22 (by decide)).trans ((hp_999 22 (by decide)).trans (hp_986 22 (by decide))))
                    have e_1031 : μ1011.1 111 22 = μ.1 111 22 := ((hp_1014 22 (by decide)).trans ((hp_999 22 (by decide)).trans (hp_986 22 (by decide))))
                    have e_1032 : μ1011.1 111 39 = μ.1 111 39 := ((hp_1014 39 (by decide)).trans ((hp_999 39 (by decide)).trans (hp_986 39 (by decide))))
                    have e_1033 : μ1011.1 111 39 = μ.1 111 39 := ((hp_1014 39 (by decide)).trans ((hp_999 39 (by decide)).trans (hp_986 39 (by decide))))
                    have e_1034 : μ1011.1 111 22 = μ.1 111 22 := ((hp_1014 22 (by decide)).trans ((hp_999 22 (by decide)).trans (hp_986 22 (by decide))))
                    have e_1035 : μ1011.1 111 31 = μ.1 111 31 := ((hp_1014 31 (by decide)).trans ((hp_999 31 (by decide)).trans (hp_986 31 (by decide))))
                    have e_1036 : μ1011.1 111 31 = μ.1 111 31 := ((hp_1014 31 (by decide)).trans ((hp_999 31 (by decide)).trans (hp_986 31 (by decide))))
                    have e_1037 : μ1011.1 111 22 = μ.1 111 22 := ((hp_1014 22 (by decide)).trans ((hp_999 22 (by decide)).trans (hp_986 22 (by decide))))
                    have e_1038 : μ1011.1 111 22 = μ.1 111 22 := ((hp_1014 22 (by decide)).trans ((hp_999 22 (by decide)).trans (hp_986 22 (by decide))))
                    have e_1039 : μ1011.1 111 29 = μ.1 111 29 := ((hp_1014 29 (by decide)).trans ((hp_999 29 (by decide)).trans (hp_986 29 (by decide))))
                    have e_1040 : μ1011.1 111 39 = μ.1 111 39 := ((hp_1014 39 (by decide)).trans ((hp_999 39 (by decide)).trans (hp_986 39 (by decide))))
                    refine xc_vV G (b := 111) (rest := []) (As := [.int (iv ((μ.1 111 11) - 29)), .long (jv r_1012)]) (c_X12_call ω l μ1011 ((μ.1 111 11) - 29) r_1012 F Lo Fu Lu kf tt (by unfold ir; omega) hr_r_1012 (by omega) hF hLo hFu hLu hE hU hp_1015 (by omega) (by omega) (by omega) (by omega) (by omega) (by omega) (fun _ h0 => ((hX_1024 ()) h0).h1.1) (by omega)) (wm 9 179 rfl rfl) (wm 9 181 rfl rfl) (wm 0 157 rfl rfl) rfl rfl (by decide) rfl (wm 1 18 rfl rfl) (wm 9 182 rfl rfl) (by decide) hR ⟨sfr (F := F) (a := 2) (by decide), slo (L := Lo) (m := 7) (a := 44) (by decide)⟩ (n := 2) rfl rfl (Nat.le_of_ble_eq_true rfl) hl.1 dX12_worded_209 (fun μ1041 ρ d0 H locs hp G => ?_)
                    obtain ⟨F_1042, hp_1043, hp_1044, hp_1045, hp_1046, hp_1047, hp_1048, hp_1049, hp_1050, hp_1051, hp_1052, hp_1053⟩ := hp
                    have hpl_1054 := hp_1044.pl
                    have hw_1055 := wr_r (μ := μ1041)
                    have hxt_1056 : mEXT μ μ1041 := hxt_1028.tr hp_1053
                    have e_1057 : μ1041.1 111 31 = μ.1 111 31 := ((hp_1043 31 (by decide)).trans ((hp_1014 31 (by decide)).trans ((hp_999 31 (by decide)).trans (hp_986 31 (by decide)))))
                    have hX_1058 : ∀ _ : Unit, bd μ1041 = 0 → mPX μ μ1041 tt 1 1 (11 * (9 - nn μ) - 3) [] := fun _ h0 => (((hX_1024 ()) (by have e9 : bd μ1011 = bd μ1011 := rfl; have e8 : bd μ1041 = bd μ1041 := rfl; omega)).app (hp_1052 () h0) (by omega)).ee (by omega)
                    refine lv_goto (tgt := 223) hx hb dX12_worded_212 (by decide) ?_
                    exact xr_v G hret hlk dX12_worded_223 ⟨(FrM.tr (FrM.tr (FrM.tr (FrM.tr FrM.rf F_985 (by decide)) F_998 (by decide)) F_1013 (by decide)) F_1042 (by decide)), (fun j hj => ((hp_1043 j (fun h9 => hj ((by decide : ∀ x ∈ ([6, 8, 9, 10, 11, 12, 13, 15, 16, 17, 18, 22, 29, 39] : List Int), x ∈ ([6, 8, 9, 10, 11, 12, 13, 15, 16, 17, 18, 22, 29, 39] : List Int)) j h9))).trans ((hp_1014 j (fun h9 => hj ((by decide : ∀ x ∈ ([6, 8, 9, 10, 11, 12, 13, 15] : List Int), x ∈ ([6, 8, 9, 10, 11, 12, 13, 15, 16, 17, 18, 22, 29, 39] : List Int)) j h9))).trans ((hp_999 j (fun h9 => hj ((by decide : ∀ x ∈ ([6, 8, 9, 10, 11, 12, 13, 15] : List Int), x ∈ ([6, 8, 9, 10, 11, 12, 13, 15, 16, 17, 18, 22, 29, 39] : List Int)) j h9))).trans (hp_986 j (fun h9 => hj ((by decide : ∀ x ∈ ([6, 8, 9, 10, 11, 12, 13, 15] : List Int), x ∈ ([6, 8, 9, 10, 11, 12, 13, 15, 16, 17, 18, 22, 29, 39] : List Int)) j h9))))))), hp_1044, (by omega), (by omega), (by omega), (by omega), (by omega), (by omega), (fun j hj => ((hp_1051 j (by omega)).trans ((F_1013.1 126 (by decide) j).trans ((F_998.1 126 (by decide) j).trans (F_985.1 126 (by decide) j))))), (fun _ h0 => (mPX.ex ((hX_1058 ()) h0)).e (by omega)), hxt_1056⟩
                · refine lv_aload_n hx hb dX12_worded_150 rfl (lv_at hl 1 rfl) ?_
                  refine xc_vV G (b := 111) (rest := []) (As := []) (c_X12_next ω l μ  hPM (by omega) (by omega)) (wm 9 0 rfl rfl) (wm 9 2 rfl rfl) (wm 0 119 rfl rfl) rfl rfl (by decide) rfl (wm 1 18 rfl rfl) (wm 9 3 rfl rfl) (by decide) hR ⟨nfr hF (by decide), nlo hLo (by decide)⟩ (n := 0) rfl rfl (Nat.le_of_ble_eq_true rfl) hl.1 dX12_worded_151 (fun μ1059 ρ d0 H locs hp G => ?_)
                  obtain ⟨F_1060, hp_1061, hp_1062, hp_1063, hp_1064, hp_1065⟩ := hp
                  have hpl_1066 := hp_1062.pl
                  have hw_1067 := wr_r (μ := μ1059)
                  have e_1068 : μ1059.1 111 31 = μ.1 111 31 := (hp_1061 31 (by decide))
                  refine lv_aload_n hx hb dX12_worded_154 rfl (lv_at hl 1 rfl) ?_
                  refine lv_bipush (v := iv 40) hx hb dX12_worded_155 rfl ?_
                  have e_1069 : μ1059.1 111 29 = μ.1 111 29 := (hp_1061 29 (by decide))
                  have e_1071 : μ1059.1 111 29 = μ.1 111 29 := (hp_1061 29 (by decide))
                  have hX_1070 : ∀ _ : Unit, bd μ1059 = 0 → mPX μ μ1059 tt 0 1 (11 * (9 - nn μ) - 3) [] := fun _ h0 => (hX_1 () (by have e9 : bd μ = bd μ := rfl; have e8 : bd μ1059 = bd μ1059 := rfl; omega)).qm (q0m.fr (K := [111]) (FrM.tr FrM.rf F_1060 (by decide)) (by decide) (by decide) (by decide) (hp_1061 22 (by decide)) (nS.le (by omega) (Int.le_of_eq ((hp_1061 31 (by decide))).symm)))
                  refine xc_vV G (b := 111) (rest := []) (As := [.int (iv 40)]) (c_X12_opensWith ω l μ1059 40 (by unfold ir; omega) hp_1062 (by omega) (by omega)) (wm 9 86 rfl rfl) (wm 9 88 rfl rfl) (wm 0 134 rfl rfl) rfl rfl (by decide) rfl (wm 1 18 rfl rfl) (wm 9 89 rfl rfl) (by decide) hR ⟨nfr hF (by decide), nlo hLo (by decide)⟩ (n := 1) rfl rfl (Nat.le_of_ble_eq_true rfl) hl.1 dX12_worded_157 (fun μ1072 ρ d0 H locs hp G => ?_)
                  obtain ⟨F_1073, hp_1074, hp_1075, hp_1076, hp_1077, hp_1078, hp_1079⟩ := hp
                  have hpl_1080 := hp_1075.pl
                  have hw_1081 := wr_r (μ := μ1072)
                  have e_1082 : μ1072.1 111 31 = μ.1 111 31 := ((hp_1074 31 (by decide)).trans (hp_1061 31 (by decide)))
                  refine lv_aload_n hx hb dX12_worded_160 rfl (lv_at hl 1 rfl) ?_
                  have e_1083 : μ1072.1 111 29 = μ.1 111 29 := ((hp_1074 29 (by decide)).trans (hp_1061 29 (by decide)))
                  have e_1085 : μ1072.1 111 29 = μ.1 111 29 := ((hp_1074 29 (by decide)).trans (hp_1061 29 (by decide)))
                  have hX_1084 : ∀ _ : Unit, bd μ1072 = 0 → mPX μ μ1072 tt 0 1 (11 * (9 - nn μ) - 3) [] := fun _ h0 => (hX_1070 () (by have e9 : bd μ1059 = bd μ1059 := rfl; have e8 : bd μ1072 = bd μ1072 := rfl; omega)).qm (q0m.fr (K := [111]) (FrM.tr FrM.rf F_1073 (by decide)) (by decide) (by decide) (by decide) ((((hp_1074 22 (by decide)).trans (hp_1061 22 (by decide)))).trans ((hp_1061 22 (by decide))).symm) (nS.le (by omega) (Int.le_of_eq (((((hp_1074 31 (by decide)).trans (hp_1061 31 (by decide)))).trans ((hp_1061 31 (by decide))).symm)).symm)))
                  have e_1086 : μ1072.1 111 29 = μ.1 111 29 := ((hp_1074 29 (by decide)).trans (hp_1061 29 (by decide)))
                  have e_1087 : μ1072.1 111 29 = μ.1 111 29 := ((hp_1074 29 (by decide)).trans (hp_1061 29 (by decide)))
                  have hxt_1088 : mEXT μ μ1072 := (q0m.fr (K := [111]) (FrM.tr (FrM.tr FrM.rf F_1060 (by decide)) F_1073 (by decide)) (by decide) (by decide) (by decide) ((hp_1074 22 (by decide)).trans (hp_1061 22 (by decide))) (nS.le (by omega) (Int.le_of_eq (((hp_1074 31 (by decide)).trans (hp_1061 31 (by decide)))).symm))).1
                  have e_1089 : μ1072.1 111 14 = tt := ((hp_1074 14 (by decide)).trans ((hp_1061 14 (by decide)).trans htt.symm))
                  have e_1090 : μ1072.1 111 22 = μ.1 111 22 := ((hp_1074 22 (by decide)).trans (hp_1061 22 (by decide)))
                  have e_1091 : μ1072.1 111 22 = μ.1 111 22 := ((hp_1074 22 (by decide)).trans (hp_1061 22 (by decide)))
                  have e_1092 : μ1072.1 111 39 = μ.1 111 39 := ((hp_1074 39 (by decide)).trans (hp_1061 39 (by decide)))
                  have e_1093 : μ1072.1 111 39 = μ.1 111 39 := ((hp_1074 39 (by decide)).trans (hp_1061 39 (by decide)))
                  have e_1094 : μ1072.1 111 22 = μ.1 111 22 := ((hp_1074 22 (by decide)).trans (hp_1061 22 (by decide)))
                  have e_1095 : μ1072.1 111 31 = μ.1 111 31 := ((hp_1074 31 (by decide)).trans (hp_1061 31 (by decide)))
                  have e_1096 : μ1072.1 111 31 = μ.1 111 31 := ((hp_1074 31 (by decide)).trans (hp_1061 31 (by decide)))
                  have e_1097 : μ1072.1 111 22 = μ.1 111 22 := ((hp_1074 22 (by decide)).trans (hp_1061 22 (by decide)))
                  have e_1098 : μ1072.1 111 22 = μ.1 111 22 := ((hp_1074 22 (by decide)).trans (hp_1061 22 (by decide)))
                  have e_1099 : μ1072.1 111 29 = μ.1 111 29 := ((hp_1074 29 (by decide)).trans (hp_1061 29 (by decide)))
                  have e_1100 : μ1072.1 111 39 = μ.1 111 39 := ((hp_1074 39 (by decide)).trans (hp_1061 39 (by decide)))
                  refine xc_vV G (b := 111) (rest := []) (As := []) (((fun (_ : Om) (_ : Launch) => hE)) ω l μ1072 tt (by omega) hp_1075 (by omega) (by omega) (by omega) (by omega) (by omega) (by omega) (fun _ h0 => ((hX_1084 ()) h0).h1.1)) (wm 9 139 rfl rfl) (wm 9 141 rfl rfl) (wm 0 147 rfl rfl) rfl rfl (by decide) rfl (wm 1 18 rfl rfl) (wm 9 142 rfl rfl) (by decide) hR ⟨sfr (F := F) (a := 0) (by decide), slo (L := Lo) (m := 1) (a := 0) (by decide)⟩ (n := 0) rfl rfl (Nat.le_of_ble_eq_true rfl) hl.1 dX12_worded_161 (fun μ1101 ρ d0 H locs hp G => ?_)
                  obtain ⟨F_1102, hp_1103, hp_1104, hp_1105, hp_1106, hp_1107, hp_1108, hp_1109, hp_1110, hp_1111, hp_1112, hp_1113⟩ := hp
                  have hpl_1114 := hp_1104.pl
                  have hw_1115 := wr_r (μ := μ1101)
                  have hxt_1116 : mEXT μ μ1101 := hxt_1088.tr hp_1113
                  have e_1117 : μ1101.1 111 31 = μ.1 111 31 := ((hp_1103 31 (by decide)).trans ((hp_1074 31 (by decide)).trans (hp_1061 31 (by decide))))
                  have hX_1118 : ∀ _ : Unit, bd μ1101 = 0 → mPX μ μ1101 tt 1 1 (11 * (9 - nn μ) - 3) [] := fun _ h0 => (((hX_1084 ()) (by have e9 : bd μ1072 = bd μ1072 := rfl; have e8 : bd μ1101 = bd μ1101 := rfl; omega)).app (hp_1112 () h0) (by omega)).ee (by omega)
                  refine lv_aload_n hx hb dX12_worded_164 rfl (lv_at hl 1 rfl) ?_
                  refine lv_bipush (v := iv 41) hx hb dX12_worded_165 rfl ?_
                  refine xc_vV G (b := 111) (rest := []) (As := [.int (iv 41)]) (c_X12_closesWith ω l μ1101 41 (by unfold ir; omega) hp_1104 (by omega) (by omega)) (wm 9 110 rfl rfl) (wm 9 112 rfl rfl) (wm 0 140 rfl rfl) rfl rfl (by decide) rfl (wm 1 18 rfl rfl) (wm 9 113 rfl rfl) (by decide) hR ⟨nfr hF (by decide), nlo hLo (by decide)⟩ (n := 1) rfl rfl (Nat.le_of_ble_eq_true rfl) hl.1 dX12_worded_167 (fun μ1119 ρ d0 H locs hp G => ?_)
                  obtain ⟨F_1120, hp_1121, hp_1122, hp_1123, hp_1124, hp_1125, hp_1126⟩ := hp
                  have hpl_1127 := hp_1122.pl
                  have hw_1128 := wr_r (μ := μ1119)
                  have e_1129 : μ1119.1 111 31 = μ.1 111 31 := ((hp_1121 31 (by decide)).trans ((hp_1103 31 (by decide)).trans ((hp_1074 31 (by decide)).trans (hp_1061 31 (by decide)))))
                  refine lv_aload_n hx hb dX12_worded_170 rfl (lv_at hl 1 rfl) ?_
                  refine lv_bipush (v := iv 30) hx hb dX12_worded_171 rfl ?_
                  refine lv_lconst (v := jv 0) hx hb dX12_worded_173 rfl ?_
                  refine lv_iconst (v := iv 0) hx hb dX12_worded_174 rfl ?_
                  have e_1130 : μ1119.1 111 29 = μ1101.1 111 29 := (hp_1121 29 (by decide))
                  have e_1132 : μ1119.1 111 29 = μ1101.1 111 29 := (hp_1121 29 (by decide))
                  have hX_1131 : ∀ _ : Unit, bd μ1119 = 0 → mPX μ μ1119 tt 1 1 (11 * (9 - nn μ) - 3) [] := fun _ h0 => (hX_1118 () (by have e9 : bd μ1101 = bd μ1101 := rfl; have e8 : bd μ1119 = bd μ1119 := rfl; omega)).qm (q0m.fr (K := [111]) (FrM.tr FrM.rf F_1120 (by decide)) (by decide) (by decide) (by decide) (hp_1121 22 (by decide)) (nS.le (by omega) (Int.le_of_eq (((((hp_1121 31 (by decide)).trans ((hp_1103 31 (by decide)).trans ((hp_1074 31 (by decide)).trans (hp_1061 31 (by decide)))))).trans (((hp_1103 31 (by decide)).trans ((hp_1074 31 (by decide)).trans (hp_1061 31 (by decide))))).symm)).symm)))
                  have e_1133 : μ1119.1 111 29 = μ1101.1 111 29 := (hp_1121 29 (by decide))
                  have e_1134 : μ1119.1 111 29 = μ1101.1 111 29 := (hp_1121 29 (by decide))
                  have hxt_1135 : mEXT μ μ1119 := hxt_1116.tr (q0m.fr (K := [111]) (FrM.tr FrM.rf F_1120 (by decide)) (by decide) (by decide) (by decide) (hp_1121 22 (by decide)) (nS.le (by omega) (Int.le_of_eq (((((hp_1121 31 (by decide)).trans ((hp_1103 31 (by decide)).trans ((hp_1074 31 (by decide)).trans (hp_1061 31 (by decide)))))).trans (((hp_1103 31 (by decide)).trans ((hp_1074 31 (by decide)).trans (hp_1061 31 (by decide))))).symm)).symm))).1
                  have e_1136 : μ1119.1 111 22 = μ1101.1 111 22 := (hp_1121 22 (by decide))
                  have e_1137 : μ1119.1 111 22 = μ1101.1 111 22 := (hp_1121 22 (by decide))
                  have e_1138 : μ1119.1 111 22 = μ1101.1 111 22 := (hp_1121 22 (by decide))
                  have e_1139 : μ1119.1 111 22 = μ1101.1 111 22 := (hp_1121 22 (by decide))
                  refine xc_iV G (b := 111) (rest := []) (As := [.int (iv 30), .long (jv 0), .int (iv 0)]) (c_X12_emit ω l μ1119 30 0 0 (by unfold ir; omega) (by unfold jr; omega) (by unfold ir; omega) (by omega)) (wm 9 126 rfl rfl) (wm 9 128 rfl rfl) (wm 0 144 rfl rfl) rfl rfl (by decide) rfl (wm 1 18 rfl rfl) (wm 9 129 rfl rfl) (by decide) hR ⟨nfr hF (by decide), nlo hLo (by decide)⟩ (n := 3) rfl rfl (Nat.le_of_ble_eq_true rfl) hl.1 dX12_worded_175 (fun r_1141 μ1140 ρ d0 H locs hr_r_1141 hp G => ?_)
                  have hr_r_1141 : -2147483648 ≤ r_1141 ∧ r_1141 ≤ 2147483647 := hr_r_1141
                  obtain ⟨F_1142, hp_1143, hp_1144, hp_1145, hp_1146⟩ := hp
                  have hxt_1147 : mEXT μ μ1140 := hxt_1135.tr hp_1144.1
                  have e_1148 : wr μ1140 = wr μ1119 := (wr_cg (hp_1143 15 (by decide)))
                  have e_1149 : bd μ1140 = bd μ1119 := (bd_cg (hp_1143 15 (by decide)) (hp_1143 16 (by decide)) (hp_1143 17 (by decide)))
                  have e_1150 : nn μ1140 = nn μ1119 := (nn_cg (hp_1143 15 (by decide)) (hp_1143 18 (by decide)))
                  have e_1152 : μ1140.1 111 29 = μ1101.1 111 29 := ((hp_1143 29 (by decide)).trans (hp_1121 29 (by decide)))
                  have hX_1151 : ∀ _ : Unit, bd μ1140 = 0 → mPX μ μ1140 tt 1 1 (11 * (9 - nn μ) - 3) [] := fun _ h0 => ((((hX_1131 ()) (by have e9 : bd μ1119 = bd μ1119 := rfl; have e8 : bd μ1140 = bd μ1119 := (bd_cg (hp_1143 15 (by decide)) (hp_1143 16 (by decide)) (hp_1143 17 (by decide))); omega))).app (mAD.ex (t := tt) (e := 0) hp_1144 ((hX_1131 ()) (by have e9 : bd μ1119 = bd μ1119 := rfl; have e8 : bd μ1140 = bd μ1119 := (bd_cg (hp_1143 15 (by decide)) (hp_1143 16 (by decide)) (hp_1143 17 (by decide))); omega)).h1.1 (by unfold mpl; omega) rfl (by have h9 := ((hX_1131 ()) (by have e9 : bd μ1119 = bd μ1119 := rfl; have e8 : bd μ1140 = bd μ1119 := (bd_cg (hp_1143 15 (by decide)) (hp_1143 16 (by decide)) (hp_1143 17 (by decide))); omega)).h1; omega) ⟨fun q => absurd q (by decide), ⟨fun q => absurd q (by decide), fun q => absurd q (by decide)⟩, fun _ => by have h9 := ((hX_1131 ()) (by have e9 : bd μ1119 = bd μ1119 := rfl; have e8 : bd μ1140 = bd μ1119 := (bd_cg (hp_1143 15 (by decide)) (hp_1143 16 (by decide)) (hp_1143 17 (by decide))); omega)).h1; rw [(hp_1144.1.fo (t := tt) _ (Int.le_refl _)).1]; omega, fun q => absurd q (by decide), fun q => absurd q (by decide), fun q => absurd q (by decide), fun q => absurd q (by decide), fun q => absurd q (by decide), fun q => absurd q (by decide), fun q => absurd q (by decide), fun q => absurd q (by decide), fun q => absurd q (by decide), fun q => absurd q (by decide), fun q => absurd q (by decide), fun q => absurd q (by decide), fun q => absurd q (by decide), fun q => absurd q (by decide), fun q => absurd q (by decide), fun q => absurd q (by decide), fun q => absurd q (by decide), fun q => absurd q (by decide), ⟨fun q => absurd q (by decide), fun q => absurd q (by decide), fun q => absurd q (by decide)⟩, ⟨by decide, by decide⟩⟩) (by have h9 := ((hX_1131 ()) (by have e9 : bd μ1119 = bd μ1119 := rfl; have e8 : bd μ1140 = bd μ1119 := (bd_cg (hp_1143 15 (by decide)) (hp_1143 16 (by decide)) (hp_1143 17 (by decide))); omega)).h1; omega)).ee (by omega)
                  refine lv_pop hx hb dX12_worded_178 rfl ?_
                  refine lv_goto (tgt := 223) hx hb dX12_worded_179 (by decide) ?_
                  have e_1153 : μ1140.1 111 9 = μ1119.1 111 9 := (hp_1143 9 (by decide))
                  have e_1154 : μ1140.1 111 29 = μ1101.1 111 29 := ((hp_1143 29 (by decide)).trans (hp_1121 29 (by decide)))
                  have e_1155 : μ1140.1 111 39 = μ1101.1 111 39 := ((hp_1143 39 (by decide)).trans (hp_1121 39 (by decide)))
                  have e_1156 : wr μ1140 = wr μ1119 := (wr_cg (hp_1143 15 (by decide)))
                  have e_1157 : bd μ1140 = bd μ1119 := (bd_cg (hp_1143 15 (by decide)) (hp_1143 16 (by decide)) (hp_1143 17 (by decide)))
                  have e_1158 : nn μ1140 = nn μ1119 := (nn_cg (hp_1143 15 (by decide)) (hp_1143 18 (by decide)))
                  have hPM_1159 : PM μ1140 := hp_1122.cg ((((hp_1143 4 (by decide)).trans ((hp_1121 4 (by decide)).trans ((hp_1103 4 (by decide)).trans ((hp_1074 4 (by decide)).trans (hp_1061 4 (by decide))))))).trans (((hp_1121 4 (by decide)).trans ((hp_1103 4 (by decide)).trans ((hp_1074 4 (by decide)).trans (hp_1061 4 (by decide)))))).symm) (hp_1143 6 (by decide)) ((((hp_1143 7 (by decide)).trans ((hp_1121 7 (by decide)).trans ((hp_1103 7 (by decide)).trans ((hp_1074 7 (by decide)).trans (hp_1061 7 (by decide))))))).trans (((hp_1121 7 (by decide)).trans ((hp_1103 7 (by decide)).trans ((hp_1074 7 (by decide)).trans (hp_1061 7 (by decide)))))).symm) (hp_1143 8 (by decide)) (hp_1143 9 (by decide)) (hp_1143 11 (by decide)) (hp_1143 12 (by decide)) ((((hp_1143 14 (by decide)).trans ((hp_1121 14 (by decide)).trans ((hp_1103 14 (by decide)).trans ((hp_1074 14 (by decide)).trans ((hp_1061 14 (by decide)).trans htt.symm)))))).trans (((hp_1121 14 (by decide)).trans ((hp_1103 14 (by decide)).trans ((hp_1074 14 (by decide)).trans ((hp_1061 14 (by decide)).trans htt.symm))))).symm) (hp_1143 15 (by decide)) ((((hp_1143 29 (by decide)).trans (hp_1121 29 (by decide)))).trans ((hp_1121 29 (by decide))).symm) (fun j => (F_1142.1 123 (by decide) j))
                  have e_1160 : μ1140.1 111 9 = μ1119.1 111 9 := (hp_1143 9 (by decide))
                  have e_1161 : wr μ1140 = wr μ1119 := (wr_cg (hp_1143 15 (by decide)))
                  have e_1162 : μ1140.1 111 9 = μ1119.1 111 9 := (hp_1143 9 (by decide))
                  have e_1163 : μ1140.1 111 29 = μ1101.1 111 29 := ((hp_1143 29 (by decide)).trans (hp_1121 29 (by decide)))
                  have e_1164 : wr μ1140 = wr μ1119 := (wr_cg (hp_1143 15 (by decide)))
                  have e_1165 : bd μ1140 = bd μ1119 := (bd_cg (hp_1143 15 (by decide)) (hp_1143 16 (by decide)) (hp_1143 17 (by decide)))
                  have e_1166 : wr μ1140 = wr μ1119 := (wr_cg (hp_1143 15 (by decide)))
                  have e_1167 : nn μ1140 = nn μ1119 := (nn_cg (hp_1143 15 (by decide)) (hp_1143 18 (by decide)))
                  have e_1168 : μ1140.1 111 39 = μ1101.1 111 39 := ((hp_1143 39 (by decide)).trans (hp_1121 39 (by decide)))
                  exact xr_v G hret hlk dX12_worded_223 ⟨(FrM.tr (FrM.tr (FrM.tr (FrM.tr (FrM.tr FrM.rf F_1060 (by decide)) F_1073 (by decide)) F_1102 (by decide)) F_1120 (by decide)) F_1142 (by decide)), (fun j hj => ((hp_1143 j (fun h9 => hj ((by decide : ∀ x ∈ ([22] : List Int), x ∈ ([6, 8, 9, 10, 11, 12, 13, 15, 16, 17, 18, 22, 29, 39] : List Int)) j h9))).trans ((hp_1121 j (fun h9 => hj ((by decide : ∀ x ∈ ([6, 8, 9, 10, 11, 12, 13, 15, 18] : List Int), x ∈ ([6, 8, 9, 10, 11, 12, 13, 15, 16, 17, 18, 22, 29, 39] : List Int)) j h9))).trans ((hp_1103 j (fun h9 => hj ((by decide : ∀ x ∈ ([6, 8, 9, 10, 11, 12, 13, 15, 16, 17, 18, 22, 29, 39] : List Int), x ∈ ([6, 8, 9, 10, 11, 12, 13, 15, 16, 17, 18, 22, 29, 39] : List Int)) j h9))).trans ((hp_1074 j (fun h9 => hj ((by decide : ∀ x ∈ ([6, 8, 9, 10, 11, 12, 13, 15, 18] : List Int), x ∈ ([6, 8, 9, 10, 11, 12, 13, 15, 16, 17, 18, 22, 29, 39] : List Int)) j h9))).trans (hp_1061 j (fun h9 => hj ((by decide : ∀ x ∈ ([6, 8, 9, 10, 11, 12, 13, 15] : List Int), x ∈ ([6, 8, 9, 10, 11, 12, 13, 15, 16, 17, 18, 22, 29, 39] : List Int)) j h9)))))))), hPM_1159, (by omega), (by omega), (by omega), (by omega), (by omega), (by omega), (fun j hj => ((F_1142.1 126 (by decide) j).trans ((F_1120.1 126 (by decide) j).trans ((hp_1111 j (by omega)).trans ((F_1073.1 126 (by decide) j).trans (F_1060.1 126 (by decide) j)))))), (fun _ h0 => (mPX.ex ((hX_1151 ()) h0)).e (by omega)), hxt_1147⟩
            · refine lv_aload_n hx hb dX12_worded_105 rfl (lv_at hl 1 rfl) ?_
              refine xa_geti G fd_X12 (a := 111) (x := tt) 14 rfl (by decide) rfl (wm 7 163 rfl rfl) ⟨rfl, rfl, rfl⟩ dX12_worded_106 rfl htt.symm ?_
              refine lv_iconst (v := iv 2) hx hb dX12_worded_109 rfl ?_
              refine xb_icmp_ne (tgt := 136) hx hb (by unfold ir; omega) (by unfold ir; omega) dX12_worded_110 (by decide) (fun c_110 => ?_) (fun c_110 => ?_)
              · refine lv_iload_n hx hb dX12_worded_136 rfl (lv_at hl 0 rfl) ?_
                refine lv_bipush (v := iv 27) hx hb dX12_worded_137 rfl ?_
                refine xb_icmp_ne (tgt := 182) hx hb (by unfold ir; omega) (by unfold ir; omega) dX12_worded_139 (by decide) (fun c_139 => ?_) (fun c_139 => ?_)
                · refine lv_iload_n hx hb dX12_worded_182 rfl (lv_at hl 0 rfl) ?_
                  refine lv_bipush (v := iv 29) hx hb dX12_worded_183 rfl ?_
                  refine xb_icmp_lt (tgt := 215) hx hb (by unfold ir; omega) (by unfold ir; omega) dX12_worded_185 (by decide) (fun c_185 => ?_) (fun c_185 => ?_)
                  · refine lv_aload_n hx hb dX12_worded_215 rfl (lv_at hl 1 rfl) ?_
                    refine lv_aload_n hx hb dX12_worded_216 rfl (lv_at hl 1 rfl) ?_
                    refine xa_geti G fd_X12 (a := 111) (x := μ.1 111 9) 9 rfl (by decide) rfl (wm 7 158 rfl rfl) ⟨rfl, rfl, rfl⟩ dX12_worded_217 rfl rfl ?_
                    have hr_1169 : -2147483648 ≤ μ.1 111 9 ∧ μ.1 111 9 ≤ 2147483647 := by have h9 := G.hr (a := 111) (k := 9) rfl; exact h9
                    refine xc_vV G (b := 111) (rest := []) (As := [.int (iv (μ.1 111 9))]) (c_X12_wrong ω l μ (μ.1 111 9) (by unfold ir; omega) (by omega)) (wm 9 22 rfl rfl) (wm 9 24 rfl rfl) (wm 0 123 rfl rfl) rfl rfl (by decide) rfl (wm 1 18 rfl rfl) (wm 9 25 rfl rfl) (by decide) hR ⟨nfr hF (by decide), nlo hLo (by decide)⟩ (n := 1) rfl rfl (Nat.le_of_ble_eq_true rfl) hl.1 dX12_worded_220 (fun μ1170 ρ d0 H locs hp G => ?_)
                    obtain ⟨F_1171, hp_1172, hp_1173⟩ := hp
                    have hw_1174 := wr_r (μ := μ1170)
                    have e_1175 : μ1170.1 111 31 = μ.1 111 31 := (hp_1172 31 (by decide))
                    have e_1176 : μ1170.1 111 22 = μ.1 111 22 := (hp_1172 22 (by decide))
                    have e_1177 : μ1170.1 111 9 = μ.1 111 9 := (hp_1172 9 (by decide))
                    have e_1178 : μ1170.1 111 29 = μ.1 111 29 := (hp_1172 29 (by decide))
                    have e_1179 : μ1170.1 111 39 = μ.1 111 39 := (hp_1172 39 (by decide))
                    have e_1180 : μ1170.1 111 29 = μ.1 111 29 := (hp_1172 29 (by decide))
                    have e_1182 : μ1170.1 111 29 = μ.1 111 29 := (hp_1172 29 (by decide))
                    have hX_1181 : ∀ _ : Unit, bd μ1170 = 0 → mPX μ μ1170 tt 0 1 (11 * (9 - nn μ) - 3) [] := fun _ h0 => (hX_1 () (by have e9 : bd μ = bd μ := rfl; have e8 : bd μ1170 = bd μ1170 := rfl; omega)).qm (q0m.fr (K := [111]) (FrM.tr FrM.rf F_1171 (by decide)) (by decide) (by decide) (by decide) (hp_1172 22 (by decide)) (nS.le (by omega) (Int.le_of_eq ((hp_1172 31 (by decide))).symm)))
                    have hPM_1183 : PM μ1170 := hPM.wg (hp_1172 4 (by decide)) (hp_1172 6 (by decide)) (hp_1172 7 (by decide)) (hp_1172 8 (by decide)) (hp_1172 9 (by decide)) (hp_1172 11 (by decide)) (hp_1172 12 (by decide)) ((((hp_1172 14 (by decide)).trans htt.symm)).trans (htt.symm).symm) (by omega) (hp_1172 29 (by decide)) (fun j => (F_1171.1 123 (by decide) j))
                    have e_1184 : μ1170.1 111 29 = μ.1 111 29 := (hp_1172 29 (by decide))
                    have hxt_1185 : mEXT μ μ1170 := (q0m.fr (K := [111]) (FrM.tr FrM.rf F_1171 (by decide)) (by decide) (by decide) (by decide) (hp_1172 22 (by decide)) (nS.le (by omega) (Int.le_of_eq ((hp_1172 31 (by decide))).symm))).1
                    have e_1186 : μ1170.1 111 22 = μ.1 111 22 := (hp_1172 22 (by decide))
                    have e_1187 : μ1170.1 111 22 = μ.1 111 22 := (hp_1172 22 (by decide))
                    have e_1188 : μ1170.1 111 9 = μ.1 111 9 := (hp_1172 9 (by decide))
                    have e_1189 : μ1170.1 111 9 = μ.1 111 9 := (hp_1172 9 (by decide))
                    have e_1190 : μ1170.1 111 29 = μ.1 111 29 := (hp_1172 29 (by decide))
                    have e_1191 : μ1170.1 111 39 = μ.1 111 39 := (hp_1172 39 (by decide))
                    exact xr_v G hret hlk dX12_worded_223 ⟨(FrM.tr FrM.rf F_1171 (by decide)), (fun j hj => (hp_1172 j (fun h9 => hj ((by decide : ∀ x ∈ ([15] : List Int), x ∈ ([6, 8, 9, 10, 11, 12, 13, 15, 16, 17, 18, 22, 29, 39] : List Int)) j h9)))), hPM_1183, (by omega), (by omega), (by omega), (by omega), (by omega), (by omega), (fun j hj => (F_1171.1 126 (by decide) j)), (fun _ h0 => (mPX.ex ((hX_1181 ()) h0)).e (by omega)), hxt_1185⟩
                  · refine lv_aload_n hx hb dX12_worded_188 rfl (lv_at hl 1 rfl) ?_
                    refine xc_vV G (b := 111) (rest := []) (As := []) (c_X12_next ω l μ  hPM (by omega) (by omega)) (wm 9 0 rfl rfl) (wm 9 2 rfl rfl) (wm 0 119 rfl rfl) rfl rfl (by decide) rfl (wm 1 18 rfl rfl) (wm 9 3 rfl rfl) (by decide) hR ⟨nfr hF (by decide), nlo hLo (by decide)⟩ (n := 0) rfl rfl (Nat.le_of_ble_eq_true rfl) hl.1 dX12_worded_189 (fun μ1192 ρ d0 H locs hp G => ?_)
                    obtain ⟨F_1193, hp_1194, hp_1195, hp_1196, hp_1197, hp_1198⟩ := hp
                    have hpl_1199 := hp_1195.pl
                    have hw_1200 := wr_r (μ := μ1192)
                    have e_1201 : μ1192.1 111 31 = μ.1 111 31 := (hp_1194 31 (by decide))
                    refine lv_aload_n hx hb dX12_worded_192 rfl (lv_at hl 1 rfl) ?_
                    refine lv_bipush (v := iv 46) hx hb dX12_worded_193 rfl ?_
                    have e_1202 : μ1192.1 111 29 = μ.1 111 29 := (hp_1194 29 (by decide))
                    have e_1204 : μ1192.1 111 29 = μ.1 111 29 := (hp_1194 29 (by decide))
                    have hX_1203 : ∀ _ : Unit, bd μ1192 = 0 → mPX μ μ1192 tt 0 1 (11 * (9 - nn μ) - 3) [] := fun _ h0 => (hX_1 () (by have e9 : bd μ = bd μ := rfl; have e8 : bd μ1192 = bd μ1192 := rfl; omega)).qm (q0m.fr (K := [111]) (FrM.tr FrM.rf F_1193 (by decide)) (by decide) (by decide) (by decide) (hp_1194 22 (by decide)) (nS.le (by omega) (Int.le_of_eq ((hp_1194 31 (by decide))).symm)))
                    refine xc_vV G (b := 111) (rest := []) (As := [.int (iv 46)]) (c_X12_wantsSign ω l μ1192 46 (by unfold ir; omega) hp_1195 (by omega)) (wm 9 114 rfl rfl) (wm 9 116 rfl rfl) (wm 0 141 rfl rfl) rfl rfl (by decide) rfl (wm 1 18 rfl rfl) (wm 9 117 rfl rfl) (by decide) hR ⟨nfr hF (by decide), nlo hLo (by decide)⟩ (n := 1) rfl rfl (Nat.le_of_ble_eq_true rfl) hl.1 dX12_worded_195 (fun μ1205 ρ d0 H locs hp G => ?_)
                    obtain ⟨F_1206, hp_1207, hp_1208, hp_1209, hp_1210, hp_1211, hp_1212⟩ := hp
                    have hpl_1213 := hp_1208.pl
                    have hw_1214 := wr_r (μ := μ1205)
                    have e_1215 : μ1205.1 111 31 = μ.1 111 31 := ((hp_1207 31 (by decide)).trans (hp_1194 31 (by decide)))
                    refine lv_aload_n hx hb dX12_worded_198 rfl (lv_at hl 1 rfl) ?_
                    have e_1216 : μ1205.1 111 29 = μ.1 111 29 := ((hp_1207 29 (by decide)).trans (hp_1194 29 (by decide)))
                    have e_1218 : μ1205.1 111 29 = μ.1 111 29 := ((hp_1207 29 (by decide)).trans (hp_1194 29 (by decide)))
                    have hX_1217 : ∀ _ : Unit, bd μ1205 = 0 → mPX μ μ1205 tt 0 1 (11 * (9 - nn μ) - 3) [] := fun _ h0 => (hX_1203 () (by have e9 : bd μ1192 = bd μ1192 := rfl; have e8 : bd μ1205 = bd μ1205 := rfl; omega)).qm (q0m.fr (K := [111]) (FrM.tr FrM.rf F_1206 (by decide)) (by decide) (by decide) (by decide) ((((hp_1207 22 (by decide)).trans (hp_1194 22 (by decide)))).trans ((hp_1194 22 (by decide))).symm) (nS.le (by omega) (Int.le_of_eq (((((hp_1207 31 (by decide)).trans (hp_1194 31 (by decide)))).trans ((hp_1194 31 (by decide))).symm)).symm)))
                    refine xc_lV G (b := 111) (rest := []) (As := []) (c_X12_takesName ω l μ1205  hp_1208 (by omega)) (wm 9 70 rfl rfl) (wm 9 72 rfl rfl) (wm 0 130 rfl rfl) rfl rfl (by decide) rfl (wm 1 18 rfl rfl) (wm 9 73 rfl rfl) (by decide) hR ⟨nfr hF (by decide), nlo hLo (by decide)⟩ (n := 0) rfl rfl (Nat.le_of_ble_eq_true rfl) hl.1 dX12_worded_199 (fun r_1220 μ1219 ρ d0 H locs hr_r_1220 hp G => ?_)
                    obtain ⟨F_1221, hp_1222, hp_1223, hp_1224, hp_1225, hp_1226, hp_1227⟩ := hp
                    have hpl_1228 := hp_1223.pl
                    have hw_1229 := wr_r (μ := μ1219)
                    have e_1230 : μ1219.1 111 31 = μ.1 111 31 := ((hp_1222 31 (by decide)).trans ((hp_1207 31 (by decide)).trans (hp_1194 31 (by decide))))
                    refine lv_lstore_n (lv' := [(2, .long (jv r_1220)), (1, .int (iv (μ.1 111 11))), (0, .ref (oP ω 111))]) hx hb dX12_worded_202 rfl hl (by decide) rfl (fun ls hl => ?_)
                    refine lv_aload_n hx hb dX12_worded_203 rfl (lv_at hl 2 rfl) ?_
                    refine lv_iload_n hx hb dX12_worded_204 rfl (lv_at hl 1 rfl) ?_
                    refine lv_bipush (v := iv 29) hx hb dX12_worded_205 rfl ?_
                    refine xb_isub hx hb dX12_worded_207 ?_
                    refine lv_lload_n hx hb dX12_worded_208 rfl (lv_at hl 0 rfl) ?_
                    have e_1231 : μ1219.1 111 29 = μ.1 111 29 := ((hp_1222 29 (by decide)).trans ((hp_1207 29 (by decide)).trans (hp_1194 29 (by decide))))
                    have e_1233 : μ1219.1 111 29 = μ.1 111 29 := ((hp_1222 29 (by decide)).trans ((hp_1207 29 (by decide)).trans (hp_1194 29 (by decide))))
                    have hX_1232 : ∀ _ : Unit, bd μ1219 = 0 → mPX μ μ1219 tt 0 1 (11 * (9 - nn μ) - 3) [] := fun _ h0 => (hX_1217 () (by have e9 : bd μ1205 = bd μ1205 := rfl; have e8 : bd μ1219 = bd μ1219 := rfl; omega)).qm (q0m.fr (K := [111]) (FrM.tr FrM.rf F_1221 (by decide)) (by decide) (by decide) (by decide) ((((hp_1222 22 (by decide)).trans ((hp_1207 22 (by decide)).trans (hp_1194 22 (by decide))))).trans (((hp_1207 22 (by decide)).trans (hp_1194 22 (by decide)))).symm) (nS.le (by omega) (Int.le_of_eq (((((hp_1222 31 (by decide)).trans ((hp_1207 31 (by decide)).trans (hp_1194 31 (by decide))))).trans (((hp_1207 31 (by decide)).trans (hp_1194 31 (by decide)))).symm)).symm)))
                    have e_1234 : μ1219.1 111 29 = μ.1 111 29 := ((hp_1222 29 (by decide)).trans ((hp_1207 29 (by decide)).trans (hp_1194 29 (by decide))))
                    have e_1235 : μ1219.1 111 29 = μ.1 111 29 := ((hp_1222 29 (by decide)).trans ((hp_1207 29 (by decide)).trans (hp_1194 29 (by decide))))
                    have hxt_1236 : mEXT μ μ1219 := (q0m.fr (K := [111]) (FrM.tr (FrM.tr (FrM.tr FrM.rf F_1193 (by decide)) F_1206 (by decide)) F_1221 (by decide)) (by decide) (by decide) (by decide) ((hp_1222 22 (by decide)).trans ((hp_1207 22 (by decide)).trans (hp_1194 22 (by decide)))) (nS.le (by omega) (Int.le_of_eq (((hp_1222 31 (by decide)).trans ((hp_1207 31 (by decide)).trans (hp_1194 31 (by decide))))).symm))).1
                    have e_1237 : μ1219.1 111 14 = tt := ((hp_1222 14 (by decide)).trans ((hp_1207 14 (by decide)).trans ((hp_1194 14 (by decide)).trans htt.symm)))
                    have e_1238 : μ1219.1 111 22 = μ.1 111 22 := ((hp_1222 22 (by decide)).trans ((hp_1207 22 (by decide)).trans (hp_1194 22 (by decide))))
                    have e_1239 : μ1219.1 111 22 = μ.1 111 22 := ((hp_1222 22 (by decide)).trans ((hp_1207 22 (by decide)).trans (hp_1194 22 (by decide))))
                    have e_1240 : μ1219.1 111 39 = μ.1 111 39 := ((hp_1222 39 (by decide)).trans ((hp_1207 39 (by decide)).trans (hp_1194 39 (by decide))))
                    have e_1241 : μ1219.1 111 39 = μ.1 111 39 := ((hp_1222 39 (by decide)).trans ((hp_1207 39 (by decide)).trans (hp_1194 39 (by decide))))
                    have e_1242 : μ1219.1 111 22 = μ.1 111 22 := ((hp_1222 22 (by decide)).trans ((hp_1207 22 (by decide)).trans (hp_1194 22 (by decide))))
                    have e_1243 : μ1219.1 111 31 = μ.1 111 31 := ((hp_1222 31 (by decide)).trans ((hp_1207 31 (by decide)).trans (hp_1194 31 (by decide))))
                    have e_1244 : μ1219.1 111 31 = μ.1 111 31 := ((hp_1222 31 (by decide)).trans ((hp_1207 31 (by decide)).trans (hp_1194 31 (by decide))))
                    have e_1245 : μ1219.1 111 22 = μ.1 111 22 := ((hp_1222 22 (by decide)).trans ((hp_1207 22 (by decide)).trans (hp_1194 22 (by decide))))
                    have e_1246 : μ1219.1 111 22 = μ.1 111 22 := ((hp_1222 22 (by decide)).trans ((hp_1207 22 (by decide)).trans (hp_1194 22 (by decide))))
                    have e_1247 : μ1219.1 111 29 = μ.1 111 29 := ((hp_1222 29 (by decide)).trans ((hp_1207 29 (by decide)).trans (hp_1194 29 (by decide))))
                    have e_1248 : μ1219.1 111 39 = μ.1 111 39 := ((hp_1222 39 (by decide)).trans ((hp_1207 39 (by decide)).trans (hp_1194 39 (by decide))))
                    refine xc_vV G (b := 111) (rest := []) (As := [.int (iv ((μ.1 111 11) - 29)), .long (jv r_1220)]) (c_X12_call ω l μ1219 ((μ.1 111 11) - 29) r_1220 F Lo Fu Lu kf tt (by unfold ir; omega) hr_r_1220 (by omega) hF hLo hFu hLu hE hU hp_1223 (by omega) (by omega) (by omega) (by omega) (by omega) (by omega) (fun _ h0 => ((hX_1232 ()) h0).h1.1) (by omega)) (wm 9 179 rfl rfl) (wm 9 181 rfl rfl) (wm 0 157 rfl rfl) rfl rfl (by decide) rfl (wm 1 18 rfl rfl) (wm 9 182 rfl rfl) (by decide) hR ⟨sfr (F := F) (a := 2) (by decide), slo (L := Lo) (m := 7) (a := 44) (by decide)⟩ (n := 2) rfl rfl (Nat.le_of_ble_eq_true rfl) hl.1 dX12_worded_209 (fun μ1249 ρ d0 H locs hp G => ?_)
                    obtain ⟨F_1250, hp_1251, hp_1252, hp_1253, hp_1254, hp_1255, hp_1256, hp_1257, hp_1258, hp_1259, hp_1260, hp_1261⟩ := hp
                    have hpl_1262 := hp_1252.pl
                    have hw_1263 := wr_r (μ := μ1249)
                    have hxt_1264 : mEXT μ μ1249 := hxt_1236.tr hp_1261
                    have e_1265 : μ1249.1 111 31 = μ.1 111 31 := ((hp_1251 31 (by decide)).trans ((hp_1222 31 (by decide)).trans ((hp_1207 31 (by decide)).trans (hp_1194 31 (by decide)))))
                    have hX_1266 : ∀ _ : Unit, bd μ1249 = 0 → mPX μ μ1249 tt 1 1 (11 * (9 - nn μ) - 3) [] := fun _ h0 => (((hX_1232 ()) (by have e9 : bd μ1219 = bd μ1219 := rfl; have e8 : bd μ1249 = bd μ1249 := rfl; omega)).app (hp_1260 () h0) (by omega)).ee (by omega)
                    refine lv_goto (tgt := 223) hx hb dX12_worded_212 (by decide) ?_
                    exact xr_v G hret hlk dX12_worded_223 ⟨(FrM.tr (FrM.tr (FrM.tr (FrM.tr FrM.rf F_1193 (by decide)) F_1206 (by decide)) F_1221 (by decide)) F_1250 (by decide)), (fun j hj => ((hp_1251 j (fun h9 => hj ((by decide : ∀ x ∈ ([6, 8, 9, 10, 11, 12, 13, 15, 16, 17, 18, 22, 29, 39] : List Int), x ∈ ([6, 8, 9, 10, 11, 12, 13, 15, 16, 17, 18, 22, 29, 39] : List Int)) j h9))).trans ((hp_1222 j (fun h9 => hj ((by decide : ∀ x ∈ ([6, 8, 9, 10, 11, 12, 13, 15] : List Int), x ∈ ([6, 8, 9, 10, 11, 12, 13, 15, 16, 17, 18, 22, 29, 39] : List Int)) j h9))).trans ((hp_1207 j (fun h9 => hj ((by decide : ∀ x ∈ ([6, 8, 9, 10, 11, 12, 13, 15] : List Int), x ∈ ([6, 8, 9, 10, 11, 12, 13, 15, 16, 17, 18, 22, 29, 39] : List Int)) j h9))).trans (hp_1194 j (fun h9 => hj ((by decide : ∀ x ∈ ([6, 8, 9, 10, 11, 12, 13, 15] : List Int), x ∈ ([6, 8, 9, 10, 11, 12, 13, 15, 16, 17, 18, 22, 29, 39] : List Int)) j h9))))))), hp_1252, (by omega), (by omega), (by omega), (by omega), (by omega), (by omega), (fun j hj => ((hp_1259 j (by omega)).trans ((F_1221.1 126 (by decide) j).trans ((F_1206.1 126 (by decide) j).trans (F_1193.1 126 (by decide) j))))), (fun _ h0 => (mPX.ex ((hX_1266 ()) h0)).e (by omega)), hxt_1264⟩
                · refine lv_aload_n hx hb dX12_worded_142 rfl (lv_at hl 1 rfl) ?_
                  refine xa_geti G fd_X12 (a := 111) (x := tt) 14 rfl (by decide) rfl (wm 7 163 rfl rfl) ⟨rfl, rfl, rfl⟩ dX12_worded_143 rfl htt.symm ?_
                  refine lv_iconst (v := iv 2) hx hb dX12_worded_146 rfl ?_
                  refine xb_icmp_ne (tgt := 182) hx hb (by unfold ir; omega) (by unfold ir; omega) dX12_worded_147 (by decide) (fun c_147 => ?_) (fun c_147 => ?_)
                  · refine lv_iload_n hx hb dX12_worded_182 rfl (lv_at hl 0 rfl) ?_
                    refine lv_bipush (v := iv 29) hx hb dX12_worded_183 rfl ?_
                    refine xb_icmp_lt (tgt := 215) hx hb (by unfold ir; omega) (by unfold ir; omega) dX12_worded_185 (by decide) (fun c_185 => ?_) (fun c_185 => ?_)
                    · refine lv_aload_n hx hb dX12_worded_215 rfl (lv_at hl 1 rfl) ?_
                      refine lv_aload_n hx hb dX12_worded_216 rfl (lv_at hl 1 rfl) ?_
                      refine xa_geti G fd_X12 (a := 111) (x := μ.1 111 9) 9 rfl (by decide) rfl (wm 7 158 rfl rfl) ⟨rfl, rfl, rfl⟩ dX12_worded_217 rfl rfl ?_
                      have hr_1267 : -2147483648 ≤ μ.1 111 9 ∧ μ.1 111 9 ≤ 2147483647 := by have h9 := G.hr (a := 111) (k := 9) rfl; exact h9
                      refine xc_vV G (b := 111) (rest := []) (As := [.int (iv (μ.1 111 9))]) (c_X12_wrong ω l μ (μ.1 111 9) (by unfold ir; omega) (by omega)) (wm 9 22 rfl rfl) (wm 9 24 rfl rfl) (wm 0 123 rfl rfl) rfl rfl (by decide) rfl (wm 1 18 rfl rfl) (wm 9 25 rfl rfl) (by decide) hR ⟨nfr hF (by decide), nlo hLo (by decide)⟩ (n := 1) rfl rfl (Nat.le_of_ble_eq_true rfl) hl.1 dX12_worded_220 (fun μ1268 ρ d0 H locs hp G => ?_)
                      obtain ⟨F_1269, hp_1270, hp_1271⟩ := hp
                      have hw_1272 := wr_r (μ := μ1268)
                      have e_1273 : μ1268.1 111 31 = μ.1 111 31 := (hp_1270 31 (by decide))
                      have e_1274 : μ1268.1 111 22 = μ.1 111 22 := (hp_1270 22 (by decide))
                      have e_1275 : μ1268.1 111 9 = μ.1 111 9 := (hp_1270 9 (by decide))
                      have e_1276 : μ1268.1 111 29 = μ.1 111 29 := (hp_1270 29 (by decide))
                      have e_1277 : μ1268.1 111 39 = μ.1 111 39 := (hp_1270 39 (by decide))
                      have e_1278 : μ1268.1 111 29 = μ.1 111 29 := (hp_1270 29 (by decide))
                      have e_1280 : μ1268.1 111 29 = μ.1 111 29 := (hp_1270 29 (by decide))
                      have hX_1279 : ∀ _ : Unit, bd μ1268 = 0 → mPX μ μ1268 tt 0 1 (11 * (9 - nn μ) - 3) [] := fun _ h0 => (hX_1 () (by have e9 : bd μ = bd μ := rfl; have e8 : bd μ1268 = bd μ1268 := rfl; omega)).qm (q0m.fr (K := [111]) (FrM.tr FrM.rf F_1269 (by decide)) (by decide) (by decide) (by decide) (hp_1270 22 (by decide)) (nS.le (by omega) (Int.le_of_eq ((hp_1270 31 (by decide))).symm)))
                      have hPM_1281 : PM μ1268 := hPM.wg (hp_1270 4 (by decide)) (hp_1270 6 (by decide)) (hp_1270 7 (by decide)) (hp_1270 8 (by decide)) (hp_1270 9 (by decide)) (hp_1270 11 (by decide)) (hp_1270 12 (by decide)) ((((hp_1270 14 (by decide)).trans htt.symm)).trans (htt.symm).symm) (by omega) (hp_1270 29 (by decide)) (fun j => (F_1269.1 123 (by decide) j))
                      have e_1282 : μ1268.1 111 29 = μ.1 111 29 := (hp_1270 29 (by decide))
                      have hxt_1283 : mEXT μ μ1268 := (q0m.fr (K := [111]) (FrM.tr FrM.rf F_1269 (by decide)) (by decide) (by decide) (by decide) (hp_1270 22 (by decide)) (nS.le (by omega) (Int.le_of_eq ((hp_1270 31 (by decide))).symm))).1
                      have e_1284 : μ1268.1 111 22 = μ.1 111 22 := (hp_1270 22 (by decide))
                      have e_1285 : μ1268.1 111 22 = μ.1 111 22 := (hp_1270 22 (by decide))
                      have e_1286 : μ1268.1 111 9 = μ.1 111 9 := (hp_1270 9 (by decide))
                      have e_1287 : μ1268.1 111 9 = μ.1 111 9 := (hp_1270 9 (by decide))
                      have e_1288 : μ1268.1 111 29 = μ.1 111 29 := (hp_1270 29 (by decide))
                      have e_1289 : μ1268.1 111 39 = μ.1 111 39 := (hp_1270 39 (by decide))
                      exact xr_v G hret hlk dX12_worded_223 ⟨(FrM.tr FrM.rf F_1269 (by decide)), (fun j hj => (hp_1270 j (fun h9 => hj ((by decide : ∀ x ∈ ([15] : List Int), x ∈ ([6, 8, 9, 10, 11, 12, 13, 15, 16, 17, 18, 22, 29, 39] : List Int)) j h9)))), hPM_1281, (by omega), (by omega), (by omega), (by omega), (by omega), (by omega), (fun j hj => (F_1269.1 126 (by decide) j)), (fun _ h0 => (mPX.ex ((hX_1279 ()) h0)).e (by omega)), hxt_1283⟩
                    · refine lv_aload_n hx hb dX12_worded_188 rfl (lv_at hl 1 rfl) ?_
                      refine xc_vV G (b := 111) (rest := []) (As := []) (c_X12_next ω l μ  hPM (by omega) (by omega)) (wm 9 0 rfl rfl) (wm 9 2 rfl rfl) (wm 0 119 rfl rfl) rfl rfl (by decide) rfl (wm 1 18 rfl rfl) (wm 9 3 rfl rfl) (by decide) hR ⟨nfr hF (by decide), nlo hLo (by decide)⟩ (n := 0) rfl rfl (Nat.le_of_ble_eq_true rfl) hl.1 dX12_worded_189 (fun μ1290 ρ d0 H locs hp G => ?_)
                      obtain ⟨F_1291, hp_1292, hp_1293, hp_1294, hp_1295, hp_1296⟩ := hp
                      have hpl_1297 := hp_1293.pl
                      have hw_1298 := wr_r (μ := μ1290)
                      have e_1299 : μ1290.1 111 31 = μ.1 111 31 := (hp_1292 31 (by decide))
                      refine lv_aload_n hx hb dX12_worded_192 rfl (lv_at hl 1 rfl) ?_
                      refine lv_bipush (v := iv 46) hx hb dX12_worded_193 rfl ?_
                      have e_1300 : μ1290.1 111 29 = μ.1 111 29 := (hp_1292 29 (by decide))
                      have e_1302 : μ1290.1 111 29 = μ.1 111 29 := (hp_1292 29 (by decide))
                      have hX_1301 : ∀ _ : Unit, bd μ1290 = 0 → mPX μ μ1290 tt 0 1 (11 * (9 - nn μ) - 3) [] := fun _ h0 => (hX_1 () (by have e9 : bd μ = bd μ := rfl; have e8 : bd μ1290 = bd μ1290 := rfl; omega)).qm (q0m.fr (K := [111]) (FrM.tr FrM.rf F_1291 (by decide)) (by decide) (by decide) (by decide) (hp_1292 22 (by decide)) (nS.le (by omega) (Int.le_of_eq ((hp_1292 31 (by decide))).symm)))
                      refine xc_vV G (b := 111) (rest := []) (As := [.int (iv 46)]) (c_X12_wantsSign ω l μ1290 46 (by unfold ir; omega) hp_1293 (by omega)) (wm 9 114 rfl rfl) (wm 9 116 rfl rfl) (wm 0 141 rfl rfl) rfl rfl (by decide) rfl (wm 1 18 rfl rfl) (wm 9 117 rfl rfl) (by decide) hR ⟨nfr hF (by decide), nlo hLo (by decide)⟩ (n := 1) rfl rfl (Nat.le_of_ble_eq_true rfl) hl.1 dX12_worded_195 (fun μ1303 ρ d0 H locs hp G => ?_)
                      obtain ⟨F_1304, hp_1305, hp_1306, hp_1307, hp_1308, hp_1309, hp_1310⟩ := hp
                      have hpl_1311 := hp_1306.pl
                      have hw_1312 := wr_r (μ := μ1303)
                      have e_1313 : μ1303.1 111 31 = μ.1 111 31 := ((hp_1305 31 (by decide)).trans (hp_1292 31 (by decide)))
                      refine lv_aload_n hx hb dX12_worded_198 rfl (lv_at hl 1 rfl) ?_
                      have e_1314 : μ1303.1 111 29 = μ.1 111 29 := ((hp_1305 29 (by decide)).trans (hp_1292 29 (by decide)))
                      have e_1316 : μ1303.1 111 29 = μ.1 111 29 := ((hp_1305 29 (by decide)).trans (hp_1292 29 (by decide)))
                      have hX_1315 : ∀ _ : Unit, bd μ1303 = 0 → mPX μ μ1303 tt 0 1 (11 * (9 - nn μ) - 3) [] := fun _ h0 => (hX_1301 () (by have e9 : bd μ1290 = bd μ1290 := rfl; have e8 : bd μ1303 = bd μ1303 := rfl; omega)).qm (q0m.fr (K := [111]) (FrM.tr FrM.rf F_1304 (by decide)) (by decide) (by decide) (by decide) ((((hp_1305 22 (by decide)).trans (hp_1292 22 (by decide)))).trans ((hp_1292 22 (by decide))).symm) (nS.le (by omega) (Int.le_of_eq (((((hp_1305 31 (by decide)).trans (hp_1292 31 (by decide)))).trans ((hp_1292 31 (by decide))).symm)).symm)))
                      refine xc_lV G (b := 111) (rest := []) (As := []) (c_X12_takesName ω l μ1303  hp_1306 (by omega)) (wm 9 70 rfl rfl) (wm 9 72 rfl rfl) (wm 0 130 rfl rfl) rfl rfl (by decide) rfl (wm 1 18 rfl rfl) (wm 9 73 rfl rfl) (by decide) hR ⟨nfr hF (by decide), nlo hLo (by decide)⟩ (n := 0) rfl rfl (Nat.le_of_ble_eq_true rfl) hl.1 dX12_worded_199 (fun r_1318 μ1317 ρ d0 H locs hr_r_1318 hp G => ?_)
                      obtain ⟨F_1319, hp_1320, hp_1321, hp_1322, hp_1323, hp_1324, hp_1325⟩ := hp
                      have hpl_1326 := hp_1321.pl
                      have hw_1327 := wr_r (μ := μ1317)
                      have e_1328 : μ1317.1 111 31 = μ.1 111 31 := ((hp_1320 31 (by decide)).trans ((hp_1305 31 (by decide)).trans (hp_1292 31 (by decide))))
                      refine lv_lstore_n (lv' := [(2, .long (jv r_1318)), (1, .int (iv (μ.1 111 11))), (0, .ref (oP ω 111))]) hx hb dX12_worded_202 rfl hl (by decide) rfl (fun ls hl => ?_)
                      refine lv_aload_n hx hb dX12_worded_203 rfl (lv_at hl 2 rfl) ?_
                      refine lv_iload_n hx hb dX12_worded_204 rfl (lv_at hl 1 rfl) ?_
                      refine lv_bipush (v := iv 29) hx hb dX12_worded_205 rfl ?_
                      refine xb_isub hx hb dX12_worded_207 ?_
                      refine lv_lload_n hx hb dX12_worded_208 rfl (lv_at hl 0 rfl) ?_
                      have e_1329 : μ1317.1 111 29 = μ.1 111 29 := ((hp_1320 29 (by decide)).trans ((hp_1305 29 (by decide)).trans (hp_1292 29 (by decide))))
                      have e_1331 : μ1317.1 111 29 = μ.1 111 29 := ((hp_1320 29 (by decide)).trans ((hp_1305 29 (by decide)).trans (hp_1292 29 (by decide))))
                      have hX_1330 : ∀ _ : Unit, bd μ1317 = 0 → mPX μ μ1317 tt 0 1 (11 * (9 - nn μ) - 3) [] := fun _ h0 => (hX_1315 () (by have e9 : bd μ1303 = bd μ1303 := rfl; have e8 : bd μ1317 = bd μ1317 := rfl; omega)).qm (q0m.fr (K := [111]) (FrM.tr FrM.rf F_1319 (by decide)) (by decide) (by decide) (by decide) ((((hp_1320 22 (by decide)).trans ((hp_1305 22 (by decide)).trans (hp_1292 22 (by decide))))).trans (((hp_1305 22 (by decide)).trans (hp_1292 22 (by decide)))).symm) (nS.le (by omega) (Int.le_of_eq (((((hp_1320 31 (by decide)).trans ((hp_1305 31 (by decide)).trans (hp_1292 31 (by decide))))).trans (((hp_1305 31 (by decide)).trans (hp_1292 31 (by decide)))).symm)).symm)))
                      have e_1332 : μ1317.1 111 29 = μ.1 111 29 := ((hp_1320 29 (by decide)).trans ((hp_1305 29 (by decide)).trans (hp_1292 29 (by decide))))
                      have e_1333 : μ1317.1 111 29 = μ.1 111 29 := ((hp_1320 29 (by decide)).trans ((hp_1305 29 (by decide)).trans (hp_1292 29 (by decide))))
                      have hxt_1334 : mEXT μ μ1317 := (q0m.fr (K := [111]) (FrM.tr (FrM.tr (FrM.tr FrM.rf F_1291 (by decide)) F_1304 (by decide)) F_1319 (by decide)) (by decide) (by decide) (by decide) ((hp_1320 22 (by decide)).trans ((hp_1305 22 (by decide)).trans (hp_1292 22 (by decide)))) (nS.le (by omega) (Int.le_of_eq (((hp_1320 31 (by decide)).trans ((hp_1305 31 (by decide)).trans (hp_1292 31 (by decide))))).symm))).1
                      have e_1335 : μ1317.1 111 14 = tt := ((hp_1320 14 (by decide)).trans ((hp_1305 14 (by decide)).trans ((hp_1292 14 (by decide)).trans htt.symm)))
                      have e_1336 : μ1317.1 111 22 = μ.1 111 22 := ((hp_1320 22 (by decide)).trans ((hp_1305 22 (by decide)).trans (hp_1292 22 (by decide))))
                      have e_1337 : μ1317.1 111 22 = μ.1 111 22 := ((hp_1320 22 (by decide)).trans ((hp_1305 22 (by decide)).trans (hp_1292 22 (by decide))))
                      have e_1338 : μ1317.1 111 39 = μ.1 111 39 := ((hp_1320 39 (by decide)).trans ((hp_1305 39 (by decide)).trans (hp_1292 39 (by decide))))
                      have e_1339 : μ1317.1 111 39 = μ.1 111 39 := ((hp_1320 39 (by decide)).trans ((hp_1305 39 (by decide)).trans (hp_1292 39 (by decide))))
                      have e_1340 : μ1317.1 111 22 = μ.1 111 22 := ((hp_1320 22 (by decide)).trans ((hp_1305 22 (by decide)).trans (hp_1292 22 (by decide))))
                      have e_1341 : μ1317.1 111 31 = μ.1 111 31 := ((hp_1320 31 (by decide)).trans ((hp_1305 31 (by decide)).trans (hp_1292 31 (by decide))))
                      have e_1342 : μ1317.1 111 31 = μ.1 111 31 := ((hp_1320 31 (by decide)).trans ((hp_1305 31 (by decide)).trans (hp_1292 31 (by decide))))
                      have e_1343 : μ1317.1 111 22 = μ.1 111 22 := ((hp_1320 22 (by decide)).trans ((hp_1305 22 (by decide)).trans (hp_1292 22 (by decide))))
                      have e_1344 : μ1317.1 111 22 = μ.1 111 22 := ((hp_1320 22 (by decide)).trans ((hp_1305 22 (by decide)).trans (hp_1292 22 (by decide))))
                      have e_1345 : μ1317.1 111 29 = μ.1 111 29 := ((hp_1320 29 (by decide)).trans ((hp_1305 29 (by decide)).trans (hp_1292 29 (by decide))))
                      have e_1346 : μ1317.1 111 39 = μ.1 111 39 := ((hp_1320 39 (by decide)).trans ((hp_1305 39 (by decide)).trans (hp_1292 39 (by decide))))
                      refine xc_vV G (b := 111) (rest := []) (As := [.int (iv ((μ.1 111 11) - 29)), .long (jv r_1318)]) (c_X12_call ω l μ1317 ((μ.1 111 11) - 29) r_1318 F Lo Fu Lu kf tt (by unfold ir; omega) hr_r_1318 (by omega) hF hLo hFu hLu hE hU hp_1321 (by omega) (by omega) (by omega) (by omega) (by omega) (by omega) (fun _ h0 => ((hX_1330 ()) h0).h1.1) (by omega)) (wm 9 179 rfl rfl) (wm 9 181 rfl rfl) (wm 0 157 rfl rfl) rfl rfl (by decide) rfl (wm 1 18 rfl rfl) (wm 9 182 rfl rfl) (by decide) hR ⟨sfr (F := F) (a := 2) (by decide), slo (L := Lo) (m := 7) (a := 44) (by decide)⟩ (n := 2) rfl rfl (Nat.le_of_ble_eq_true rfl) hl.1 dX12_worded_209 (fun μ1347 ρ d0 H locs hp G => ?_)
                      obtain ⟨F_1348, hp_1349, hp_1350, hp_1351, hp_1352, hp_1353, hp_1354, hp_1355, hp_1356, hp_1357, hp_1358, hp_1359⟩ := hp
                      have hpl_1360 := hp_1350.pl
                      have hw_1361 := wr_r (μ := μ1347)
                      have hxt_1362 : mEXT μ μ1347 := hxt_1334.tr hp_1359
                      have e_1363 : μ1347.1 111 31 = μ.1 111 31 := ((hp_1349 31 (by decide)).trans ((hp_1320 31 (by decide)).trans ((hp_1305 31 (by decide)).trans (hp_1292 31 (by decide)))))
                      have hX_1364 : ∀ _ : Unit, bd μ1347 = 0 → mPX μ μ1347 tt 1 1 (11 * (9 - nn μ) - 3) [] := fun _ h0 => (((hX_1330 ()) (by have e9 : bd μ1317 = bd μ1317 := rfl; have e8 : bd μ1347 = bd μ1347 := rfl; omega)).app (hp_1358 () h0) (by omega)).ee (by omega)
                      refine lv_goto (tgt := 223) hx hb dX12_worded_212 (by decide) ?_
                      exact xr_v G hret hlk dX12_worded_223 ⟨(FrM.tr (FrM.tr (FrM.tr (FrM.tr FrM.rf F_1291 (by decide)) F_1304 (by decide)) F_1319 (by decide)) F_1348 (by decide)), (fun j hj => ((hp_1349 j (fun h9 => hj ((by decide : ∀ x ∈ ([6, 8, 9, 10, 11, 12, 13, 15, 16, 17, 18, 22, 29, 39] : List Int), x ∈ ([6, 8, 9, 10, 11, 12, 13, 15, 16, 17, 18, 22, 29, 39] : List Int)) j h9))).trans ((hp_1320 j (fun h9 => hj ((by decide : ∀ x ∈ ([6, 8, 9, 10, 11, 12, 13, 15] : List Int), x ∈ ([6, 8, 9, 10, 11, 12, 13, 15, 16, 17, 18, 22, 29, 39] : List Int)) j h9))).trans ((hp_1305 j (fun h9 => hj ((by decide : ∀ x ∈ ([6, 8, 9, 10, 11, 12, 13, 15] : List Int), x ∈ ([6, 8, 9, 10, 11, 12, 13, 15, 16, 17, 18, 22, 29, 39] : List Int)) j h9))).trans (hp_1292 j (fun h9 => hj ((by decide : ∀ x ∈ ([6, 8, 9, 10, 11, 12, 13, 15] : List Int), x ∈ ([6, 8, 9, 10, 11, 12, 13, 15, 16, 17, 18, 22, 29, 39] : List Int)) j h9))))))), hp_1350, (by omega), (by omega), (by omega), (by omega), (by omega), (by omega), (fun j hj => ((hp_1357 j (by omega)).trans ((F_1319.1 126 (by decide) j).trans ((F_1304.1 126 (by decide) j).trans (F_1291.1 126 (by decide) j))))), (fun _ h0 => (mPX.ex ((hX_1364 ()) h0)).e (by omega)), hxt_1362⟩
                  · refine lv_aload_n hx hb dX12_worded_150 rfl (lv_at hl 1 rfl) ?_
                    refine xc_vV G (b := 111) (rest := []) (As := []) (c_X12_next ω l μ  hPM (by omega) (by omega)) (wm 9 0 rfl rfl) (wm 9 2 rfl rfl) (wm 0 119 rfl rfl) rfl rfl (by decide) rfl (wm 1 18 rfl rfl) (wm 9 3 rfl rfl) (by decide) hR ⟨nfr hF (by decide), nlo hLo (by decide)⟩ (n := 0) rfl rfl (Nat.le_of_ble_eq_true rfl) hl.1 dX12_worded_151 (fun μ1365 ρ d0 H locs hp G => ?_)
                    obtain ⟨F_1366, hp_1367, hp_1368, hp_1369, hp_1370, hp_1371⟩ := hp
                    have hpl_1372 := hp_1368.pl
                    have hw_1373 := wr_r (μ := μ1365)
                    have e_1374 : μ1365.1 111 31 = μ.1 111 31 := (hp_1367 31 (by decide))
                    refine lv_aload_n hx hb dX12_worded_154 rfl (lv_at hl 1 rfl) ?_
                    refine lv_bipush (v := iv 40) hx hb dX12_worded_155 rfl ?_
                    have e_1375 : μ1365.1 111 29 = μ.1 111 29 := (hp_1367 29 (by decide))
                    have e_1377 : μ1365.1 111 29 = μ.1 111 29 := (hp_1367 29 (by decide))
                    have hX_1376 : ∀ _ : Unit, bd μ1365 = 0 → mPX μ μ1365 tt 0 1 (11 * (9 - nn μ) - 3) [] := fun _ h0 => (hX_1 () (by have e9 : bd μ = bd μ := rfl; have e8 : bd μ1365 = bd μ1365 := rfl; omega)).qm (q0m.fr (K := [111]) (FrM.tr FrM.rf F_1366 (by decide)) (by decide) (by decide) (by decide) (hp_1367 22 (by decide)) (nS.le (by omega) (Int.le_of_eq ((hp_1367 31 (by decide))).symm)))
                    refine xc_vV G (b := 111) (rest := []) (As := [.int (iv 40)]) (c_X12_opensWith ω l μ1365 40 (by unfold ir; omega) hp_1368 (by omega) (by omega)) (wm 9 86 rfl rfl) (wm 9 88 rfl rfl) (wm 0 134 rfl rfl) rfl rfl (by decide) rfl (wm 1 18 rfl rfl) (wm 9 89 rfl rfl) (by decide) hR ⟨nfr hF (by decide), nlo hLo (by decide)⟩ (n := 1) rfl rfl (Nat.le_of_ble_eq_true rfl) hl.1 dX12_worded_157 (fun μ1378 ρ d0 H locs hp G => ?_)
                    obtain ⟨F_1379, hp_1380, hp_1381, hp_1382, hp_1383, hp_1384, hp_1385⟩ := hp
                    have hpl_1386 := hp_1381.pl
                    have hw_1387 := wr_r (μ := μ1378)
                    have e_1388 : μ1378.1 111 31 = μ.1 111 31 := ((hp_1380 31 (by decide)).trans (hp_1367 31 (by decide)))
                    refine lv_aload_n hx hb dX12_worded_160 rfl (lv_at hl 1 rfl) ?_
                    have e_1389 : μ1378.1 111 29 = μ.1 111 29 := ((hp_1380 29 (by decide)).trans (hp_1367 29 (by decide)))
                    have e_1391 : μ1378.1 111 29 = μ.1 111 29 := ((hp_1380 29 (by decide)).trans (hp_1367 29 (by decide)))
                    have hX_1390 : ∀ _ : Unit, bd μ1378 = 0 → mPX μ μ1378 tt 0 1 (11 * (9 - nn μ) - 3) [] := fun _ h0 => (hX_1376 () (by have e9 : bd μ1365 = bd μ1365 := rfl; have e8 : bd μ1378 = bd μ1378 := rfl; omega)).qm (q0m.fr (K := [111]) (FrM.tr FrM.rf F_1379 (by decide)) (by decide) (by decide) (by decide) ((((hp_1380 22 (by decide)).trans (hp_1367 22 (by decide)))).trans ((hp_1367 22 (by decide))).symm) (nS.le (by omega) (Int.le_of_eq (((((hp_1380 31 (by decide)).trans (hp_1367 31 (by decide)))).trans ((hp_1367 31 (by decide))).symm)).symm)))
                    have e_1392 : μ1378.1 111 29 = μ.1 111 29 := ((hp_1380 29 (by decide)).trans (hp_1367 29 (by decide)))
                    have e_1393 : μ1378.1 111 29 = μ.1 111 29 := ((hp_1380 29 (by decide)).trans (hp_1367 29 (by decide)))
                    have hxt_1394 : mEXT μ μ1378 := (q0m.fr (K := [111]) (FrM.tr (FrM.tr FrM.rf F_1366 (by decide)) F_1379 (by decide)) (by decide) (by decide) (by decide) ((hp_1380 22 (by decide)).trans (hp_1367 22 (by decide))) (nS.le (by omega) (Int.le_of_eq (((hp_1380 31 (by decide)).trans (hp_1367 31 (by decide)))).symm))).1
                    have e_1395 : μ1378.1 111 14 = tt := ((hp_1380 14 (by decide)).trans ((hp_1367 14 (by decide)).trans htt.symm))
                    have e_1396 : μ1378.1 111 22 = μ.1 111 22 := ((hp_1380 22 (by decide)).trans (hp_1367 22 (by decide)))
                    have e_1397 : μ1378.1 111 22 = μ.1 111 22 := ((hp_1380 22 (by decide)).trans (hp_1367 22 (by decide)))
                    have e_1398 : μ1378.1 111 39 = μ.1 111 39 := ((hp_1380 39 (by decide)).trans (hp_1367 39 (by decide)))
                    have e_1399 : μ1378.1 111 39 = μ.1 111 39 := ((hp_1380 39 (by decide)).trans (hp_1367 39 (by decide)))
                    have e_1400 : μ1378.1 111 22 = μ.1 111 22 := ((hp_1380 22 (by decide)).trans (hp_1367 22 (by decide)))
                    have e_1401 : μ1378.1 111 31 = μ.1 111 31 := ((hp_1380 31 (by decide)).trans (hp_1367 31 (by decide)))
                    have e_1402 : μ1378.1 111 31 = μ.1 111 31 := ((hp_1380 31 (by decide)).trans (hp_1367 31 (by decide)))
                    have e_1403 : μ1378.1 111 22 = μ.1 111 22 := ((hp_1380 22 (by decide)).trans (hp_1367 22 (by decide)))
                    have e_1404 : μ1378.1 111 22 = μ.1 111 22 := ((hp_1380 22 (by decide)).trans (hp_1367 22 (by decide)))
                    have e_1405 : μ1378.1 111 29 = μ.1 111 29 := ((hp_1380 29 (by decide)).trans (hp_1367 29 (by decide)))
                    have e_1406 : μ1378.1 111 39 = μ.1 111 39 := ((hp_1380 39 (by decide)).trans (hp_1367 39 (by decide)))
                    refine xc_vV G (b := 111) (rest := []) (As := []) (((fun (_ : Om) (_ : Launch) => hE)) ω l μ1378 tt (by omega) hp_1381 (by omega) (by omega) (by omega) (by omega) (by omega) (by omega) (fun _ h0 => ((hX_1390 ()) h0).h1.1)) (wm 9 139 rfl rfl) (wm 9 141 rfl rfl) (wm 0 147 rfl rfl) rfl rfl (by decide) rfl (wm 1 18 rfl rfl) (wm 9 142 rfl rfl) (by decide) hR ⟨sfr (F := F) (a := 0) (by decide), slo (L := Lo) (m := 1) (a := 0) (by decide)⟩ (n := 0) rfl rfl (Nat.le_of_ble_eq_true rfl) hl.1 dX12_worded_161 (fun μ1407 ρ d0 H locs hp G => ?_)
                    obtain ⟨F_1408, hp_1409, hp_1410, hp_1411, hp_1412, hp_1413, hp_1414, hp_1415, hp_1416, hp_1417, hp_1418, hp_1419⟩ := hp
                    have hpl_1420 := hp_1410.pl
                    have hw_1421 := wr_r (μ := μ1407)
                    have hxt_1422 : mEXT μ μ1407 := hxt_1394.tr hp_1419
                    have e_1423 : μ1407.1 111 31 = μ.1 111 31 := ((hp_1409 31 (by decide)).trans ((hp_1380 31 (by decide)).trans (hp_1367 31 (by decide))))
                    have hX_1424 : ∀ _ : Unit, bd μ1407 = 0 → mPX μ μ1407 tt 1 1 (11 * (9 - nn μ) - 3) [] := fun _ h0 => (((hX_1390 ()) (by have e9 : bd μ1378 = bd μ1378 := rfl; have e8 : bd μ1407 = bd μ1407 := rfl; omega)).app (hp_1418 () h0) (by omega)).ee (by omega)
                    refine lv_aload_n hx hb dX12_worded_164 rfl (lv_at hl 1 rfl) ?_
                    refine lv_bipush (v := iv 41) hx hb dX12_worded_165 rfl ?_
                    refine xc_vV G (b := 111) (rest := []) (As := [.int (iv 41)]) (c_X12_closesWith ω l μ1407 41 (by unfold ir; omega) hp_1410 (by omega) (by omega)) (wm 9 110 rfl rfl) (wm 9 112 rfl rfl) (wm 0 140 rfl rfl) rfl rfl (by decide) rfl (wm 1 18 rfl rfl) (wm 9 113 rfl rfl) (by decide) hR ⟨nfr hF (by decide), nlo hLo (by decide)⟩ (n := 1) rfl rfl (Nat.le_of_ble_eq_true rfl) hl.1 dX12_worded_167 (fun μ1425 ρ d0 H locs hp G => ?_)
                    obtain ⟨F_1426, hp_1427, hp_1428, hp_1429, hp_1430, hp_1431, hp_1432⟩ := hp
                    have hpl_1433 := hp_1428.pl
                    have hw_1434 := wr_r (μ := μ1425)
                    have e_1435 : μ1425.1 111 31 = μ.1 111 31 := ((hp_1427 31 (by decide)).trans ((hp_1409 31 (by decide)).trans ((hp_1380 31 (by decide)).trans (hp_1367 31 (by decide)))))
                    refine lv_aload_n hx hb dX12_worded_170 rfl (lv_at hl 1 rfl) ?_
                    refine lv_bipush (v := iv 30) hx hb dX12_worded_171 rfl ?_
                    refine lv_lconst (v := jv 0) hx hb dX12_worded_173 rfl ?_
                    refine lv_iconst (v := iv 0) hx hb dX12_worded_174 rfl ?_
                    have e_1436 : μ1425.1 111 29 = μ1407.1 111 29 := (hp_1427 29 (by decide))
                    have e_1438 : μ1425.1 111 29 = μ1407.1 111 29 := (hp_1427 29 (by decide))
                    have hX_1437 : ∀ _ : Unit, bd μ1425 = 0 → mPX μ μ1425 tt 1 1 (11 * (9 - nn μ) - 3) [] := fun _ h0 => (hX_1424 () (by have e9 : bd μ1407 = bd μ1407 := rfl; have e8 : bd μ1425 = bd μ1425 := rfl; omega)).qm (q0m.fr (K := [111]) (FrM.tr FrM.rf F_1426 (by decide)) (by decide) (by decide) (by decide) (hp_1427 22 (by decide)) (nS.le (by omega) (Int.le_of_eq (((((hp_1427 31 (by decide)).trans ((hp_1409 31 (by decide)).trans ((hp_1380 31 (by decide)).trans (hp_1367 31 (by decide)))))).trans (((hp_1409 31 (by decide)).trans ((hp_1380 31 (by decide)).trans (hp_1367 31 (by decide))))).symm)).symm)))
                    have e_1439 : μ1425.1 111 29 = μ1407.1 111 29 := (hp_1427 29 (by decide))
                    have e_1440 : μ1425.1 111 29 = μ1407.1 111 29 := (hp_1427 29 (by decide))
                    have hxt_1441 : mEXT μ μ1425 := hxt_1422.tr (q0m.fr (K := [111]) (FrM.tr FrM.rf F_1426 (by decide)) (by decide) (by decide) (by decide) (hp_1427 22 (by decide)) (nS.le (by omega) (Int.le_of_eq (((((hp_1427 31 (by decide)).trans ((hp_1409 31 (by decide)).trans ((hp_1380 31 (by decide)).trans (hp_1367 31 (by decide)))))).trans (((hp_1409 31 (by decide)).trans ((hp_1380 31 (by decide)).trans (hp_1367 31 (by decide))))).symm)).symm))).1
                    have e_1442 : μ1425.1 111 22 = μ1407.1 111 22 := (hp_1427 22 (by decide))
                    have e_1443 : μ1425.1 111 22 = μ1407.1 111 22 := (hp_1427 22 (by decide))
                    have e_1444 : μ1425.1 111 22 = μ1407.1 111 22 := (hp_1427 22 (by decide))
                    have e_1445 : μ1425.1 111 22 = μ1407.1 111 22 := (hp_1427 22 (by decide))
                    refine xc_iV G (b := 111) (rest := []) (As := [.int (iv 30), .long (jv 0), .int (iv 0)]) (c_X12_emit ω l μ1425 30 0 0 (by unfold ir; omega) (by unfold jr; omega) (by unfold ir; omega) (by omega)) (wm 9 126 rfl rfl) (wm 9 128 rfl rfl) (wm 0 144 rfl rfl) rfl rfl (by decide) rfl (wm 1 18 rfl rfl) (wm 9 129 rfl rfl) (by decide) hR ⟨nfr hF (by decide), nlo hLo (by decide)⟩ (n := 3) rfl rfl (Nat.le_of_ble_eq_true rfl) hl.1 dX12_worded_175 (fun r_1447 μ1446 ρ d0 H locs hr_r_1447 hp G => ?_)
                    have hr_r_1447 : -2147483648 ≤ r_1447 ∧ r_1447 ≤ 2147483647 := hr_r_1447
                    obtain ⟨F_1448, hp_1449, hp_1450, hp_1451, hp_1452⟩ := hp
                    have hxt_1453 : mEXT μ μ1446 := hxt_1441.tr hp_1450.1
                    have e_1454 : wr μ1446 = wr μ1425 := (wr_cg (hp_1449 15 (by decide)))
                    have e_1455 : bd μ1446 = bd μ1425 := (bd_cg (hp_1449 15 (by decide)) (hp_1449 16 (by decide)) (hp_1449 17 (by decide)))
                    have e_1456 : nn μ1446 = nn μ1425 := (nn_cg (hp_1449 15 (by decide)) (hp_1449 18 (by decide)))
                    have e_1458 : μ1446.1 111 29 = μ1407.1 111 29 := ((hp_1449 29 (by decide)).trans (hp_1427 29 (by decide)))
                    have hX_1457 : ∀ _ : Unit, bd μ1446 = 0 → mPX μ μ1446 tt 1 1 (11 * (9 - nn μ) - 3) [] := fun _ h0 => ((((hX_1437 ()) (by have e9 : bd μ1425 = bd μ1425 := rfl; have e8 : bd μ1446 = bd μ1425 := (bd_cg (hp_1449 15 (by decide)) (hp_1449 16 (by decide)) (hp_1449 17 (by decide))); omega))).app (mAD.ex (t := tt) (e := 0) hp_1450 ((hX_1437 ()) (by have e9 : bd μ1425 = bd μ1425 := rfl; have e8 : bd μ1446 = bd μ1425 := (bd_cg (hp_1449 15 (by decide)) (hp_1449 16 (by decide)) (hp_1449 17 (by decide))); omega)).h1.1 (by unfold mpl; omega) rfl (by have h9 := ((hX_1437 ()) (by have e9 : bd μ1425 = bd μ1425 := rfl; have e8 : bd μ1446 = bd μ1425 := (bd_cg (hp_1449 15 (by decide)) (hp_1449 16 (by decide)) (hp_1449 17 (by decide))); omega)).h1; omega) ⟨fun q => absurd q (by decide), ⟨fun q => absurd q (by decide), fun q => absurd q (by decide)⟩, fun _ => by have h9 := ((hX_1437 ()) (by have e9 : bd μ1425 = bd μ1425 := rfl; have e8 : bd μ1446 = bd μ1425 := (bd_cg (hp_1449 15 (by decide)) (hp_1449 16 (by decide)) (hp_1449 17 (by decide))); omega)).h1; rw [(hp_1450.1.fo (t := tt) _ (Int.le_refl _)).1]; omega, fun q => absurd q (by decide), fun q => absurd q (by decide), fun q => absurd q (by decide), fun q => absurd q (by decide), fun q => absurd q (by decide), fun q => absurd q (by decide), fun q => absurd q (by decide), fun q => absurd q (by decide), fun q => absurd q (by decide), fun q => absurd q (by decide), fun q => absurd q (by decide), fun q => absurd q (by decide), fun q => absurd q (by decide), fun q => absurd q (by decide), fun q => absurd q (by decide), fun q => absurd q (by decide), fun q => absurd q (by decide), fun q => absurd q (by decide), ⟨fun q => absurd q (by decide), fun q => absurd q (by decide), fun q => absurd q (by decide)⟩, ⟨by decide, by decide⟩⟩) (by have h9 := ((hX_1437 ()) (by have e9 : bd μ1425 = bd μ1425 := rfl; have e8 : bd μ1446 = bd μ1425 := (bd_cg (hp_1449 15 (by decide)) (hp_1449 16 (by decide)) (hp_1449 17 (by decide))); omega)).h1; omega)).ee (by omega)
                    refine lv_pop hx hb dX12_worded_178 rfl ?_
                    refine lv_goto (tgt := 223) hx hb dX12_worded_179 (by decide) ?_
                    have e_1459 : μ1446.1 111 9 = μ1425.1 111 9 := (hp_1449 9 (by decide))
                    have e_1460 : μ1446.1 111 29 = μ1407.1 111 29 := ((hp_1449 29 (by decide)).trans (hp_1427 29 (by decide)))
                    have e_1461 : μ1446.1 111 39 = μ1407.1 111 39 := ((hp_1449 39 (by decide)).trans (hp_1427 39 (by decide)))
                    have e_1462 : wr μ1446 = wr μ1425 := (wr_cg (hp_1449 15 (by decide)))
                    have e_1463 : bd μ1446 = bd μ1425 := (bd_cg (hp_1449 15 (by decide)) (hp_1449 16 (by decide)) (hp_1449 17 (by decide)))
                    have e_1464 : nn μ1446 = nn μ1425 := (nn_cg (hp_1449 15 (by decide)) (hp_1449 18 (by decide)))
                    have hPM_1465 : PM μ1446 := hp_1428.cg ((((hp_1449 4 (by decide)).trans ((hp_1427 4 (by decide)).trans ((hp_1409 4 (by decide)).trans ((hp_1380 4 (by decide)).trans (hp_1367 4 (by decide))))))).trans (((hp_1427 4 (by decide)).trans ((hp_1409 4 (by decide)).trans ((hp_1380 4 (by decide)).trans (hp_1367 4 (by decide)))))).symm) (hp_1449 6 (by decide)) ((((hp_1449 7 (by decide)).trans ((hp_1427 7 (by decide)).trans ((hp_1409 7 (by decide)).trans ((hp_1380 7 (by decide)).trans (hp_1367 7 (by decide))))))).trans (((hp_1427 7 (by decide)).trans ((hp_1409 7 (by decide)).trans ((hp_1380 7 (by decide)).trans (hp_1367 7 (by decide)))))).symm) (hp_1449 8 (by decide)) (hp_1449 9 (by decide)) (hp_1449 11 (by decide)) (hp_1449 12 (by decide)) ((((hp_1449 14 (by decide)).trans ((hp_1427 14 (by decide)).trans ((hp_1409 14 (by decide)).trans ((hp_1380 14 (by decide)).trans ((hp_1367 14 (by decide)).trans htt.symm)))))).trans (((hp_1427 14 (by decide)).trans ((hp_1409 14 (by decide)).trans ((hp_1380 14 (by decide)).trans ((hp_1367 14 (by decide)).trans htt.symm))))).symm) (hp_1449 15 (by decide)) ((((hp_1449 29 (by decide)).trans (hp_1427 29 (by decide)))).trans ((hp_1427 29 (by decide))).symm) (fun j => (F_1448.1 123 (by decide) j))
                    have e_1466 : μ1446.1 111 9 = μ1425.1 111 9 := (hp_1449 9 (by decide))
                    have e_1467 : wr μ1446 = wr μ1425 := (wr_cg (hp_1449 15 (by decide)))
                    have e_1468 : μ1446.1 111 9 = μ1425.1 111 9 := (hp_1449 9 (by decide))
                    have e_1469 : μ1446.1 111 29 = μ1407.1 111 29 := ((hp_1449 29 (by decide)).trans (hp_1427 29 (by decide)))
                    have e_1470 : wr μ1446 = wr μ1425 := (wr_cg (hp_1449 15 (by decide)))
                    have e_1471 : bd μ1446 = bd μ1425 := (bd_cg (hp_1449 15 (by decide)) (hp_1449 16 (by decide)) (hp_1449 17 (by decide)))
                    have e_1472 : wr μ1446 = wr μ1425 := (wr_cg (hp_1449 15 (by decide)))
                    have e_1473 : nn μ1446 = nn μ1425 := (nn_cg (hp_1449 15 (by decide)) (hp_1449 18 (by decide)))
                    have e_1474 : μ1446.1 111 39 = μ1407.1 111 39 := ((hp_1449 39 (by decide)).trans (hp_1427 39 (by decide)))
                    exact xr_v G hret hlk dX12_worded_223 ⟨(FrM.tr (FrM.tr (FrM.tr (FrM.tr (FrM.tr FrM.rf F_1366 (by decide)) F_1379 (by decide)) F_1408 (by decide)) F_1426 (by decide)) F_1448 (by decide)), (fun j hj => ((hp_1449 j (fun h9 => hj ((by decide : ∀ x ∈ ([22] : List Int), x ∈ ([6, 8, 9, 10, 11, 12, 13, 15, 16, 17, 18, 22, 29, 39] : List Int)) j h9))).trans ((hp_1427 j (fun h9 => hj ((by decide : ∀ x ∈ ([6, 8, 9, 10, 11, 12, 13, 15, 18] : List Int), x ∈ ([6, 8, 9, 10, 11, 12, 13, 15, 16, 17, 18, 22, 29, 39] : List Int)) j h9))).trans ((hp_1409 j (fun h9 => hj ((by decide : ∀ x ∈ ([6, 8, 9, 10, 11, 12, 13, 15, 16, 17, 18, 22, 29, 39] : List Int), x ∈ ([6, 8, 9, 10, 11, 12, 13, 15, 16, 17, 18, 22, 29, 39] : List Int)) j h9))).trans ((hp_1380 j (fun h9 => hj ((by decide : ∀ x ∈ ([6, 8, 9, 10, 11, 12, 13, 15, 18] : List Int), x ∈ ([6, 8, 9, 10, 11, 12, 13, 15, 16, 17, 18, 22, 29, 39] : List Int)) j h9))).trans (hp_1367 j (fun h9 => hj ((by decide : ∀ x ∈ ([6, 8, 9, 10, 11, 12, 13, 15] : List Int), x ∈ ([6, 8, 9, 10, 11, 12, 13, 15, 16, 17, 18, 22, 29, 39] : List Int)) j h9)))))))), hPM_1465, (by omega), (by omega), (by omega), (by omega), (by omega), (by omega), (fun j hj => ((F_1448.1 126 (by decide) j).trans ((F_1426.1 126 (by decide) j).trans ((hp_1417 j (by omega)).trans ((F_1379.1 126 (by decide) j).trans (F_1366.1 126 (by decide) j)))))), (fun _ h0 => (mPX.ex ((hX_1457 ()) h0)).e (by omega)), hxt_1453⟩
              · refine lv_aload_n hx hb dX12_worded_113 rfl (lv_at hl 1 rfl) ?_
                refine xc_vV G (b := 111) (rest := []) (As := []) (c_X12_next ω l μ  hPM (by omega) (by omega)) (wm 9 0 rfl rfl) (wm 9 2 rfl rfl) (wm 0 119 rfl rfl) rfl rfl (by decide) rfl (wm 1 18 rfl rfl) (wm 9 3 rfl rfl) (by decide) hR ⟨nfr hF (by decide), nlo hLo (by decide)⟩ (n := 0) rfl rfl (Nat.le_of_ble_eq_true rfl) hl.1 dX12_worded_114 (fun μ1475 ρ d0 H locs hp G => ?_)
                obtain ⟨F_1476, hp_1477, hp_1478, hp_1479, hp_1480, hp_1481⟩ := hp
                have hpl_1482 := hp_1478.pl
                have hw_1483 := wr_r (μ := μ1475)
                have e_1484 : μ1475.1 111 31 = μ.1 111 31 := (hp_1477 31 (by decide))
                refine lv_aload_n hx hb dX12_worded_117 rfl (lv_at hl 1 rfl) ?_
                have e_1485 : μ1475.1 111 29 = μ.1 111 29 := (hp_1477 29 (by decide))
                have e_1487 : μ1475.1 111 29 = μ.1 111 29 := (hp_1477 29 (by decide))
                have hX_1486 : ∀ _ : Unit, bd μ1475 = 0 → mPX μ μ1475 tt 0 1 (11 * (9 - nn μ) - 3) [] := fun _ h0 => (hX_1 () (by have e9 : bd μ = bd μ := rfl; have e8 : bd μ1475 = bd μ1475 := rfl; omega)).qm (q0m.fr (K := [111]) (FrM.tr FrM.rf F_1476 (by decide)) (by decide) (by decide) (by decide) (hp_1477 22 (by decide)) (nS.le (by omega) (Int.le_of_eq ((hp_1477 31 (by decide))).symm)))
                have e_1488 : μ1475.1 111 29 = μ.1 111 29 := (hp_1477 29 (by decide))
                refine xc_iV G (b := 111) (rest := []) (As := []) (c_X12_takesKind ω l μ1475  hp_1478 (by omega)) (wm 9 203 rfl rfl) (wm 9 205 rfl rfl) (wm 0 163 rfl rfl) rfl rfl (by decide) rfl (wm 1 18 rfl rfl) (wm 9 206 rfl rfl) (by decide) hR ⟨nfr hF (by decide), nlo hLo (by decide)⟩ (n := 0) rfl rfl (Nat.le_of_ble_eq_true rfl) hl.1 dX12_worded_118 (fun r_1490 μ1489 ρ d0 H locs hr_r_1490 hp G => ?_)
                have hr_r_1490 : -2147483648 ≤ r_1490 ∧ r_1490 ≤ 2147483647 := hr_r_1490
                obtain ⟨F_1491, hp_1492, hp_1493, hp_1494, hp_1495, hp_1496, hp_1497, hp_1498, hp_1499⟩ := hp
                have hpl_1500 := hp_1493.pl
                have hw_1501 := wr_r (μ := μ1489)
                have e_1502 : μ1489.1 111 31 = μ.1 111 31 := ((hp_1492 31 (by decide)).trans (hp_1477 31 (by decide)))
                refine lv_istore_n (lv' := [(2, .int (iv r_1490)), (1, .int (iv (μ.1 111 11))), (0, .ref (oP ω 111))]) hx hb dX12_worded_121 rfl hl (by decide) rfl (fun ls hl => ?_)
                refine lv_aload_n hx hb dX12_worded_122 rfl (lv_at hl 2 rfl) ?_
                refine lv_bipush (v := iv 29) hx hb dX12_worded_123 rfl ?_
                refine lv_bipush (v := iv 40) hx hb dX12_worded_125 rfl ?_
                refine lv_bipush (v := iv 41) hx hb dX12_worded_127 rfl ?_
                refine lv_iload_n hx hb dX12_worded_129 rfl (lv_at hl 0 rfl) ?_
                have hX_1503 : ∀ _ : Unit, bd μ1489 = 0 → mPX μ μ1489 tt 0 1 (11 * (9 - nn μ) - 3) [] := fun _ h0 => (hX_1486 () (by have e9 : bd μ1475 = bd μ1475 := rfl; have e8 : bd μ1489 = bd μ1489 := rfl; omega)).qm (q0m.fr (K := [111, 113, 123]) (FrM.tr FrM.rf F_1491 (by decide)) (by decide) (by decide) (by decide) ((((hp_1492 22 (by decide)).trans (hp_1477 22 (by decide)))).trans ((hp_1477 22 (by decide))).symm) (nS.le (by omega) (Int.le_of_eq (((((hp_1492 31 (by decide)).trans (hp_1477 31 (by decide)))).trans ((hp_1477 31 (by decide))).symm)).symm)))
                have hxt_1504 : mEXT μ μ1489 := (q0m.fr (K := [111, 113, 123]) (FrM.tr (FrM.tr FrM.rf F_1476 (by decide)) F_1491 (by decide)) (by decide) (by decide) (by decide) ((hp_1492 22 (by decide)).trans (hp_1477 22 (by decide))) (nS.le (by omega) (Int.le_of_eq (((hp_1492 31 (by decide)).trans (hp_1477 31 (by decide)))).symm))).1
                have e_1505 : μ1489.1 111 14 = tt := ((hp_1492 14 (by decide)).trans ((hp_1477 14 (by decide)).trans htt.symm))
                have e_1506 : μ1489.1 111 22 = μ.1 111 22 := ((hp_1492 22 (by decide)).trans (hp_1477 22 (by decide)))
                have e_1507 : μ1489.1 111 22 = μ.1 111 22 := ((hp_1492 22 (by decide)).trans (hp_1477 22 (by decide)))
                have e_1508 : μ1489.1 111 39 = μ.1 111 39 := ((hp_1492 39 (by decide)).trans (hp_1477 39 (by decide)))
                have e_1509 : μ1489.1 111 39 = μ.1 111 39 := ((hp_1492 39 (by decide)).trans (hp_1477 39 (by decide)))
                have e_1510 : μ1489.1 111 22 = μ.1 111 22 := ((hp_1492 22 (by decide)).trans (hp_1477 22 (by decide)))
                have e_1511 : μ1489.1 111 31 = μ.1 111 31 := ((hp_1492 31 (by decide)).trans (hp_1477 31 (by decide)))
                have e_1512 : μ1489.1 111 31 = μ.1 111 31 := ((hp_1492 31 (by decide)).trans (hp_1477 31 (by decide)))
                have e_1513 : μ1489.1 111 22 = μ.1 111 22 := ((hp_1492 22 (by decide)).trans (hp_1477 22 (by decide)))
                have e_1514 : μ1489.1 111 22 = μ.1 111 22 := ((hp_1492 22 (by decide)).trans (hp_1477 22 (by decide)))
                have e_1515 : μ1489.1 111 39 = μ.1 111 39 := ((hp_1492 39 (by decide)).trans (hp_1477 39 (by decide)))
                refine xc_vV G (b := 111) (rest := []) (As := [.int (iv 29), .int (iv 40), .int (iv 41), .int (iv r_1490)]) (c_X12_ofPart ω l μ1489 29 40 41 r_1490 F Lo Fu Lu kf tt (by unfold ir; omega) (by unfold ir; omega) (by unfold ir; omega) (by unfold ir; omega) (by omega) hF hLo hFu hLu hE hU hp_1493 (by omega) (by omega) (by omega) (by omega) (by omega) (by omega) (fun _ h0 => ((hX_1503 ()) h0).h1.1) (by omega) (by omega) (by omega)) (wm 9 199 rfl rfl) (wm 9 201 rfl rfl) (wm 0 162 rfl rfl) rfl rfl (by decide) rfl (wm 1 18 rfl rfl) (wm 9 202 rfl rfl) (by decide) hR ⟨sfr (F := F) (a := 1) (by decide), slo (L := Lo) (m := 6) (a := 20) (by decide)⟩ (n := 4) rfl rfl (Nat.le_of_ble_eq_true rfl) hl.1 dX12_worded_130 (fun μ1516 ρ d0 H locs hp G => ?_)
                obtain ⟨F_1517, hp_1518, hp_1519, hp_1520, hp_1521, hp_1522, hp_1523, hp_1524, hp_1525, hp_1526, hp_1527, hp_1528⟩ := hp
                have hpl_1529 := hp_1519.pl
                have hw_1530 := wr_r (μ := μ1516)
                have hxt_1531 : mEXT μ μ1516 := hxt_1504.tr hp_1528
                have e_1532 : μ1516.1 111 31 = μ.1 111 31 := ((hp_1518 31 (by decide)).trans ((hp_1492 31 (by decide)).trans (hp_1477 31 (by decide))))
                have hX_1533 : ∀ _ : Unit, bd μ1516 = 0 → mPX μ μ1516 tt 1 1 (11 * (9 - nn μ) - 3) [] := fun _ h0 => (((hX_1503 ()) (by have e9 : bd μ1489 = bd μ1489 := rfl; have e8 : bd μ1516 = bd μ1516 := rfl; omega)).app (hp_1527 () h0) (by omega)).ee (by omega)
                refine lv_goto (tgt := 223) hx hb dX12_worded_133 (by decide) ?_
                exact xr_v G hret hlk dX12_worded_223 ⟨(FrM.tr (FrM.tr (FrM.tr FrM.rf F_1476 (by decide)) F_1491 (by decide)) F_1517 (by decide)), (fun j hj => ((hp_1518 j (fun h9 => hj ((by decide : ∀ x ∈ ([6, 8, 9, 10, 11, 12, 13, 15, 16, 17, 18, 22, 29, 39] : List Int), x ∈ ([6, 8, 9, 10, 11, 12, 13, 15, 16, 17, 18, 22, 29, 39] : List Int)) j h9))).trans ((hp_1492 j (fun h9 => hj ((by decide : ∀ x ∈ ([6, 8, 9, 10, 11, 12, 13, 15, 16, 29] : List Int), x ∈ ([6, 8, 9, 10, 11, 12, 13, 15, 16, 17, 18, 22, 29, 39] : List Int)) j h9))).trans (hp_1477 j (fun h9 => hj ((by decide : ∀ x ∈ ([6, 8, 9, 10, 11, 12, 13, 15] : List Int), x ∈ ([6, 8, 9, 10, 11, 12, 13, 15, 16, 17, 18, 22, 29, 39] : List Int)) j h9)))))), hp_1519, (by omega), (by omega), (by omega), (by omega), (by omega), (by omega), (fun j hj => ((hp_1526 j (by omega)).trans ((F_1491.1 126 (by decide) j).trans (F_1476.1 126 (by decide) j)))), (fun _ h0 => (mPX.ex ((hX_1533 ()) h0)).e (by omega)), hxt_1531⟩
          · refine lv_aload_n hx hb dX12_worded_81 rfl (lv_at hl 1 rfl) ?_
            refine xc_vV G (b := 111) (rest := []) (As := []) (c_X12_next ω l μ  hPM (by omega) (by omega)) (wm 9 0 rfl rfl) (wm 9 2 rfl rfl) (wm 0 119 rfl rfl) rfl rfl (by decide) rfl (wm 1 18 rfl rfl) (wm 9 3 rfl rfl) (by decide) hR ⟨nfr hF (by decide), nlo hLo (by decide)⟩ (n := 0) rfl rfl (Nat.le_of_ble_eq_true rfl) hl.1 dX12_worded_82 (fun μ1534 ρ d0 H locs hp G => ?_)
            obtain ⟨F_1535, hp_1536, hp_1537, hp_1538, hp_1539, hp_1540⟩ := hp
            have hpl_1541 := hp_1537.pl
            have hw_1542 := wr_r (μ := μ1534)
            have e_1543 : μ1534.1 111 31 = μ.1 111 31 := (hp_1536 31 (by decide))
            refine lv_aload_n hx hb dX12_worded_85 rfl (lv_at hl 1 rfl) ?_
            refine lv_bipush (v := iv 23) hx hb dX12_worded_86 rfl ?_
            refine lv_bipush (v := iv 40) hx hb dX12_worded_88 rfl ?_
            refine lv_bipush (v := iv 41) hx hb dX12_worded_90 rfl ?_
            refine lv_iconst (v := iv 0) hx hb dX12_worded_92 rfl ?_
            have e_1544 : μ1534.1 111 29 = μ.1 111 29 := (hp_1536 29 (by decide))
            have e_1546 : μ1534.1 111 29 = μ.1 111 29 := (hp_1536 29 (by decide))
            have hX_1545 : ∀ _ : Unit, bd μ1534 = 0 → mPX μ μ1534 tt 0 1 (11 * (9 - nn μ) - 3) [] := fun _ h0 => (hX_1 () (by have e9 : bd μ = bd μ := rfl; have e8 : bd μ1534 = bd μ1534 := rfl; omega)).qm (q0m.fr (K := [111]) (FrM.tr FrM.rf F_1535 (by decide)) (by decide) (by decide) (by decide) (hp_1536 22 (by decide)) (nS.le (by omega) (Int.le_of_eq ((hp_1536 31 (by decide))).symm)))
            have e_1547 : μ1534.1 111 29 = μ.1 111 29 := (hp_1536 29 (by decide))
            have e_1548 : μ1534.1 111 29 = μ.1 111 29 := (hp_1536 29 (by decide))
            have hxt_1549 : mEXT μ μ1534 := (q0m.fr (K := [111]) (FrM.tr FrM.rf F_1535 (by decide)) (by decide) (by decide) (by decide) (hp_1536 22 (by decide)) (nS.le (by omega) (Int.le_of_eq ((hp_1536 31 (by decide))).symm))).1
            have e_1550 : μ1534.1 111 14 = tt := ((hp_1536 14 (by decide)).trans htt.symm)
            have e_1551 : μ1534.1 111 22 = μ.1 111 22 := (hp_1536 22 (by decide))
            have e_1552 : μ1534.1 111 22 = μ.1 111 22 := (hp_1536 22 (by decide))
            have e_1553 : μ1534.1 111 39 = μ.1 111 39 := (hp_1536 39 (by decide))
            have e_1554 : μ1534.1 111 39 = μ.1 111 39 := (hp_1536 39 (by decide))
            have e_1555 : μ1534.1 111 22 = μ.1 111 22 := (hp_1536 22 (by decide))
            have e_1556 : μ1534.1 111 31 = μ.1 111 31 := (hp_1536 31 (by decide))
            have e_1557 : μ1534.1 111 31 = μ.1 111 31 := (hp_1536 31 (by decide))
            have e_1558 : μ1534.1 111 22 = μ.1 111 22 := (hp_1536 22 (by decide))
            have e_1559 : μ1534.1 111 22 = μ.1 111 22 := (hp_1536 22 (by decide))
            have e_1560 : μ1534.1 111 29 = μ.1 111 29 := (hp_1536 29 (by decide))
            have e_1561 : μ1534.1 111 39 = μ.1 111 39 := (hp_1536 39 (by decide))
            refine xc_vV G (b := 111) (rest := []) (As := [.int (iv 23), .int (iv 40), .int (iv 41), .int (iv 0)]) (c_X12_ofPart ω l μ1534 23 40 41 0 F Lo Fu Lu kf tt (by unfold ir; omega) (by unfold ir; omega) (by unfold ir; omega) (by unfold ir; omega) (by omega) hF hLo hFu hLu hE hU hp_1537 (by omega) (by omega) (by omega) (by omega) (by omega) (by omega) (fun _ h0 => ((hX_1545 ()) h0).h1.1) (by omega) (by omega) (by omega)) (wm 9 199 rfl rfl) (wm 9 201 rfl rfl) (wm 0 162 rfl rfl) rfl rfl (by decide) rfl (wm 1 18 rfl rfl) (wm 9 202 rfl rfl) (by decide) hR ⟨sfr (F := F) (a := 1) (by decide), slo (L := Lo) (m := 6) (a := 20) (by decide)⟩ (n := 4) rfl rfl (Nat.le_of_ble_eq_true rfl) hl.1 dX12_worded_93 (fun μ1562 ρ d0 H locs hp G => ?_)
            obtain ⟨F_1563, hp_1564, hp_1565, hp_1566, hp_1567, hp_1568, hp_1569, hp_1570, hp_1571, hp_1572, hp_1573, hp_1574⟩ := hp
            have hpl_1575 := hp_1565.pl
            have hw_1576 := wr_r (μ := μ1562)
            have hxt_1577 : mEXT μ μ1562 := hxt_1549.tr hp_1574
            have e_1578 : μ1562.1 111 31 = μ.1 111 31 := ((hp_1564 31 (by decide)).trans (hp_1536 31 (by decide)))
            have hX_1579 : ∀ _ : Unit, bd μ1562 = 0 → mPX μ μ1562 tt 1 1 (11 * (9 - nn μ) - 3) [] := fun _ h0 => (((hX_1545 ()) (by have e9 : bd μ1534 = bd μ1534 := rfl; have e8 : bd μ1562 = bd μ1562 := rfl; omega)).app (hp_1573 () h0) (by omega)).ee (by omega)
            refine lv_goto (tgt := 223) hx hb dX12_worded_96 (by decide) ?_
            exact xr_v G hret hlk dX12_worded_223 ⟨(FrM.tr (FrM.tr FrM.rf F_1535 (by decide)) F_1563 (by decide)), (fun j hj => ((hp_1564 j (fun h9 => hj ((by decide : ∀ x ∈ ([6, 8, 9, 10, 11, 12, 13, 15, 16, 17, 18, 22, 29, 39] : List Int), x ∈ ([6, 8, 9, 10, 11, 12, 13, 15, 16, 17, 18, 22, 29, 39] : List Int)) j h9))).trans (hp_1536 j (fun h9 => hj ((by decide : ∀ x ∈ ([6, 8, 9, 10, 11, 12, 13, 15] : List Int), x ∈ ([6, 8, 9, 10, 11, 12, 13, 15, 16, 17, 18, 22, 29, 39] : List Int)) j h9))))), hp_1565, (by omega), (by omega), (by omega), (by omega), (by omega), (by omega), (fun j hj => ((hp_1572 j (by omega)).trans (F_1535.1 126 (by decide) j))), (fun _ h0 => (mPX.ex ((hX_1579 ()) h0)).e (by omega)), hxt_1577⟩
        · refine lv_aload_n hx hb dX12_worded_57 rfl (lv_at hl 1 rfl) ?_
          refine xc_vV G (b := 111) (rest := []) (As := []) (c_X12_next ω l μ  hPM (by omega) (by omega)) (wm 9 0 rfl rfl) (wm 9 2 rfl rfl) (wm 0 119 rfl rfl) rfl rfl (by decide) rfl (wm 1 18 rfl rfl) (wm 9 3 rfl rfl) (by decide) hR ⟨nfr hF (by decide), nlo hLo (by decide)⟩ (n := 0) rfl rfl (Nat.le_of_ble_eq_true rfl) hl.1 dX12_worded_58 (fun μ1580 ρ d0 H locs hp G => ?_)
          obtain ⟨F_1581, hp_1582, hp_1583, hp_1584, hp_1585, hp_1586⟩ := hp
          have hpl_1587 := hp_1583.pl
          have hw_1588 := wr_r (μ := μ1580)
          have e_1589 : μ1580.1 111 31 = μ.1 111 31 := (hp_1582 31 (by decide))
          refine lv_aload_n hx hb dX12_worded_61 rfl (lv_at hl 1 rfl) ?_
          refine lv_bipush (v := iv 22) hx hb dX12_worded_62 rfl ?_
          refine lv_bipush (v := iv 91) hx hb dX12_worded_64 rfl ?_
          refine lv_bipush (v := iv 93) hx hb dX12_worded_66 rfl ?_
          refine lv_iconst (v := iv 0) hx hb dX12_worded_68 rfl ?_
          have e_1590 : μ1580.1 111 29 = μ.1 111 29 := (hp_1582 29 (by decide))
          have e_1592 : μ1580.1 111 29 = μ.1 111 29 := (hp_1582 29 (by decide))
          have hX_1591 : ∀ _ : Unit, bd μ1580 = 0 → mPX μ μ1580 tt 0 1 (11 * (9 - nn μ) - 3) [] := fun _ h0 => (hX_1 () (by have e9 : bd μ = bd μ := rfl; have e8 : bd μ1580 = bd μ1580 := rfl; omega)).qm (q0m.fr (K := [111]) (FrM.tr FrM.rf F_1581 (by decide)) (by decide) (by decide) (by decide) (hp_1582 22 (by decide)) (nS.le (by omega) (Int.le_of_eq ((hp_1582 31 (by decide))).symm)))
          have e_1593 : μ1580.1 111 29 = μ.1 111 29 := (hp_1582 29 (by decide))
          have e_1594 : μ1580.1 111 29 = μ.1 111 29 := (hp_1582 29 (by decide))
          have hxt_1595 : mEXT μ μ1580 := (q0m.fr (K := [111]) (FrM.tr FrM.rf F_1581 (by decide)) (by decide) (by decide) (by decide) (hp_1582 22 (by decide)) (nS.le (by omega) (Int.le_of_eq ((hp_1582 31 (by decide))).symm))).1
          have e_1596 : μ1580.1 111 14 = tt := ((hp_1582 14 (by decide)).trans htt.symm)
          have e_1597 : μ1580.1 111 22 = μ.1 111 22 := (hp_1582 22 (by decide))
          have e_1598 : μ1580.1 111 22 = μ.1 111 22 := (hp_1582 22 (by decide))
          have e_1599 : μ1580.1 111 39 = μ.1 111 39 := (hp_1582 39 (by decide))
          have e_1600 : μ1580.1 111 39 = μ.1 111 39 := (hp_1582 39 (by decide))
          have e_1601 : μ1580.1 111 22 = μ.1 111 22 := (hp_1582 22 (by decide))
          have e_1602 : μ1580.1 111 31 = μ.1 111 31 := (hp_1582 31 (by decide))
          have e_1603 : μ1580.1 111 31 = μ.1 111 31 := (hp_1582 31 (by decide))
          have e_1604 : μ1580.1 111 22 = μ.1 111 22 := (hp_1582 22 (by decide))
          have e_1605 : μ1580.1 111 22 = μ.1 111 22 := (hp_1582 22 (by decide))
          have e_1606 : μ1580.1 111 29 = μ.1 111 29 := (hp_1582 29 (by decide))
          have e_1607 : μ1580.1 111 39 = μ.1 111 39 := (hp_1582 39 (by decide))
          refine xc_vV G (b := 111) (rest := []) (As := [.int (iv 22), .int (iv 91), .int (iv 93), .int (iv 0)]) (c_X12_ofPart ω l μ1580 22 91 93 0 F Lo Fu Lu kf tt (by unfold ir; omega) (by unfold ir; omega) (by unfold ir; omega) (by unfold ir; omega) (by omega) hF hLo hFu hLu hE hU hp_1583 (by omega) (by omega) (by omega) (by omega) (by omega) (by omega) (fun _ h0 => ((hX_1591 ()) h0).h1.1) (by omega) (by omega) (by omega)) (wm 9 199 rfl rfl) (wm 9 201 rfl rfl) (wm 0 162 rfl rfl) rfl rfl (by decide) rfl (wm 1 18 rfl rfl) (wm 9 202 rfl rfl) (by decide) hR ⟨sfr (F := F) (a := 1) (by decide), slo (L := Lo) (m := 6) (a := 20) (by decide)⟩ (n := 4) rfl rfl (Nat.le_of_ble_eq_true rfl) hl.1 dX12_worded_69 (fun μ1608 ρ d0 H locs hp G => ?_)
          obtain ⟨F_1609, hp_1610, hp_1611, hp_1612, hp_1613, hp_1614, hp_1615, hp_1616, hp_1617, hp_1618, hp_1619, hp_1620⟩ := hp
          have hpl_1621 := hp_1611.pl
          have hw_1622 := wr_r (μ := μ1608)
          have hxt_1623 : mEXT μ μ1608 := hxt_1595.tr hp_1620
          have e_1624 : μ1608.1 111 31 = μ.1 111 31 := ((hp_1610 31 (by decide)).trans (hp_1582 31 (by decide)))
          have hX_1625 : ∀ _ : Unit, bd μ1608 = 0 → mPX μ μ1608 tt 1 1 (11 * (9 - nn μ) - 3) [] := fun _ h0 => (((hX_1591 ()) (by have e9 : bd μ1580 = bd μ1580 := rfl; have e8 : bd μ1608 = bd μ1608 := rfl; omega)).app (hp_1619 () h0) (by omega)).ee (by omega)
          refine lv_goto (tgt := 223) hx hb dX12_worded_72 (by decide) ?_
          exact xr_v G hret hlk dX12_worded_223 ⟨(FrM.tr (FrM.tr FrM.rf F_1581 (by decide)) F_1609 (by decide)), (fun j hj => ((hp_1610 j (fun h9 => hj ((by decide : ∀ x ∈ ([6, 8, 9, 10, 11, 12, 13, 15, 16, 17, 18, 22, 29, 39] : List Int), x ∈ ([6, 8, 9, 10, 11, 12, 13, 15, 16, 17, 18, 22, 29, 39] : List Int)) j h9))).trans (hp_1582 j (fun h9 => hj ((by decide : ∀ x ∈ ([6, 8, 9, 10, 11, 12, 13, 15] : List Int), x ∈ ([6, 8, 9, 10, 11, 12, 13, 15, 16, 17, 18, 22, 29, 39] : List Int)) j h9))))), hp_1611, (by omega), (by omega), (by omega), (by omega), (by omega), (by omega), (fun j hj => ((hp_1618 j (by omega)).trans (F_1581.1 126 (by decide) j))), (fun _ h0 => (mPX.ex ((hX_1625 ()) h0)).e (by omega)), hxt_1623⟩
      · refine lv_aload_n hx hb dX12_worded_25 rfl (lv_at hl 1 rfl) ?_
        refine lv_iload_n hx hb dX12_worded_26 rfl (lv_at hl 0 rfl) ?_
        refine lv_bipush (v := iv 23) hx hb dX12_worded_27 rfl ?_
        refine xb_icmp_ne (tgt := 36) hx hb (by unfold ir; omega) (by unfold ir; omega) dX12_worded_29 (by decide) (fun c_29 => ?_) (fun c_29 => ?_)
        · refine lv_bipush (v := iv 28) hx hb dX12_worded_36 rfl ?_
          refine lv_lconst (v := jv 0) hx hb dX12_worded_38 rfl ?_
          refine lv_iconst (v := iv 0) hx hb dX12_worded_39 rfl ?_
          refine xc_iV G (b := 111) (rest := []) (As := [.int (iv 28), .long (jv 0), .int (iv 0)]) (c_X12_emit ω l μ 28 0 0 (by unfold ir; omega) (by unfold jr; omega) (by unfold ir; omega) (by omega)) (wm 9 126 rfl rfl) (wm 9 128 rfl rfl) (wm 0 144 rfl rfl) rfl rfl (by decide) rfl (wm 1 18 rfl rfl) (wm 9 129 rfl rfl) (by decide) hR ⟨nfr hF (by decide), nlo hLo (by decide)⟩ (n := 3) rfl rfl (Nat.le_of_ble_eq_true rfl) hl.1 dX12_worded_40 (fun r_1627 μ1626 ρ d0 H locs hr_r_1627 hp G => ?_)
          have hr_r_1627 : -2147483648 ≤ r_1627 ∧ r_1627 ≤ 2147483647 := hr_r_1627
          obtain ⟨F_1628, hp_1629, hp_1630, hp_1631, hp_1632⟩ := hp
          have hxt_1633 : mEXT μ μ1626 := (mEXT.rf (μ := μ)).tr hp_1630.1
          have e_1634 : μ1626.1 111 31 = μ.1 111 31 := (hp_1629 31 (by decide))
          have e_1635 : wr μ1626 = wr μ := (wr_cg (hp_1629 15 (by decide)))
          have e_1636 : bd μ1626 = bd μ := (bd_cg (hp_1629 15 (by decide)) (hp_1629 16 (by decide)) (hp_1629 17 (by decide)))
          have e_1637 : nn μ1626 = nn μ := (nn_cg (hp_1629 15 (by decide)) (hp_1629 18 (by decide)))
          have e_1639 : μ1626.1 111 29 = μ.1 111 29 := (hp_1629 29 (by decide))
          have hX_1638 : ∀ _ : Unit, bd μ1626 = 0 → mPX μ μ1626 tt 1 1 (11 * (9 - nn μ) - 3) [] := fun _ h0 => (((hX_1 ()) (by have e9 : bd μ = bd μ := rfl; have e8 : bd μ1626 = bd μ := (bd_cg (hp_1629 15 (by decide)) (hp_1629 16 (by decide)) (hp_1629 17 (by decide))); omega)).app (mAD.ex (t := tt) (e := 1) hp_1630 ((hX_1 ()) (by have e9 : bd μ = bd μ := rfl; have e8 : bd μ1626 = bd μ := (bd_cg (hp_1629 15 (by decide)) (hp_1629 16 (by decide)) (hp_1629 17 (by decide))); omega)).h1.1 (by unfold mpl; omega) rfl (by have h9 := ((hX_1 ()) (by have e9 : bd μ = bd μ := rfl; have e8 : bd μ1626 = bd μ := (bd_cg (hp_1629 15 (by decide)) (hp_1629 16 (by decide)) (hp_1629 17 (by decide))); omega)).h1; omega) ⟨fun q => absurd q (by decide), ⟨fun q => absurd q (by decide), fun q => absurd q (by decide)⟩, fun q => absurd q (by decide), fun q => absurd q (by decide), fun q => absurd q (by decide), fun q => absurd q (by decide), fun q => absurd q (by decide), fun q => absurd q (by decide), fun q => absurd q (by decide), fun q => absurd q (by decide), fun q => absurd q (by decide), fun q => absurd q (by decide), fun q => absurd q (by decide), fun q => absurd q (by decide), fun q => absurd q (by decide), fun q => absurd q (by decide), fun q => absurd q (by decide), fun q => absurd q (by decide), fun q => absurd q (by decide), fun q => absurd q (by decide), fun q => absurd q (by decide), ⟨fun _ => by omega, fun q => absurd q (by decide), fun q => absurd q (by decide)⟩, ⟨by decide, by decide⟩⟩) (by have h9 := ((hX_1 ()) (by have e9 : bd μ = bd μ := rfl; have e8 : bd μ1626 = bd μ := (bd_cg (hp_1629 15 (by decide)) (hp_1629 16 (by decide)) (hp_1629 17 (by decide))); omega)).h1; omega)).ee (by omega)
          refine lv_pop hx hb dX12_worded_43 rfl ?_
          refine lv_aload_n hx hb dX12_worded_44 rfl (lv_at hl 1 rfl) ?_
          have hPM_1640 : PM μ1626 := hPM.cg (hp_1629 4 (by decide)) (hp_1629 6 (by decide)) (hp_1629 7 (by decide)) (hp_1629 8 (by decide)) (hp_1629 9 (by decide)) (hp_1629 11 (by decide)) (hp_1629 12 (by decide)) ((((hp_1629 14 (by decide)).trans htt.symm)).trans (htt.symm).symm) (hp_1629 15 (by decide)) (hp_1629 29 (by decide)) (fun j => (F_1628.1 123 (by decide) j))
          have e_1641 : wr μ1626 = wr μ := (wr_cg (hp_1629 15 (by decide)))
          have e_1642 : nn μ1626 = nn μ := (nn_cg (hp_1629 15 (by decide)) (hp_1629 18 (by decide)))
          have e_1643 : μ1626.1 111 8 = μ.1 111 8 := (hp_1629 8 (by decide))
          have e_1644 : wr μ1626 = wr μ := (wr_cg (hp_1629 15 (by decide)))
          have e_1645 : μ1626.1 111 9 = μ.1 111 9 := (hp_1629 9 (by decide))
          have e_1646 : wr μ1626 = wr μ := (wr_cg (hp_1629 15 (by decide)))
          have e_1647 : wr μ1626 = wr μ := (wr_cg (hp_1629 15 (by decide)))
          have e_1648 : bd μ1626 = bd μ := (bd_cg (hp_1629 15 (by decide)) (hp_1629 16 (by decide)) (hp_1629 17 (by decide)))
          have e_1649 : nn μ1626 = nn μ := (nn_cg (hp_1629 15 (by decide)) (hp_1629 18 (by decide)))
          refine xc_vV G (b := 111) (rest := []) (As := []) (c_X12_next ω l μ1626  hPM_1640 (by omega) (by omega)) (wm 9 0 rfl rfl) (wm 9 2 rfl rfl) (wm 0 119 rfl rfl) rfl rfl (by decide) rfl (wm 1 18 rfl rfl) (wm 9 3 rfl rfl) (by decide) hR ⟨nfr hF (by decide), nlo hLo (by decide)⟩ (n := 0) rfl rfl (Nat.le_of_ble_eq_true rfl) hl.1 dX12_worded_45 (fun μ1650 ρ d0 H locs hp G => ?_)
          obtain ⟨F_1651, hp_1652, hp_1653, hp_1654, hp_1655, hp_1656⟩ := hp
          have hpl_1657 := hp_1653.pl
          have hw_1658 := wr_r (μ := μ1626)
          have hw_1659 := wr_r (μ := μ1650)
          have e_1660 : μ1650.1 111 31 = μ.1 111 31 := ((hp_1652 31 (by decide)).trans (hp_1629 31 (by decide)))
          refine lv_goto (tgt := 223) hx hb dX12_worded_48 (by decide) ?_
          have e_1661 : μ1650.1 111 22 = μ1626.1 111 22 := (hp_1652 22 (by decide))
          have e_1662 : μ1650.1 111 29 = μ.1 111 29 := ((hp_1652 29 (by decide)).trans (hp_1629 29 (by decide)))
          have e_1663 : μ1650.1 111 39 = μ.1 111 39 := ((hp_1652 39 (by decide)).trans (hp_1629 39 (by decide)))
          have e_1664 : μ1650.1 111 29 = μ.1 111 29 := ((hp_1652 29 (by decide)).trans (hp_1629 29 (by decide)))
          have e_1666 : μ1650.1 111 29 = μ.1 111 29 := ((hp_1652 29 (by decide)).trans (hp_1629 29 (by decide)))
          have hX_1665 : ∀ _ : Unit, bd μ1650 = 0 → mPX μ μ1650 tt 1 1 (11 * (9 - nn μ) - 3) [] := fun _ h0 => (hX_1638 () (by have e9 : bd μ1626 = bd μ := (bd_cg (hp_1629 15 (by decide)) (hp_1629 16 (by decide)) (hp_1629 17 (by decide))); have e8 : bd μ1650 = bd μ1650 := rfl; omega)).qm (q0m.fr (K := [111]) (FrM.tr FrM.rf F_1651 (by decide)) (by decide) (by decide) (by decide) (hp_1652 22 (by decide)) (nS.le (by omega) (Int.le_of_eq (((((hp_1652 31 (by decide)).trans (hp_1629 31 (by decide)))).trans ((hp_1629 31 (by decide))).symm)).symm)))
          have e_1667 : μ1650.1 111 29 = μ.1 111 29 := ((hp_1652 29 (by decide)).trans (hp_1629 29 (by decide)))
          have hxt_1668 : mEXT μ μ1650 := hxt_1633.tr (q0m.fr (K := [111]) (FrM.tr FrM.rf F_1651 (by decide)) (by decide) (by decide) (by decide) (hp_1652 22 (by decide)) (nS.le (by omega) (Int.le_of_eq (((((hp_1652 31 (by decide)).trans (hp_1629 31 (by decide)))).trans ((hp_1629 31 (by decide))).symm)).symm))).1
          have e_1669 : μ1650.1 111 22 = μ1626.1 111 22 := (hp_1652 22 (by decide))
          have e_1670 : μ1650.1 111 22 = μ1626.1 111 22 := (hp_1652 22 (by decide))
          have e_1671 : μ1650.1 111 29 = μ.1 111 29 := ((hp_1652 29 (by decide)).trans (hp_1629 29 (by decide)))
          have e_1672 : μ1650.1 111 39 = μ.1 111 39 := ((hp_1652 39 (by decide)).trans (hp_1629 39 (by decide)))
          exact xr_v G hret hlk dX12_worded_223 ⟨(FrM.tr (FrM.tr FrM.rf F_1628 (by decide)) F_1651 (by decide)), (fun j hj => ((hp_1652 j (fun h9 => hj ((by decide : ∀ x ∈ ([6, 8, 9, 10, 11, 12, 13, 15] : List Int), x ∈ ([6, 8, 9, 10, 11, 12, 13, 15, 16, 17, 18, 22, 29, 39] : List Int)) j h9))).trans (hp_1629 j (fun h9 => hj ((by decide : ∀ x ∈ ([22] : List Int), x ∈ ([6, 8, 9, 10, 11, 12, 13, 15, 16, 17, 18, 22, 29, 39] : List Int)) j h9))))), hp_1653, (by omega), (by omega), (by omega), (by omega), (by omega), (by omega), (fun j hj => ((F_1651.1 126 (by decide) j).trans (F_1628.1 126 (by decide) j))), (fun _ h0 => (mPX.ex ((hX_1665 ()) h0)).e (by omega)), hxt_1668⟩
        · refine lv_iconst (v := iv 2) hx hb dX12_worded_32 rfl ?_
          refine lv_goto (tgt := 38) hx hb dX12_worded_33 (by decide) ?_
          refine lv_lconst (v := jv 0) hx hb dX12_worded_38 rfl ?_
          refine lv_iconst (v := iv 0) hx hb dX12_worded_39 rfl ?_
          refine xc_iV G (b := 111) (rest := []) (As := [.int (iv 2), .long (jv 0), .int (iv 0)]) (c_X12_emit ω l μ 2 0 0 (by unfold ir; omega) (by unfold jr; omega) (by unfold ir; omega) (by omega)) (wm 9 126 rfl rfl) (wm 9 128 rfl rfl) (wm 0 144 rfl rfl) rfl rfl (by decide) rfl (wm 1 18 rfl rfl) (wm 9 129 rfl rfl) (by decide) hR ⟨nfr hF (by decide), nlo hLo (by decide)⟩ (n := 3) rfl rfl (Nat.le_of_ble_eq_true rfl) hl.1 dX12_worded_40 (fun r_1674 μ1673 ρ d0 H locs hr_r_1674 hp G => ?_)
          have hr_r_1674 : -2147483648 ≤ r_1674 ∧ r_1674 ≤ 2147483647 := hr_r_1674
          obtain ⟨F_1675, hp_1676, hp_1677, hp_1678, hp_1679⟩ := hp
          have hxt_1680 : mEXT μ μ1673 := (mEXT.rf (μ := μ)).tr hp_1677.1
          have e_1681 : μ1673.1 111 31 = μ.1 111 31 := (hp_1676 31 (by decide))
          have e_1682 : wr μ1673 = wr μ := (wr_cg (hp_1676 15 (by decide)))
          have e_1683 : bd μ1673 = bd μ := (bd_cg (hp_1676 15 (by decide)) (hp_1676 16 (by decide)) (hp_1676 17 (by decide)))
          have e_1684 : nn μ1673 = nn μ := (nn_cg (hp_1676 15 (by decide)) (hp_1676 18 (by decide)))
          have e_1686 : μ1673.1 111 29 = μ.1 111 29 := (hp_1676 29 (by decide))
          have hX_1685 : ∀ _ : Unit, bd μ1673 = 0 → mPX μ μ1673 tt 1 1 (11 * (9 - nn μ) - 3) [] := fun _ h0 => (((hX_1 ()) (by have e9 : bd μ = bd μ := rfl; have e8 : bd μ1673 = bd μ := (bd_cg (hp_1676 15 (by decide)) (hp_1676 16 (by decide)) (hp_1676 17 (by decide))); omega)).app (mAD.ex (t := tt) (e := 1) hp_1677 ((hX_1 ()) (by have e9 : bd μ = bd μ := rfl; have e8 : bd μ1673 = bd μ := (bd_cg (hp_1676 15 (by decide)) (hp_1676 16 (by decide)) (hp_1676 17 (by decide))); omega)).h1.1 (by unfold mpl; omega) rfl (by have h9 := ((hX_1 ()) (by have e9 : bd μ = bd μ := rfl; have e8 : bd μ1673 = bd μ := (bd_cg (hp_1676 15 (by decide)) (hp_1676 16 (by decide)) (hp_1676 17 (by decide))); omega)).h1; omega) ⟨fun q => absurd q (by decide), ⟨fun q => absurd q (by decide), fun q => absurd q (by decide)⟩, fun q => absurd q (by decide), fun q => absurd q (by decide), fun q => absurd q (by decide), fun q => absurd q (by decide), fun q => absurd q (by decide), fun q => absurd q (by decide), fun q => absurd q (by decide), fun q => absurd q (by decide), fun q => absurd q (by decide), fun q => absurd q (by decide), fun q => absurd q (by decide), fun q => absurd q (by decide), fun q => absurd q (by decide), fun q => absurd q (by decide), fun q => absurd q (by decide), fun q => absurd q (by decide), fun q => absurd q (by decide), fun q => absurd q (by decide), fun q => absurd q (by decide), ⟨fun q => absurd q (by decide), fun q => absurd q (by decide), fun q => absurd q (by decide)⟩, ⟨by decide, by decide⟩⟩) (by have h9 := ((hX_1 ()) (by have e9 : bd μ = bd μ := rfl; have e8 : bd μ1673 = bd μ := (bd_cg (hp_1676 15 (by decide)) (hp_1676 16 (by decide)) (hp_1676 17 (by decide))); omega)).h1; omega)).ee (by omega)
          refine lv_pop hx hb dX12_worded_43 rfl ?_
          refine lv_aload_n hx hb dX12_worded_44 rfl (lv_at hl 1 rfl) ?_
          have hPM_1687 : PM μ1673 := hPM.cg (hp_1676 4 (by decide)) (hp_1676 6 (by decide)) (hp_1676 7 (by decide)) (hp_1676 8 (by decide)) (hp_1676 9 (by decide)) (hp_1676 11 (by decide)) (hp_1676 12 (by decide)) ((((hp_1676 14 (by decide)).trans htt.symm)).trans (htt.symm).symm) (hp_1676 15 (by decide)) (hp_1676 29 (by decide)) (fun j => (F_1675.1 123 (by decide) j))
          have e_1688 : wr μ1673 = wr μ := (wr_cg (hp_1676 15 (by decide)))
          have e_1689 : nn μ1673 = nn μ := (nn_cg (hp_1676 15 (by decide)) (hp_1676 18 (by decide)))
          have e_1690 : μ1673.1 111 8 = μ.1 111 8 := (hp_1676 8 (by decide))
          have e_1691 : wr μ1673 = wr μ := (wr_cg (hp_1676 15 (by decide)))
          have e_1692 : μ1673.1 111 9 = μ.1 111 9 := (hp_1676 9 (by decide))
          have e_1693 : wr μ1673 = wr μ := (wr_cg (hp_1676 15 (by decide)))
          have e_1694 : wr μ1673 = wr μ := (wr_cg (hp_1676 15 (by decide)))
          have e_1695 : bd μ1673 = bd μ := (bd_cg (hp_1676 15 (by decide)) (hp_1676 16 (by decide)) (hp_1676 17 (by decide)))
          have e_1696 : nn μ1673 = nn μ := (nn_cg (hp_1676 15 (by decide)) (hp_1676 18 (by decide)))
          refine xc_vV G (b := 111) (rest := []) (As := []) (c_X12_next ω l μ1673  hPM_1687 (by omega) (by omega)) (wm 9 0 rfl rfl) (wm 9 2 rfl rfl) (wm 0 119 rfl rfl) rfl rfl (by decide) rfl (wm 1 18 rfl rfl) (wm 9 3 rfl rfl) (by decide) hR ⟨nfr hF (by decide), nlo hLo (by decide)⟩ (n := 0) rfl rfl (Nat.le_of_ble_eq_true rfl) hl.1 dX12_worded_45 (fun μ1697 ρ d0 H locs hp G => ?_)
          obtain ⟨F_1698, hp_1699, hp_1700, hp_1701, hp_1702, hp_1703⟩ := hp
          have hpl_1704 := hp_1700.pl
          have hw_1705 := wr_r (μ := μ1673)
          have hw_1706 := wr_r (μ := μ1697)
          have e_1707 : μ1697.1 111 31 = μ.1 111 31 := ((hp_1699 31 (by decide)).trans (hp_1676 31 (by decide)))
          refine lv_goto (tgt := 223) hx hb dX12_worded_48 (by decide) ?_
          have e_1708 : μ1697.1 111 22 = μ1673.1 111 22 := (hp_1699 22 (by decide))
          have e_1709 : μ1697.1 111 29 = μ.1 111 29 := ((hp_1699 29 (by decide)).trans (hp_1676 29 (by decide)))
          have e_1710 : μ1697.1 111 39 = μ.1 111 39 := ((hp_1699 39 (by decide)).trans (hp_1676 39 (by decide)))
          have e_1711 : μ1697.1 111 29 = μ.1 111 29 := ((hp_1699 29 (by decide)).trans (hp_1676 29 (by decide)))
          have e_1713 : μ1697.1 111 29 = μ.1 111 29 := ((hp_1699 29 (by decide)).trans (hp_1676 29 (by decide)))
          have hX_1712 : ∀ _ : Unit, bd μ1697 = 0 → mPX μ μ1697 tt 1 1 (11 * (9 - nn μ) - 3) [] := fun _ h0 => (hX_1685 () (by have e9 : bd μ1673 = bd μ := (bd_cg (hp_1676 15 (by decide)) (hp_1676 16 (by decide)) (hp_1676 17 (by decide))); have e8 : bd μ1697 = bd μ1697 := rfl; omega)).qm (q0m.fr (K := [111]) (FrM.tr FrM.rf F_1698 (by decide)) (by decide) (by decide) (by decide) (hp_1699 22 (by decide)) (nS.le (by omega) (Int.le_of_eq (((((hp_1699 31 (by decide)).trans (hp_1676 31 (by decide)))).trans ((hp_1676 31 (by decide))).symm)).symm)))
          have e_1714 : μ1697.1 111 29 = μ.1 111 29 := ((hp_1699 29 (by decide)).trans (hp_1676 29 (by decide)))
          have hxt_1715 : mEXT μ μ1697 := hxt_1680.tr (q0m.fr (K := [111]) (FrM.tr FrM.rf F_1698 (by decide)) (by decide) (by decide) (by decide) (hp_1699 22 (by decide)) (nS.le (by omega) (Int.le_of_eq (((((hp_1699 31 (by decide)).trans (hp_1676 31 (by decide)))).trans ((hp_1676 31 (by decide))).symm)).symm))).1
          have e_1716 : μ1697.1 111 22 = μ1673.1 111 22 := (hp_1699 22 (by decide))
          have e_1717 : μ1697.1 111 22 = μ1673.1 111 22 := (hp_1699 22 (by decide))
          have e_1718 : μ1697.1 111 29 = μ.1 111 29 := ((hp_1699 29 (by decide)).trans (hp_1676 29 (by decide)))
          have e_1719 : μ1697.1 111 39 = μ.1 111 39 := ((hp_1699 39 (by decide)).trans (hp_1676 39 (by decide)))
          exact xr_v G hret hlk dX12_worded_223 ⟨(FrM.tr (FrM.tr FrM.rf F_1675 (by decide)) F_1698 (by decide)), (fun j hj => ((hp_1699 j (fun h9 => hj ((by decide : ∀ x ∈ ([6, 8, 9, 10, 11, 12, 13, 15] : List Int), x ∈ ([6, 8, 9, 10, 11, 12, 13, 15, 16, 17, 18, 22, 29, 39] : List Int)) j h9))).trans (hp_1676 j (fun h9 => hj ((by decide : ∀ x ∈ ([22] : List Int), x ∈ ([6, 8, 9, 10, 11, 12, 13, 15, 16, 17, 18, 22, 29, 39] : List Int)) j h9))))), hp_1700, (by omega), (by omega), (by omega), (by omega), (by omega), (by omega), (fun j hj => ((F_1698.1 126 (by decide) j).trans (F_1675.1 126 (by decide) j))), (fun _ h0 => (mPX.ex ((hX_1712 ()) h0)).e (by omega)), hxt_1715⟩

set_option maxHeartbeats 4000000 in
set_option maxRecDepth 100000 in
theorem c_X12_signed (ω : Om) (l : Launch) (μ : M3) (F : Nat) (Lo : Nat) (Fu : Nat) (Lu : Nat) (kf : Int) (tt : Int) (htt : tt = μ.1 111 14) (hF : 60 ≤ F) (hLo : 2000 ≤ Lo) (hFu : Fu ≤ F) (hLu : Lu ≤ Lo) (hE : ∀ (μ : M3) (tt : Int) (htt : tt = μ.1 111 14) (hPM : PM μ) (hnn : 0 ≤ nn μ ∧ nn μ ≤ 9 ∧ 9 * wr μ ≤ nn μ) (hn8 : nn μ ≤ 8 + wr μ) (hcd : 0 ≤ μ.1 111 22 ∧ μ.1 111 22 ≤ 2 * μ.1 111 9 + 200 + 40 * wr μ) (hW : 0 ≤ μ.1 111 39 ∧ μ.1 111 39 ≤ μ.1 111 22) (hsl : 0 ≤ μ.1 111 31 ∧ μ.1 111 31 ≤ 300) (hfu : 0 ≤ (kf - 1) ∧ 9 ≤ nn μ + (kf - 1)) (hH0 : ∀ _ : Unit, bd μ = 0 → mH0 μ), CtV ω l yX12_expr cX12_expr 1 (F + 0) (Lo + 0) [.ref (oP ω 111)] μ (fun (μ' : M3) => (FrM [111, 113, 115, 116, 117, 123, 126] μ μ') ∧ (∀ j, j ∉ ([6, 8, 9, 10, 11, 12, 13, 15, 16, 17, 18, 22, 29, 39] : List Int) → μ'.1 111 j = μ.1 111 j) ∧ (PM μ') ∧ (μ.1 111 22 ≤ μ'.1 111 22 ∧ μ'.1 111 22 ≤ μ.1 111 22 + 2 * (μ'.1 111 9 - μ.1 111 9) + (- 1 + 3 * wr μ' - 2 * wr μ)) ∧ (μ.1 111 9 ≤ μ'.1 111 9) ∧ (μ.1 111 29 ≤ μ'.1 111 29) ∧ (wr μ ≤ wr μ' ∧ bd μ ≤ bd μ') ∧ (nn μ ≤ nn μ' ∧ nn μ' ≤ nn μ + 9 * wr μ' ∧ nn μ' ≤ 9 ∧ 9 * wr μ' ≤ nn μ') ∧ (μ'.1 111 39 = μ.1 111 39) ∧ (∀ j, j < μ.1 111 39 → μ'.1 126 j = μ.1 126 j) ∧ (∀ _ : Unit, bd μ' = 0 → mEX μ μ' tt 1 0 (11 * (9 - nn μ))) ∧ (mEXT μ μ'))) (hU : ∀ (μ : M3) (tt : Int) (htt : tt = μ.1 111 14) (hPM : PM μ) (hnn : 0 ≤ nn μ ∧ nn μ ≤ 9 ∧ 9 * wr μ ≤ nn μ) (hn8 : nn μ ≤ 8 + wr μ) (hcd : 0 ≤ μ.1 111 22 ∧ μ.1 111 22 ≤ 2 * μ.1 111 9 + 200 + 40 * wr μ) (hW : 0 ≤ μ.1 111 39 ∧ μ.1 111 39 ≤ μ.1 111 22) (hsl : 0 ≤ μ.1 111 31 ∧ μ.1 111 31 ≤ 300) (hfu : 0 ≤ (kf - 1) ∧ 9 ≤ nn μ + (kf - 1)) (hH0 : ∀ _ : Unit, bd μ = 0 → mH0 μ), CtV ω l yX12_unary cX12_unary 6 (Fu + 0) (Lu + 0) [.ref (oP ω 111)] μ (fun (μ' : M3) => (FrM [111, 113, 115, 116, 117, 123, 126] μ μ') ∧ (∀ j, j ∉ ([6, 8, 9, 10, 11, 12, 13, 15, 16, 17, 18, 22, 29, 39] : List Int) → μ'.1 111 j = μ.1 111 j) ∧ (PM μ') ∧ (μ.1 111 22 ≤ μ'.1 111 22 ∧ μ'.1 111 22 ≤ μ.1 111 22 + 2 * (μ'.1 111 9 - μ.1 111 9) + (- 1 + 3 * wr μ' - 2 * wr μ)) ∧ (μ.1 111 9 ≤ μ'.1 111 9) ∧ (μ.1 111 29 ≤ μ'.1 111 29) ∧ (wr μ ≤ wr μ' ∧ bd μ ≤ bd μ') ∧ (nn μ ≤ nn μ' ∧ nn μ' ≤ nn μ + 9 * wr μ' ∧ nn μ' ≤ 9 ∧ 9 * wr μ' ≤ nn μ') ∧ (μ'.1 111 39 = μ.1 111 39) ∧ (∀ j, j < μ.1 111 39 → μ'.1 126 j = μ.1 126 j) ∧ (∀ _ : Unit, bd μ' = 0 → mEX μ μ' tt 1 0 (11 * (9 - nn μ) - 3)) ∧ (mEXT μ μ'))) (hPM : PM μ) (hnn : 0 ≤ nn μ ∧ nn μ ≤ 9 ∧ 9 * wr μ ≤ nn μ) (hn8 : nn μ ≤ 8 + wr μ) (hcd : 0 ≤ μ.1 111 22 ∧ μ.1 111 22 ≤ 2 * μ.1 111 9 + 200 + 40 * wr μ) (hW : 0 ≤ μ.1 111 39 ∧ μ.1 111 39 ≤ μ.1 111 22) (hsl : 0 ≤ μ.1 111 31 ∧ μ.1 111 31 ≤ 300) (hfu : 0 ≤ kf ∧ 9 ≤ nn μ + kf) (hH0 : ∀ _ : Unit, bd μ = 0 → mH0 μ) (hw0 : wr μ = 0) : CtV ω l yX12_signed cX12_signed 4 (F + 1) (Lo + 20) [.ref (oP ω 111)] μ (fun (μ' : M3) => (FrM [111, 113, 115, 116, 117, 123, 126] μ μ') ∧ (∀ j, j ∉ ([6, 8, 9, 10, 11, 12, 13, 15, 16, 17, 18, 22, 29, 39] : List Int) → μ'.1 111 j = μ.1 111 j) ∧ (PM μ') ∧ (μ.1 111 22 ≤ μ'.1 111 22 ∧ μ'.1 111 22 ≤ μ.1 111 22 + 2 * (μ'.1 111 9 - μ.1 111 9) + (- 1 + 3 * wr μ' - 2 * wr μ)) ∧ (μ.1 111 9 ≤ μ'.1 111 9) ∧ (μ.1 111 29 ≤ μ'.1 111 29) ∧ (wr μ ≤ wr μ' ∧ bd μ ≤ bd μ') ∧ (nn μ ≤ nn μ' ∧ nn μ' ≤ nn μ + 9 * wr μ' ∧ nn μ' ≤ 9 ∧ 9 * wr μ' ≤ nn μ') ∧ (μ'.1 111 39 = μ.1 111 39) ∧ (∀ j, j < μ.1 111 39 → μ'.1 126 j = μ.1 126 j) ∧ (∀ _ : Unit, bd μ' = 0 → mEX μ μ' tt 1 0 (11 * (9 - nn μ) - 3)) ∧ (mEXT μ μ')) := by
  refine CtV.go (by decide) (Nat.le_of_ble_eq_true rfl) (fun ρ p e s m below meth c R ls G hR hret hlk hl => ?_)
  have hx := G.1.1
  have hb := G.1.2.1
  have hl : lv_has ls 4 [(0, .ref (oP ω 111))] := hl
  generalize s.drawn = d0 at G ⊢
  have hw_0 := wr_r (μ := μ)
  have hpp_ := hPM.1.2.1
  have hpn_ := hPM.2.1
  have hpt_ := hPM.1.2.2.2.1
  have hpw_ := hPM.1.2.2.2.2.1
  have hpa_ := hPM.1.1
  have hX_1 : ∀ _ : Unit, bd μ = 0 → mPX μ μ tt 0 1 (11 * (9 - nn μ) - 3) [] := fun _ h0 => mPX.nil (hH0 () h0) (by omega)
  refine lv_aload_n hx hb dX12_signed_0 rfl (lv_at hl 0 rfl) ?_
  refine lv_bipush (v := iv 40) hx hb dX12_signed_1 rfl ?_
  refine xc_iV G (b := 111) (rest := []) (As := [.int (iv 40)]) (c_X12_isSign ω l μ 40 (by unfold ir; omega)) (wm 9 90 rfl rfl) (wm 9 92 rfl rfl) (wm 0 135 rfl rfl) rfl rfl (by decide) rfl (wm 1 18 rfl rfl) (wm 9 93 rfl rfl) (by decide) hR ⟨nfr hF (by decide), nlo hLo (by decide)⟩ (n := 1) rfl rfl (Nat.le_of_ble_eq_true rfl) hl.1 dX12_signed_3 (fun r_3 μ2 ρ d0 H locs hr_r_3 hp G => ?_)
  have hr_r_3 : -2147483648 ≤ r_3 ∧ r_3 ≤ 2147483647 := hr_r_3
  obtain ⟨hsm_4, hp_5⟩ := hp
  have hsm_4 := Eq.symm hsm_4
  subst hsm_4
  refine xb_if_eq (tgt := 26) hx hb (by unfold ir; omega) dX12_signed_6 (by decide) (fun c_6 => ?_) (fun c_6 => ?_)
  · refine lv_aload_n hx hb dX12_signed_26 rfl (lv_at hl 0 rfl) ?_
    refine lv_bipush (v := iv 38) hx hb dX12_signed_27 rfl ?_
    refine xc_iV G (b := 111) (rest := []) (As := [.int (iv 38)]) (c_X12_takesSign ω l μ 38 (by unfold ir; omega) hPM (by omega)) (wm 9 106 rfl rfl) (wm 9 108 rfl rfl) (wm 0 139 rfl rfl) rfl rfl (by decide) rfl (wm 1 18 rfl rfl) (wm 9 109 rfl rfl) (by decide) hR ⟨nfr hF (by decide), nlo hLo (by decide)⟩ (n := 1) rfl rfl (Nat.le_of_ble_eq_true rfl) hl.1 dX12_signed_29 (fun r_7 μ6 ρ d0 H locs hr_r_7 hp G => ?_)
    have hr_r_7 : -2147483648 ≤ r_7 ∧ r_7 ≤ 2147483647 := hr_r_7
    obtain ⟨F_8, hp_9, hp_10, hp_11, hp_12, hp_13, hp_14⟩ := hp
    have hpl_15 := hp_10.pl
    have hw_16 := wr_r (μ := μ6)
    have e_17 : μ6.1 111 31 = μ.1 111 31 := (hp_9 31 (by decide))
    refine xb_if_eq (tgt := 99) hx hb (by unfold ir; omega) dX12_signed_32 (by decide) (fun c_32 => ?_) (fun c_32 => ?_)
    · refine lv_aload_n hx hb dX12_signed_99 rfl (lv_at hl 0 rfl) ?_
      refine lv_aload_n hx hb dX12_signed_100 rfl (lv_at hl 0 rfl) ?_
      refine xa_geti G fd_X12 (a := 111) (x := μ6.1 111 9) 9 rfl (by decide) rfl (wm 7 158 rfl rfl) ⟨rfl, rfl, rfl⟩ dX12_signed_101 rfl rfl ?_
      have hr_18 : -2147483648 ≤ μ6.1 111 9 ∧ μ6.1 111 9 ≤ 2147483647 := by have h9 := G.hr (a := 111) (k := 9) rfl; exact h9
      have e_19 : μ6.1 111 29 = μ.1 111 29 := (hp_9 29 (by decide))
      have e_21 : μ6.1 111 29 = μ.1 111 29 := (hp_9 29 (by decide))
      have hX_20 : ∀ _ : Unit, bd μ6 = 0 → mPX μ μ6 tt 0 1 (11 * (9 - nn μ) - 3) [] := fun _ h0 => (hX_1 () (by have e9 : bd μ = bd μ := rfl; have e8 : bd μ6 = bd μ6 := rfl; omega)).qm (q0m.fr (K := [111]) (FrM.tr FrM.rf F_8 (by decide)) (by decide) (by decide) (by decide) (hp_9 22 (by decide)) (nS.le (by omega) (Int.le_of_eq ((hp_9 31 (by decide))).symm)))
      refine xc_vV G (b := 111) (rest := []) (As := [.int (iv (μ6.1 111 9))]) (c_X12_wrong ω l μ6 (μ6.1 111 9) (by unfold ir; omega) (by omega)) (wm 9 22 rfl rfl) (wm 9 24 rfl rfl) (wm 0 123 rfl rfl) rfl rfl (by decide) rfl (wm 1 18 rfl rfl) (wm 9 25 rfl rfl) (by decide) hR ⟨nfr hF (by decide), nlo hLo (by decide)⟩ (n := 1) rfl rfl (Nat.le_of_ble_eq_true rfl) hl.1 dX12_signed_104 (fun μ22 ρ d0 H locs hp G => ?_)
      obtain ⟨F_23, hp_24, hp_25⟩ := hp
      have hw_26 := wr_r (μ := μ22)
      have e_27 : μ22.1 111 31 = μ.1 111 31 := ((hp_24 31 (by decide)).trans (hp_9 31 (by decide)))
      have e_28 : μ22.1 111 22 = μ.1 111 22 := ((hp_24 22 (by decide)).trans (hp_9 22 (by decide)))
      have e_29 : μ22.1 111 9 = μ6.1 111 9 := (hp_24 9 (by decide))
      have e_30 : μ22.1 111 29 = μ.1 111 29 := ((hp_24 29 (by decide)).trans (hp_9 29 (by decide)))
      have e_31 : μ22.1 111 39 = μ.1 111 39 := ((hp_24 39 (by decide)).trans (hp_9 39 (by decide)))
      have e_32 : μ22.1 111 29 = μ.1 111 29 := ((hp_24 29 (by decide)).trans (hp_9 29 (by decide)))
      have e_34 : μ22.1 111 29 = μ.1 111 29 := ((hp_24 29 (by decide)).trans (hp_9 29 (by decide)))
      have hX_33 : ∀ _ : Unit, bd μ22 = 0 → mPX μ μ22 tt 0 1 (11 * (9 - nn μ) - 3) [] := fun _ h0 => (hX_20 () (by have e9 : bd μ6 = bd μ6 := rfl; have e8 : bd μ22 = bd μ22 := rfl; omega)).qm (q0m.fr (K := [111]) (FrM.tr FrM.rf F_23 (by decide)) (by decide) (by decide) (by decide) ((((hp_24 22 (by decide)).trans (hp_9 22 (by decide)))).trans ((hp_9 22 (by decide))).symm) (nS.le (by omega) (Int.le_of_eq (((((hp_24 31 (by decide)).trans (hp_9 31 (by decide)))).trans ((hp_9 31 (by decide))).symm)).symm)))
      have hPM_35 : PM μ22 := hp_10.wg ((((hp_24 4 (by decide)).trans (hp_9 4 (by decide)))).trans ((hp_9 4 (by decide))).symm) (hp_24 6 (by decide)) ((((hp_24 7 (by decide)).trans (hp_9 7 (by decide)))).trans ((hp_9 7 (by decide))).symm) (hp_24 8 (by decide)) (hp_24 9 (by decide)) (hp_24 11 (by decide)) (hp_24 12 (by decide)) ((((hp_24 14 (by decide)).trans ((hp_9 14 (by decide)).trans htt.symm))).trans (((hp_9 14 (by decide)).trans htt.symm)).symm) (by omega) ((((hp_24 29 (by decide)).trans (hp_9 29 (by decide)))).trans ((hp_9 29 (by decide))).symm) (fun j => (F_23.1 123 (by decide) j))
      have e_36 : μ22.1 111 29 = μ.1 111 29 := ((hp_24 29 (by decide)).trans (hp_9 29 (by decide)))
      have hxt_37 : mEXT μ μ22 := (q0m.fr (K := [111]) (FrM.tr (FrM.tr FrM.rf F_8 (by decide)) F_23 (by decide)) (by decide) (by decide) (by decide) ((hp_24 22 (by decide)).trans (hp_9 22 (by decide))) (nS.le (by omega) (Int.le_of_eq (((hp_24 31 (by decide)).trans (hp_9 31 (by decide)))).symm))).1
      have e_38 : μ22.1 111 22 = μ.1 111 22 := ((hp_24 22 (by decide)).trans (hp_9 22 (by decide)))
      have e_39 : μ22.1 111 22 = μ.1 111 22 := ((hp_24 22 (by decide)).trans (hp_9 22 (by decide)))
      have e_40 : μ22.1 111 9 = μ6.1 111 9 := (hp_24 9 (by decide))
      have e_41 : μ22.1 111 9 = μ6.1 111 9 := (hp_24 9 (by decide))
      have e_42 : μ22.1 111 29 = μ.1 111 29 := ((hp_24 29 (by decide)).trans (hp_9 29 (by decide)))
      have e_43 : μ22.1 111 39 = μ.1 111 39 := ((hp_24 39 (by decide)).trans (hp_9 39 (by decide)))
      exact xr_v G hret hlk dX12_signed_107 ⟨(FrM.tr (FrM.tr FrM.rf F_8 (by decide)) F_23 (by decide)), (fun j hj => ((hp_24 j (fun h9 => hj ((by decide : ∀ x ∈ ([15] : List Int), x ∈ ([6, 8, 9, 10, 11, 12, 13, 15, 16, 17, 18, 22, 29, 39] : List Int)) j h9))).trans (hp_9 j (fun h9 => hj ((by decide : ∀ x ∈ ([6, 8, 9, 10, 11, 12, 13, 15] : List Int), x ∈ ([6, 8, 9, 10, 11, 12, 13, 15, 16, 17, 18, 22, 29, 39] : List Int)) j h9))))), hPM_35, (by omega), (by omega), (by omega), (by omega), (by omega), (by omega), (fun j hj => ((F_23.1 126 (by decide) j).trans (F_8.1 126 (by decide) j))), (fun _ h0 => (mPX.ex ((hX_33 ()) h0)).e (by omega)), hxt_37⟩
    · refine lv_aload_n hx hb dX12_signed_35 rfl (lv_at hl 0 rfl) ?_
      refine xa_geti G fd_X12 (a := 111) (x := tt) 14 rfl (by decide) rfl (wm 7 163 rfl rfl) ⟨rfl, rfl, rfl⟩ dX12_signed_36 rfl ((hp_9 14 (by decide)).trans htt.symm) ?_
      have hr_44 : -2147483648 ≤ tt ∧ tt ≤ 2147483647 := by have h9 := G.hr (a := 111) (k := 14) rfl; rw [show μ6.1 111 14 = tt from ((hp_9 14 (by decide)).trans htt.symm)] at h9; exact h9
      refine lv_istore_n (lv' := [(1, .int (iv tt)), (0, .ref (oP ω 111))]) hx hb dX12_signed_39 rfl hl (by decide) rfl (fun ls hl => ?_)
      refine lv_aload_n hx hb dX12_signed_40 rfl (lv_at hl 1 rfl) ?_
      have e_45 : μ6.1 111 29 = μ.1 111 29 := (hp_9 29 (by decide))
      have e_47 : μ6.1 111 29 = μ.1 111 29 := (hp_9 29 (by decide))
      have hX_46 : ∀ _ : Unit, bd μ6 = 0 → mPX μ μ6 tt 0 1 (11 * (9 - nn μ) - 3) [] := fun _ h0 => (hX_1 () (by have e9 : bd μ = bd μ := rfl; have e8 : bd μ6 = bd μ6 := rfl; omega)).qm (q0m.fr (K := [111]) (FrM.tr FrM.rf F_8 (by decide)) (by decide) (by decide) (by decide) (hp_9 22 (by decide)) (nS.le (by omega) (Int.le_of_eq ((hp_9 31 (by decide))).symm)))
      refine xc_iV G (b := 111) (rest := []) (As := []) (c_X12_isWrong ω l μ6  ) (wm 9 4 rfl rfl) (wm 9 6 rfl rfl) (wm 0 120 rfl rfl) rfl rfl (by decide) rfl (wm 1 18 rfl rfl) (wm 9 7 rfl rfl) (by decide) hR ⟨nfr hF (by decide), nlo hLo (by decide)⟩ (n := 0) rfl rfl (Nat.le_of_ble_eq_true rfl) hl.1 dX12_signed_41 (fun r_49 μ48 ρ d0 H locs hr_r_49 hp G => ?_)
      have hr_r_49 : -2147483648 ≤ r_49 ∧ r_49 ≤ 2147483647 := hr_r_49
      obtain ⟨hsm_50, hp_51⟩ := hp
      have hsm_50 := Eq.symm hsm_50
      subst hsm_50
      have e_52 : μ6.1 111 31 = μ.1 111 31 := (hp_9 31 (by decide))
      refine xb_if_ne (tgt := 82) hx hb (by unfold ir; omega) dX12_signed_44 (by decide) (fun c_44 => ?_) (fun c_44 => ?_)
      · refine lv_aload_n hx hb dX12_signed_82 rfl (lv_at hl 1 rfl) ?_
        refine xc_lV G (b := 111) (rest := []) (As := []) (c_X12_takesName ω l μ6  hp_10 (by omega)) (wm 9 70 rfl rfl) (wm 9 72 rfl rfl) (wm 0 130 rfl rfl) rfl rfl (by decide) rfl (wm 1 18 rfl rfl) (wm 9 73 rfl rfl) (by decide) hR ⟨nfr hF (by decide), nlo hLo (by decide)⟩ (n := 0) rfl rfl (Nat.le_of_ble_eq_true rfl) hl.1 dX12_signed_83 (fun r_54 μ53 ρ d0 H locs hr_r_54 hp G => ?_)
        obtain ⟨F_55, hp_56, hp_57, hp_58, hp_59, hp_60, hp_61⟩ := hp
        have hpl_62 := hp_57.pl
        have hw_63 := wr_r (μ := μ53)
        have e_64 : μ53.1 111 31 = μ.1 111 31 := ((hp_56 31 (by decide)).trans (hp_9 31 (by decide)))
        refine lv_lstore_n (lv' := [(2, .long (jv r_54)), (1, .int (iv tt)), (0, .ref (oP ω 111))]) hx hb dX12_signed_86 rfl hl (by decide) rfl (fun ls hl => ?_)
        refine lv_aload_n hx hb dX12_signed_87 rfl (lv_at hl 2 rfl) ?_
        refine lv_bipush (v := iv 27) hx hb dX12_signed_88 rfl ?_
        refine lv_lload_n hx hb dX12_signed_90 rfl (lv_at hl 0 rfl) ?_
        refine lv_iload_n hx hb dX12_signed_91 rfl (lv_at hl 1 rfl) ?_
        have e_65 : μ53.1 111 29 = μ.1 111 29 := ((hp_56 29 (by decide)).trans (hp_9 29 (by decide)))
        have e_67 : μ53.1 111 29 = μ.1 111 29 := ((hp_56 29 (by decide)).trans (hp_9 29 (by decide)))
        have hX_66 : ∀ _ : Unit, bd μ53 = 0 → mPX μ μ53 tt 0 1 (11 * (9 - nn μ) - 3) [] := fun _ h0 => (hX_46 () (by have e9 : bd μ6 = bd μ6 := rfl; have e8 : bd μ53 = bd μ53 := rfl; omega)).qm (q0m.fr (K := [111]) (FrM.tr FrM.rf F_55 (by decide)) (by decide) (by decide) (by decide) ((((hp_56 22 (by decide)).trans (hp_9 22 (by decide)))).trans ((hp_9 22 (by decide))).symm) (nS.le (by omega) (Int.le_of_eq (((((hp_56 31 (by decide)).trans (hp_9 31 (by decide)))).trans ((hp_9 31 (by decide))).symm)).symm)))
        have e_68 : μ53.1 111 29 = μ.1 111 29 := ((hp_56 29 (by decide)).trans (hp_9 29 (by decide)))
        have e_69 : μ53.1 111 29 = μ.1 111 29 := ((hp_56 29 (by decide)).trans (hp_9 29 (by decide)))
        have hxt_70 : mEXT μ μ53 := (q0m.fr (K := [111]) (FrM.tr (FrM.tr FrM.rf F_8 (by decide)) F_55 (by decide)) (by decide) (by decide) (by decide) ((hp_56 22 (by decide)).trans (hp_9 22 (by decide))) (nS.le (by omega) (Int.le_of_eq (((hp_56 31 (by decide)).trans (hp_9 31 (by decide)))).symm))).1
        have e_71 : μ53.1 111 22 = μ.1 111 22 := ((hp_56 22 (by decide)).trans (hp_9 22 (by decide)))
        have e_72 : μ53.1 111 22 = μ.1 111 22 := ((hp_56 22 (by decide)).trans (hp_9 22 (by decide)))
        have e_73 : μ53.1 111 22 = μ.1 111 22 := ((hp_56 22 (by decide)).trans (hp_9 22 (by decide)))
        have e_74 : μ53.1 111 22 = μ.1 111 22 := ((hp_56 22 (by decide)).trans (hp_9 22 (by decide)))
        refine xc_iV G (b := 111) (rest := []) (As := [.int (iv 27), .long (jv r_54), .int (iv tt)]) (c_X12_emit ω l μ53 27 r_54 tt (by unfold ir; omega) hr_r_54 (by unfold ir; omega) (by omega)) (wm 9 126 rfl rfl) (wm 9 128 rfl rfl) (wm 0 144 rfl rfl) rfl rfl (by decide) rfl (wm 1 18 rfl rfl) (wm 9 129 rfl rfl) (by decide) hR ⟨nfr hF (by decide), nlo hLo (by decide)⟩ (n := 3) rfl rfl (Nat.le_of_ble_eq_true rfl) hl.1 dX12_signed_92 (fun r_76 μ75 ρ d0 H locs hr_r_76 hp G => ?_)
        have hr_r_76 : -2147483648 ≤ r_76 ∧ r_76 ≤ 2147483647 := hr_r_76
        obtain ⟨F_77, hp_78, hp_79, hp_80, hp_81⟩ := hp
        have hxt_82 : mEXT μ μ75 := hxt_70.tr hp_79.1
        have e_83 : μ75.1 111 31 = μ.1 111 31 := ((hp_78 31 (by decide)).trans ((hp_56 31 (by decide)).trans (hp_9 31 (by decide))))
        have e_84 : wr μ75 = wr μ53 := (wr_cg (hp_78 15 (by decide)))
        have e_85 : bd μ75 = bd μ53 := (bd_cg (hp_78 15 (by decide)) (hp_78 16 (by decide)) (hp_78 17 (by decide)))
        have e_86 : nn μ75 = nn μ53 := (nn_cg (hp_78 15 (by decide)) (hp_78 18 (by decide)))
        have e_88 : μ75.1 111 29 = μ.1 111 29 := ((hp_78 29 (by decide)).trans ((hp_56 29 (by decide)).trans (hp_9 29 (by decide))))
        have hX_87 : ∀ _ : Unit, bd μ75 = 0 → mPX μ μ75 tt 1 1 (11 * (9 - nn μ) - 3) [] := fun _ h0 => (((hX_66 ()) (by have e9 : bd μ53 = bd μ53 := rfl; have e8 : bd μ75 = bd μ53 := (bd_cg (hp_78 15 (by decide)) (hp_78 16 (by decide)) (hp_78 17 (by decide))); omega)).app (mAD.ex (t := tt) (e := 1) hp_79 ((hX_66 ()) (by have e9 : bd μ53 = bd μ53 := rfl; have e8 : bd μ75 = bd μ53 := (bd_cg (hp_78 15 (by decide)) (hp_78 16 (by decide)) (hp_78 17 (by decide))); omega)).h1.1 (by unfold mpl; omega) rfl (by have h9 := ((hX_66 ()) (by have e9 : bd μ53 = bd μ53 := rfl; have e8 : bd μ75 = bd μ53 := (bd_cg (hp_78 15 (by decide)) (hp_78 16 (by decide)) (hp_78 17 (by decide))); omega)).h1; omega) ⟨fun q => absurd q (by decide), ⟨fun q => absurd q (by decide), fun q => absurd q (by decide)⟩, fun q => absurd q (by decide), fun q => absurd q (by decide), fun q => absurd q (by decide), fun q => absurd q (by decide), fun q => absurd q (by decide), fun q => absurd q (by decide), fun q => absurd q (by decide), fun q => absurd q (by decide), fun q => absurd q (by decide), fun q => absurd q (by decide), fun q => absurd q (by decide), fun q => absurd q (by decide), fun q => absurd q (by decide), fun q => absurd q (by decide), fun q => absurd q (by decide), fun q => absurd q (by decide), fun _ => ⟨by omega, by omega⟩, fun q => absurd q (by decide), fun q => absurd q (by decide), ⟨fun q => absurd q (by decide), fun q => absurd q (by decide), fun q => absurd q (by decide)⟩, ⟨by decide, by decide⟩⟩) (by have h9 := ((hX_66 ()) (by have e9 : bd μ53 = bd μ53 := rfl; have e8 : bd μ75 = bd μ53 := (bd_cg (hp_78 15 (by decide)) (hp_78 16 (by decide)) (hp_78 17 (by decide))); omega)).h1; omega)).ee (by omega)
        refine lv_pop hx hb dX12_signed_95 rfl ?_
        refine lv_goto (tgt := 107) hx hb dX12_signed_96 (by decide) ?_
        have e_89 : μ75.1 111 9 = μ53.1 111 9 := (hp_78 9 (by decide))
        have e_90 : μ75.1 111 29 = μ.1 111 29 := ((hp_78 29 (by decide)).trans ((hp_56 29 (by decide)).trans (hp_9 29 (by decide))))
        have e_91 : μ75.1 111 39 = μ.1 111 39 := ((hp_78 39 (by decide)).trans ((hp_56 39 (by decide)).trans (hp_9 39 (by decide))))
        have e_92 : wr μ75 = wr μ53 := (wr_cg (hp_78 15 (by decide)))
        have e_93 : bd μ75 = bd μ53 := (bd_cg (hp_78 15 (by decide)) (hp_78 16 (by decide)) (hp_78 17 (by decide)))
        have e_94 : nn μ75 = nn μ53 := (nn_cg (hp_78 15 (by decide)) (hp_78 18 (by decide)))
        have hPM_95 : PM μ75 := hp_57.cg ((((hp_78 4 (by decide)).trans ((hp_56 4 (by decide)).trans (hp_9 4 (by decide))))).trans (((hp_56 4 (by decide)).trans (hp_9 4 (by decide)))).symm) (hp_78 6 (by decide)) ((((hp_78 7 (by decide)).trans ((hp_56 7 (by decide)).trans (hp_9 7 (by decide))))).trans (((hp_56 7 (by decide)).trans (hp_9 7 (by decide)))).symm) (hp_78 8 (by decide)) (hp_78 9 (by decide)) (hp_78 11 (by decide)) (hp_78 12 (by decide)) ((((hp_78 14 (by decide)).trans ((hp_56 14 (by decide)).trans ((hp_9 14 (by decide)).trans htt.symm)))).trans (((hp_56 14 (by decide)).trans ((hp_9 14 (by decide)).trans htt.symm))).symm) (hp_78 15 (by decide)) ((((hp_78 29 (by decide)).trans ((hp_56 29 (by decide)).trans (hp_9 29 (by decide))))).trans (((hp_56 29 (by decide)).trans (hp_9 29 (by decide)))).symm) (fun j => (F_77.1 123 (by decide) j))
        have e_96 : μ75.1 111 9 = μ53.1 111 9 := (hp_78 9 (by decide))
        have e_97 : wr μ75 = wr μ53 := (wr_cg (hp_78 15 (by decide)))
        have e_98 : μ75.1 111 9 = μ53.1 111 9 := (hp_78 9 (by decide))
        have e_99 : μ75.1 111 29 = μ.1 111 29 := ((hp_78 29 (by decide)).trans ((hp_56 29 (by decide)).trans (hp_9 29 (by decide))))
        have e_100 : wr μ75 = wr μ53 := (wr_cg (hp_78 15 (by decide)))
        have e_101 : bd μ75 = bd μ53 := (bd_cg (hp_78 15 (by decide)) (hp_78 16 (by decide)) (hp_78 17 (by decide)))
        have e_102 : wr μ75 = wr μ53 := (wr_cg (hp_78 15 (by decide)))
        have e_103 : nn μ75 = nn μ53 := (nn_cg (hp_78 15 (by decide)) (hp_78 18 (by decide)))
        have e_104 : μ75.1 111 39 = μ.1 111 39 := ((hp_78 39 (by decide)).trans ((hp_56 39 (by decide)).trans (hp_9 39 (by decide))))
        exact xr_v G hret hlk dX12_signed_107 ⟨(FrM.tr (FrM.tr (FrM.tr FrM.rf F_8 (by decide)) F_55 (by decide)) F_77 (by decide)), (fun j hj => ((hp_78 j (fun h9 => hj ((by decide : ∀ x ∈ ([22] : List Int), x ∈ ([6, 8, 9, 10, 11, 12, 13, 15, 16, 17, 18, 22, 29, 39] : List Int)) j h9))).trans ((hp_56 j (fun h9 => hj ((by decide : ∀ x ∈ ([6, 8, 9, 10, 11, 12, 13, 15] : List Int), x ∈ ([6, 8, 9, 10, 11, 12, 13, 15, 16, 17, 18, 22, 29, 39] : List Int)) j h9))).trans (hp_9 j (fun h9 => hj ((by decide : ∀ x ∈ ([6, 8, 9, 10, 11, 12, 13, 15] : List Int), x ∈ ([6, 8, 9, 10, 11, 12, 13, 15, 16, 17, 18, 22, 29, 39] : List Int)) j h9)))))), hPM_95, (by omega), (by omega), (by omega), (by omega), (by omega), (by omega), (fun j hj => ((F_77.1 126 (by decide) j).trans ((F_55.1 126 (by decide) j).trans (F_8.1 126 (by decide) j)))), (fun _ h0 => (mPX.ex ((hX_87 ()) h0)).e (by omega)), hxt_82⟩
      · refine lv_aload_n hx hb dX12_signed_47 rfl (lv_at hl 1 rfl) ?_
        refine xa_geti G fd_X12 (a := 111) (x := μ6.1 111 8) 8 rfl (by decide) rfl (wm 7 157 rfl rfl) ⟨rfl, rfl, rfl⟩ dX12_signed_48 rfl rfl ?_
        have hr_105 : -2147483648 ≤ μ6.1 111 8 ∧ μ6.1 111 8 ≤ 2147483647 := by have h9 := G.hr (a := 111) (k := 8) rfl; exact h9
        refine lv_iconst (v := iv 1) hx hb dX12_signed_51 rfl ?_
        refine xb_icmp_ne (tgt := 82) hx hb (by unfold ir; omega) (by unfold ir; omega) dX12_signed_52 (by decide) (fun c_52 => ?_) (fun c_52 => ?_)
        · refine lv_aload_n hx hb dX12_signed_82 rfl (lv_at hl 1 rfl) ?_
          refine xc_lV G (b := 111) (rest := []) (As := []) (c_X12_takesName ω l μ6  hp_10 (by omega)) (wm 9 70 rfl rfl) (wm 9 72 rfl rfl) (wm 0 130 rfl rfl) rfl rfl (by decide) rfl (wm 1 18 rfl rfl) (wm 9 73 rfl rfl) (by decide) hR ⟨nfr hF (by decide), nlo hLo (by decide)⟩ (n := 0) rfl rfl (Nat.le_of_ble_eq_true rfl) hl.1 dX12_signed_83 (fun r_107 μ106 ρ d0 H locs hr_r_107 hp G => ?_)
          obtain ⟨F_108, hp_109, hp_110, hp_111, hp_112, hp_113, hp_114⟩ := hp
          have hpl_115 := hp_110.pl
          have hw_116 := wr_r (μ := μ106)
          have e_117 : μ106.1 111 31 = μ.1 111 31 := ((hp_109 31 (by decide)).trans (hp_9 31 (by decide)))
          refine lv_lstore_n (lv' := [(2, .long (jv r_107)), (1, .int (iv tt)), (0, .ref (oP ω 111))]) hx hb dX12_signed_86 rfl hl (by decide) rfl (fun ls hl => ?_)
          refine lv_aload_n hx hb dX12_signed_87 rfl (lv_at hl 2 rfl) ?_
          refine lv_bipush (v := iv 27) hx hb dX12_signed_88 rfl ?_
          refine lv_lload_n hx hb dX12_signed_90 rfl (lv_at hl 0 rfl) ?_
          refine lv_iload_n hx hb dX12_signed_91 rfl (lv_at hl 1 rfl) ?_
          have e_118 : μ106.1 111 29 = μ.1 111 29 := ((hp_109 29 (by decide)).trans (hp_9 29 (by decide)))
          have e_120 : μ106.1 111 29 = μ.1 111 29 := ((hp_109 29 (by decide)).trans (hp_9 29 (by decide)))
          have hX_119 : ∀ _ : Unit, bd μ106 = 0 → mPX μ μ106 tt 0 1 (11 * (9 - nn μ) - 3) [] := fun _ h0 => (hX_46 () (by have e9 : bd μ6 = bd μ6 := rfl; have e8 : bd μ106 = bd μ106 := rfl; omega)).qm (q0m.fr (K := [111]) (FrM.tr FrM.rf F_108 (by decide)) (by decide) (by decide) (by decide) ((((hp_109 22 (by decide)).trans (hp_9 22 (by decide)))).trans ((hp_9 22 (by decide))).symm) (nS.le (by omega) (Int.le_of_eq (((((hp_109 31 (by decide)).trans (hp_9 31 (by decide)))).trans ((hp_9 31 (by decide))).symm)).symm)))
          have e_121 : μ106.1 111 29 = μ.1 111 29 := ((hp_109 29 (by decide)).trans (hp_9 29 (by decide)))
          have e_122 : μ106.1 111 29 = μ.1 111 29 := ((hp_109 29 (by decide)).trans (hp_9 29 (by decide)))
          have hxt_123 : mEXT μ μ106 := (q0m.fr (K := [111]) (FrM.tr (FrM.tr FrM.rf F_8 (by decide)) F_108 (by decide)) (by decide) (by decide) (by decide) ((hp_109 22 (by decide)).trans (hp_9 22 (by decide))) (nS.le (by omega) (Int.le_of_eq (((hp_109 31 (by decide)).trans (hp_9 31 (by decide)))).symm))).1
          have e_124 : μ106.1 111 22 = μ.1 111 22 := ((hp_109 22 (by decide)).trans (hp_9 22 (by decide)))
          have e_125 : μ106.1 111 22 = μ.1 111 22 := ((hp_109 22 (by decide)).trans (hp_9 22 (by decide)))
          have e_126 : μ106.1 111 22 = μ.1 111 22 := ((hp_109 22 (by decide)).trans (hp_9 22 (by decide)))
          have e_127 : μ106.1 111 22 = μ.1 111 22 := ((hp_109 22 (by decide)).trans (hp_9 22 (by decide)))
          refine xc_iV G (b := 111) (rest := []) (As := [.int (iv 27), .long (jv r_107), .int (iv tt)]) (c_X12_emit ω l μ106 27 r_107 tt (by unfold ir; omega) hr_r_107 (by unfold ir; omega) (by omega)) (wm 9 126 rfl rfl) (wm 9 128 rfl rfl) (wm 0 144 rfl rfl) rfl rfl (by decide) rfl (wm 1 18 rfl rfl) (wm 9 129 rfl rfl) (by decide) hR ⟨nfr hF (by decide), nlo hLo (by decide)⟩ (n := 3) rfl rfl (Nat.le_of_ble_eq_true rfl) hl.1 dX12_signed_92 (fun r_129 μ128 ρ d0 H locs hr_r_129 hp G => ?_)
          have hr_r_129 : -2147483648 ≤ r_129 ∧ r_129 ≤ 2147483647 := hr_r_129
          obtain ⟨F_130, hp_131, hp_132, hp_133, hp_134⟩ := hp
          have hxt_135 : mEXT μ μ128 := hxt_123.tr hp_132.1
          have e_136 : μ128.1 111 31 = μ.1 111 31 := ((hp_131 31 (by decide)).trans ((hp_109 31 (by decide)).trans (hp_9 31 (by decide))))
          have e_137 : wr μ128 = wr μ106 := (wr_cg (hp_131 15 (by decide)))
          have e_138 : bd μ128 = bd μ106 := (bd_cg (hp_131 15 (by decide)) (hp_131 16 (by decide)) (hp_131 17 (by decide)))
          have e_139 : nn μ128 = nn μ106 := (nn_cg (hp_131 15 (by decide)) (hp_131 18 (by decide)))
          have e_141 : μ128.1 111 29 = μ.1 111 29 := ((hp_131 29 (by decide)).trans ((hp_109 29 (by decide)).trans (hp_9 29 (by decide))))
          have hX_140 : ∀ _ : Unit, bd μ128 = 0 → mPX μ μ128 tt 1 1 (11 * (9 - nn μ) - 3) [] := fun _ h0 => (((hX_119 ()) (by have e9 : bd μ106 = bd μ106 := rfl; have e8 : bd μ128 = bd μ106 := (bd_cg (hp_131 15 (by decide)) (hp_131 16 (by decide)) (hp_131 17 (by decide))); omega)).app (mAD.ex (t := tt) (e := 1) hp_132 ((hX_119 ()) (by have e9 : bd μ106 = bd μ106 := rfl; have e8 : bd μ128 = bd μ106 := (bd_cg (hp_131 15 (by decide)) (hp_131 16 (by decide)) (hp_131 17 (by decide))); omega)).h1.1 (by unfold mpl; omega) rfl (by have h9 := ((hX_119 ()) (by have e9 : bd μ106 = bd μ106 := rfl; have e8 : bd μ128 = bd μ106 := (bd_cg (hp_131 15 (by decide)) (hp_131 16 (by decide)) (hp_131 17 (by decide))); omega)).h1; omega) ⟨fun q => absurd q (by decide), ⟨fun q => absurd q (by decide), fun q => absurd q (by decide)⟩, fun q => absurd q (by decide), fun q => absurd q (by decide), fun q => absurd q (by decide), fun q => absurd q (by decide), fun q => absurd q (by decide), fun q => absurd q (by decide), fun q => absurd q (by decide), fun q => absurd q (by decide), fun q => absurd q (by decide), fun q => absurd q (by decide), fun q => absurd q (by decide), fun q => absurd q (by decide), fun q => absurd q (by decide), fun q => absurd q (by decide), fun q => absurd q (by decide), fun q => absurd q (by decide), fun _ => ⟨by omega, by omega⟩, fun q => absurd q (by decide), fun q => absurd q (by decide), ⟨fun q => absurd q (by decide), fun q => absurd q (by decide), fun q => absurd q (by decide)⟩, ⟨by decide, by decide⟩⟩) (by have h9 := ((hX_119 ()) (by have e9 : bd μ106 = bd μ106 := rfl; have e8 : bd μ128 = bd μ106 := (bd_cg (hp_131 15 (by decide)) (hp_131 16 (by decide)) (hp_131 17 (by decide))); omega)).h1; omega)).ee (by omega)
          refine lv_pop hx hb dX12_signed_95 rfl ?_
          refine lv_goto (tgt := 107) hx hb dX12_signed_96 (by decide) ?_
          have e_142 : μ128.1 111 9 = μ106.1 111 9 := (hp_131 9 (by decide))
          have e_143 : μ128.1 111 29 = μ.1 111 29 := ((hp_131 29 (by decide)).trans ((hp_109 29 (by decide)).trans (hp_9 29 (by decide))))
          have e_144 : μ128.1 111 39 = μ.1 111 39 := ((hp_131 39 (by decide)).trans ((hp_109 39 (by decide)).trans (hp_9 39 (by decide))))
          have e_145 : wr μ128 = wr μ106 := (wr_cg (hp_131 15 (by decide)))
          have e_146 : bd μ128 = bd μ106 := (bd_cg (hp_131 15 (by decide)) (hp_131 16 (by decide)) (hp_131 17 (by decide)))
          have e_147 : nn μ128 = nn μ106 := (nn_cg (hp_131 15 (by decide)) (hp_131 18 (by decide)))
          have hPM_148 : PM μ128 := hp_110.cg ((((hp_131 4 (by decide)).trans ((hp_109 4 (by decide)).trans (hp_9 4 (by decide))))).trans (((hp_109 4 (by decide)).trans (hp_9 4 (by decide)))).symm) (hp_131 6 (by decide)) ((((hp_131 7 (by decide)).trans ((hp_109 7 (by decide)).trans (hp_9 7 (by decide))))).trans (((hp_109 7 (by decide)).trans (hp_9 7 (by decide)))).symm) (hp_131 8 (by decide)) (hp_131 9 (by decide)) (hp_131 11 (by decide)) (hp_131 12 (by decide)) ((((hp_131 14 (by decide)).trans ((hp_109 14 (by decide)).trans ((hp_9 14 (by decide)).trans htt.symm)))).trans (((hp_109 14 (by decide)).trans ((hp_9 14 (by decide)).trans htt.symm))).symm) (hp_131 15 (by decide)) ((((hp_131 29 (by decide)).trans ((hp_109 29 (by decide)).trans (hp_9 29 (by decide))))).trans (((hp_109 29 (by decide)).trans (hp_9 29 (by decide)))).symm) (fun j => (F_130.1 123 (by decide) j))
          have e_149 : μ128.1 111 9 = μ106.1 111 9 := (hp_131 9 (by decide))
          have e_150 : wr μ128 = wr μ106 := (wr_cg (hp_131 15 (by decide)))
          have e_151 : μ128.1 111 9 = μ106.1 111 9 := (hp_131 9 (by decide))
          have e_152 : μ128.1 111 29 = μ.1 111 29 := ((hp_131 29 (by decide)).trans ((hp_109 29 (by decide)).trans (hp_9 29 (by decide))))
          have e_153 : wr μ128 = wr μ106 := (wr_cg (hp_131 15 (by decide)))
          have e_154 : bd μ128 = bd μ106 := (bd_cg (hp_131 15 (by decide)) (hp_131 16 (by decide)) (hp_131 17 (by decide)))
          have e_155 : wr μ128 = wr μ106 := (wr_cg (hp_131 15 (by decide)))
          have e_156 : nn μ128 = nn μ106 := (nn_cg (hp_131 15 (by decide)) (hp_131 18 (by decide)))
          have e_157 : μ128.1 111 39 = μ.1 111 39 := ((hp_131 39 (by decide)).trans ((hp_109 39 (by decide)).trans (hp_9 39 (by decide))))
          exact xr_v G hret hlk dX12_signed_107 ⟨(FrM.tr (FrM.tr (FrM.tr FrM.rf F_8 (by decide)) F_108 (by decide)) F_130 (by decide)), (fun j hj => ((hp_131 j (fun h9 => hj ((by decide : ∀ x ∈ ([22] : List Int), x ∈ ([6, 8, 9, 10, 11, 12, 13, 15, 16, 17, 18, 22, 29, 39] : List Int)) j h9))).trans ((hp_109 j (fun h9 => hj ((by decide : ∀ x ∈ ([6, 8, 9, 10, 11, 12, 13, 15] : List Int), x ∈ ([6, 8, 9, 10, 11, 12, 13, 15, 16, 17, 18, 22, 29, 39] : List Int)) j h9))).trans (hp_9 j (fun h9 => hj ((by decide : ∀ x ∈ ([6, 8, 9, 10, 11, 12, 13, 15] : List Int), x ∈ ([6, 8, 9, 10, 11, 12, 13, 15, 16, 17, 18, 22, 29, 39] : List Int)) j h9)))))), hPM_148, (by omega), (by omega), (by omega), (by omega), (by omega), (by omega), (fun j hj => ((F_130.1 126 (by decide) j).trans ((F_108.1 126 (by decide) j).trans (F_8.1 126 (by decide) j)))), (fun _ h0 => (mPX.ex ((hX_140 ()) h0)).e (by omega)), hxt_135⟩
        · refine lv_aload_n hx hb dX12_signed_55 rfl (lv_at hl 1 rfl) ?_
          refine xa_geti G fd_X12 (a := 111) (x := μ6.1 111 11) 11 rfl (by decide) rfl (wm 7 160 rfl rfl) ⟨rfl, rfl, rfl⟩ dX12_signed_56 rfl rfl ?_
          have hr_158 : -2147483648 ≤ μ6.1 111 11 ∧ μ6.1 111 11 ≤ 2147483647 := by have h9 := G.hr (a := 111) (k := 11) rfl; exact h9
          refine lv_bipush (v := iv 29) hx hb dX12_signed_59 rfl ?_
          refine xb_icmp_lt (tgt := 82) hx hb (by unfold ir; omega) (by unfold ir; omega) dX12_signed_61 (by decide) (fun c_61 => ?_) (fun c_61 => ?_)
          · refine lv_aload_n hx hb dX12_signed_82 rfl (lv_at hl 1 rfl) ?_
            refine xc_lV G (b := 111) (rest := []) (As := []) (c_X12_takesName ω l μ6  hp_10 (by omega)) (wm 9 70 rfl rfl) (wm 9 72 rfl rfl) (wm 0 130 rfl rfl) rfl rfl (by decide) rfl (wm 1 18 rfl rfl) (wm 9 73 rfl rfl) (by decide) hR ⟨nfr hF (by decide), nlo hLo (by decide)⟩ (n := 0) rfl rfl (Nat.le_of_ble_eq_true rfl) hl.1 dX12_signed_83 (fun r_160 μ159 ρ d0 H locs hr_r_160 hp G => ?_)
            obtain ⟨F_161, hp_162, hp_163, hp_164, hp_165, hp_166, hp_167⟩ := hp
            have hpl_168 := hp_163.pl
            have hw_169 := wr_r (μ := μ159)
            have e_170 : μ159.1 111 31 = μ.1 111 31 := ((hp_162 31 (by decide)).trans (hp_9 31 (by decide)))
            refine lv_lstore_n (lv' := [(2, .long (jv r_160)), (1, .int (iv tt)), (0, .ref (oP ω 111))]) hx hb dX12_signed_86 rfl hl (by decide) rfl (fun ls hl => ?_)
            refine lv_aload_n hx hb dX12_signed_87 rfl (lv_at hl 2 rfl) ?_
            refine lv_bipush (v := iv 27) hx hb dX12_signed_88 rfl ?_
            refine lv_lload_n hx hb dX12_signed_90 rfl (lv_at hl 0 rfl) ?_
            refine lv_iload_n hx hb dX12_signed_91 rfl (lv_at hl 1 rfl) ?_
            have e_171 : μ159.1 111 29 = μ.1 111 29 := ((hp_162 29 (by decide)).trans (hp_9 29 (by decide)))
            have e_173 : μ159.1 111 29 = μ.1 111 29 := ((hp_162 29 (by decide)).trans (hp_9 29 (by decide)))
            have hX_172 : ∀ _ : Unit, bd μ159 = 0 → mPX μ μ159 tt 0 1 (11 * (9 - nn μ) - 3) [] := fun _ h0 => (hX_46 () (by have e9 : bd μ6 = bd μ6 := rfl; have e8 : bd μ159 = bd μ159 := rfl; omega)).qm (q0m.fr (K := [111]) (FrM.tr FrM.rf F_161 (by decide)) (by decide) (by decide) (by decide) ((((hp_162 22 (by decide)).trans (hp_9 22 (by decide)))).trans ((hp_9 22 (by decide))).symm) (nS.le (by omega) (Int.le_of_eq (((((hp_162 31 (by decide)).trans (hp_9 31 (by decide)))).trans ((hp_9 31 (by decide))).symm)).symm)))
            have e_174 : μ159.1 111 29 = μ.1 111 29 := ((hp_162 29 (by decide)).trans (hp_9 29 (by decide)))
            have e_175 : μ159.1 111 29 = μ.1 111 29 := ((hp_162 29 (by decide)).trans (hp_9 29 (by decide)))
            have hxt_176 : mEXT μ μ159 := (q0m.fr (K := [111]) (FrM.tr (FrM.tr FrM.rf F_8 (by decide)) F_161 (by decide)) (by decide) (by decide) (by decide) ((hp_162 22 (by decide)).trans (hp_9 22 (by decide))) (nS.le (by omega) (Int.le_of_eq (((hp_162 31 (by decide)).trans (hp_9 31 (by decide)))).symm))).1
            have e_177 : μ159.1 111 22 = μ.1 111 22 := ((hp_162 22 (by decide)).trans (hp_9 22 (by decide)))
            have e_178 : μ159.1 111 22 = μ.1 111 22 := ((hp_162 22 (by decide)).trans (hp_9 22 (by decide)))
            have e_179 : μ159.1 111 22 = μ.1 111 22 := ((hp_162 22 (by decide)).trans (hp_9 22 (by decide)))
            have e_180 : μ159.1 111 22 = μ.1 111 22 := ((hp_162 22 (by decide)).trans (hp_9 22 (by decide)))
            refine xc_iV G (b := 111) (rest := []) (As := [.int (iv 27), .long (jv r_160), .int (iv tt)]) (c_X12_emit ω l μ159 27 r_160 tt (by unfold ir; omega) hr_r_160 (by unfold ir; omega) (by omega)) (wm 9 126 rfl rfl) (wm 9 128 rfl rfl) (wm 0 144 rfl rfl) rfl rfl (by decide) rfl (wm 1 18 rfl rfl) (wm 9 129 rfl rfl) (by decide) hR ⟨nfr hF (by decide), nlo hLo (by decide)⟩ (n := 3) rfl rfl (Nat.le_of_ble_eq_true rfl) hl.1 dX12_signed_92 (fun r_182 μ181 ρ d0 H locs hr_r_182 hp G => ?_)
            have hr_r_182 : -2147483648 ≤ r_182 ∧ r_182 ≤ 2147483647 := hr_r_182
            obtain ⟨F_183, hp_184, hp_185, hp_186, hp_187⟩ := hp
            have hxt_188 : mEXT μ μ181 := hxt_176.tr hp_185.1
            have e_189 : μ181.1 111 31 = μ.1 111 31 := ((hp_184 31 (by decide)).trans ((hp_162 31 (by decide)).trans (hp_9 31 (by decide))))
            have e_190 : wr μ181 = wr μ159 := (wr_cg (hp_184 15 (by decide)))
            have e_191 : bd μ181 = bd μ159 := (bd_cg (hp_184 15 (by decide)) (hp_184 16 (by decide)) (hp_184 17 (by decide)))
            have e_192 : nn μ181 = nn μ159 := (nn_cg (hp_184 15 (by decide)) (hp_184 18 (by decide)))
            have e_194 : μ181.1 111 29 = μ.1 111 29 := ((hp_184 29 (by decide)).trans ((hp_162 29 (by decide)).trans (hp_9 29 (by decide))))
            have hX_193 : ∀ _ : Unit, bd μ181 = 0 → mPX μ μ181 tt 1 1 (11 * (9 - nn μ) - 3) [] := fun _ h0 => (((hX_172 ()) (by have e9 : bd μ159 = bd μ159 := rfl; have e8 : bd μ181 = bd μ159 := (bd_cg (hp_184 15 (by decide)) (hp_184 16 (by decide)) (hp_184 17 (by decide))); omega)).app (mAD.ex (t := tt) (e := 1) hp_185 ((hX_172 ()) (by have e9 : bd μ159 = bd μ159 := rfl; have e8 : bd μ181 = bd μ159 := (bd_cg (hp_184 15 (by decide)) (hp_184 16 (by decide)) (hp_184 17 (by decide))); omega)).h1.1 (by unfold mpl; omega) rfl (by have h9 := ((hX_172 ()) (by have e9 : bd μ159 = bd μ159 := rfl; have e8 : bd μ181 = bd μ159 := (bd_cg (hp_184 15 (by decide)) (hp_184 16 (by decide)) (hp_184 17 (by decide))); omega)).h1; omega) ⟨fun q => absurd q (by decide), ⟨fun q => absurd q (by decide), fun q => absurd q (by decide)⟩, fun q => absurd q (by decide), fun q => absurd q (by decide), fun q => absurd q (by decide), fun q => absurd q (by decide), fun q => absurd q (by decide), fun q => absurd q (by decide), fun q => absurd q (by decide), fun q => absurd q (by decide), fun q => absurd q (by decide), fun q => absurd q (by decide), fun q => absurd q (by decide), fun q => absurd q (by decide), fun q => absurd q (by decide), fun q => absurd q (by decide), fun q => absurd q (by decide), fun q => absurd q (by decide), fun _ => ⟨by omega, by omega⟩, fun q => absurd q (by decide), fun q => absurd q (by decide), ⟨fun q => absurd q (by decide), fun q => absurd q (by decide), fun q => absurd q (by decide)⟩, ⟨by decide, by decide⟩⟩) (by have h9 := ((hX_172 ()) (by have e9 : bd μ159 = bd μ159 := rfl; have e8 : bd μ181 = bd μ159 := (bd_cg (hp_184 15 (by decide)) (hp_184 16 (by decide)) (hp_184 17 (by decide))); omega)).h1; omega)).ee (by omega)
            refine lv_pop hx hb dX12_signed_95 rfl ?_
            refine lv_goto (tgt := 107) hx hb dX12_signed_96 (by decide) ?_
            have e_195 : μ181.1 111 9 = μ159.1 111 9 := (hp_184 9 (by decide))
            have e_196 : μ181.1 111 29 = μ.1 111 29 := ((hp_184 29 (by decide)).trans ((hp_162 29 (by decide)).trans (hp_9 29 (by decide))))
            have e_197 : μ181.1 111 39 = μ.1 111 39 := ((hp_184 39 (by decide)).trans ((hp_162 39 (by decide)).trans (hp_9 39 (by decide))))
            have e_198 : wr μ181 = wr μ159 := (wr_cg (hp_184 15 (by decide)))
            have e_199 : bd μ181 = bd μ159 := (bd_cg (hp_184 15 (by decide)) (hp_184 16 (by decide)) (hp_184 17 (by decide)))
            have e_200 : nn μ181 = nn μ159 := (nn_cg (hp_184 15 (by decide)) (hp_184 18 (by decide)))
            have hPM_201 : PM μ181 := hp_163.cg ((((hp_184 4 (by decide)).trans ((hp_162 4 (by decide)).trans (hp_9 4 (by decide))))).trans (((hp_162 4 (by decide)).trans (hp_9 4 (by decide)))).symm) (hp_184 6 (by decide)) ((((hp_184 7 (by decide)).trans ((hp_162 7 (by decide)).trans (hp_9 7 (by decide))))).trans (((hp_162 7 (by decide)).trans (hp_9 7 (by decide)))).symm) (hp_184 8 (by decide)) (hp_184 9 (by decide)) (hp_184 11 (by decide)) (hp_184 12 (by decide)) ((((hp_184 14 (by decide)).trans ((hp_162 14 (by decide)).trans ((hp_9 14 (by decide)).trans htt.symm)))).trans (((hp_162 14 (by decide)).trans ((hp_9 14 (by decide)).trans htt.symm))).symm) (hp_184 15 (by decide)) ((((hp_184 29 (by decide)).trans ((hp_162 29 (by decide)).trans (hp_9 29 (by decide))))).trans (((hp_162 29 (by decide)).trans (hp_9 29 (by decide)))).symm) (fun j => (F_183.1 123 (by decide) j))
            have e_202 : μ181.1 111 9 = μ159.1 111 9 := (hp_184 9 (by decide))
            have e_203 : wr μ181 = wr μ159 := (wr_cg (hp_184 15 (by decide)))
            have e_204 : μ181.1 111 9 = μ159.1 111 9 := (hp_184 9 (by decide))
            have e_205 : μ181.1 111 29 = μ.1 111 29 := ((hp_184 29 (by decide)).trans ((hp_162 29 (by decide)).trans (hp_9 29 (by decide))))
            have e_206 : wr μ181 = wr μ159 := (wr_cg (hp_184 15 (by decide)))
            have e_207 : bd μ181 = bd μ159 := (bd_cg (hp_184 15 (by decide)) (hp_184 16 (by decide)) (hp_184 17 (by decide)))
            have e_208 : wr μ181 = wr μ159 := (wr_cg (hp_184 15 (by decide)))
            have e_209 : nn μ181 = nn μ159 := (nn_cg (hp_184 15 (by decide)) (hp_184 18 (by decide)))
            have e_210 : μ181.1 111 39 = μ.1 111 39 := ((hp_184 39 (by decide)).trans ((hp_162 39 (by decide)).trans (hp_9 39 (by decide))))
            exact xr_v G hret hlk dX12_signed_107 ⟨(FrM.tr (FrM.tr (FrM.tr FrM.rf F_8 (by decide)) F_161 (by decide)) F_183 (by decide)), (fun j hj => ((hp_184 j (fun h9 => hj ((by decide : ∀ x ∈ ([22] : List Int), x ∈ ([6, 8, 9, 10, 11, 12, 13, 15, 16, 17, 18, 22, 29, 39] : List Int)) j h9))).trans ((hp_162 j (fun h9 => hj ((by decide : ∀ x ∈ ([6, 8, 9, 10, 11, 12, 13, 15] : List Int), x ∈ ([6, 8, 9, 10, 11, 12, 13, 15, 16, 17, 18, 22, 29, 39] : List Int)) j h9))).trans (hp_9 j (fun h9 => hj ((by decide : ∀ x ∈ ([6, 8, 9, 10, 11, 12, 13, 15] : List Int), x ∈ ([6, 8, 9, 10, 11, 12, 13, 15, 16, 17, 18, 22, 29, 39] : List Int)) j h9)))))), hPM_201, (by omega), (by omega), (by omega), (by omega), (by omega), (by omega), (fun j hj => ((F_183.1 126 (by decide) j).trans ((F_161.1 126 (by decide) j).trans (F_8.1 126 (by decide) j)))), (fun _ h0 => (mPX.ex ((hX_193 ()) h0)).e (by omega)), hxt_188⟩
          · have hwh_211 := hp_10.1.2.2.2.2.1
            refine lv_aload_n hx hb dX12_signed_64 rfl (lv_at hl 1 rfl) ?_
            refine xa_geti G fd_X12 (a := 111) (x := μ6.1 111 11) 11 rfl (by decide) rfl (wm 7 160 rfl rfl) ⟨rfl, rfl, rfl⟩ dX12_signed_65 rfl rfl ?_
            refine lv_bipush (v := iv 29) hx hb dX12_signed_68 rfl ?_
            refine xb_isub hx hb dX12_signed_70 ?_
            refine lv_istore_n (lv' := [(1, .int (iv ((μ6.1 111 11) - 29))), (0, .ref (oP ω 111))]) hx hb dX12_signed_71 rfl hl (by decide) rfl (fun ls hl => ?_)
            refine lv_aload_n hx hb dX12_signed_72 rfl (lv_at hl 1 rfl) ?_
            refine xc_vV G (b := 111) (rest := []) (As := []) (c_X12_next ω l μ6  hp_10 (by omega) (by omega)) (wm 9 0 rfl rfl) (wm 9 2 rfl rfl) (wm 0 119 rfl rfl) rfl rfl (by decide) rfl (wm 1 18 rfl rfl) (wm 9 3 rfl rfl) (by decide) hR ⟨nfr hF (by decide), nlo hLo (by decide)⟩ (n := 0) rfl rfl (Nat.le_of_ble_eq_true rfl) hl.1 dX12_signed_73 (fun μ212 ρ d0 H locs hp G => ?_)
            obtain ⟨F_213, hp_214, hp_215, hp_216, hp_217, hp_218⟩ := hp
            have hpl_219 := hp_215.pl
            have hw_220 := wr_r (μ := μ212)
            have e_221 : μ212.1 111 31 = μ.1 111 31 := ((hp_214 31 (by decide)).trans (hp_9 31 (by decide)))
            refine lv_aload_n hx hb dX12_signed_76 rfl (lv_at hl 1 rfl) ?_
            refine lv_bipush (v := iv 46) hx hb dX12_signed_77 rfl ?_
            have e_222 : μ212.1 111 29 = μ.1 111 29 := ((hp_214 29 (by decide)).trans (hp_9 29 (by decide)))
            have e_224 : μ212.1 111 29 = μ.1 111 29 := ((hp_214 29 (by decide)).trans (hp_9 29 (by decide)))
            have hX_223 : ∀ _ : Unit, bd μ212 = 0 → mPX μ μ212 tt 0 1 (11 * (9 - nn μ) - 3) [] := fun _ h0 => (hX_46 () (by have e9 : bd μ6 = bd μ6 := rfl; have e8 : bd μ212 = bd μ212 := rfl; omega)).qm (q0m.fr (K := [111]) (FrM.tr FrM.rf F_213 (by decide)) (by decide) (by decide) (by decide) ((((hp_214 22 (by decide)).trans (hp_9 22 (by decide)))).trans ((hp_9 22 (by decide))).symm) (nS.le (by omega) (Int.le_of_eq (((((hp_214 31 (by decide)).trans (hp_9 31 (by decide)))).trans ((hp_9 31 (by decide))).symm)).symm)))
            refine xc_vV G (b := 111) (rest := []) (As := [.int (iv 46)]) (c_X12_wantsSign ω l μ212 46 (by unfold ir; omega) hp_215 (by omega)) (wm 9 114 rfl rfl) (wm 9 116 rfl rfl) (wm 0 141 rfl rfl) rfl rfl (by decide) rfl (wm 1 18 rfl rfl) (wm 9 117 rfl rfl) (by decide) hR ⟨nfr hF (by decide), nlo hLo (by decide)⟩ (n := 1) rfl rfl (Nat.le_of_ble_eq_true rfl) hl.1 dX12_signed_79 (fun μ225 ρ d0 H locs hp G => ?_)
            obtain ⟨F_226, hp_227, hp_228, hp_229, hp_230, hp_231, hp_232⟩ := hp
            have hpl_233 := hp_228.pl
            have hw_234 := wr_r (μ := μ225)
            have e_235 : μ225.1 111 31 = μ.1 111 31 := ((hp_227 31 (by decide)).trans ((hp_214 31 (by decide)).trans (hp_9 31 (by decide))))
            refine lv_aload_n hx hb dX12_signed_82 rfl (lv_at hl 1 rfl) ?_
            have e_236 : μ225.1 111 29 = μ.1 111 29 := ((hp_227 29 (by decide)).trans ((hp_214 29 (by decide)).trans (hp_9 29 (by decide))))
            have e_238 : μ225.1 111 29 = μ.1 111 29 := ((hp_227 29 (by decide)).trans ((hp_214 29 (by decide)).trans (hp_9 29 (by decide))))
            have hX_237 : ∀ _ : Unit, bd μ225 = 0 → mPX μ μ225 tt 0 1 (11 * (9 - nn μ) - 3) [] := fun _ h0 => (hX_223 () (by have e9 : bd μ212 = bd μ212 := rfl; have e8 : bd μ225 = bd μ225 := rfl; omega)).qm (q0m.fr (K := [111]) (FrM.tr FrM.rf F_226 (by decide)) (by decide) (by decide) (by decide) ((((hp_227 22 (by decide)).trans ((hp_214 22 (by decide)).trans (hp_9 22 (by decide))))).trans (((hp_214 22 (by decide)).trans (hp_9 22 (by decide)))).symm) (nS.le (by omega) (Int.le_of_eq (((((hp_227 31 (by decide)).trans ((hp_214 31 (by decide)).trans (hp_9 31 (by decide))))).trans (((hp_214 31 (by decide)).trans (hp_9 31 (by decide)))).symm)).symm)))
            refine xc_lV G (b := 111) (rest := []) (As := []) (c_X12_takesName ω l μ225  hp_228 (by omega)) (wm 9 70 rfl rfl) (wm 9 72 rfl rfl) (wm 0 130 rfl rfl) rfl rfl (by decide) rfl (wm 1 18 rfl rfl) (wm 9 73 rfl rfl) (by decide) hR ⟨nfr hF (by decide), nlo hLo (by decide)⟩ (n := 0) rfl rfl (Nat.le_of_ble_eq_true rfl) hl.1 dX12_signed_83 (fun r_240 μ239 ρ d0 H locs hr_r_240 hp G => ?_)
            obtain ⟨F_241, hp_242, hp_243, hp_244, hp_245, hp_246, hp_247⟩ := hp
            have hpl_248 := hp_243.pl
            have hw_249 := wr_r (μ := μ239)
            have e_250 : μ239.1 111 31 = μ.1 111 31 := ((hp_242 31 (by decide)).trans ((hp_227 31 (by decide)).trans ((hp_214 31 (by decide)).trans (hp_9 31 (by decide)))))
            refine lv_lstore_n (lv' := [(2, .long (jv r_240)), (1, .int (iv ((μ6.1 111 11) - 29))), (0, .ref (oP ω 111))]) hx hb dX12_signed_86 rfl hl (by decide) rfl (fun ls hl => ?_)
            refine lv_aload_n hx hb dX12_signed_87 rfl (lv_at hl 2 rfl) ?_
            refine lv_bipush (v := iv 27) hx hb dX12_signed_88 rfl ?_
            refine lv_lload_n hx hb dX12_signed_90 rfl (lv_at hl 0 rfl) ?_
            refine lv_iload_n hx hb dX12_signed_91 rfl (lv_at hl 1 rfl) ?_
            have e_251 : μ239.1 111 29 = μ.1 111 29 := ((hp_242 29 (by decide)).trans ((hp_227 29 (by decide)).trans ((hp_214 29 (by decide)).trans (hp_9 29 (by decide)))))
            have e_253 : μ239.1 111 29 = μ.1 111 29 := ((hp_242 29 (by decide)).trans ((hp_227 29 (by decide)).trans ((hp_214 29 (by decide)).trans (hp_9 29 (by decide)))))
            have hX_252 : ∀ _ : Unit, bd μ239 = 0 → mPX μ μ239 tt 0 1 (11 * (9 - nn μ) - 3) [] := fun _ h0 => (hX_237 () (by have e9 : bd μ225 = bd μ225 := rfl; have e8 : bd μ239 = bd μ239 := rfl; omega)).qm (q0m.fr (K := [111]) (FrM.tr FrM.rf F_241 (by decide)) (by decide) (by decide) (by decide) ((((hp_242 22 (by decide)).trans ((hp_227 22 (by decide)).trans ((hp_214 22 (by decide)).trans (hp_9 22 (by decide)))))).trans (((hp_227 22 (by decide)).trans ((hp_214 22 (by decide)).trans (hp_9 22 (by decide))))).symm) (nS.le (by omega) (Int.le_of_eq (((((hp_242 31 (by decide)).trans ((hp_227 31 (by decide)).trans ((hp_214 31 (by decide)).trans (hp_9 31 (by decide)))))).trans (((hp_227 31 (by decide)).trans ((hp_214 31 (by decide)).trans (hp_9 31 (by decide))))).symm)).symm)))
            have e_254 : μ239.1 111 29 = μ.1 111 29 := ((hp_242 29 (by decide)).trans ((hp_227 29 (by decide)).trans ((hp_214 29 (by decide)).trans (hp_9 29 (by decide)))))
            have e_255 : μ239.1 111 29 = μ.1 111 29 := ((hp_242 29 (by decide)).trans ((hp_227 29 (by decide)).trans ((hp_214 29 (by decide)).trans (hp_9 29 (by decide)))))
            have hxt_256 : mEXT μ μ239 := (q0m.fr (K := [111]) (FrM.tr (FrM.tr (FrM.tr (FrM.tr FrM.rf F_8 (by decide)) F_213 (by decide)) F_226 (by decide)) F_241 (by decide)) (by decide) (by decide) (by decide) ((hp_242 22 (by decide)).trans ((hp_227 22 (by decide)).trans ((hp_214 22 (by decide)).trans (hp_9 22 (by decide))))) (nS.le (by omega) (Int.le_of_eq (((hp_242 31 (by decide)).trans ((hp_227 31 (by decide)).trans ((hp_214 31 (by decide)).trans (hp_9 31 (by decide)))))).symm))).1
            have e_257 : μ239.1 111 22 = μ.1 111 22 := ((hp_242 22 (by decide)).trans ((hp_227 22 (by decide)).trans ((hp_214 22 (by decide)).trans (hp_9 22 (by decide)))))
            have e_258 : μ239.1 111 22 = μ.1 111 22 := ((hp_242 22 (by decide)).trans ((hp_227 22 (by decide)).trans ((hp_214 22 (by decide)).trans (hp_9 22 (by decide)))))
            have e_259 : μ239.1 111 22 = μ.1 111 22 := ((hp_242 22 (by decide)).trans ((hp_227 22 (by decide)).trans ((hp_214 22 (by decide)).trans (hp_9 22 (by decide)))))
            have e_260 : μ239.1 111 22 = μ.1 111 22 := ((hp_242 22 (by decide)).trans ((hp_227 22 (by decide)).trans ((hp_214 22 (by decide)).trans (hp_9 22 (by decide)))))
            refine xc_iV G (b := 111) (rest := []) (As := [.int (iv 27), .long (jv r_240), .int (iv ((μ6.1 111 11) - 29))]) (c_X12_emit ω l μ239 27 r_240 ((μ6.1 111 11) - 29) (by unfold ir; omega) hr_r_240 (by unfold ir; omega) (by omega)) (wm 9 126 rfl rfl) (wm 9 128 rfl rfl) (wm 0 144 rfl rfl) rfl rfl (by decide) rfl (wm 1 18 rfl rfl) (wm 9 129 rfl rfl) (by decide) hR ⟨nfr hF (by decide), nlo hLo (by decide)⟩ (n := 3) rfl rfl (Nat.le_of_ble_eq_true rfl) hl.1 dX12_signed_92 (fun r_262 μ261 ρ d0 H locs hr_r_262 hp G => ?_)
            have hr_r_262 : -2147483648 ≤ r_262 ∧ r_262 ≤ 2147483647 := hr_r_262
            obtain ⟨F_263, hp_264, hp_265, hp_266, hp_267⟩ := hp
            have hxt_268 : mEXT μ μ261 := hxt_256.tr hp_265.1
            have e_269 : μ261.1 111 31 = μ.1 111 31 := ((hp_264 31 (by decide)).trans ((hp_242 31 (by decide)).trans ((hp_227 31 (by decide)).trans ((hp_214 31 (by decide)).trans (hp_9 31 (by decide))))))
            have e_270 : wr μ261 = wr μ239 := (wr_cg (hp_264 15 (by decide)))
            have e_271 : bd μ261 = bd μ239 := (bd_cg (hp_264 15 (by decide)) (hp_264 16 (by decide)) (hp_264 17 (by decide)))
            have e_272 : nn μ261 = nn μ239 := (nn_cg (hp_264 15 (by decide)) (hp_264 18 (by decide)))
            have e_274 : μ261.1 111 29 = μ.1 111 29 := ((hp_264 29 (by decide)).trans ((hp_242 29 (by decide)).trans ((hp_227 29 (by decide)).trans ((hp_214 29 (by decide)).trans (hp_9 29 (by decide))))))
            have hX_273 : ∀ _ : Unit, bd μ261 = 0 → mPX μ μ261 tt 1 1 (11 * (9 - nn μ) - 3) [] := fun _ h0 => (((hX_252 ()) (by have e9 : bd μ239 = bd μ239 := rfl; have e8 : bd μ261 = bd μ239 := (bd_cg (hp_264 15 (by decide)) (hp_264 16 (by decide)) (hp_264 17 (by decide))); omega)).app (mAD.ex (t := tt) (e := 1) hp_265 ((hX_252 ()) (by have e9 : bd μ239 = bd μ239 := rfl; have e8 : bd μ261 = bd μ239 := (bd_cg (hp_264 15 (by decide)) (hp_264 16 (by decide)) (hp_264 17 (by decide))); omega)).h1.1 (by unfold mpl; omega) rfl (by have h9 := ((hX_252 ()) (by have e9 : bd μ239 = bd μ239 := rfl; have e8 : bd μ261 = bd μ239 := (bd_cg (hp_264 15 (by decide)) (hp_264 16 (by decide)) (hp_264 17 (by decide))); omega)).h1; omega) ⟨fun q => absurd q (by decide), ⟨fun q => absurd q (by decide), fun q => absurd q (by decide)⟩, fun q => absurd q (by decide), fun q => absurd q (by decide), fun q => absurd q (by decide), fun q => absurd q (by decide), fun q => absurd q (by decide), fun q => absurd q (by decide), fun q => absurd q (by decide), fun q => absurd q (by decide), fun q => absurd q (by decide), fun q => absurd q (by decide), fun q => absurd q (by decide), fun q => absurd q (by decide), fun q => absurd q (by decide), fun q => absurd q (by decide), fun q => absurd q (by decide), fun q => absurd q (by decide), fun _ => ⟨by omega, by omega⟩, fun q => absurd q (by decide), fun q => absurd q (by decide), ⟨fun q => absurd q (by decide), fun q => absurd q (by decide), fun q => absurd q (by decide)⟩, ⟨by decide, by decide⟩⟩) (by have h9 := ((hX_252 ()) (by have e9 : bd μ239 = bd μ239 := rfl; have e8 : bd μ261 = bd μ239 := (bd_cg (hp_264 15 (by decide)) (hp_264 16 (by decide)) (hp_264 17 (by decide))); omega)).h1; omega)).ee (by omega)
            refine lv_pop hx hb dX12_signed_95 rfl ?_
            refine lv_goto (tgt := 107) hx hb dX12_signed_96 (by decide) ?_
            have e_275 : μ261.1 111 9 = μ239.1 111 9 := (hp_264 9 (by decide))
            have e_276 : μ261.1 111 29 = μ.1 111 29 := ((hp_264 29 (by decide)).trans ((hp_242 29 (by decide)).trans ((hp_227 29 (by decide)).trans ((hp_214 29 (by decide)).trans (hp_9 29 (by decide))))))
            have e_277 : μ261.1 111 39 = μ.1 111 39 := ((hp_264 39 (by decide)).trans ((hp_242 39 (by decide)).trans ((hp_227 39 (by decide)).trans ((hp_214 39 (by decide)).trans (hp_9 39 (by decide))))))
            have e_278 : wr μ261 = wr μ239 := (wr_cg (hp_264 15 (by decide)))
            have e_279 : bd μ261 = bd μ239 := (bd_cg (hp_264 15 (by decide)) (hp_264 16 (by decide)) (hp_264 17 (by decide)))
            have e_280 : nn μ261 = nn μ239 := (nn_cg (hp_264 15 (by decide)) (hp_264 18 (by decide)))
            have hPM_281 : PM μ261 := hp_243.cg ((((hp_264 4 (by decide)).trans ((hp_242 4 (by decide)).trans ((hp_227 4 (by decide)).trans ((hp_214 4 (by decide)).trans (hp_9 4 (by decide))))))).trans (((hp_242 4 (by decide)).trans ((hp_227 4 (by decide)).trans ((hp_214 4 (by decide)).trans (hp_9 4 (by decide)))))).symm) (hp_264 6 (by decide)) ((((hp_264 7 (by decide)).trans ((hp_242 7 (by decide)).trans ((hp_227 7 (by decide)).trans ((hp_214 7 (by decide)).trans (hp_9 7 (by decide))))))).trans (((hp_242 7 (by decide)).trans ((hp_227 7 (by decide)).trans ((hp_214 7 (by decide)).trans (hp_9 7 (by decide)))))).symm) (hp_264 8 (by decide)) (hp_264 9 (by decide)) (hp_264 11 (by decide)) (hp_264 12 (by decide)) ((((hp_264 14 (by decide)).trans ((hp_242 14 (by decide)).trans ((hp_227 14 (by decide)).trans ((hp_214 14 (by decide)).trans ((hp_9 14 (by decide)).trans htt.symm)))))).trans (((hp_242 14 (by decide)).trans ((hp_227 14 (by decide)).trans ((hp_214 14 (by decide)).trans ((hp_9 14 (by decide)).trans htt.symm))))).symm) (hp_264 15 (by decide)) ((((hp_264 29 (by decide)).trans ((hp_242 29 (by decide)).trans ((hp_227 29 (by decide)).trans ((hp_214 29 (by decide)).trans (hp_9 29 (by decide))))))).trans (((hp_242 29 (by decide)).trans ((hp_227 29 (by decide)).trans ((hp_214 29 (by decide)).trans (hp_9 29 (by decide)))))).symm) (fun j => (F_263.1 123 (by decide) j))
            have e_282 : μ261.1 111 9 = μ239.1 111 9 := (hp_264 9 (by decide))
            have e_283 : wr μ261 = wr μ239 := (wr_cg (hp_264 15 (by decide)))
            have e_284 : μ261.1 111 9 = μ239.1 111 9 := (hp_264 9 (by decide))
            have e_285 : μ261.1 111 29 = μ.1 111 29 := ((hp_264 29 (by decide)).trans ((hp_242 29 (by decide)).trans ((hp_227 29 (by decide)).trans ((hp_214 29 (by decide)).trans (hp_9 29 (by decide))))))
            have e_286 : wr μ261 = wr μ239 := (wr_cg (hp_264 15 (by decide)))
            have e_287 : bd μ261 = bd μ239 := (bd_cg (hp_264 15 (by decide)) (hp_264 16 (by decide)) (hp_264 17 (by decide)))
            have e_288 : wr μ261 = wr μ239 := (wr_cg (hp_264 15 (by decide)))
            have e_289 : nn μ261 = nn μ239 := (nn_cg (hp_264 15 (by decide)) (hp_264 18 (by decide)))
            have e_290 : μ261.1 111 39 = μ.1 111 39 := ((hp_264 39 (by decide)).trans ((hp_242 39 (by decide)).trans ((hp_227 39 (by decide)).trans ((hp_214 39 (by decide)).trans (hp_9 39 (by decide))))))
            exact xr_v G hret hlk dX12_signed_107 ⟨(FrM.tr (FrM.tr (FrM.tr (FrM.tr (FrM.tr FrM.rf F_8 (by decide)) F_213 (by decide)) F_226 (by decide)) F_241 (by decide)) F_263 (by decide)), (fun j hj => ((hp_264 j (fun h9 => hj ((by decide : ∀ x ∈ ([22] : List Int), x ∈ ([6, 8, 9, 10, 11, 12, 13, 15, 16, 17, 18, 22, 29, 39] : List Int)) j h9))).trans ((hp_242 j (fun h9 => hj ((by decide : ∀ x ∈ ([6, 8, 9, 10, 11, 12, 13, 15] : List Int), x ∈ ([6, 8, 9, 10, 11, 12, 13, 15, 16, 17, 18, 22, 29, 39] : List Int)) j h9))).trans ((hp_227 j (fun h9 => hj ((by decide : ∀ x ∈ ([6, 8, 9, 10, 11, 12, 13, 15] : List Int), x ∈ ([6, 8, 9, 10, 11, 12, 13, 15, 16, 17, 18, 22, 29, 39] : List Int)) j h9))).trans ((hp_214 j (fun h9 => hj ((by decide : ∀ x ∈ ([6, 8, 9, 10, 11, 12, 13, 15] : List Int), x ∈ ([6, 8, 9, 10, 11, 12, 13, 15, 16, 17, 18, 22, 29, 39] : List Int)) j h9))).trans (hp_9 j (fun h9 => hj ((by decide : ∀ x ∈ ([6, 8, 9, 10, 11, 12, 13, 15] : List Int), x ∈ ([6, 8, 9, 10, 11, 12, 13, 15, 16, 17, 18, 22, 29, 39] : List Int)) j h9)))))))), hPM_281, (by omega), (by omega), (by omega), (by omega), (by omega), (by omega), (fun j hj => ((F_263.1 126 (by decide) j).trans ((F_241.1 126 (by decide) j).trans ((F_226.1 126 (by decide) j).trans ((F_213.1 126 (by decide) j).trans (F_8.1 126 (by decide) j)))))), (fun _ h0 => (mPX.ex ((hX_273 ()) h0)).e (by omega)), hxt_268⟩
  · refine lv_aload_n hx hb dX12_signed_9 rfl (lv_at hl 0 rfl) ?_
    refine xc_vV G (b := 111) (rest := []) (As := []) (c_X12_opens ω l μ  hPM (by omega) (by omega) (by omega)) (wm 9 94 rfl rfl) (wm 9 96 rfl rfl) (wm 0 136 rfl rfl) rfl rfl (by decide) rfl (wm 1 18 rfl rfl) (wm 9 97 rfl rfl) (by decide) hR ⟨nfr hF (by decide), nlo hLo (by decide)⟩ (n := 0) rfl rfl (Nat.le_of_ble_eq_true rfl) hl.1 dX12_signed_10 (fun μ291 ρ d0 H locs hp G => ?_)
    obtain ⟨F_292, hp_293, hp_294, hp_295, hp_296, hp_297, hp_298⟩ := hp
    have hpl_299 := hp_294.pl
    have hw_300 := wr_r (μ := μ291)
    have e_301 : μ291.1 111 31 = μ.1 111 31 := (hp_293 31 (by decide))
    refine lv_aload_n hx hb dX12_signed_13 rfl (lv_at hl 0 rfl) ?_
    have e_302 : μ291.1 111 29 = μ.1 111 29 := (hp_293 29 (by decide))
    have e_304 : μ291.1 111 29 = μ.1 111 29 := (hp_293 29 (by decide))
    have hX_303 : ∀ _ : Unit, bd μ291 = 0 → mPX μ μ291 tt 0 1 (11 * (9 - nn μ) - 3) [] := fun _ h0 => (hX_1 () (by have e9 : bd μ = bd μ := rfl; have e8 : bd μ291 = bd μ291 := rfl; omega)).qm (q0m.fr (K := [111]) (FrM.tr FrM.rf F_292 (by decide)) (by decide) (by decide) (by decide) (hp_293 22 (by decide)) (nS.le (by omega) (Int.le_of_eq ((hp_293 31 (by decide))).symm)))
    have e_305 : μ291.1 111 29 = μ.1 111 29 := (hp_293 29 (by decide))
    have e_306 : μ291.1 111 29 = μ.1 111 29 := (hp_293 29 (by decide))
    have hxt_307 : mEXT μ μ291 := (q0m.fr (K := [111]) (FrM.tr FrM.rf F_292 (by decide)) (by decide) (by decide) (by decide) (hp_293 22 (by decide)) (nS.le (by omega) (Int.le_of_eq ((hp_293 31 (by decide))).symm))).1
    have e_308 : μ291.1 111 14 = tt := ((hp_293 14 (by decide)).trans htt.symm)
    have e_309 : μ291.1 111 22 = μ.1 111 22 := (hp_293 22 (by decide))
    have e_310 : μ291.1 111 22 = μ.1 111 22 := (hp_293 22 (by decide))
    have e_311 : μ291.1 111 39 = μ.1 111 39 := (hp_293 39 (by decide))
    have e_312 : μ291.1 111 39 = μ.1 111 39 := (hp_293 39 (by decide))
    have e_313 : μ291.1 111 22 = μ.1 111 22 := (hp_293 22 (by decide))
    have e_314 : μ291.1 111 31 = μ.1 111 31 := (hp_293 31 (by decide))
    have e_315 : μ291.1 111 31 = μ.1 111 31 := (hp_293 31 (by decide))
    have e_316 : μ291.1 111 22 = μ.1 111 22 := (hp_293 22 (by decide))
    have e_317 : μ291.1 111 22 = μ.1 111 22 := (hp_293 22 (by decide))
    have e_318 : μ291.1 111 29 = μ.1 111 29 := (hp_293 29 (by decide))
    have e_319 : μ291.1 111 39 = μ.1 111 39 := (hp_293 39 (by decide))
    refine xc_vV G (b := 111) (rest := []) (As := []) (((fun (_ : Om) (_ : Launch) => hE)) ω l μ291 tt (by omega) hp_294 (by omega) (by omega) (by omega) (by omega) (by omega) (by omega) (fun _ h0 => ((hX_303 ()) h0).h1.1)) (wm 9 139 rfl rfl) (wm 9 141 rfl rfl) (wm 0 147 rfl rfl) rfl rfl (by decide) rfl (wm 1 18 rfl rfl) (wm 9 142 rfl rfl) (by decide) hR ⟨sfr (F := F) (a := 0) (by decide), slo (L := Lo) (m := 1) (a := 0) (by decide)⟩ (n := 0) rfl rfl (Nat.le_of_ble_eq_true rfl) hl.1 dX12_signed_14 (fun μ320 ρ d0 H locs hp G => ?_)
    obtain ⟨F_321, hp_322, hp_323, hp_324, hp_325, hp_326, hp_327, hp_328, hp_329, hp_330, hp_331, hp_332⟩ := hp
    have hpl_333 := hp_323.pl
    have hw_334 := wr_r (μ := μ320)
    have hxt_335 : mEXT μ μ320 := hxt_307.tr hp_332
    have e_336 : μ320.1 111 31 = μ.1 111 31 := ((hp_322 31 (by decide)).trans (hp_293 31 (by decide)))
    have hX_337 : ∀ _ : Unit, bd μ320 = 0 → mPX μ μ320 tt 1 1 (11 * (9 - nn μ) - 3) [] := fun _ h0 => (((hX_303 ()) (by have e9 : bd μ291 = bd μ291 := rfl; have e8 : bd μ320 = bd μ320 := rfl; omega)).app (hp_331 () h0) (by omega)).ee (by omega)
    refine lv_aload_n hx hb dX12_signed_17 rfl (lv_at hl 0 rfl) ?_
    refine lv_bipush (v := iv 41) hx hb dX12_signed_18 rfl ?_
    refine xc_vV G (b := 111) (rest := []) (As := [.int (iv 41)]) (c_X12_closesWith ω l μ320 41 (by unfold ir; omega) hp_323 (by omega) (by omega)) (wm 9 110 rfl rfl) (wm 9 112 rfl rfl) (wm 0 140 rfl rfl) rfl rfl (by decide) rfl (wm 1 18 rfl rfl) (wm 9 113 rfl rfl) (by decide) hR ⟨nfr hF (by decide), nlo hLo (by decide)⟩ (n := 1) rfl rfl (Nat.le_of_ble_eq_true rfl) hl.1 dX12_signed_20 (fun μ338 ρ d0 H locs hp G => ?_)
    obtain ⟨F_339, hp_340, hp_341, hp_342, hp_343, hp_344, hp_345⟩ := hp
    have hpl_346 := hp_341.pl
    have hw_347 := wr_r (μ := μ338)
    have e_348 : μ338.1 111 31 = μ.1 111 31 := ((hp_340 31 (by decide)).trans ((hp_322 31 (by decide)).trans (hp_293 31 (by decide))))
    refine lv_goto (tgt := 107) hx hb dX12_signed_23 (by decide) ?_
    have e_349 : μ338.1 111 22 = μ320.1 111 22 := (hp_340 22 (by decide))
    have e_350 : μ338.1 111 29 = μ320.1 111 29 := (hp_340 29 (by decide))
    have e_351 : μ338.1 111 39 = μ320.1 111 39 := (hp_340 39 (by decide))
    have e_352 : μ338.1 111 29 = μ320.1 111 29 := (hp_340 29 (by decide))
    have e_354 : μ338.1 111 29 = μ320.1 111 29 := (hp_340 29 (by decide))
    have hX_353 : ∀ _ : Unit, bd μ338 = 0 → mPX μ μ338 tt 1 1 (11 * (9 - nn μ) - 3) [] := fun _ h0 => (hX_337 () (by have e9 : bd μ320 = bd μ320 := rfl; have e8 : bd μ338 = bd μ338 := rfl; omega)).qm (q0m.fr (K := [111]) (FrM.tr FrM.rf F_339 (by decide)) (by decide) (by decide) (by decide) (hp_340 22 (by decide)) (nS.le (by omega) (Int.le_of_eq (((((hp_340 31 (by decide)).trans ((hp_322 31 (by decide)).trans (hp_293 31 (by decide))))).trans (((hp_322 31 (by decide)).trans (hp_293 31 (by decide)))).symm)).symm)))
    have e_355 : μ338.1 111 29 = μ320.1 111 29 := (hp_340 29 (by decide))
    have hxt_356 : mEXT μ μ338 := hxt_335.tr (q0m.fr (K := [111]) (FrM.tr FrM.rf F_339 (by decide)) (by decide) (by decide) (by decide) (hp_340 22 (by decide)) (nS.le (by omega) (Int.le_of_eq (((((hp_340 31 (by decide)).trans ((hp_322 31 (by decide)).trans (hp_293 31 (by decide))))).trans (((hp_322 31 (by decide)).trans (hp_293 31 (by decide)))).symm)).symm))).1
    have e_357 : μ338.1 111 22 = μ320.1 111 22 := (hp_340 22 (by decide))
    have e_358 : μ338.1 111 22 = μ320.1 111 22 := (hp_340 22 (by decide))
    have e_359 : μ338.1 111 29 = μ320.1 111 29 := (hp_340 29 (by decide))
    have e_360 : μ338.1 111 39 = μ320.1 111 39 := (hp_340 39 (by decide))
    exact xr_v G hret hlk dX12_signed_107 ⟨(FrM.tr (FrM.tr (FrM.tr FrM.rf F_292 (by decide)) F_321 (by decide)) F_339 (by decide)), (fun j hj => ((hp_340 j (fun h9 => hj ((by decide : ∀ x ∈ ([6, 8, 9, 10, 11, 12, 13, 15, 18] : List Int), x ∈ ([6, 8, 9, 10, 11, 12, 13, 15, 16, 17, 18, 22, 29, 39] : List Int)) j h9))).trans ((hp_322 j (fun h9 => hj ((by decide : ∀ x ∈ ([6, 8, 9, 10, 11, 12, 13, 15, 16, 17, 18, 22, 29, 39] : List Int), x ∈ ([6, 8, 9, 10, 11, 12, 13, 15, 16, 17, 18, 22, 29, 39] : List Int)) j h9))).trans (hp_293 j (fun h9 => hj ((by decide : ∀ x ∈ ([6, 8, 9, 10, 11, 12, 13, 15, 18] : List Int), x ∈ ([6, 8, 9, 10, 11, 12, 13, 15, 16, 17, 18, 22, 29, 39] : List Int)) j h9)))))), hp_341, (by omega), (by omega), (by omega), (by omega), (by omega), (by omega), (fun j hj => ((F_339.1 126 (by decide) j).trans ((hp_330 j (by omega)).trans (F_292.1 126 (by decide) j)))), (fun _ h0 => (mPX.ex ((hX_353 ()) h0)).e (by omega)), hxt_356⟩

set_option maxHeartbeats 4000000 in
set_option maxRecDepth 100000 in
theorem c_X12_unary (ω : Om) (l : Launch) (μ : M3) (F : Nat) (Lo : Nat) (Fu : Nat) (Lu : Nat) (kf : Int) (tt : Int) (htt : tt = μ.1 111 14) (hF : 60 ≤ F) (hLo : 2000 ≤ Lo) (hFu : Fu ≤ F) (hLu : Lu ≤ Lo) (hE : ∀ (μ : M3) (tt : Int) (htt : tt = μ.1 111 14) (hPM : PM μ) (hnn : 0 ≤ nn μ ∧ nn μ ≤ 9 ∧ 9 * wr μ ≤ nn μ) (hn8 : nn μ ≤ 8 + wr μ) (hcd : 0 ≤ μ.1 111 22 ∧ μ.1 111 22 ≤ 2 * μ.1 111 9 + 200 + 40 * wr μ) (hW : 0 ≤ μ.1 111 39 ∧ μ.1 111 39 ≤ μ.1 111 22) (hsl : 0 ≤ μ.1 111 31 ∧ μ.1 111 31 ≤ 300) (hfu : 0 ≤ (kf - 1) ∧ 9 ≤ nn μ + (kf - 1)) (hH0 : ∀ _ : Unit, bd μ = 0 → mH0 μ), CtV ω l yX12_expr cX12_expr 1 (F + 0) (Lo + 0) [.ref (oP ω 111)] μ (fun (μ' : M3) => (FrM [111, 113, 115, 116, 117, 123, 126] μ μ') ∧ (∀ j, j ∉ ([6, 8, 9, 10, 11, 12, 13, 15, 16, 17, 18, 22, 29, 39] : List Int) → μ'.1 111 j = μ.1 111 j) ∧ (PM μ') ∧ (μ.1 111 22 ≤ μ'.1 111 22 ∧ μ'.1 111 22 ≤ μ.1 111 22 + 2 * (μ'.1 111 9 - μ.1 111 9) + (- 1 + 3 * wr μ' - 2 * wr μ)) ∧ (μ.1 111 9 ≤ μ'.1 111 9) ∧ (μ.1 111 29 ≤ μ'.1 111 29) ∧ (wr μ ≤ wr μ' ∧ bd μ ≤ bd μ') ∧ (nn μ ≤ nn μ' ∧ nn μ' ≤ nn μ + 9 * wr μ' ∧ nn μ' ≤ 9 ∧ 9 * wr μ' ≤ nn μ') ∧ (μ'.1 111 39 = μ.1 111 39) ∧ (∀ j, j < μ.1 111 39 → μ'.1 126 j = μ.1 126 j) ∧ (∀ _ : Unit, bd μ' = 0 → mEX μ μ' tt 1 0 (11 * (9 - nn μ))) ∧ (mEXT μ μ'))) (hU : ∀ (μ : M3) (tt : Int) (htt : tt = μ.1 111 14) (hPM : PM μ) (hnn : 0 ≤ nn μ ∧ nn μ ≤ 9 ∧ 9 * wr μ ≤ nn μ) (hn8 : nn μ ≤ 8 + wr μ) (hcd : 0 ≤ μ.1 111 22 ∧ μ.1 111 22 ≤ 2 * μ.1 111 9 + 200 + 40 * wr μ) (hW : 0 ≤ μ.1 111 39 ∧ μ.1 111 39 ≤ μ.1 111 22) (hsl : 0 ≤ μ.1 111 31 ∧ μ.1 111 31 ≤ 300) (hfu : 0 ≤ (kf - 1) ∧ 9 ≤ nn μ + (kf - 1)) (hH0 : ∀ _ : Unit, bd μ = 0 → mH0 μ), CtV ω l yX12_unary cX12_unary 6 (Fu + 0) (Lu + 0) [.ref (oP ω 111)] μ (fun (μ' : M3) => (FrM [111, 113, 115, 116, 117, 123, 126] μ μ') ∧ (∀ j, j ∉ ([6, 8, 9, 10, 11, 12, 13, 15, 16, 17, 18, 22, 29, 39] : List Int) → μ'.1 111 j = μ.1 111 j) ∧ (PM μ') ∧ (μ.1 111 22 ≤ μ'.1 111 22 ∧ μ'.1 111 22 ≤ μ.1 111 22 + 2 * (μ'.1 111 9 - μ.1 111 9) + (- 1 + 3 * wr μ' - 2 * wr μ)) ∧ (μ.1 111 9 ≤ μ'.1 111 9) ∧ (μ.1 111 29 ≤ μ'.1 111 29) ∧ (wr μ ≤ wr μ' ∧ bd μ ≤ bd μ') ∧ (nn μ ≤ nn μ' ∧ nn μ' ≤ nn μ + 9 * wr μ' ∧ nn μ' ≤ 9 ∧ 9 * wr μ' ≤ nn μ') ∧ (μ'.1 111 39 = μ.1 111 39) ∧ (∀ j, j < μ.1 111 39 → μ'.1 126 j = μ.1 126 j) ∧ (∀ _ : Unit, bd μ' = 0 → mEX μ μ' tt 1 0 (11 * (9 - nn μ) - 3)) ∧ (mEXT μ μ'))) (hPM : PM μ) (hnn : 0 ≤ nn μ ∧ nn μ ≤ 9 ∧ 9 * wr μ ≤ nn μ) (hn8 : nn μ ≤ 8 + wr μ) (hcd : 0 ≤ μ.1 111 22 ∧ μ.1 111 22 ≤ 2 * μ.1 111 9 + 200 + 40 * wr μ) (hW : 0 ≤ μ.1 111 39 ∧ μ.1 111 39 ≤ μ.1 111 22) (hsl : 0 ≤ μ.1 111 31 ∧ μ.1 111 31 ≤ 300) (hfu : 0 ≤ kf ∧ 9 ≤ nn μ + kf) (hH0 : ∀ _ : Unit, bd μ = 0 → mH0 μ) : CtV ω l yX12_unary cX12_unary 6 (F + 4) (Lo + 93) [.ref (oP ω 111)] μ (fun (μ' : M3) => (FrM [111, 113, 115, 116, 117, 123, 126] μ μ') ∧ (∀ j, j ∉ ([6, 8, 9, 10, 11, 12, 13, 15, 16, 17, 18, 22, 29, 39] : List Int) → μ'.1 111 j = μ.1 111 j) ∧ (PM μ') ∧ (μ.1 111 22 ≤ μ'.1 111 22 ∧ μ'.1 111 22 ≤ μ.1 111 22 + 2 * (μ'.1 111 9 - μ.1 111 9) + (- 1 + 3 * wr μ' - 2 * wr μ)) ∧ (μ.1 111 9 ≤ μ'.1 111 9) ∧ (μ.1 111 29 ≤ μ'.1 111 29) ∧ (wr μ ≤ wr μ' ∧ bd μ ≤ bd μ') ∧ (nn μ ≤ nn μ' ∧ nn μ' ≤ nn μ + 9 * wr μ' ∧ nn μ' ≤ 9 ∧ 9 * wr μ' ≤ nn μ') ∧ (μ'.1 111 39 = μ.1 111 39) ∧ (∀ j, j < μ.1 111 39 → μ'.1 126 j = μ.1 126 j) ∧ (∀ _ : Unit, bd μ' = 0 → mEX μ μ' tt 1 0 (11 * (9 - nn μ) - 3)) ∧ (mEXT μ μ')) := by
  refine CtV.go (by decide) (Nat.le_of_ble_eq_true rfl) (fun ρ p e s m below meth c R ls G hR hret hlk hl => ?_)
  have hx := G.1.1
  have hb := G.1.2.1
  have hl : lv_has ls 6 [(0, .ref (oP ω 111))] := hl
  generalize s.drawn = d0 at G ⊢
  have hw_0 := wr_r (μ := μ)
  have hpp_ := hPM.1.2.1
  have hpn_ := hPM.2.1
  have hpt_ := hPM.1.2.2.2.1
  have hpw_ := hPM.1.2.2.2.2.1
  have hpa_ := hPM.1.1
  have hX_1 : ∀ _ : Unit, bd μ = 0 → mPX μ μ tt 0 1 (11 * (9 - nn μ) - 3) [] := fun _ h0 => mPX.nil (hH0 () h0) (by omega)
  refine lv_aload_n hx hb dX12_unary_0 rfl (lv_at hl 0 rfl) ?_
  refine lv_bipush (v := iv 45) hx hb dX12_unary_1 rfl ?_
  refine xc_iV G (b := 111) (rest := []) (As := [.int (iv 45)]) (c_X12_isSign ω l μ 45 (by unfold ir; omega)) (wm 9 90 rfl rfl) (wm 9 92 rfl rfl) (wm 0 135 rfl rfl) rfl rfl (by decide) rfl (wm 1 18 rfl rfl) (wm 9 93 rfl rfl) (by decide) hR ⟨nfr hF (by decide), nlo hLo (by decide)⟩ (n := 1) rfl rfl (Nat.le_of_ble_eq_true rfl) hl.1 dX12_unary_3 (fun r_3 μ2 ρ d0 H locs hr_r_3 hp G => ?_)
  have hr_r_3 : -2147483648 ≤ r_3 ∧ r_3 ≤ 2147483647 := hr_r_3
  obtain ⟨hsm_4, hp_5⟩ := hp
  have hsm_4 := Eq.symm hsm_4
  subst hsm_4
  refine xb_if_eq (tgt := 48) hx hb (by unfold ir; omega) dX12_unary_6 (by decide) (fun c_6 => ?_) (fun c_6 => ?_)
  · refine lv_aload_n hx hb dX12_unary_48 rfl (lv_at hl 0 rfl) ?_
    refine xc_iV G (b := 111) (rest := []) (As := []) (c_X12_isWrong ω l μ  ) (wm 9 4 rfl rfl) (wm 9 6 rfl rfl) (wm 0 120 rfl rfl) rfl rfl (by decide) rfl (wm 1 18 rfl rfl) (wm 9 7 rfl rfl) (by decide) hR ⟨nfr hF (by decide), nlo hLo (by decide)⟩ (n := 0) rfl rfl (Nat.le_of_ble_eq_true rfl) hl.1 dX12_unary_49 (fun r_7 μ6 ρ d0 H locs hr_r_7 hp G => ?_)
    have hr_r_7 : -2147483648 ≤ r_7 ∧ r_7 ≤ 2147483647 := hr_r_7
    obtain ⟨hsm_8, hp_9⟩ := hp
    have hsm_8 := Eq.symm hsm_8
    subst hsm_8
    refine xb_if_eq (tgt := 56) hx hb (by unfold ir; omega) dX12_unary_52 (by decide) (fun c_52 => ?_) (fun c_52 => ?_)
    · refine lv_aload_n hx hb dX12_unary_56 rfl (lv_at hl 0 rfl) ?_
      refine xa_geti G fd_X12 (a := 111) (x := μ.1 111 8) 8 rfl (by decide) rfl (wm 7 157 rfl rfl) ⟨rfl, rfl, rfl⟩ dX12_unary_57 rfl rfl ?_
      have hr_10 : -2147483648 ≤ μ.1 111 8 ∧ μ.1 111 8 ≤ 2147483647 := by have h9 := G.hr (a := 111) (k := 8) rfl; exact h9
      refine lv_iconst (v := iv 2) hx hb dX12_unary_60 rfl ?_
      refine xb_icmp_ne (tgt := 82) hx hb (by unfold ir; omega) (by unfold ir; omega) dX12_unary_61 (by decide) (fun c_61 => ?_) (fun c_61 => ?_)
      · refine lv_aload_n hx hb dX12_unary_82 rfl (lv_at hl 0 rfl) ?_
        refine xa_geti G fd_X12 (a := 111) (x := μ.1 111 8) 8 rfl (by decide) rfl (wm 7 157 rfl rfl) ⟨rfl, rfl, rfl⟩ dX12_unary_83 rfl rfl ?_
        refine xb_if_ne (tgt := 187) hx hb (by unfold ir; omega) dX12_unary_86 (by decide) (fun c_86 => ?_) (fun c_86 => ?_)
        · refine lv_aload_n hx hb dX12_unary_187 rfl (lv_at hl 0 rfl) ?_
          refine xa_geti G fd_X12 (a := 111) (x := μ.1 111 8) 8 rfl (by decide) rfl (wm 7 157 rfl rfl) ⟨rfl, rfl, rfl⟩ dX12_unary_188 rfl rfl ?_
          refine lv_iconst (v := iv 1) hx hb dX12_unary_191 rfl ?_
          refine xb_icmp_ne (tgt := 202) hx hb (by unfold ir; omega) (by unfold ir; omega) dX12_unary_192 (by decide) (fun c_192 => ?_) (fun c_192 => ?_)
          · refine lv_aload_n hx hb dX12_unary_202 rfl (lv_at hl 0 rfl) ?_
            have e_11 : μ.1 111 14 = tt := htt.symm
            refine xc_vV G (b := 111) (rest := []) (As := []) (c_X12_signed ω l μ F Lo Fu Lu kf tt (by omega) hF hLo hFu hLu hE hU hPM (by omega) (by omega) (by omega) (by omega) (by omega) (by omega) (fun _ h0 => ((hX_1 ()) h0).h1.1) (by omega)) (wm 9 215 rfl rfl) (wm 9 217 rfl rfl) (wm 0 166 rfl rfl) rfl rfl (by decide) rfl (wm 1 18 rfl rfl) (wm 9 218 rfl rfl) (by decide) hR ⟨sfr (F := F) (a := 1) (by decide), slo (L := Lo) (m := 4) (a := 20) (by decide)⟩ (n := 0) rfl rfl (Nat.le_of_ble_eq_true rfl) hl.1 dX12_unary_203 (fun μ12 ρ d0 H locs hp G => ?_)
            obtain ⟨F_13, hp_14, hp_15, hp_16, hp_17, hp_18, hp_19, hp_20, hp_21, hp_22, hp_23, hp_24⟩ := hp
            have hpl_25 := hp_15.pl
            have hw_26 := wr_r (μ := μ12)
            have hxt_27 : mEXT μ μ12 := (mEXT.rf (μ := μ)).tr hp_24
            have e_28 : μ12.1 111 31 = μ.1 111 31 := (hp_14 31 (by decide))
            have hX_29 : ∀ _ : Unit, bd μ12 = 0 → mPX μ μ12 tt 1 1 (11 * (9 - nn μ) - 3) [] := fun _ h0 => (((hX_1 ()) (by have e9 : bd μ = bd μ := rfl; have e8 : bd μ12 = bd μ12 := rfl; omega)).app (hp_23 () h0) (by omega)).ee (by omega)
            exact xr_v G hret hlk dX12_unary_206 ⟨(FrM.tr FrM.rf F_13 (by decide)), (fun j hj => (hp_14 j (fun h9 => hj ((by decide : ∀ x ∈ ([6, 8, 9, 10, 11, 12, 13, 15, 16, 17, 18, 22, 29, 39] : List Int), x ∈ ([6, 8, 9, 10, 11, 12, 13, 15, 16, 17, 18, 22, 29, 39] : List Int)) j h9)))), hp_15, (by omega), (by omega), (by omega), (by omega), (by omega), (by omega), (fun j hj => (hp_22 j (by omega))), (fun _ h0 => (mPX.ex ((hX_29 ()) h0)).e (by omega)), hxt_27⟩
          · refine lv_aload_n hx hb dX12_unary_195 rfl (lv_at hl 0 rfl) ?_
            have e_30 : μ.1 111 14 = tt := htt.symm
            refine xc_vV G (b := 111) (rest := []) (As := []) (c_X12_worded ω l μ F Lo Fu Lu kf tt (by omega) hF hLo hFu hLu hE hU hPM (by omega) (by omega) (by omega) (by omega) (by omega) (by omega) (fun _ h0 => ((hX_1 ()) h0).h1.1) (by omega) (by omega)) (wm 9 195 rfl rfl) (wm 9 197 rfl rfl) (wm 0 161 rfl rfl) rfl rfl (by decide) rfl (wm 1 18 rfl rfl) (wm 9 198 rfl rfl) (by decide) hR ⟨sfr (F := F) (a := 3) (by decide), slo (L := Lo) (m := 4) (a := 70) (by decide)⟩ (n := 0) rfl rfl (Nat.le_of_ble_eq_true rfl) hl.1 dX12_unary_196 (fun μ31 ρ d0 H locs hp G => ?_)
            obtain ⟨F_32, hp_33, hp_34, hp_35, hp_36, hp_37, hp_38, hp_39, hp_40, hp_41, hp_42, hp_43⟩ := hp
            have hpl_44 := hp_34.pl
            have hw_45 := wr_r (μ := μ31)
            have hxt_46 : mEXT μ μ31 := (mEXT.rf (μ := μ)).tr hp_43
            have e_47 : μ31.1 111 31 = μ.1 111 31 := (hp_33 31 (by decide))
            have hX_48 : ∀ _ : Unit, bd μ31 = 0 → mPX μ μ31 tt 1 1 (11 * (9 - nn μ) - 3) [] := fun _ h0 => (((hX_1 ()) (by have e9 : bd μ = bd μ := rfl; have e8 : bd μ31 = bd μ31 := rfl; omega)).app (hp_42 () h0) (by omega)).ee (by omega)
            refine lv_goto (tgt := 206) hx hb dX12_unary_199 (by decide) ?_
            exact xr_v G hret hlk dX12_unary_206 ⟨(FrM.tr FrM.rf F_32 (by decide)), (fun j hj => (hp_33 j (fun h9 => hj ((by decide : ∀ x ∈ ([6, 8, 9, 10, 11, 12, 13, 15, 16, 17, 18, 22, 29, 39] : List Int), x ∈ ([6, 8, 9, 10, 11, 12, 13, 15, 16, 17, 18, 22, 29, 39] : List Int)) j h9)))), hp_34, (by omega), (by omega), (by omega), (by omega), (by omega), (by omega), (fun j hj => (hp_41 j (by omega))), (fun _ h0 => (mPX.ex ((hX_48 ()) h0)).e (by omega)), hxt_46⟩
        · refine lv_aload_n hx hb dX12_unary_89 rfl (lv_at hl 0 rfl) ?_
          refine xa_geti G fd_X12 (a := 111) (x := μ.1 111 9) 9 rfl (by decide) rfl (wm 7 158 rfl rfl) ⟨rfl, rfl, rfl⟩ dX12_unary_90 rfl rfl ?_
          have hr_49 : -2147483648 ≤ μ.1 111 9 ∧ μ.1 111 9 ≤ 2147483647 := by have h9 := G.hr (a := 111) (k := 9) rfl; exact h9
          refine lv_istore_n (lv' := [(1, .int (iv (μ.1 111 9))), (0, .ref (oP ω 111))]) hx hb dX12_unary_93 rfl hl (by decide) rfl (fun ls hl => ?_)
          refine lv_aload_n hx hb dX12_unary_94 rfl (lv_at hl 1 rfl) ?_
          refine xa_getl G fd_X12 (a := 111) (x := μ.1 111 10) 10 rfl (by decide) rfl (wm 7 159 rfl rfl) ⟨rfl, rfl, rfl⟩ dX12_unary_95 rfl rfl ?_
          have hj_50 : jr (μ.1 111 10) := by have h9 := G.hj (a := 111) (k := 10) rfl; exact h9
          refine lv_lstore_n (lv' := [(2, .long (jv (μ.1 111 10))), (1, .int (iv (μ.1 111 9))), (0, .ref (oP ω 111))]) hx hb dX12_unary_98 rfl hl (by decide) rfl (fun ls hl => ?_)
          refine lv_aload_n hx hb dX12_unary_99 rfl (lv_at hl 2 rfl) ?_
          refine xc_vV G (b := 111) (rest := []) (As := []) (c_X12_next ω l μ  hPM (by omega) (by omega)) (wm 9 0 rfl rfl) (wm 9 2 rfl rfl) (wm 0 119 rfl rfl) rfl rfl (by decide) rfl (wm 1 18 rfl rfl) (wm 9 3 rfl rfl) (by decide) hR ⟨nfr hF (by decide), nlo hLo (by decide)⟩ (n := 0) rfl rfl (Nat.le_of_ble_eq_true rfl) hl.1 dX12_unary_100 (fun μ51 ρ d0 H locs hp G => ?_)
          obtain ⟨F_52, hp_53, hp_54, hp_55, hp_56, hp_57⟩ := hp
          have hpl_58 := hp_54.pl
          have hw_59 := wr_r (μ := μ51)
          have e_60 : μ51.1 111 31 = μ.1 111 31 := (hp_53 31 (by decide))
          refine lv_aload_n hx hb dX12_unary_103 rfl (lv_at hl 2 rfl) ?_
          refine lv_bipush (v := iv 91) hx hb dX12_unary_104 rfl ?_
          have e_61 : μ51.1 111 29 = μ.1 111 29 := (hp_53 29 (by decide))
          have e_63 : μ51.1 111 29 = μ.1 111 29 := (hp_53 29 (by decide))
          have hX_62 : ∀ _ : Unit, bd μ51 = 0 → mPX μ μ51 tt 0 1 (11 * (9 - nn μ) - 3) [] := fun _ h0 => (hX_1 () (by have e9 : bd μ = bd μ := rfl; have e8 : bd μ51 = bd μ51 := rfl; omega)).qm (q0m.fr (K := [111]) (FrM.tr FrM.rf F_52 (by decide)) (by decide) (by decide) (by decide) (hp_53 22 (by decide)) (nS.le (by omega) (Int.le_of_eq ((hp_53 31 (by decide))).symm)))
          refine xc_iV G (b := 111) (rest := []) (As := [.int (iv 91)]) (c_X12_isSign ω l μ51 91 (by unfold ir; omega)) (wm 9 90 rfl rfl) (wm 9 92 rfl rfl) (wm 0 135 rfl rfl) rfl rfl (by decide) rfl (wm 1 18 rfl rfl) (wm 9 93 rfl rfl) (by decide) hR ⟨nfr hF (by decide), nlo hLo (by decide)⟩ (n := 1) rfl rfl (Nat.le_of_ble_eq_true rfl) hl.1 dX12_unary_106 (fun r_65 μ64 ρ d0 H locs hr_r_65 hp G => ?_)
          have hr_r_65 : -2147483648 ≤ r_65 ∧ r_65 ≤ 2147483647 := hr_r_65
          obtain ⟨hsm_66, hp_67⟩ := hp
          have hsm_66 := Eq.symm hsm_66
          subst hsm_66
          have e_68 : μ51.1 111 31 = μ.1 111 31 := (hp_53 31 (by decide))
          refine xb_if_eq (tgt := 178) hx hb (by unfold ir; omega) dX12_unary_109 (by decide) (fun c_109 => ?_) (fun c_109 => ?_)
          · refine lv_aload_n hx hb dX12_unary_178 rfl (lv_at hl 2 rfl) ?_
            refine lv_iload_n hx hb dX12_unary_179 rfl (lv_at hl 1 rfl) ?_
            refine lv_lload_n hx hb dX12_unary_180 rfl (lv_at hl 0 rfl) ?_
            have e_69 : μ51.1 111 29 = μ.1 111 29 := (hp_53 29 (by decide))
            have e_70 : μ51.1 111 29 = μ.1 111 29 := (hp_53 29 (by decide))
            have hxt_71 : mEXT μ μ51 := (q0m.fr (K := [111]) (FrM.tr FrM.rf F_52 (by decide)) (by decide) (by decide) (by decide) (hp_53 22 (by decide)) (nS.le (by omega) (Int.le_of_eq ((hp_53 31 (by decide))).symm))).1
            have e_72 : μ51.1 111 14 = tt := ((hp_53 14 (by decide)).trans htt.symm)
            have e_73 : μ51.1 111 22 = μ.1 111 22 := (hp_53 22 (by decide))
            have e_74 : μ51.1 111 22 = μ.1 111 22 := (hp_53 22 (by decide))
            have e_75 : μ51.1 111 39 = μ.1 111 39 := (hp_53 39 (by decide))
            have e_76 : μ51.1 111 39 = μ.1 111 39 := (hp_53 39 (by decide))
            have e_77 : μ51.1 111 22 = μ.1 111 22 := (hp_53 22 (by decide))
            have e_78 : μ51.1 111 31 = μ.1 111 31 := (hp_53 31 (by decide))
            have e_79 : μ51.1 111 31 = μ.1 111 31 := (hp_53 31 (by decide))
            have e_80 : μ51.1 111 22 = μ.1 111 22 := (hp_53 22 (by decide))
            have e_81 : μ51.1 111 22 = μ.1 111 22 := (hp_53 22 (by decide))
            have e_82 : μ51.1 111 29 = μ.1 111 29 := (hp_53 29 (by decide))
            have e_83 : μ51.1 111 39 = μ.1 111 39 := (hp_53 39 (by decide))
            refine xc_vV G (b := 111) (rest := []) (As := [.int (iv (μ.1 111 9)), .long (jv (μ.1 111 10))]) (c_X12_primary ω l μ51 (μ.1 111 9) (μ.1 111 10) F Lo Fu Lu kf tt (by unfold ir; omega) hj_50 (by omega) hF hLo hFu hLu hE hU hp_54 (by omega) (by omega) (by omega) (by omega) (by omega) (by omega) (fun _ h0 => ((hX_62 ()) h0).h1.1) (by omega)) (wm 9 175 rfl rfl) (wm 9 177 rfl rfl) (wm 0 156 rfl rfl) rfl rfl (by decide) rfl (wm 1 18 rfl rfl) (wm 9 178 rfl rfl) (by decide) hR ⟨sfr (F := F) (a := 3) (by decide), slo (L := Lo) (m := 4) (a := 70) (by decide)⟩ (n := 2) rfl rfl (Nat.le_of_ble_eq_true rfl) hl.1 dX12_unary_181 (fun μ84 ρ d0 H locs hp G => ?_)
            obtain ⟨F_85, hp_86, hp_87, hp_88, hp_89, hp_90, hp_91, hp_92, hp_93, hp_94, hp_95, hp_96⟩ := hp
            have hpl_97 := hp_87.pl
            have hw_98 := wr_r (μ := μ84)
            have hxt_99 : mEXT μ μ84 := hxt_71.tr hp_96
            have e_100 : μ84.1 111 31 = μ.1 111 31 := ((hp_86 31 (by decide)).trans (hp_53 31 (by decide)))
            have hX_101 : ∀ _ : Unit, bd μ84 = 0 → mPX μ μ84 tt 1 1 (11 * (9 - nn μ) - 3) [] := fun _ h0 => (((hX_62 ()) (by have e9 : bd μ51 = bd μ51 := rfl; have e8 : bd μ84 = bd μ84 := rfl; omega)).app (hp_95 () h0) (by omega)).ee (by omega)
            refine lv_goto (tgt := 206) hx hb dX12_unary_184 (by decide) ?_
            exact xr_v G hret hlk dX12_unary_206 ⟨(FrM.tr (FrM.tr FrM.rf F_52 (by decide)) F_85 (by decide)), (fun j hj => ((hp_86 j (fun h9 => hj ((by decide : ∀ x ∈ ([6, 8, 9, 10, 11, 12, 13, 15, 16, 17, 18, 22, 29, 39] : List Int), x ∈ ([6, 8, 9, 10, 11, 12, 13, 15, 16, 17, 18, 22, 29, 39] : List Int)) j h9))).trans (hp_53 j (fun h9 => hj ((by decide : ∀ x ∈ ([6, 8, 9, 10, 11, 12, 13, 15] : List Int), x ∈ ([6, 8, 9, 10, 11, 12, 13, 15, 16, 17, 18, 22, 29, 39] : List Int)) j h9))))), hp_87, (by omega), (by omega), (by omega), (by omega), (by omega), (by omega), (fun j hj => ((hp_94 j (by omega)).trans (F_52.1 126 (by decide) j))), (fun _ h0 => (mPX.ex ((hX_101 ()) h0)).e (by omega)), hxt_99⟩
          · refine lv_aload_n hx hb dX12_unary_112 rfl (lv_at hl 2 rfl) ?_
            refine lv_iconst (v := iv 3) hx hb dX12_unary_113 rfl ?_
            refine lv_aload_n hx hb dX12_unary_114 rfl (lv_at hl 2 rfl) ?_
            refine lv_iload_n hx hb dX12_unary_115 rfl (lv_at hl 1 rfl) ?_
            refine lv_lload_n hx hb dX12_unary_116 rfl (lv_at hl 0 rfl) ?_
            have e_102 : μ51.1 111 31 = μ.1 111 31 := (hp_53 31 (by decide))
            have e_103 : μ51.1 111 31 = μ.1 111 31 := (hp_53 31 (by decide))
            have e_104 : μ51.1 111 31 = μ.1 111 31 := (hp_53 31 (by decide))
            refine xc_iV G (b := 111) (rest := [.int (iv 3), .ref (oP ω 111)]) (As := [.int (iv (μ.1 111 9)), .long (jv (μ.1 111 10))]) (c_X12_slot ω l μ51 (μ.1 111 9) (μ.1 111 10) (by unfold ir; omega) hj_50 (by omega) (by omega)) (wm 9 171 rfl rfl) (wm 9 173 rfl rfl) (wm 0 155 rfl rfl) rfl rfl (by decide) rfl (wm 1 18 rfl rfl) (wm 9 174 rfl rfl) (by decide) hR ⟨nfr hF (by decide), nlo hLo (by decide)⟩ (n := 2) rfl rfl (Nat.le_of_ble_eq_true rfl) hl.1 dX12_unary_117 (fun r_106 μ105 ρ d0 H locs hr_r_106 hp G => ?_)
            have hr_r_106 : -2147483648 ≤ r_106 ∧ r_106 ≤ 2147483647 := hr_r_106
            obtain ⟨F_107, hp_108, hp_109, hp_110, hp_111, hp_112⟩ := hp
            have hw_113 := wr_r (μ := μ105)
            have e_114 : μ105.1 111 31 = μ.1 111 31 := ((hp_108 31 (by decide)).trans (hp_53 31 (by decide)))
            have e_115 : wr μ105 = wr μ51 := (wr_cg (hp_108 15 (by decide)))
            have e_116 : nn μ105 = nn μ51 := (nn_cg (hp_108 15 (by decide)) (hp_108 18 (by decide)))
            refine xb_i2l hx hb (by unfold ir; omega) dX12_unary_120 ?_
            refine lv_iconst (v := iv 0) hx hb dX12_unary_121 rfl ?_
            have e_117 : μ105.1 111 29 = μ.1 111 29 := ((hp_108 29 (by decide)).trans (hp_53 29 (by decide)))
            have e_118 : wr μ105 = wr μ51 := (wr_cg (hp_108 15 (by decide)))
            have e_119 : nn μ105 = nn μ51 := (nn_cg (hp_108 15 (by decide)) (hp_108 18 (by decide)))
            have e_121 : μ105.1 111 29 = μ.1 111 29 := ((hp_108 29 (by decide)).trans (hp_53 29 (by decide)))
            have hX_120 : ∀ _ : Unit, bd μ105 = 0 → mPX μ μ105 tt 0 1 (11 * (9 - nn μ) - 3) [] := fun _ h0 => (hX_62 () (by have e9 : bd μ51 = bd μ51 := rfl; have e8 : bd μ105 = bd μ105 := rfl; omega)).qm (q0m.fr (K := [111]) (FrM.tr FrM.rf F_107 (by decide)) (by decide) (by decide) (by decide) ((((hp_108 22 (by decide)).trans (hp_53 22 (by decide)))).trans ((hp_53 22 (by decide))).symm) (nS.le (by omega) (Int.le_of_eq (((((hp_108 31 (by decide)).trans (hp_53 31 (by decide)))).trans ((hp_53 31 (by decide))).symm)).symm)))
            have e_122 : μ105.1 111 29 = μ.1 111 29 := ((hp_108 29 (by decide)).trans (hp_53 29 (by decide)))
            have e_123 : μ105.1 111 29 = μ.1 111 29 := ((hp_108 29 (by decide)).trans (hp_53 29 (by decide)))
            have hxt_124 : mEXT μ μ105 := (q0m.fr (K := [111]) (FrM.tr (FrM.tr FrM.rf F_52 (by decide)) F_107 (by decide)) (by decide) (by decide) (by decide) ((hp_108 22 (by decide)).trans (hp_53 22 (by decide))) (nS.le (by omega) (Int.le_of_eq (((hp_108 31 (by decide)).trans (hp_53 31 (by decide)))).symm))).1
            have e_125 : μ105.1 111 22 = μ.1 111 22 := ((hp_108 22 (by decide)).trans (hp_53 22 (by decide)))
            have e_126 : μ105.1 111 22 = μ.1 111 22 := ((hp_108 22 (by decide)).trans (hp_53 22 (by decide)))
            have e_127 : μ105.1 111 22 = μ.1 111 22 := ((hp_108 22 (by decide)).trans (hp_53 22 (by decide)))
            have e_128 : μ105.1 111 22 = μ.1 111 22 := ((hp_108 22 (by decide)).trans (hp_53 22 (by decide)))
            refine xc_iV G (b := 111) (rest := []) (As := [.int (iv 3), .long (jv r_106), .int (iv 0)]) (c_X12_emit ω l μ105 3 r_106 0 (by unfold ir; omega) (by unfold jr; omega) (by unfold ir; omega) (by omega)) (wm 9 126 rfl rfl) (wm 9 128 rfl rfl) (wm 0 144 rfl rfl) rfl rfl (by decide) rfl (wm 1 18 rfl rfl) (wm 9 129 rfl rfl) (by decide) hR ⟨nfr hF (by decide), nlo hLo (by decide)⟩ (n := 3) rfl rfl (Nat.le_of_ble_eq_true rfl) hl.1 dX12_unary_122 (fun r_130 μ129 ρ d0 H locs hr_r_130 hp G => ?_)
            have hr_r_130 : -2147483648 ≤ r_130 ∧ r_130 ≤ 2147483647 := hr_r_130
            obtain ⟨F_131, hp_132, hp_133, hp_134, hp_135⟩ := hp
            have hxt_136 : mEXT μ μ129 := hxt_124.tr hp_133.1
            have e_137 : μ129.1 111 31 = μ.1 111 31 := ((hp_132 31 (by decide)).trans ((hp_108 31 (by decide)).trans (hp_53 31 (by decide))))
            have e_138 : wr μ129 = wr μ51 := ((wr_cg (hp_132 15 (by decide))).trans (wr_cg (hp_108 15 (by decide))))
            have e_139 : bd μ129 = bd μ105 := (bd_cg (hp_132 15 (by decide)) (hp_132 16 (by decide)) (hp_132 17 (by decide)))
            have e_140 : nn μ129 = nn μ51 := ((nn_cg (hp_132 15 (by decide)) (hp_132 18 (by decide))).trans (nn_cg (hp_108 15 (by decide)) (hp_108 18 (by decide))))
            have e_142 : μ129.1 111 29 = μ.1 111 29 := ((hp_132 29 (by decide)).trans ((hp_108 29 (by decide)).trans (hp_53 29 (by decide))))
            have hX_141 : ∀ _ : Unit, bd μ129 = 0 → mPX μ μ129 tt 1 1 (11 * (9 - nn μ) - 3) [] := fun _ h0 => (((hX_120 ()) (by have e9 : bd μ105 = bd μ105 := rfl; have e8 : bd μ129 = bd μ105 := (bd_cg (hp_132 15 (by decide)) (hp_132 16 (by decide)) (hp_132 17 (by decide))); omega)).app (mAD.ex (t := tt) (e := 1) hp_133 ((hX_120 ()) (by have e9 : bd μ105 = bd μ105 := rfl; have e8 : bd μ129 = bd μ105 := (bd_cg (hp_132 15 (by decide)) (hp_132 16 (by decide)) (hp_132 17 (by decide))); omega)).h1.1 (by unfold mpl; omega) rfl (by have h9 := ((hX_120 ()) (by have e9 : bd μ105 = bd μ105 := rfl; have e8 : bd μ129 = bd μ105 := (bd_cg (hp_132 15 (by decide)) (hp_132 16 (by decide)) (hp_132 17 (by decide))); omega)).h1; omega) ⟨fun q => absurd q (by decide), ⟨fun _ => ⟨by omega, by omega⟩, fun _ => (by unfold nS; dsimp only; omega)⟩, fun q => absurd q (by decide), fun q => absurd q (by decide), fun q => absurd q (by decide), fun q => absurd q (by decide), fun q => absurd q (by decide), fun q => absurd q (by decide), fun q => absurd q (by decide), fun q => absurd q (by decide), fun q => absurd q (by decide), fun q => absurd q (by decide), fun q => absurd q (by decide), fun q => absurd q (by decide), fun q => absurd q (by decide), fun q => absurd q (by decide), fun q => absurd q (by decide), fun q => absurd q (by decide), fun q => absurd q (by decide), fun q => absurd q (by decide), fun q => absurd q (by decide), ⟨fun q => absurd q (by decide), fun q => absurd q (by decide), fun q => absurd q (by decide)⟩, ⟨by decide, by decide⟩⟩) (by have h9 := ((hX_120 ()) (by have e9 : bd μ105 = bd μ105 := rfl; have e8 : bd μ129 = bd μ105 := (bd_cg (hp_132 15 (by decide)) (hp_132 16 (by decide)) (hp_132 17 (by decide))); omega)).h1; omega)).ee (by omega)
            refine lv_pop hx hb dX12_unary_125 rfl ?_
            refine lv_aload_n hx hb dX12_unary_126 rfl (lv_at hl 2 rfl) ?_
            refine lv_iconst (v := iv 0) hx hb dX12_unary_127 rfl ?_
            have e_143 : μ129.1 111 29 = μ.1 111 29 := ((hp_132 29 (by decide)).trans ((hp_108 29 (by decide)).trans (hp_53 29 (by decide))))
            have e_144 : μ129.1 111 14 = tt := ((hp_132 14 (by decide)).trans ((hp_108 14 (by decide)).trans ((hp_53 14 (by decide)).trans htt.symm)))
            refine xc_iV G (b := 111) (rest := []) (As := [.int (iv 0)]) (c_X12_skips ω l μ129 0 tt (by unfold ir; omega) (by omega) (by omega)) (wm 9 159 rfl rfl) (wm 9 161 rfl rfl) (wm 0 152 rfl rfl) rfl rfl (by decide) rfl (wm 1 18 rfl rfl) (wm 9 162 rfl rfl) (by decide) hR ⟨nfr hF (by decide), nlo hLo (by decide)⟩ (n := 1) rfl rfl (Nat.le_of_ble_eq_true rfl) hl.1 dX12_unary_128 (fun r_146 μ145 ρ d0 H locs hr_r_146 hp G => ?_)
            have hr_r_146 : -2147483648 ≤ r_146 ∧ r_146 ≤ 2147483647 := hr_r_146
            obtain ⟨F_147, hp_148, hp_149, hp_150⟩ := hp
            have hqr_r_146 : (r_146 = -1) ∨ (μ.1 111 22 ≤ r_146 ∧ r_146 < μ145.1 111 22) := by rcases hp_149 with ⟨q1, q2, q3, q4⟩ | ⟨q1, q2, q3⟩; (right; have := q2.2.1; omega); (left; exact q2)
            have hxt_151 : mEXT μ μ145 := hxt_136.tr hp_149.ext
            have e_152 : μ145.1 111 31 = μ.1 111 31 := ((hp_148 31 (by decide)).trans ((hp_132 31 (by decide)).trans ((hp_108 31 (by decide)).trans (hp_53 31 (by decide)))))
            have e_153 : wr μ145 = wr μ51 := ((wr_cg (hp_148 15 (by decide))).trans ((wr_cg (hp_132 15 (by decide))).trans (wr_cg (hp_108 15 (by decide)))))
            have e_154 : bd μ145 = bd μ105 := ((bd_cg (hp_148 15 (by decide)) (hp_148 16 (by decide)) (hp_148 17 (by decide))).trans (bd_cg (hp_132 15 (by decide)) (hp_132 16 (by decide)) (hp_132 17 (by decide))))
            have e_155 : nn μ145 = nn μ51 := ((nn_cg (hp_148 15 (by decide)) (hp_148 18 (by decide))).trans ((nn_cg (hp_132 15 (by decide)) (hp_132 18 (by decide))).trans (nn_cg (hp_108 15 (by decide)) (hp_108 18 (by decide)))))
            replace hp_149 := fun _ : Unit => hp_149
            have e_157 : μ145.1 111 29 = μ.1 111 29 := ((hp_148 29 (by decide)).trans ((hp_132 29 (by decide)).trans ((hp_108 29 (by decide)).trans (hp_53 29 (by decide)))))
            have hX_156 : ∀ _ : Unit, bd μ145 = 0 → mPX μ μ145 tt 1 1 (11 * (9 - nn μ) - 3) (lsk r_146 ++ []) := fun _ h0 => mPX.sk ((hX_141 ()) (by have e9 : bd μ129 = bd μ105 := (bd_cg (hp_132 15 (by decide)) (hp_132 16 (by decide)) (hp_132 17 (by decide))); have e8 : bd μ145 = bd μ105 := ((bd_cg (hp_148 15 (by decide)) (hp_148 16 (by decide)) (hp_148 17 (by decide))).trans (bd_cg (hp_132 15 (by decide)) (hp_132 16 (by decide)) (hp_132 17 (by decide)))); omega)) (hp_149 ()) (by omega) (by omega) (by decide)
            refine lv_istore (lv' := [(4, .int (iv r_146)), (2, .long (jv (μ.1 111 10))), (1, .int (iv (μ.1 111 9))), (0, .ref (oP ω 111))]) hx hb dX12_unary_131 hl (by decide) rfl (fun ls hl => ?_)
            refine lv_aload_n hx hb dX12_unary_133 rfl (lv_at hl 3 rfl) ?_
            have hPM_158 : PM μ145 := hp_54.cg ((((hp_148 4 (by decide)).trans ((hp_132 4 (by decide)).trans ((hp_108 4 (by decide)).trans (hp_53 4 (by decide)))))).trans ((hp_53 4 (by decide))).symm) ((hp_148 6 (by decide)).trans ((hp_132 6 (by decide)).trans (hp_108 6 (by decide)))) ((((hp_148 7 (by decide)).trans ((hp_132 7 (by decide)).trans ((hp_108 7 (by decide)).trans (hp_53 7 (by decide)))))).trans ((hp_53 7 (by decide))).symm) ((hp_148 8 (by decide)).trans ((hp_132 8 (by decide)).trans (hp_108 8 (by decide)))) ((hp_148 9 (by decide)).trans ((hp_132 9 (by decide)).trans (hp_108 9 (by decide)))) ((hp_148 11 (by decide)).trans ((hp_132 11 (by decide)).trans (hp_108 11 (by decide)))) ((hp_148 12 (by decide)).trans ((hp_132 12 (by decide)).trans (hp_108 12 (by decide)))) ((((hp_148 14 (by decide)).trans ((hp_132 14 (by decide)).trans ((hp_108 14 (by decide)).trans ((hp_53 14 (by decide)).trans htt.symm))))).trans (((hp_53 14 (by decide)).trans htt.symm)).symm) ((hp_148 15 (by decide)).trans ((hp_132 15 (by decide)).trans (hp_108 15 (by decide)))) ((((hp_148 29 (by decide)).trans ((hp_132 29 (by decide)).trans ((hp_108 29 (by decide)).trans (hp_53 29 (by decide)))))).trans ((hp_53 29 (by decide))).symm) (fun j => ((F_147.1 123 (by decide) j).trans ((F_131.1 123 (by decide) j).trans (F_107.1 123 (by decide) j))))
            have e_159 : wr μ145 = wr μ51 := ((wr_cg (hp_148 15 (by decide))).trans ((wr_cg (hp_132 15 (by decide))).trans (wr_cg (hp_108 15 (by decide)))))
            have e_160 : nn μ145 = nn μ51 := ((nn_cg (hp_148 15 (by decide)) (hp_148 18 (by decide))).trans ((nn_cg (hp_132 15 (by decide)) (hp_132 18 (by decide))).trans (nn_cg (hp_108 15 (by decide)) (hp_108 18 (by decide)))))
            have e_161 : μ145.1 111 8 = μ51.1 111 8 := ((hp_148 8 (by decide)).trans ((hp_132 8 (by decide)).trans (hp_108 8 (by decide))))
            have e_162 : wr μ145 = wr μ51 := ((wr_cg (hp_148 15 (by decide))).trans ((wr_cg (hp_132 15 (by decide))).trans (wr_cg (hp_108 15 (by decide)))))
            have e_163 : wr μ145 = wr μ51 := ((wr_cg (hp_148 15 (by decide))).trans ((wr_cg (hp_132 15 (by decide))).trans (wr_cg (hp_108 15 (by decide)))))
            have e_164 : nn μ145 = nn μ51 := ((nn_cg (hp_148 15 (by decide)) (hp_148 18 (by decide))).trans ((nn_cg (hp_132 15 (by decide)) (hp_132 18 (by decide))).trans (nn_cg (hp_108 15 (by decide)) (hp_108 18 (by decide)))))
            have e_165 : μ145.1 111 9 = μ51.1 111 9 := ((hp_148 9 (by decide)).trans ((hp_132 9 (by decide)).trans (hp_108 9 (by decide))))
            have e_166 : μ145.1 111 9 = μ51.1 111 9 := ((hp_148 9 (by decide)).trans ((hp_132 9 (by decide)).trans (hp_108 9 (by decide))))
            have e_167 : wr μ145 = wr μ51 := ((wr_cg (hp_148 15 (by decide))).trans ((wr_cg (hp_132 15 (by decide))).trans (wr_cg (hp_108 15 (by decide)))))
            have e_168 : bd μ145 = bd μ105 := ((bd_cg (hp_148 15 (by decide)) (hp_148 16 (by decide)) (hp_148 17 (by decide))).trans (bd_cg (hp_132 15 (by decide)) (hp_132 16 (by decide)) (hp_132 17 (by decide))))
            have e_169 : wr μ145 = wr μ51 := ((wr_cg (hp_148 15 (by decide))).trans ((wr_cg (hp_132 15 (by decide))).trans (wr_cg (hp_108 15 (by decide)))))
            have e_170 : nn μ145 = nn μ51 := ((nn_cg (hp_148 15 (by decide)) (hp_148 18 (by decide))).trans ((nn_cg (hp_132 15 (by decide)) (hp_132 18 (by decide))).trans (nn_cg (hp_108 15 (by decide)) (hp_108 18 (by decide)))))
            refine xc_vV G (b := 111) (rest := []) (As := []) (c_X12_opens ω l μ145  hPM_158 (by omega) (by omega) (by omega)) (wm 9 94 rfl rfl) (wm 9 96 rfl rfl) (wm 0 136 rfl rfl) rfl rfl (by decide) rfl (wm 1 18 rfl rfl) (wm 9 97 rfl rfl) (by decide) hR ⟨nfr hF (by decide), nlo hLo (by decide)⟩ (n := 0) rfl rfl (Nat.le_of_ble_eq_true rfl) hl.1 dX12_unary_134 (fun μ171 ρ d0 H locs hp G => ?_)
            obtain ⟨F_172, hp_173, hp_174, hp_175, hp_176, hp_177, hp_178⟩ := hp
            have hpl_179 := hp_174.pl
            have hw_180 := wr_r (μ := μ171)
            have hw_181 := wr_r (μ := μ145)
            have e_182 : μ171.1 111 31 = μ.1 111 31 := ((hp_173 31 (by decide)).trans ((hp_148 31 (by decide)).trans ((hp_132 31 (by decide)).trans ((hp_108 31 (by decide)).trans (hp_53 31 (by decide))))))
            refine lv_aload_n hx hb dX12_unary_137 rfl (lv_at hl 3 rfl) ?_
            have e_183 : μ171.1 111 29 = μ.1 111 29 := ((hp_173 29 (by decide)).trans ((hp_148 29 (by decide)).trans ((hp_132 29 (by decide)).trans ((hp_108 29 (by decide)).trans (hp_53 29 (by decide))))))
            have e_185 : μ171.1 111 29 = μ.1 111 29 := ((hp_173 29 (by decide)).trans ((hp_148 29 (by decide)).trans ((hp_132 29 (by decide)).trans ((hp_108 29 (by decide)).trans (hp_53 29 (by decide))))))
            have hX_184 : ∀ _ : Unit, bd μ171 = 0 → mPX μ μ171 tt 1 1 (11 * (9 - nn μ) - 3) (lsk r_146 ++ []) := fun _ h0 => (hX_156 () (by have e9 : bd μ145 = bd μ105 := ((bd_cg (hp_148 15 (by decide)) (hp_148 16 (by decide)) (hp_148 17 (by decide))).trans (bd_cg (hp_132 15 (by decide)) (hp_132 16 (by decide)) (hp_132 17 (by decide)))); have e8 : bd μ171 = bd μ171 := rfl; omega)).qm (q0m.fr (K := [111]) (FrM.tr FrM.rf F_172 (by decide)) (by decide) (by decide) (by decide) (hp_173 22 (by decide)) (nS.le (by omega) (Int.le_of_eq (((((hp_173 31 (by decide)).trans ((hp_148 31 (by decide)).trans ((hp_132 31 (by decide)).trans ((hp_108 31 (by decide)).trans (hp_53 31 (by decide))))))).trans (((hp_148 31 (by decide)).trans ((hp_132 31 (by decide)).trans ((hp_108 31 (by decide)).trans (hp_53 31 (by decide)))))).symm)).symm)))
            have e_186 : μ171.1 111 29 = μ.1 111 29 := ((hp_173 29 (by decide)).trans ((hp_148 29 (by decide)).trans ((hp_132 29 (by decide)).trans ((hp_108 29 (by decide)).trans (hp_53 29 (by decide))))))
            have e_187 : μ171.1 111 29 = μ.1 111 29 := ((hp_173 29 (by decide)).trans ((hp_148 29 (by decide)).trans ((hp_132 29 (by decide)).trans ((hp_108 29 (by decide)).trans (hp_53 29 (by decide))))))
            have hxt_188 : mEXT μ μ171 := hxt_151.tr (q0m.fr (K := [111]) (FrM.tr FrM.rf F_172 (by decide)) (by decide) (by decide) (by decide) (hp_173 22 (by decide)) (nS.le (by omega) (Int.le_of_eq (((((hp_173 31 (by decide)).trans ((hp_148 31 (by decide)).trans ((hp_132 31 (by decide)).trans ((hp_108 31 (by decide)).trans (hp_53 31 (by decide))))))).trans (((hp_148 31 (by decide)).trans ((hp_132 31 (by decide)).trans ((hp_108 31 (by decide)).trans (hp_53 31 (by decide)))))).symm)).symm))).1
            have e_189 : μ171.1 111 14 = tt := ((hp_173 14 (by decide)).trans ((hp_148 14 (by decide)).trans ((hp_132 14 (by decide)).trans ((hp_108 14 (by decide)).trans ((hp_53 14 (by decide)).trans htt.symm)))))
            have e_190 : μ171.1 111 22 = μ145.1 111 22 := (hp_173 22 (by decide))
            have e_191 : μ171.1 111 22 = μ145.1 111 22 := (hp_173 22 (by decide))
            have e_192 : μ171.1 111 39 = μ.1 111 39 := ((hp_173 39 (by decide)).trans ((hp_148 39 (by decide)).trans ((hp_132 39 (by decide)).trans ((hp_108 39 (by decide)).trans (hp_53 39 (by decide))))))
            have e_193 : μ171.1 111 39 = μ.1 111 39 := ((hp_173 39 (by decide)).trans ((hp_148 39 (by decide)).trans ((hp_132 39 (by decide)).trans ((hp_108 39 (by decide)).trans (hp_53 39 (by decide))))))
            have e_194 : μ171.1 111 22 = μ145.1 111 22 := (hp_173 22 (by decide))
            have e_195 : μ171.1 111 31 = μ.1 111 31 := ((hp_173 31 (by decide)).trans ((hp_148 31 (by decide)).trans ((hp_132 31 (by decide)).trans ((hp_108 31 (by decide)).trans (hp_53 31 (by decide))))))
            have e_196 : μ171.1 111 31 = μ.1 111 31 := ((hp_173 31 (by decide)).trans ((hp_148 31 (by decide)).trans ((hp_132 31 (by decide)).trans ((hp_108 31 (by decide)).trans (hp_53 31 (by decide))))))
            have e_197 : μ171.1 111 22 = μ145.1 111 22 := (hp_173 22 (by decide))
            have e_198 : μ171.1 111 22 = μ145.1 111 22 := (hp_173 22 (by decide))
            have e_199 : μ171.1 111 29 = μ.1 111 29 := ((hp_173 29 (by decide)).trans ((hp_148 29 (by decide)).trans ((hp_132 29 (by decide)).trans ((hp_108 29 (by decide)).trans (hp_53 29 (by decide))))))
            have e_200 : μ171.1 111 39 = μ.1 111 39 := ((hp_173 39 (by decide)).trans ((hp_148 39 (by decide)).trans ((hp_132 39 (by decide)).trans ((hp_108 39 (by decide)).trans (hp_53 39 (by decide))))))
            refine xc_vV G (b := 111) (rest := []) (As := []) (((fun (_ : Om) (_ : Launch) => hE)) ω l μ171 tt (by omega) hp_174 (by omega) (by omega) (by omega) (by omega) (by omega) (by omega) (fun _ h0 => ((hX_184 ()) h0).h1.1)) (wm 9 139 rfl rfl) (wm 9 141 rfl rfl) (wm 0 147 rfl rfl) rfl rfl (by decide) rfl (wm 1 18 rfl rfl) (wm 9 142 rfl rfl) (by decide) hR ⟨sfr (F := F) (a := 0) (by decide), slo (L := Lo) (m := 1) (a := 0) (by decide)⟩ (n := 0) rfl rfl (Nat.le_of_ble_eq_true rfl) hl.1 dX12_unary_138 (fun μ201 ρ d0 H locs hp G => ?_)
            obtain ⟨F_202, hp_203, hp_204, hp_205, hp_206, hp_207, hp_208, hp_209, hp_210, hp_211, hp_212, hp_213⟩ := hp
            have hpl_214 := hp_204.pl
            have hw_215 := wr_r (μ := μ201)
            have hxt_216 : mEXT μ μ201 := hxt_188.tr hp_213
            have e_217 : μ201.1 111 31 = μ.1 111 31 := ((hp_203 31 (by decide)).trans ((hp_173 31 (by decide)).trans ((hp_148 31 (by decide)).trans ((hp_132 31 (by decide)).trans ((hp_108 31 (by decide)).trans (hp_53 31 (by decide)))))))
            have hX_218 : ∀ _ : Unit, bd μ201 = 0 → mPX μ μ201 tt 2 1 (11 * (9 - nn μ) - 3) (lsk r_146 ++ []) := fun _ h0 => (((hX_184 ()) (by have e9 : bd μ171 = bd μ171 := rfl; have e8 : bd μ201 = bd μ201 := rfl; omega)).app (hp_212 () h0) (by omega)).ee (by omega)
            refine lv_aload_n hx hb dX12_unary_141 rfl (lv_at hl 3 rfl) ?_
            refine lv_bipush (v := iv 93) hx hb dX12_unary_142 rfl ?_
            refine xc_vV G (b := 111) (rest := []) (As := [.int (iv 93)]) (c_X12_closesWith ω l μ201 93 (by unfold ir; omega) hp_204 (by omega) (by omega)) (wm 9 110 rfl rfl) (wm 9 112 rfl rfl) (wm 0 140 rfl rfl) rfl rfl (by decide) rfl (wm 1 18 rfl rfl) (wm 9 113 rfl rfl) (by decide) hR ⟨nfr hF (by decide), nlo hLo (by decide)⟩ (n := 1) rfl rfl (Nat.le_of_ble_eq_true rfl) hl.1 dX12_unary_144 (fun μ219 ρ d0 H locs hp G => ?_)
            obtain ⟨F_220, hp_221, hp_222, hp_223, hp_224, hp_225, hp_226⟩ := hp
            have hpl_227 := hp_222.pl
            have hw_228 := wr_r (μ := μ219)
            have e_229 : μ219.1 111 31 = μ.1 111 31 := ((hp_221 31 (by decide)).trans ((hp_203 31 (by decide)).trans ((hp_173 31 (by decide)).trans ((hp_148 31 (by decide)).trans ((hp_132 31 (by decide)).trans ((hp_108 31 (by decide)).trans (hp_53 31 (by decide))))))))
            refine lv_aload_n hx hb dX12_unary_147 rfl (lv_at hl 3 rfl) ?_
            refine lv_iconst (v := iv 1) hx hb dX12_unary_148 rfl ?_
            have e_230 : μ219.1 111 29 = μ201.1 111 29 := (hp_221 29 (by decide))
            have e_232 : μ219.1 111 29 = μ201.1 111 29 := (hp_221 29 (by decide))
            have hX_231 : ∀ _ : Unit, bd μ219 = 0 → mPX μ μ219 tt 2 1 (11 * (9 - nn μ) - 3) (lsk r_146 ++ []) := fun _ h0 => (hX_218 () (by have e9 : bd μ201 = bd μ201 := rfl; have e8 : bd μ219 = bd μ219 := rfl; omega)).qm (q0m.fr (K := [111]) (FrM.tr FrM.rf F_220 (by decide)) (by decide) (by decide) (by decide) (hp_221 22 (by decide)) (nS.le (by omega) (Int.le_of_eq (((((hp_221 31 (by decide)).trans ((hp_203 31 (by decide)).trans ((hp_173 31 (by decide)).trans ((hp_148 31 (by decide)).trans ((hp_132 31 (by decide)).trans ((hp_108 31 (by decide)).trans (hp_53 31 (by decide))))))))).trans (((hp_203 31 (by decide)).trans ((hp_173 31 (by decide)).trans ((hp_148 31 (by decide)).trans ((hp_132 31 (by decide)).trans ((hp_108 31 (by decide)).trans (hp_53 31 (by decide)))))))).symm)).symm)))
            have e_233 : μ219.1 111 29 = μ201.1 111 29 := (hp_221 29 (by decide))
            have e_234 : μ219.1 111 29 = μ201.1 111 29 := (hp_221 29 (by decide))
            have hxt_235 : mEXT μ μ219 := hxt_216.tr (q0m.fr (K := [111]) (FrM.tr FrM.rf F_220 (by decide)) (by decide) (by decide) (by decide) (hp_221 22 (by decide)) (nS.le (by omega) (Int.le_of_eq (((((hp_221 31 (by decide)).trans ((hp_203 31 (by decide)).trans ((hp_173 31 (by decide)).trans ((hp_148 31 (by decide)).trans ((hp_132 31 (by decide)).trans ((hp_108 31 (by decide)).trans (hp_53 31 (by decide))))))))).trans (((hp_203 31 (by decide)).trans ((hp_173 31 (by decide)).trans ((hp_148 31 (by decide)).trans ((hp_132 31 (by decide)).trans ((hp_108 31 (by decide)).trans (hp_53 31 (by decide)))))))).symm)).symm))).1
            have e_236 : μ219.1 111 14 = tt := ((hp_221 14 (by decide)).trans ((hp_203 14 (by decide)).trans ((hp_173 14 (by decide)).trans ((hp_148 14 (by decide)).trans ((hp_132 14 (by decide)).trans ((hp_108 14 (by decide)).trans ((hp_53 14 (by decide)).trans htt.symm)))))))
            have e_237 : μ219.1 111 22 = μ201.1 111 22 := (hp_221 22 (by decide))
            have e_238 : μ219.1 111 22 = μ201.1 111 22 := (hp_221 22 (by decide))
            have e_239 : μ219.1 111 22 = μ201.1 111 22 := (hp_221 22 (by decide))
            have e_240 : μ219.1 111 22 = μ201.1 111 22 := (hp_221 22 (by decide))
            refine xc_iV G (b := 111) (rest := []) (As := [.int (iv 1)]) (c_X12_skips ω l μ219 1 tt (by unfold ir; omega) (by omega) (by omega)) (wm 9 159 rfl rfl) (wm 9 161 rfl rfl) (wm 0 152 rfl rfl) rfl rfl (by decide) rfl (wm 1 18 rfl rfl) (wm 9 162 rfl rfl) (by decide) hR ⟨nfr hF (by decide), nlo hLo (by decide)⟩ (n := 1) rfl rfl (Nat.le_of_ble_eq_true rfl) hl.1 dX12_unary_149 (fun r_242 μ241 ρ d0 H locs hr_r_242 hp G => ?_)
            have hr_r_242 : -2147483648 ≤ r_242 ∧ r_242 ≤ 2147483647 := hr_r_242
            obtain ⟨F_243, hp_244, hp_245, hp_246⟩ := hp
            have hqr_r_242 : (r_242 = -1) ∨ (μ.1 111 22 ≤ r_242 ∧ r_242 < μ241.1 111 22) := by rcases hp_245 with ⟨q1, q2, q3, q4⟩ | ⟨q1, q2, q3⟩; (right; have := q2.2.1; omega); (left; exact q2)
            have hxt_247 : mEXT μ μ241 := hxt_235.tr hp_245.ext
            have e_248 : μ241.1 111 31 = μ.1 111 31 := ((hp_244 31 (by decide)).trans ((hp_221 31 (by decide)).trans ((hp_203 31 (by decide)).trans ((hp_173 31 (by decide)).trans ((hp_148 31 (by decide)).trans ((hp_132 31 (by decide)).trans ((hp_108 31 (by decide)).trans (hp_53 31 (by decide)))))))))
            have e_249 : wr μ241 = wr μ219 := (wr_cg (hp_244 15 (by decide)))
            have e_250 : bd μ241 = bd μ219 := (bd_cg (hp_244 15 (by decide)) (hp_244 16 (by decide)) (hp_244 17 (by decide)))
            have e_251 : nn μ241 = nn μ219 := (nn_cg (hp_244 15 (by decide)) (hp_244 18 (by decide)))
            replace hp_245 := fun _ : Unit => hp_245
            have e_253 : μ241.1 111 29 = μ201.1 111 29 := ((hp_244 29 (by decide)).trans (hp_221 29 (by decide)))
            have hX_252 : ∀ _ : Unit, bd μ241 = 0 → mPX μ μ241 tt 2 1 (11 * (9 - nn μ) - 3) (lsk r_242 ++ (lsk r_146 ++ [])) := fun _ h0 => mPX.sk ((hX_231 ()) (by have e9 : bd μ219 = bd μ219 := rfl; have e8 : bd μ241 = bd μ219 := (bd_cg (hp_244 15 (by decide)) (hp_244 16 (by decide)) (hp_244 17 (by decide))); omega)) (hp_245 ()) (by omega) (by omega) (by decide)
            refine lv_istore (lv' := [(5, .int (iv r_242)), (4, .int (iv r_146)), (2, .long (jv (μ.1 111 10))), (1, .int (iv (μ.1 111 9))), (0, .ref (oP ω 111))]) hx hb dX12_unary_152 hl (by decide) rfl (fun ls hl => ?_)
            refine lv_aload_n hx hb dX12_unary_154 rfl (lv_at hl 4 rfl) ?_
            refine lv_bipush (v := iv 24) hx hb dX12_unary_155 rfl ?_
            refine lv_lconst (v := jv 0) hx hb dX12_unary_157 rfl ?_
            refine lv_iconst (v := iv 0) hx hb dX12_unary_158 rfl ?_
            have e_254 : μ241.1 111 29 = μ201.1 111 29 := ((hp_244 29 (by decide)).trans (hp_221 29 (by decide)))
            refine xc_iV G (b := 111) (rest := []) (As := [.int (iv 24), .long (jv 0), .int (iv 0)]) (c_X12_emit ω l μ241 24 0 0 (by unfold ir; omega) (by unfold jr; omega) (by unfold ir; omega) (by omega)) (wm 9 126 rfl rfl) (wm 9 128 rfl rfl) (wm 0 144 rfl rfl) rfl rfl (by decide) rfl (wm 1 18 rfl rfl) (wm 9 129 rfl rfl) (by decide) hR ⟨nfr hF (by decide), nlo hLo (by decide)⟩ (n := 3) rfl rfl (Nat.le_of_ble_eq_true rfl) hl.1 dX12_unary_159 (fun r_256 μ255 ρ d0 H locs hr_r_256 hp G => ?_)
            have hr_r_256 : -2147483648 ≤ r_256 ∧ r_256 ≤ 2147483647 := hr_r_256
            obtain ⟨F_257, hp_258, hp_259, hp_260, hp_261⟩ := hp
            have hxt_262 : mEXT μ μ255 := hxt_247.tr hp_259.1
            refine lv_pop hx hb dX12_unary_162 rfl ?_
            refine lv_aload_n hx hb dX12_unary_163 rfl (lv_at hl 4 rfl) ?_
            refine lv_iload hx hb dX12_unary_164 (lv_at hl 1 rfl) ?_
            have e_263 : μ255.1 111 29 = μ201.1 111 29 := ((hp_258 29 (by decide)).trans ((hp_244 29 (by decide)).trans (hp_221 29 (by decide))))
            refine xc_vV G (b := 111) (rest := []) (As := [.int (iv r_146)]) (c_X12_landsSkip ω l μ255 r_146 (by unfold ir; omega) (by omega) (by omega)) (wm 9 163 rfl rfl) (wm 9 165 rfl rfl) (wm 0 153 rfl rfl) rfl rfl (by decide) rfl (wm 1 18 rfl rfl) (wm 9 166 rfl rfl) (by decide) hR ⟨nfr hF (by decide), nlo hLo (by decide)⟩ (n := 1) rfl rfl (Nat.le_of_ble_eq_true rfl) hl.1 dX12_unary_166 (fun μ264 ρ d0 H locs hp G => ?_)
            obtain ⟨F_265, hp_266, hp_267⟩ := hp
            have e_269 : μ264.1 111 22 = μ255.1 111 22 := (F_265.1 111 (by decide) 22)
            have hxt_268 : mEXT μ μ264 := hxt_262.aim hp_266 (by omega)
            refine lv_aload_n hx hb dX12_unary_169 rfl (lv_at hl 4 rfl) ?_
            refine lv_iload hx hb dX12_unary_170 (lv_at hl 0 rfl) ?_
            have e_270 : μ264.1 111 29 = μ201.1 111 29 := ((F_265.1 111 (by decide) 29).trans ((hp_258 29 (by decide)).trans ((hp_244 29 (by decide)).trans (hp_221 29 (by decide)))))
            have e_271 : μ264.1 111 22 = μ255.1 111 22 := (F_265.1 111 (by decide) 22)
            have e_272 : μ264.1 111 22 = μ255.1 111 22 := (F_265.1 111 (by decide) 22)
            have e_273 : μ264.1 111 22 = μ255.1 111 22 := (F_265.1 111 (by decide) 22)
            have e_274 : μ264.1 111 22 = μ255.1 111 22 := (F_265.1 111 (by decide) 22)
            have e_275 : μ264.1 111 22 = μ255.1 111 22 := (F_265.1 111 (by decide) 22)
            refine xc_vV G (b := 111) (rest := []) (As := [.int (iv r_242)]) (c_X12_landsSkip ω l μ264 r_242 (by unfold ir; omega) (by omega) (by omega)) (wm 9 163 rfl rfl) (wm 9 165 rfl rfl) (wm 0 153 rfl rfl) rfl rfl (by decide) rfl (wm 1 18 rfl rfl) (wm 9 166 rfl rfl) (by decide) hR ⟨nfr hF (by decide), nlo hLo (by decide)⟩ (n := 1) rfl rfl (Nat.le_of_ble_eq_true rfl) hl.1 dX12_unary_172 (fun μ276 ρ d0 H locs hp G => ?_)
            obtain ⟨F_277, hp_278, hp_279⟩ := hp
            have e_281 : μ276.1 111 22 = μ255.1 111 22 := ((F_277.1 111 (by decide) 22).trans (F_265.1 111 (by decide) 22))
            have hxt_280 : mEXT μ μ276 := hxt_268.aim hp_278 (by omega)
            have e_282 : wr μ276 = wr μ219 := ((wr_cg (F_277.1 111 (by decide) 15)).trans ((wr_cg (F_265.1 111 (by decide) 15)).trans ((wr_cg (hp_258 15 (by decide))).trans (wr_cg (hp_244 15 (by decide))))))
            have e_283 : bd μ276 = bd μ219 := ((bd_cg (F_277.1 111 (by decide) 15) (F_277.1 111 (by decide) 16) (F_277.1 111 (by decide) 17)).trans ((bd_cg (F_265.1 111 (by decide) 15) (F_265.1 111 (by decide) 16) (F_265.1 111 (by decide) 17)).trans ((bd_cg (hp_258 15 (by decide)) (hp_258 16 (by decide)) (hp_258 17 (by decide))).trans (bd_cg (hp_244 15 (by decide)) (hp_244 16 (by decide)) (hp_244 17 (by decide))))))
            have e_284 : nn μ276 = nn μ219 := ((nn_cg (F_277.1 111 (by decide) 15) (F_277.1 111 (by decide) 18)).trans ((nn_cg (F_265.1 111 (by decide) 15) (F_265.1 111 (by decide) 18)).trans ((nn_cg (hp_258 15 (by decide)) (hp_258 18 (by decide))).trans (nn_cg (hp_244 15 (by decide)) (hp_244 18 (by decide))))))
            have e_286 : μ276.1 111 29 = μ201.1 111 29 := ((F_277.1 111 (by decide) 29).trans ((F_265.1 111 (by decide) 29).trans ((hp_258 29 (by decide)).trans ((hp_244 29 (by decide)).trans (hp_221 29 (by decide))))))
            have hX_285 : ∀ _ : Unit, bd μ276 = 0 → mPX μ μ276 tt 1 1 (11 * (9 - nn μ) - 3) [] := fun _ h0 => mPX.of (as_get ((hX_231 ()) (by have e9 : bd μ219 = bd μ219 := rfl; have e8 : bd μ276 = bd μ219 := ((bd_cg (F_277.1 111 (by decide) 15) (F_277.1 111 (by decide) 16) (F_277.1 111 (by decide) 17)).trans ((bd_cg (F_265.1 111 (by decide) 15) (F_265.1 111 (by decide) 16) (F_265.1 111 (by decide) 17)).trans ((bd_cg (hp_258 15 (by decide)) (hp_258 16 (by decide)) (hp_258 17 (by decide))).trans (bd_cg (hp_244 15 (by decide)) (hp_244 16 (by decide)) (hp_244 17 (by decide)))))); omega)) (hp_245 ()) hp_259 hp_266 hp_278)
            refine lv_goto (tgt := 184) hx hb dX12_unary_175 (by decide) ?_
            refine lv_goto (tgt := 206) hx hb dX12_unary_184 (by decide) ?_
            have e_287 : μ276.1 111 22 = μ255.1 111 22 := ((F_277.1 111 (by decide) 22).trans (F_265.1 111 (by decide) 22))
            have e_288 : μ276.1 111 9 = μ219.1 111 9 := ((F_277.1 111 (by decide) 9).trans ((F_265.1 111 (by decide) 9).trans ((hp_258 9 (by decide)).trans (hp_244 9 (by decide)))))
            have e_289 : μ276.1 111 29 = μ201.1 111 29 := ((F_277.1 111 (by decide) 29).trans ((F_265.1 111 (by decide) 29).trans ((hp_258 29 (by decide)).trans ((hp_244 29 (by decide)).trans (hp_221 29 (by decide))))))
            have e_290 : μ276.1 111 39 = μ201.1 111 39 := ((F_277.1 111 (by decide) 39).trans ((F_265.1 111 (by decide) 39).trans ((hp_258 39 (by decide)).trans ((hp_244 39 (by decide)).trans (hp_221 39 (by decide))))))
            have e_291 : wr μ276 = wr μ219 := ((wr_cg (F_277.1 111 (by decide) 15)).trans ((wr_cg (F_265.1 111 (by decide) 15)).trans ((wr_cg (hp_258 15 (by decide))).trans (wr_cg (hp_244 15 (by decide))))))
            have e_292 : bd μ276 = bd μ219 := ((bd_cg (F_277.1 111 (by decide) 15) (F_277.1 111 (by decide) 16) (F_277.1 111 (by decide) 17)).trans ((bd_cg (F_265.1 111 (by decide) 15) (F_265.1 111 (by decide) 16) (F_265.1 111 (by decide) 17)).trans ((bd_cg (hp_258 15 (by decide)) (hp_258 16 (by decide)) (hp_258 17 (by decide))).trans (bd_cg (hp_244 15 (by decide)) (hp_244 16 (by decide)) (hp_244 17 (by decide))))))
            have e_293 : nn μ276 = nn μ219 := ((nn_cg (F_277.1 111 (by decide) 15) (F_277.1 111 (by decide) 18)).trans ((nn_cg (F_265.1 111 (by decide) 15) (F_265.1 111 (by decide) 18)).trans ((nn_cg (hp_258 15 (by decide)) (hp_258 18 (by decide))).trans (nn_cg (hp_244 15 (by decide)) (hp_244 18 (by decide))))))
            have hPM_294 : PM μ276 := hp_222.cg ((((F_277.1 111 (by decide) 4).trans ((F_265.1 111 (by decide) 4).trans ((hp_258 4 (by decide)).trans ((hp_244 4 (by decide)).trans ((hp_221 4 (by decide)).trans ((hp_203 4 (by decide)).trans ((hp_173 4 (by decide)).trans ((hp_148 4 (by decide)).trans ((hp_132 4 (by decide)).trans ((hp_108 4 (by decide)).trans (hp_53 4 (by decide))))))))))))).trans (((hp_221 4 (by decide)).trans ((hp_203 4 (by decide)).trans ((hp_173 4 (by decide)).trans ((hp_148 4 (by decide)).trans ((hp_132 4 (by decide)).trans ((hp_108 4 (by decide)).trans (hp_53 4 (by decide))))))))).symm) ((F_277.1 111 (by decide) 6).trans ((F_265.1 111 (by decide) 6).trans ((hp_258 6 (by decide)).trans (hp_244 6 (by decide))))) ((((F_277.1 111 (by decide) 7).trans ((F_265.1 111 (by decide) 7).trans ((hp_258 7 (by decide)).trans ((hp_244 7 (by decide)).trans ((hp_221 7 (by decide)).trans ((hp_203 7 (by decide)).trans ((hp_173 7 (by decide)).trans ((hp_148 7 (by decide)).trans ((hp_132 7 (by decide)).trans ((hp_108 7 (by decide)).trans (hp_53 7 (by decide))))))))))))).trans (((hp_221 7 (by decide)).trans ((hp_203 7 (by decide)).trans ((hp_173 7 (by decide)).trans ((hp_148 7 (by decide)).trans ((hp_132 7 (by decide)).trans ((hp_108 7 (by decide)).trans (hp_53 7 (by decide))))))))).symm) ((F_277.1 111 (by decide) 8).trans ((F_265.1 111 (by decide) 8).trans ((hp_258 8 (by decide)).trans (hp_244 8 (by decide))))) ((F_277.1 111 (by decide) 9).trans ((F_265.1 111 (by decide) 9).trans ((hp_258 9 (by decide)).trans (hp_244 9 (by decide))))) ((F_277.1 111 (by decide) 11).trans ((F_265.1 111 (by decide) 11).trans ((hp_258 11 (by decide)).trans (hp_244 11 (by decide))))) ((F_277.1 111 (by decide) 12).trans ((F_265.1 111 (by decide) 12).trans ((hp_258 12 (by decide)).trans (hp_244 12 (by decide))))) ((((F_277.1 111 (by decide) 14).trans ((F_265.1 111 (by decide) 14).trans ((hp_258 14 (by decide)).trans ((hp_244 14 (by decide)).trans ((hp_221 14 (by decide)).trans ((hp_203 14 (by decide)).trans ((hp_173 14 (by decide)).trans ((hp_148 14 (by decide)).trans ((hp_132 14 (by decide)).trans ((hp_108 14 (by decide)).trans ((hp_53 14 (by decide)).trans htt.symm)))))))))))).trans (((hp_221 14 (by decide)).trans ((hp_203 14 (by decide)).trans ((hp_173 14 (by decide)).trans ((hp_148 14 (by decide)).trans ((hp_132 14 (by decide)).trans ((hp_108 14 (by decide)).trans ((hp_53 14 (by decide)).trans htt.symm)))))))).symm) ((F_277.1 111 (by decide) 15).trans ((F_265.1 111 (by decide) 15).trans ((hp_258 15 (by decide)).trans (hp_244 15 (by decide))))) ((((F_277.1 111 (by decide) 29).trans ((F_265.1 111 (by decide) 29).trans ((hp_258 29 (by decide)).trans ((hp_244 29 (by decide)).trans (hp_221 29 (by decide))))))).trans ((hp_221 29 (by decide))).symm) (fun j => ((F_277.1 123 (by decide) j).trans ((F_265.1 123 (by decide) j).trans ((F_257.1 123 (by decide) j).trans (F_243.1 123 (by decide) j)))))
            have e_295 : μ276.1 111 22 = μ255.1 111 22 := ((F_277.1 111 (by decide) 22).trans (F_265.1 111 (by decide) 22))
            have e_296 : μ276.1 111 22 = μ255.1 111 22 := ((F_277.1 111 (by decide) 22).trans (F_265.1 111 (by decide) 22))
            have e_297 : μ276.1 111 9 = μ219.1 111 9 := ((F_277.1 111 (by decide) 9).trans ((F_265.1 111 (by decide) 9).trans ((hp_258 9 (by decide)).trans (hp_244 9 (by decide)))))
            have e_298 : wr μ276 = wr μ219 := ((wr_cg (F_277.1 111 (by decide) 15)).trans ((wr_cg (F_265.1 111 (by decide) 15)).trans ((wr_cg (hp_258 15 (by decide))).trans (wr_cg (hp_244 15 (by decide))))))
            have e_299 : μ276.1 111 9 = μ219.1 111 9 := ((F_277.1 111 (by decide) 9).trans ((F_265.1 111 (by decide) 9).trans ((hp_258 9 (by decide)).trans (hp_244 9 (by decide)))))
            have e_300 : μ276.1 111 29 = μ201.1 111 29 := ((F_277.1 111 (by decide) 29).trans ((F_265.1 111 (by decide) 29).trans ((hp_258 29 (by decide)).trans ((hp_244 29 (by decide)).trans (hp_221 29 (by decide))))))
            have e_301 : wr μ276 = wr μ219 := ((wr_cg (F_277.1 111 (by decide) 15)).trans ((wr_cg (F_265.1 111 (by decide) 15)).trans ((wr_cg (hp_258 15 (by decide))).trans (wr_cg (hp_244 15 (by decide))))))
            have e_302 : bd μ276 = bd μ219 := ((bd_cg (F_277.1 111 (by decide) 15) (F_277.1 111 (by decide) 16) (F_277.1 111 (by decide) 17)).trans ((bd_cg (F_265.1 111 (by decide) 15) (F_265.1 111 (by decide) 16) (F_265.1 111 (by decide) 17)).trans ((bd_cg (hp_258 15 (by decide)) (hp_258 16 (by decide)) (hp_258 17 (by decide))).trans (bd_cg (hp_244 15 (by decide)) (hp_244 16 (by decide)) (hp_244 17 (by decide))))))
            have e_303 : wr μ276 = wr μ219 := ((wr_cg (F_277.1 111 (by decide) 15)).trans ((wr_cg (F_265.1 111 (by decide) 15)).trans ((wr_cg (hp_258 15 (by decide))).trans (wr_cg (hp_244 15 (by decide))))))
            have e_304 : nn μ276 = nn μ219 := ((nn_cg (F_277.1 111 (by decide) 15) (F_277.1 111 (by decide) 18)).trans ((nn_cg (F_265.1 111 (by decide) 15) (F_265.1 111 (by decide) 18)).trans ((nn_cg (hp_258 15 (by decide)) (hp_258 18 (by decide))).trans (nn_cg (hp_244 15 (by decide)) (hp_244 18 (by decide))))))
            have e_305 : μ276.1 111 39 = μ201.1 111 39 := ((F_277.1 111 (by decide) 39).trans ((F_265.1 111 (by decide) 39).trans ((hp_258 39 (by decide)).trans ((hp_244 39 (by decide)).trans (hp_221 39 (by decide))))))
            exact xr_v G hret hlk dX12_unary_206 ⟨(FrM.tr (FrM.tr (FrM.tr (FrM.tr (FrM.tr (FrM.tr (FrM.tr (FrM.tr (FrM.tr (FrM.tr (FrM.tr FrM.rf F_52 (by decide)) F_107 (by decide)) F_131 (by decide)) F_147 (by decide)) F_172 (by decide)) F_202 (by decide)) F_220 (by decide)) F_243 (by decide)) F_257 (by decide)) F_265 (by decide)) F_277 (by decide)), (fun j hj => ((F_277.1 111 (by decide) j).trans ((F_265.1 111 (by decide) j).trans ((hp_258 j (fun h9 => hj ((by decide : ∀ x ∈ ([22] : List Int), x ∈ ([6, 8, 9, 10, 11, 12, 13, 15, 16, 17, 18, 22, 29, 39] : List Int)) j h9))).trans ((hp_244 j (fun h9 => hj ((by decide : ∀ x ∈ ([22] : List Int), x ∈ ([6, 8, 9, 10, 11, 12, 13, 15, 16, 17, 18, 22, 29, 39] : List Int)) j h9))).trans ((hp_221 j (fun h9 => hj ((by decide : ∀ x ∈ ([6, 8, 9, 10, 11, 12, 13, 15, 18] : List Int), x ∈ ([6, 8, 9, 10, 11, 12, 13, 15, 16, 17, 18, 22, 29, 39] : List Int)) j h9))).trans ((hp_203 j (fun h9 => hj ((by decide : ∀ x ∈ ([6, 8, 9, 10, 11, 12, 13, 15, 16, 17, 18, 22, 29, 39] : List Int), x ∈ ([6, 8, 9, 10, 11, 12, 13, 15, 16, 17, 18, 22, 29, 39] : List Int)) j h9))).trans ((hp_173 j (fun h9 => hj ((by decide : ∀ x ∈ ([6, 8, 9, 10, 11, 12, 13, 15, 18] : List Int), x ∈ ([6, 8, 9, 10, 11, 12, 13, 15, 16, 17, 18, 22, 29, 39] : List Int)) j h9))).trans ((hp_148 j (fun h9 => hj ((by decide : ∀ x ∈ ([22] : List Int), x ∈ ([6, 8, 9, 10, 11, 12, 13, 15, 16, 17, 18, 22, 29, 39] : List Int)) j h9))).trans ((hp_132 j (fun h9 => hj ((by decide : ∀ x ∈ ([22] : List Int), x ∈ ([6, 8, 9, 10, 11, 12, 13, 15, 16, 17, 18, 22, 29, 39] : List Int)) j h9))).trans ((hp_108 j (fun h9 => hj ((by decide : ∀ x ∈ ([17] : List Int), x ∈ ([6, 8, 9, 10, 11, 12, 13, 15, 16, 17, 18, 22, 29, 39] : List Int)) j h9))).trans (hp_53 j (fun h9 => hj ((by decide : ∀ x ∈ ([6, 8, 9, 10, 11, 12, 13, 15] : List Int), x ∈ ([6, 8, 9, 10, 11, 12, 13, 15, 16, 17, 18, 22, 29, 39] : List Int)) j h9)))))))))))))), hPM_294, (by omega), (by omega), (by omega), (by omega), (by omega), (by omega), (fun j hj => ((F_277.1 126 (by decide) j).trans ((F_265.1 126 (by decide) j).trans ((F_257.1 126 (by decide) j).trans ((F_243.1 126 (by decide) j).trans ((F_220.1 126 (by decide) j).trans ((hp_211 j (by omega)).trans ((F_172.1 126 (by decide) j).trans ((F_147.1 126 (by decide) j).trans ((F_131.1 126 (by decide) j).trans ((F_107.1 126 (by decide) j).trans (F_52.1 126 (by decide) j)))))))))))), (fun _ h0 => (mPX.ex ((hX_285 ()) h0)).e (by omega)), hxt_280⟩
      · refine lv_aload_n hx hb dX12_unary_64 rfl (lv_at hl 0 rfl) ?_
        refine lv_iconst (v := iv 1) hx hb dX12_unary_65 rfl ?_
        refine lv_aload_n hx hb dX12_unary_66 rfl (lv_at hl 0 rfl) ?_
        refine xa_getl G fd_X12 (a := 111) (x := μ.1 111 12) 12 rfl (by decide) rfl (wm 7 161 rfl rfl) ⟨rfl, rfl, rfl⟩ dX12_unary_67 rfl rfl ?_
        have hj_306 : jr (μ.1 111 12) := by have h9 := G.hj (a := 111) (k := 12) rfl; exact h9
        refine lv_iconst (v := iv 0) hx hb dX12_unary_70 rfl ?_
        refine xc_iV G (b := 111) (rest := []) (As := [.int (iv 1), .long (jv (μ.1 111 12)), .int (iv 0)]) (c_X12_emit ω l μ 1 (μ.1 111 12) 0 (by unfold ir; omega) hj_306 (by unfold ir; omega) (by omega)) (wm 9 126 rfl rfl) (wm 9 128 rfl rfl) (wm 0 144 rfl rfl) rfl rfl (by decide) rfl (wm 1 18 rfl rfl) (wm 9 129 rfl rfl) (by decide) hR ⟨nfr hF (by decide), nlo hLo (by decide)⟩ (n := 3) rfl rfl (Nat.le_of_ble_eq_true rfl) hl.1 dX12_unary_71 (fun r_308 μ307 ρ d0 H locs hr_r_308 hp G => ?_)
        have hr_r_308 : -2147483648 ≤ r_308 ∧ r_308 ≤ 2147483647 := hr_r_308
        obtain ⟨F_309, hp_310, hp_311, hp_312, hp_313⟩ := hp
        have hxt_314 : mEXT μ μ307 := (mEXT.rf (μ := μ)).tr hp_311.1
        have e_315 : wr μ307 = wr μ := (wr_cg (hp_310 15 (by decide)))
        have e_316 : bd μ307 = bd μ := (bd_cg (hp_310 15 (by decide)) (hp_310 16 (by decide)) (hp_310 17 (by decide)))
        have e_317 : nn μ307 = nn μ := (nn_cg (hp_310 15 (by decide)) (hp_310 18 (by decide)))
        have e_319 : μ307.1 111 29 = μ.1 111 29 := (hp_310 29 (by decide))
        have hX_318 : ∀ _ : Unit, bd μ307 = 0 → mPX μ μ307 tt 1 1 (11 * (9 - nn μ) - 3) [] := fun _ h0 => ((((hX_1 ()) (by have e9 : bd μ = bd μ := rfl; have e8 : bd μ307 = bd μ := (bd_cg (hp_310 15 (by decide)) (hp_310 16 (by decide)) (hp_310 17 (by decide))); omega))).app (mAD.ex (t := tt) (e := 1) hp_311 ((hX_1 ()) (by have e9 : bd μ = bd μ := rfl; have e8 : bd μ307 = bd μ := (bd_cg (hp_310 15 (by decide)) (hp_310 16 (by decide)) (hp_310 17 (by decide))); omega)).h1.1 (by unfold mpl; omega) rfl (by have h9 := ((hX_1 ()) (by have e9 : bd μ = bd μ := rfl; have e8 : bd μ307 = bd μ := (bd_cg (hp_310 15 (by decide)) (hp_310 16 (by decide)) (hp_310 17 (by decide))); omega)).h1; omega) ⟨fun _ q => (hPM.1.2.2.2.2.2 (by omega) (by omega) (wr_0.1 (by omega))), ⟨fun q => absurd q (by decide), fun q => absurd q (by decide)⟩, fun q => absurd q (by decide), fun q => absurd q (by decide), fun q => absurd q (by decide), fun q => absurd q (by decide), fun q => absurd q (by decide), fun q => absurd q (by decide), fun q => absurd q (by decide), fun q => absurd q (by decide), fun q => absurd q (by decide), fun q => absurd q (by decide), fun q => absurd q (by decide), fun q => absurd q (by decide), fun q => absurd q (by decide), fun q => absurd q (by decide), fun q => absurd q (by decide), fun q => absurd q (by decide), fun q => absurd q (by decide), fun q => absurd q (by decide), fun q => absurd q (by decide), ⟨fun q => absurd q (by decide), fun q => absurd q (by decide), fun q => absurd q (by decide)⟩, ⟨by decide, by decide⟩⟩) (by have h9 := ((hX_1 ()) (by have e9 : bd μ = bd μ := rfl; have e8 : bd μ307 = bd μ := (bd_cg (hp_310 15 (by decide)) (hp_310 16 (by decide)) (hp_310 17 (by decide))); omega)).h1; omega)).ee (by omega)
        refine lv_pop hx hb dX12_unary_74 rfl ?_
        refine lv_aload_n hx hb dX12_unary_75 rfl (lv_at hl 0 rfl) ?_
        have hPM_320 : PM μ307 := hPM.cg (hp_310 4 (by decide)) (hp_310 6 (by decide)) (hp_310 7 (by decide)) (hp_310 8 (by decide)) (hp_310 9 (by decide)) (hp_310 11 (by decide)) (hp_310 12 (by decide)) ((((hp_310 14 (by decide)).trans htt.symm)).trans (htt.symm).symm) (hp_310 15 (by decide)) (hp_310 29 (by decide)) (fun j => (F_309.1 123 (by decide) j))
        have e_321 : wr μ307 = wr μ := (wr_cg (hp_310 15 (by decide)))
        have e_322 : nn μ307 = nn μ := (nn_cg (hp_310 15 (by decide)) (hp_310 18 (by decide)))
        have e_323 : μ307.1 111 8 = μ.1 111 8 := (hp_310 8 (by decide))
        have e_324 : wr μ307 = wr μ := (wr_cg (hp_310 15 (by decide)))
        have e_325 : μ307.1 111 9 = μ.1 111 9 := (hp_310 9 (by decide))
        have e_326 : wr μ307 = wr μ := (wr_cg (hp_310 15 (by decide)))
        have e_327 : wr μ307 = wr μ := (wr_cg (hp_310 15 (by decide)))
        have e_328 : bd μ307 = bd μ := (bd_cg (hp_310 15 (by decide)) (hp_310 16 (by decide)) (hp_310 17 (by decide)))
        have e_329 : nn μ307 = nn μ := (nn_cg (hp_310 15 (by decide)) (hp_310 18 (by decide)))
        refine xc_vV G (b := 111) (rest := []) (As := []) (c_X12_next ω l μ307  hPM_320 (by omega) (by omega)) (wm 9 0 rfl rfl) (wm 9 2 rfl rfl) (wm 0 119 rfl rfl) rfl rfl (by decide) rfl (wm 1 18 rfl rfl) (wm 9 3 rfl rfl) (by decide) hR ⟨nfr hF (by decide), nlo hLo (by decide)⟩ (n := 0) rfl rfl (Nat.le_of_ble_eq_true rfl) hl.1 dX12_unary_76 (fun μ330 ρ d0 H locs hp G => ?_)
        obtain ⟨F_331, hp_332, hp_333, hp_334, hp_335, hp_336⟩ := hp
        have hpl_337 := hp_333.pl
        have hw_338 := wr_r (μ := μ307)
        have hw_339 := wr_r (μ := μ330)
        have e_340 : μ330.1 111 31 = μ.1 111 31 := ((hp_332 31 (by decide)).trans (hp_310 31 (by decide)))
        refine lv_goto (tgt := 206) hx hb dX12_unary_79 (by decide) ?_
        have e_341 : μ330.1 111 22 = μ307.1 111 22 := (hp_332 22 (by decide))
        have e_342 : μ330.1 111 29 = μ.1 111 29 := ((hp_332 29 (by decide)).trans (hp_310 29 (by decide)))
        have e_343 : μ330.1 111 39 = μ.1 111 39 := ((hp_332 39 (by decide)).trans (hp_310 39 (by decide)))
        have e_344 : μ330.1 111 29 = μ.1 111 29 := ((hp_332 29 (by decide)).trans (hp_310 29 (by decide)))
        have e_346 : μ330.1 111 29 = μ.1 111 29 := ((hp_332 29 (by decide)).trans (hp_310 29 (by decide)))
        have hX_345 : ∀ _ : Unit, bd μ330 = 0 → mPX μ μ330 tt 1 1 (11 * (9 - nn μ) - 3) [] := fun _ h0 => (hX_318 () (by have e9 : bd μ307 = bd μ := (bd_cg (hp_310 15 (by decide)) (hp_310 16 (by decide)) (hp_310 17 (by decide))); have e8 : bd μ330 = bd μ330 := rfl; omega)).qm (q0m.fr (K := [111]) (FrM.tr FrM.rf F_331 (by decide)) (by decide) (by decide) (by decide) (hp_332 22 (by decide)) (nS.le (by omega) (Int.le_of_eq (((((hp_332 31 (by decide)).trans (hp_310 31 (by decide)))).trans ((hp_310 31 (by decide))).symm)).symm)))
        have e_347 : μ330.1 111 29 = μ.1 111 29 := ((hp_332 29 (by decide)).trans (hp_310 29 (by decide)))
        have hxt_348 : mEXT μ μ330 := hxt_314.tr (q0m.fr (K := [111]) (FrM.tr FrM.rf F_331 (by decide)) (by decide) (by decide) (by decide) (hp_332 22 (by decide)) (nS.le (by omega) (Int.le_of_eq (((((hp_332 31 (by decide)).trans (hp_310 31 (by decide)))).trans ((hp_310 31 (by decide))).symm)).symm))).1
        have e_349 : μ330.1 111 22 = μ307.1 111 22 := (hp_332 22 (by decide))
        have e_350 : μ330.1 111 22 = μ307.1 111 22 := (hp_332 22 (by decide))
        have e_351 : μ330.1 111 29 = μ.1 111 29 := ((hp_332 29 (by decide)).trans (hp_310 29 (by decide)))
        have e_352 : μ330.1 111 39 = μ.1 111 39 := ((hp_332 39 (by decide)).trans (hp_310 39 (by decide)))
        exact xr_v G hret hlk dX12_unary_206 ⟨(FrM.tr (FrM.tr FrM.rf F_309 (by decide)) F_331 (by decide)), (fun j hj => ((hp_332 j (fun h9 => hj ((by decide : ∀ x ∈ ([6, 8, 9, 10, 11, 12, 13, 15] : List Int), x ∈ ([6, 8, 9, 10, 11, 12, 13, 15, 16, 17, 18, 22, 29, 39] : List Int)) j h9))).trans (hp_310 j (fun h9 => hj ((by decide : ∀ x ∈ ([22] : List Int), x ∈ ([6, 8, 9, 10, 11, 12, 13, 15, 16, 17, 18, 22, 29, 39] : List Int)) j h9))))), hp_333, (by omega), (by omega), (by omega), (by omega), (by omega), (by omega), (fun j hj => ((F_331.1 126 (by decide) j).trans (F_309.1 126 (by decide) j))), (fun _ h0 => (mPX.ex ((hX_345 ()) h0)).e (by omega)), hxt_348⟩
    · exact xr_v G hret hlk dX12_unary_55 ⟨FrM.rf, (fun j hj => rfl), hPM, (by omega), (by omega), (by omega), (by omega), (by omega), (by omega), (fun j hj => rfl), (fun _ h0 => (mPX.ex ((hX_1 ()) h0)).e (by omega)), (mEXT.rf (μ := μ))⟩
  · refine lv_aload_n hx hb dX12_unary_9 rfl (lv_at hl 0 rfl) ?_
    refine xc_vV G (b := 111) (rest := []) (As := []) (c_X12_opens ω l μ  hPM (by omega) (by omega) (by omega)) (wm 9 94 rfl rfl) (wm 9 96 rfl rfl) (wm 0 136 rfl rfl) rfl rfl (by decide) rfl (wm 1 18 rfl rfl) (wm 9 97 rfl rfl) (by decide) hR ⟨nfr hF (by decide), nlo hLo (by decide)⟩ (n := 0) rfl rfl (Nat.le_of_ble_eq_true rfl) hl.1 dX12_unary_10 (fun μ353 ρ d0 H locs hp G => ?_)
    obtain ⟨F_354, hp_355, hp_356, hp_357, hp_358, hp_359, hp_360⟩ := hp
    have hpl_361 := hp_356.pl
    have hw_362 := wr_r (μ := μ353)
    have e_363 : μ353.1 111 31 = μ.1 111 31 := (hp_355 31 (by decide))
    refine lv_aload_n hx hb dX12_unary_13 rfl (lv_at hl 0 rfl) ?_
    have e_364 : μ353.1 111 29 = μ.1 111 29 := (hp_355 29 (by decide))
    have e_366 : μ353.1 111 29 = μ.1 111 29 := (hp_355 29 (by decide))
    have hX_365 : ∀ _ : Unit, bd μ353 = 0 → mPX μ μ353 tt 0 1 (11 * (9 - nn μ) - 3) [] := fun _ h0 => (hX_1 () (by have e9 : bd μ = bd μ := rfl; have e8 : bd μ353 = bd μ353 := rfl; omega)).qm (q0m.fr (K := [111]) (FrM.tr FrM.rf F_354 (by decide)) (by decide) (by decide) (by decide) (hp_355 22 (by decide)) (nS.le (by omega) (Int.le_of_eq ((hp_355 31 (by decide))).symm)))
    have e_367 : μ353.1 111 29 = μ.1 111 29 := (hp_355 29 (by decide))
    have e_368 : μ353.1 111 29 = μ.1 111 29 := (hp_355 29 (by decide))
    have hxt_369 : mEXT μ μ353 := (q0m.fr (K := [111]) (FrM.tr FrM.rf F_354 (by decide)) (by decide) (by decide) (by decide) (hp_355 22 (by decide)) (nS.le (by omega) (Int.le_of_eq ((hp_355 31 (by decide))).symm))).1
    have e_370 : μ353.1 111 14 = tt := ((hp_355 14 (by decide)).trans htt.symm)
    have e_371 : μ353.1 111 22 = μ.1 111 22 := (hp_355 22 (by decide))
    have e_372 : μ353.1 111 22 = μ.1 111 22 := (hp_355 22 (by decide))
    have e_373 : μ353.1 111 39 = μ.1 111 39 := (hp_355 39 (by decide))
    have e_374 : μ353.1 111 39 = μ.1 111 39 := (hp_355 39 (by decide))
    have e_375 : μ353.1 111 22 = μ.1 111 22 := (hp_355 22 (by decide))
    have e_376 : μ353.1 111 31 = μ.1 111 31 := (hp_355 31 (by decide))
    have e_377 : μ353.1 111 31 = μ.1 111 31 := (hp_355 31 (by decide))
    have e_378 : μ353.1 111 22 = μ.1 111 22 := (hp_355 22 (by decide))
    have e_379 : μ353.1 111 22 = μ.1 111 22 := (hp_355 22 (by decide))
    have e_380 : μ353.1 111 29 = μ.1 111 29 := (hp_355 29 (by decide))
    have e_381 : μ353.1 111 39 = μ.1 111 39 := (hp_355 39 (by decide))
    refine xc_vV G (b := 111) (rest := []) (As := []) (((fun (_ : Om) (_ : Launch) => hU)) ω l μ353 tt (by omega) hp_356 (by omega) (by omega) (by omega) (by omega) (by omega) (by omega) (fun _ h0 => ((hX_365 ()) h0).h1.1)) (wm 9 155 rfl rfl) (wm 9 157 rfl rfl) (wm 0 151 rfl rfl) rfl rfl (by decide) rfl (wm 1 18 rfl rfl) (wm 9 158 rfl rfl) (by decide) hR ⟨ufr hFu (by decide), ulo hLu (m := 6) (by decide)⟩ (n := 0) rfl rfl (Nat.le_of_ble_eq_true rfl) hl.1 dX12_unary_14 (fun μ382 ρ d0 H locs hp G => ?_)
    obtain ⟨F_383, hp_384, hp_385, hp_386, hp_387, hp_388, hp_389, hp_390, hp_391, hp_392, hp_393, hp_394⟩ := hp
    have hpl_395 := hp_385.pl
    have hw_396 := wr_r (μ := μ382)
    have hxt_397 : mEXT μ μ382 := hxt_369.tr hp_394
    have e_398 : μ382.1 111 31 = μ.1 111 31 := ((hp_384 31 (by decide)).trans (hp_355 31 (by decide)))
    have hX_399 : ∀ _ : Unit, bd μ382 = 0 → mPX μ μ382 tt 1 1 (11 * (9 - nn μ) - 3) [] := fun _ h0 => (((hX_365 ()) (by have e9 : bd μ353 = bd μ353 := rfl; have e8 : bd μ382 = bd μ382 := rfl; omega)).app (hp_393 () h0) (by omega)).ee (by omega)
    refine lv_aload_n hx hb dX12_unary_17 rfl (lv_at hl 0 rfl) ?_
    refine lv_iconst (v := iv 0) hx hb dX12_unary_18 rfl ?_
    have e_400 : μ382.1 111 14 = tt := ((hp_384 14 (by decide)).trans ((hp_355 14 (by decide)).trans htt.symm))
    refine xc_iV G (b := 111) (rest := []) (As := [.int (iv 0)]) (c_X12_skips ω l μ382 0 tt (by unfold ir; omega) (by omega) (by omega)) (wm 9 159 rfl rfl) (wm 9 161 rfl rfl) (wm 0 152 rfl rfl) rfl rfl (by decide) rfl (wm 1 18 rfl rfl) (wm 9 162 rfl rfl) (by decide) hR ⟨nfr hF (by decide), nlo hLo (by decide)⟩ (n := 1) rfl rfl (Nat.le_of_ble_eq_true rfl) hl.1 dX12_unary_19 (fun r_402 μ401 ρ d0 H locs hr_r_402 hp G => ?_)
    have hr_r_402 : -2147483648 ≤ r_402 ∧ r_402 ≤ 2147483647 := hr_r_402
    obtain ⟨F_403, hp_404, hp_405, hp_406⟩ := hp
    have hqr_r_402 : (r_402 = -1) ∨ (μ.1 111 22 ≤ r_402 ∧ r_402 < μ401.1 111 22) := by rcases hp_405 with ⟨q1, q2, q3, q4⟩ | ⟨q1, q2, q3⟩; (right; have := q2.2.1; omega); (left; exact q2)
    have hxt_407 : mEXT μ μ401 := hxt_397.tr hp_405.ext
    have e_408 : μ401.1 111 31 = μ.1 111 31 := ((hp_404 31 (by decide)).trans ((hp_384 31 (by decide)).trans (hp_355 31 (by decide))))
    have e_409 : wr μ401 = wr μ382 := (wr_cg (hp_404 15 (by decide)))
    have e_410 : bd μ401 = bd μ382 := (bd_cg (hp_404 15 (by decide)) (hp_404 16 (by decide)) (hp_404 17 (by decide)))
    have e_411 : nn μ401 = nn μ382 := (nn_cg (hp_404 15 (by decide)) (hp_404 18 (by decide)))
    replace hp_405 := fun _ : Unit => hp_405
    have e_413 : μ401.1 111 29 = μ382.1 111 29 := (hp_404 29 (by decide))
    have hX_412 : ∀ _ : Unit, bd μ401 = 0 → mPX μ μ401 tt 1 1 (11 * (9 - nn μ) - 3) (lsk r_402 ++ []) := fun _ h0 => mPX.sk ((hX_399 ()) (by have e9 : bd μ382 = bd μ382 := rfl; have e8 : bd μ401 = bd μ382 := (bd_cg (hp_404 15 (by decide)) (hp_404 16 (by decide)) (hp_404 17 (by decide))); omega)) (hp_405 ()) (by omega) (by omega) (by decide)
    refine lv_istore_n (lv' := [(1, .int (iv r_402)), (0, .ref (oP ω 111))]) hx hb dX12_unary_22 rfl hl (by decide) rfl (fun ls hl => ?_)
    refine lv_aload_n hx hb dX12_unary_23 rfl (lv_at hl 1 rfl) ?_
    refine lv_bipush (v := iv 32) hx hb dX12_unary_24 rfl ?_
    refine lv_lconst (v := jv 0) hx hb dX12_unary_26 rfl ?_
    refine lv_iconst (v := iv 0) hx hb dX12_unary_27 rfl ?_
    have e_414 : μ401.1 111 29 = μ382.1 111 29 := (hp_404 29 (by decide))
    refine xc_iV G (b := 111) (rest := []) (As := [.int (iv 32), .long (jv 0), .int (iv 0)]) (c_X12_emit ω l μ401 32 0 0 (by unfold ir; omega) (by unfold jr; omega) (by unfold ir; omega) (by omega)) (wm 9 126 rfl rfl) (wm 9 128 rfl rfl) (wm 0 144 rfl rfl) rfl rfl (by decide) rfl (wm 1 18 rfl rfl) (wm 9 129 rfl rfl) (by decide) hR ⟨nfr hF (by decide), nlo hLo (by decide)⟩ (n := 3) rfl rfl (Nat.le_of_ble_eq_true rfl) hl.1 dX12_unary_28 (fun r_416 μ415 ρ d0 H locs hr_r_416 hp G => ?_)
    have hr_r_416 : -2147483648 ≤ r_416 ∧ r_416 ≤ 2147483647 := hr_r_416
    obtain ⟨F_417, hp_418, hp_419, hp_420, hp_421⟩ := hp
    have hxt_422 : mEXT μ μ415 := hxt_407.tr hp_419.1
    refine lv_pop hx hb dX12_unary_31 rfl ?_
    refine lv_aload_n hx hb dX12_unary_32 rfl (lv_at hl 1 rfl) ?_
    refine lv_iload_n hx hb dX12_unary_33 rfl (lv_at hl 0 rfl) ?_
    have e_423 : μ415.1 111 29 = μ382.1 111 29 := ((hp_418 29 (by decide)).trans (hp_404 29 (by decide)))
    refine xc_vV G (b := 111) (rest := []) (As := [.int (iv r_402)]) (c_X12_landsSkip ω l μ415 r_402 (by unfold ir; omega) (by omega) (by omega)) (wm 9 163 rfl rfl) (wm 9 165 rfl rfl) (wm 0 153 rfl rfl) rfl rfl (by decide) rfl (wm 1 18 rfl rfl) (wm 9 166 rfl rfl) (by decide) hR ⟨nfr hF (by decide), nlo hLo (by decide)⟩ (n := 1) rfl rfl (Nat.le_of_ble_eq_true rfl) hl.1 dX12_unary_34 (fun μ424 ρ d0 H locs hp G => ?_)
    obtain ⟨F_425, hp_426, hp_427⟩ := hp
    have e_429 : μ424.1 111 22 = μ415.1 111 22 := (F_425.1 111 (by decide) 22)
    have hxt_428 : mEXT μ μ424 := hxt_422.aim hp_426 (by omega)
    have e_430 : wr μ424 = wr μ382 := ((wr_cg (F_425.1 111 (by decide) 15)).trans ((wr_cg (hp_418 15 (by decide))).trans (wr_cg (hp_404 15 (by decide)))))
    have e_431 : bd μ424 = bd μ382 := ((bd_cg (F_425.1 111 (by decide) 15) (F_425.1 111 (by decide) 16) (F_425.1 111 (by decide) 17)).trans ((bd_cg (hp_418 15 (by decide)) (hp_418 16 (by decide)) (hp_418 17 (by decide))).trans (bd_cg (hp_404 15 (by decide)) (hp_404 16 (by decide)) (hp_404 17 (by decide)))))
    have e_432 : nn μ424 = nn μ382 := ((nn_cg (F_425.1 111 (by decide) 15) (F_425.1 111 (by decide) 18)).trans ((nn_cg (hp_418 15 (by decide)) (hp_418 18 (by decide))).trans (nn_cg (hp_404 15 (by decide)) (hp_404 18 (by decide)))))
    have e_434 : μ424.1 111 29 = μ382.1 111 29 := ((F_425.1 111 (by decide) 29).trans ((hp_418 29 (by decide)).trans (hp_404 29 (by decide))))
    have hX_433 : ∀ _ : Unit, bd μ424 = 0 → mPX μ μ424 tt 1 1 (11 * (9 - nn μ) - 3) [] := fun _ h0 => mPX.of (as_part (mPX.ex ((hX_399 ()) (by have e9 : bd μ382 = bd μ382 := rfl; have e8 : bd μ424 = bd μ382 := ((bd_cg (F_425.1 111 (by decide) 15) (F_425.1 111 (by decide) 16) (F_425.1 111 (by decide) 17)).trans ((bd_cg (hp_418 15 (by decide)) (hp_418 16 (by decide)) (hp_418 17 (by decide))).trans (bd_cg (hp_404 15 (by decide)) (hp_404 16 (by decide)) (hp_404 17 (by decide))))); omega))) (hp_405 ()) hp_419 (by decide) (fun z => absurd z (by decide)) hp_426)
    refine lv_aload_n hx hb dX12_unary_37 rfl (lv_at hl 1 rfl) ?_
    refine lv_dup hx hb dX12_unary_38 rfl ?_
    have hnn_435 : (wr μ424 = 0 ∧ nn μ424 = μ424.1 111 18) ∨ (wr μ424 = 1 ∧ nn μ424 = 9) := nn_is
    have e_436 : μ424.1 111 18 = μ382.1 111 18 := ((F_425.1 111 (by decide) 18).trans ((hp_418 18 (by decide)).trans (hp_404 18 (by decide))))
    refine xa_geti G fd_X12 (a := 111) (x := μ382.1 111 18) 18 rfl (by decide) rfl (wm 7 167 rfl rfl) ⟨rfl, rfl, rfl⟩ dX12_unary_39 rfl ((F_425.1 111 (by decide) 18).trans ((hp_418 18 (by decide)).trans (hp_404 18 (by decide)))) ?_
    have hr_437 : -2147483648 ≤ μ382.1 111 18 ∧ μ382.1 111 18 ≤ 2147483647 := by have h9 := G.hr (a := 111) (k := 18) rfl; rw [show μ424.1 111 18 = μ382.1 111 18 from ((F_425.1 111 (by decide) 18).trans ((hp_418 18 (by decide)).trans (hp_404 18 (by decide))))] at h9; exact h9
    refine lv_iconst (v := iv 1) hx hb dX12_unary_42 rfl ?_
    refine xb_isub hx hb dX12_unary_43 ?_
    refine xb_topi (fun y_438 hr_y_438 he_y_438 => ?_)
    have hr_y_438 : -2147483648 ≤ y_438 ∧ y_438 ≤ 2147483647 := hr_y_438
    have hy9_ : ir ((μ382.1 111 18) - 1) → y_438 = (μ382.1 111 18) - 1 := fun h9 => (iv_eq hr_y_438 h9).mp he_y_438
    unfold ir at hy9_
    refine xa_puti G fd_X12 (a := 111) (x := y_438) 18 (kz := 18) rfl rfl (by decide) rfl (by unfold ir; omega) (wm 7 167 rfl rfl) ⟨rfl, rfl, rfl, rfl⟩ rfl dX12_unary_44 rfl (fun H locs G => ?_)
    have e_439 : (sv μ424 111 18 y_438).1 111 22 = μ415.1 111 22 := ((sv_n _ (by decide)).trans (F_425.1 111 (by decide) 22))
    have e_440 : (sv μ424 111 18 y_438).1 111 9 = μ382.1 111 9 := ((sv_n _ (by decide)).trans ((F_425.1 111 (by decide) 9).trans ((hp_418 9 (by decide)).trans (hp_404 9 (by decide)))))
    have e_441 : (sv μ424 111 18 y_438).1 111 29 = μ382.1 111 29 := ((sv_n _ (by decide)).trans ((F_425.1 111 (by decide) 29).trans ((hp_418 29 (by decide)).trans (hp_404 29 (by decide)))))
    have e_442 : (sv μ424 111 18 y_438).1 111 39 = μ382.1 111 39 := ((sv_n _ (by decide)).trans ((F_425.1 111 (by decide) 39).trans ((hp_418 39 (by decide)).trans (hp_404 39 (by decide)))))
    have e_443 : wr (sv μ424 111 18 y_438) = wr μ382 := ((wr_cg (sv_n _ (by decide))).trans ((wr_cg (F_425.1 111 (by decide) 15)).trans ((wr_cg (hp_418 15 (by decide))).trans (wr_cg (hp_404 15 (by decide))))))
    have e_444 : bd (sv μ424 111 18 y_438) = bd μ382 := ((bd_cg (sv_n _ (by decide)) (sv_n _ (by decide)) (sv_n _ (by decide))).trans ((bd_cg (F_425.1 111 (by decide) 15) (F_425.1 111 (by decide) 16) (F_425.1 111 (by decide) 17)).trans ((bd_cg (hp_418 15 (by decide)) (hp_418 16 (by decide)) (hp_418 17 (by decide))).trans (bd_cg (hp_404 15 (by decide)) (hp_404 16 (by decide)) (hp_404 17 (by decide))))))
    have e_445 : wr (sv μ424 111 18 y_438) = wr μ382 := ((wr_cg (sv_n _ (by decide))).trans ((wr_cg (F_425.1 111 (by decide) 15)).trans ((wr_cg (hp_418 15 (by decide))).trans (wr_cg (hp_404 15 (by decide))))))
    have e_446 : bd (sv μ424 111 18 y_438) = bd μ382 := ((bd_cg (sv_n _ (by decide)) (sv_n _ (by decide)) (sv_n _ (by decide))).trans ((bd_cg (F_425.1 111 (by decide) 15) (F_425.1 111 (by decide) 16) (F_425.1 111 (by decide) 17)).trans ((bd_cg (hp_418 15 (by decide)) (hp_418 16 (by decide)) (hp_418 17 (by decide))).trans (bd_cg (hp_404 15 (by decide)) (hp_404 16 (by decide)) (hp_404 17 (by decide))))))
    have hnn_447 : (wr (sv μ424 111 18 y_438) = 0 ∧ nn (sv μ424 111 18 y_438) = (sv μ424 111 18 y_438).1 111 18) ∨ (wr (sv μ424 111 18 y_438) = 1 ∧ nn (sv μ424 111 18 y_438) = 9) := nn_is
    have e_448 : (sv μ424 111 18 y_438).1 111 18 = y_438 := (sv_s _ _ _ _)
    have e_449 : (sv μ424 111 18 y_438).1 111 18 = y_438 := (sv_s _ _ _ _)
    have e_450 : (sv μ424 111 18 y_438).1 111 29 = μ382.1 111 29 := ((sv_n _ (by decide)).trans ((F_425.1 111 (by decide) 29).trans ((hp_418 29 (by decide)).trans (hp_404 29 (by decide)))))
    have e_451 : wr (sv μ424 111 18 y_438) = wr μ382 := ((wr_cg (sv_n _ (by decide))).trans ((wr_cg (F_425.1 111 (by decide) 15)).trans ((wr_cg (hp_418 15 (by decide))).trans (wr_cg (hp_404 15 (by decide))))))
    have e_452 : bd (sv μ424 111 18 y_438) = bd μ382 := ((bd_cg (sv_n _ (by decide)) (sv_n _ (by decide)) (sv_n _ (by decide))).trans ((bd_cg (F_425.1 111 (by decide) 15) (F_425.1 111 (by decide) 16) (F_425.1 111 (by decide) 17)).trans ((bd_cg (hp_418 15 (by decide)) (hp_418 16 (by decide)) (hp_418 17 (by decide))).trans (bd_cg (hp_404 15 (by decide)) (hp_404 16 (by decide)) (hp_404 17 (by decide))))))
    have e_454 : (sv μ424 111 18 y_438).1 111 29 = μ382.1 111 29 := ((sv_n _ (by decide)).trans ((F_425.1 111 (by decide) 29).trans ((hp_418 29 (by decide)).trans (hp_404 29 (by decide)))))
    have hX_453 : ∀ _ : Unit, bd (sv μ424 111 18 y_438) = 0 → mPX μ (sv μ424 111 18 y_438) tt 1 1 (11 * (9 - nn μ) - 3) [] := fun _ h0 => (hX_433 () (by have e9 : bd μ424 = bd μ382 := ((bd_cg (F_425.1 111 (by decide) 15) (F_425.1 111 (by decide) 16) (F_425.1 111 (by decide) 17)).trans ((bd_cg (hp_418 15 (by decide)) (hp_418 16 (by decide)) (hp_418 17 (by decide))).trans (bd_cg (hp_404 15 (by decide)) (hp_404 16 (by decide)) (hp_404 17 (by decide))))); have e8 : bd (sv μ424 111 18 y_438) = bd μ382 := ((bd_cg (sv_n _ (by decide)) (sv_n _ (by decide)) (sv_n _ (by decide))).trans ((bd_cg (F_425.1 111 (by decide) 15) (F_425.1 111 (by decide) 16) (F_425.1 111 (by decide) 17)).trans ((bd_cg (hp_418 15 (by decide)) (hp_418 16 (by decide)) (hp_418 17 (by decide))).trans (bd_cg (hp_404 15 (by decide)) (hp_404 16 (by decide)) (hp_404 17 (by decide)))))); omega)).qm (q0m.fr (K := [111]) (FrM.put FrM.rf (by decide)) (by decide) (by decide) (by decide) ((((sv_n _ (by decide)).trans (F_425.1 111 (by decide) 22))).trans ((F_425.1 111 (by decide) 22)).symm) (nS.le (by omega) (Int.le_of_eq (((((sv_n _ (by decide)).trans ((F_425.1 111 (by decide) 31).trans ((hp_418 31 (by decide)).trans ((hp_404 31 (by decide)).trans ((hp_384 31 (by decide)).trans (hp_355 31 (by decide)))))))).trans (((F_425.1 111 (by decide) 31).trans ((hp_418 31 (by decide)).trans ((hp_404 31 (by decide)).trans ((hp_384 31 (by decide)).trans (hp_355 31 (by decide))))))).symm)).symm)))
    have hPM_455 : PM (sv μ424 111 18 y_438) := hp_385.cg ((((sv_n _ (by decide)).trans ((F_425.1 111 (by decide) 4).trans ((hp_418 4 (by decide)).trans ((hp_404 4 (by decide)).trans ((hp_384 4 (by decide)).trans (hp_355 4 (by decide)))))))).trans (((hp_384 4 (by decide)).trans (hp_355 4 (by decide)))).symm) ((sv_n _ (by decide)).trans ((F_425.1 111 (by decide) 6).trans ((hp_418 6 (by decide)).trans (hp_404 6 (by decide))))) ((((sv_n _ (by decide)).trans ((F_425.1 111 (by decide) 7).trans ((hp_418 7 (by decide)).trans ((hp_404 7 (by decide)).trans ((hp_384 7 (by decide)).trans (hp_355 7 (by decide)))))))).trans (((hp_384 7 (by decide)).trans (hp_355 7 (by decide)))).symm) ((sv_n _ (by decide)).trans ((F_425.1 111 (by decide) 8).trans ((hp_418 8 (by decide)).trans (hp_404 8 (by decide))))) ((sv_n _ (by decide)).trans ((F_425.1 111 (by decide) 9).trans ((hp_418 9 (by decide)).trans (hp_404 9 (by decide))))) ((sv_n _ (by decide)).trans ((F_425.1 111 (by decide) 11).trans ((hp_418 11 (by decide)).trans (hp_404 11 (by decide))))) ((sv_n _ (by decide)).trans ((F_425.1 111 (by decide) 12).trans ((hp_418 12 (by decide)).trans (hp_404 12 (by decide))))) ((((sv_n _ (by decide)).trans ((F_425.1 111 (by decide) 14).trans ((hp_418 14 (by decide)).trans ((hp_404 14 (by decide)).trans ((hp_384 14 (by decide)).trans ((hp_355 14 (by decide)).trans htt.symm))))))).trans (((hp_384 14 (by decide)).trans ((hp_355 14 (by decide)).trans htt.symm))).symm) ((sv_n _ (by decide)).trans ((F_425.1 111 (by decide) 15).trans ((hp_418 15 (by decide)).trans (hp_404 15 (by decide))))) ((sv_n _ (by decide)).trans ((F_425.1 111 (by decide) 29).trans ((hp_418 29 (by decide)).trans (hp_404 29 (by decide))))) (fun j => ((sv_n _ (by omega)).trans ((F_425.1 123 (by decide) j).trans ((F_417.1 123 (by decide) j).trans (F_403.1 123 (by decide) j)))))
    have e_456 : (sv μ424 111 18 y_438).1 111 29 = μ382.1 111 29 := ((sv_n _ (by decide)).trans ((F_425.1 111 (by decide) 29).trans ((hp_418 29 (by decide)).trans (hp_404 29 (by decide)))))
    have hxt_457 : mEXT μ (sv μ424 111 18 y_438) := hxt_428.tr (q0m.fr (K := [111]) (FrM.put FrM.rf (by decide)) (by decide) (by decide) (by decide) ((((sv_n _ (by decide)).trans (F_425.1 111 (by decide) 22))).trans ((F_425.1 111 (by decide) 22)).symm) (nS.le (by omega) (Int.le_of_eq (((((sv_n _ (by decide)).trans ((F_425.1 111 (by decide) 31).trans ((hp_418 31 (by decide)).trans ((hp_404 31 (by decide)).trans ((hp_384 31 (by decide)).trans (hp_355 31 (by decide)))))))).trans (((F_425.1 111 (by decide) 31).trans ((hp_418 31 (by decide)).trans ((hp_404 31 (by decide)).trans ((hp_384 31 (by decide)).trans (hp_355 31 (by decide))))))).symm)).symm))).1
    have e_458 : (sv μ424 111 18 y_438).1 111 22 = μ415.1 111 22 := ((sv_n _ (by decide)).trans (F_425.1 111 (by decide) 22))
    have e_459 : (sv μ424 111 18 y_438).1 111 22 = μ415.1 111 22 := ((sv_n _ (by decide)).trans (F_425.1 111 (by decide) 22))
    have e_460 : (sv μ424 111 18 y_438).1 111 9 = μ382.1 111 9 := ((sv_n _ (by decide)).trans ((F_425.1 111 (by decide) 9).trans ((hp_418 9 (by decide)).trans (hp_404 9 (by decide)))))
    have e_461 : wr (sv μ424 111 18 y_438) = wr μ382 := ((wr_cg (sv_n _ (by decide))).trans ((wr_cg (F_425.1 111 (by decide) 15)).trans ((wr_cg (hp_418 15 (by decide))).trans (wr_cg (hp_404 15 (by decide))))))
    have e_462 : (sv μ424 111 18 y_438).1 111 9 = μ382.1 111 9 := ((sv_n _ (by decide)).trans ((F_425.1 111 (by decide) 9).trans ((hp_418 9 (by decide)).trans (hp_404 9 (by decide)))))
    have e_463 : (sv μ424 111 18 y_438).1 111 29 = μ382.1 111 29 := ((sv_n _ (by decide)).trans ((F_425.1 111 (by decide) 29).trans ((hp_418 29 (by decide)).trans (hp_404 29 (by decide)))))
    have e_464 : wr (sv μ424 111 18 y_438) = wr μ382 := ((wr_cg (sv_n _ (by decide))).trans ((wr_cg (F_425.1 111 (by decide) 15)).trans ((wr_cg (hp_418 15 (by decide))).trans (wr_cg (hp_404 15 (by decide))))))
    have e_465 : bd (sv μ424 111 18 y_438) = bd μ382 := ((bd_cg (sv_n _ (by decide)) (sv_n _ (by decide)) (sv_n _ (by decide))).trans ((bd_cg (F_425.1 111 (by decide) 15) (F_425.1 111 (by decide) 16) (F_425.1 111 (by decide) 17)).trans ((bd_cg (hp_418 15 (by decide)) (hp_418 16 (by decide)) (hp_418 17 (by decide))).trans (bd_cg (hp_404 15 (by decide)) (hp_404 16 (by decide)) (hp_404 17 (by decide))))))
    have e_466 : wr (sv μ424 111 18 y_438) = wr μ382 := ((wr_cg (sv_n _ (by decide))).trans ((wr_cg (F_425.1 111 (by decide) 15)).trans ((wr_cg (hp_418 15 (by decide))).trans (wr_cg (hp_404 15 (by decide))))))
    have e_467 : (sv μ424 111 18 y_438).1 111 39 = μ382.1 111 39 := ((sv_n _ (by decide)).trans ((F_425.1 111 (by decide) 39).trans ((hp_418 39 (by decide)).trans (hp_404 39 (by decide)))))
    exact xr_v G hret hlk dX12_unary_47 ⟨(FrM.put (FrM.tr (FrM.tr (FrM.tr (FrM.tr (FrM.tr FrM.rf F_354 (by decide)) F_383 (by decide)) F_403 (by decide)) F_417 (by decide)) F_425 (by decide)) (by decide)), (fun j hj => ((sv_n _ (fun h9 => hj (by rw [h9.2]; decide))).trans ((F_425.1 111 (by decide) j).trans ((hp_418 j (fun h9 => hj ((by decide : ∀ x ∈ ([22] : List Int), x ∈ ([6, 8, 9, 10, 11, 12, 13, 15, 16, 17, 18, 22, 29, 39] : List Int)) j h9))).trans ((hp_404 j (fun h9 => hj ((by decide : ∀ x ∈ ([22] : List Int), x ∈ ([6, 8, 9, 10, 11, 12, 13, 15, 16, 17, 18, 22, 29, 39] : List Int)) j h9))).trans ((hp_384 j (fun h9 => hj ((by decide : ∀ x ∈ ([6, 8, 9, 10, 11, 12, 13, 15, 16, 17, 18, 22, 29, 39] : List Int), x ∈ ([6, 8, 9, 10, 11, 12, 13, 15, 16, 17, 18, 22, 29, 39] : List Int)) j h9))).trans (hp_355 j (fun h9 => hj ((by decide : ∀ x ∈ ([6, 8, 9, 10, 11, 12, 13, 15, 18] : List Int), x ∈ ([6, 8, 9, 10, 11, 12, 13, 15, 16, 17, 18, 22, 29, 39] : List Int)) j h9))))))))), hPM_455, (by omega), (by omega), (by omega), (by omega), (by omega), (by omega), (fun j hj => ((sv_n _ (fun h9 => absurd h9.1 (by decide))).trans ((F_425.1 126 (by decide) j).trans ((F_417.1 126 (by decide) j).trans ((F_403.1 126 (by decide) j).trans ((hp_392 j (by omega)).trans (F_354.1 126 (by decide) j))))))), (fun _ h0 => (mPX.ex ((hX_453 ()) h0)).e (by omega)), hxt_457⟩
