abbrev cX12_primary : ByteArray := prog_14_method_69_code
def yX12_primary : MethodName := ⟨RX12, "primary", "(IJ)V"⟩
abbrev cX12_call : ByteArray := prog_14_method_72_code
def yX12_call : MethodName := ⟨RX12, "call", "(IJ)V"⟩
abbrev cX12_bang : ByteArray := prog_14_method_73_code
def yX12_bang : MethodName := ⟨RX12, "bang", "()V"⟩
abbrev cX12_worded : ByteArray := prog_14_method_75_code
def yX12_worded : MethodName := ⟨RX12, "worded", "()V"⟩
abbrev cX12_signed : ByteArray := prog_14_method_76_code
def yX12_signed : MethodName := ⟨RX12, "signed", "()V"⟩
theorem dX12_unary_0 : decode cX12_unary 0 = .ok (.aload_n 0, 1) := by decide +kernel
theorem dX12_unary_1 : decode cX12_unary 1 = .ok (.bipush 45, 2) := by decide +kernel
theorem dX12_unary_3 : decode cX12_unary 3 = .ok (.invokevirtual 292, 3) := by decide +kernel
theorem dX12_unary_6 : decode cX12_unary 6 = .ok (.ifCond .eq 42, 3) := by decide +kernel
theorem dX12_unary_9 : decode cX12_unary 9 = .ok (.aload_n 0, 1) := by decide +kernel
theorem dX12_unary_10 : decode cX12_unary 10 = .ok (.invokevirtual 310, 3) := by decide +kernel
theorem dX12_unary_13 : decode cX12_unary 13 = .ok (.aload_n 0, 1) := by decide +kernel
theorem dX12_unary_14 : decode cX12_unary 14 = .ok (.invokevirtual 483, 3) := by decide +kernel
theorem dX12_unary_17 : decode cX12_unary 17 = .ok (.aload_n 0, 1) := by decide +kernel
theorem dX12_unary_18 : decode cX12_unary 18 = .ok (.iconst 0, 1) := by decide +kernel
theorem dX12_unary_19 : decode cX12_unary 19 = .ok (.invokevirtual 468, 3) := by decide +kernel
theorem dX12_unary_22 : decode cX12_unary 22 = .ok (.istore_n 1, 1) := by decide +kernel
theorem dX12_unary_23 : decode cX12_unary 23 = .ok (.aload_n 0, 1) := by decide +kernel
theorem dX12_unary_24 : decode cX12_unary 24 = .ok (.bipush 32, 2) := by decide +kernel
theorem dX12_unary_26 : decode cX12_unary 26 = .ok (.lconst 0, 1) := by decide +kernel
theorem dX12_unary_27 : decode cX12_unary 27 = .ok (.iconst 0, 1) := by decide +kernel
theorem dX12_unary_28 : decode cX12_unary 28 = .ok (.invokevirtual 374, 3) := by decide +kernel
theorem dX12_unary_31 : decode cX12_unary 31 = .ok (.pop, 1) := by decide +kernel
theorem dX12_unary_32 : decode cX12_unary 32 = .ok (.aload_n 0, 1) := by decide +kernel
theorem dX12_unary_33 : decode cX12_unary 33 = .ok (.iload_n 1, 1) := by decide +kernel
theorem dX12_unary_34 : decode cX12_unary 34 = .ok (.invokevirtual 474, 3) := by decide +kernel
theorem dX12_unary_37 : decode cX12_unary 37 = .ok (.aload_n 0, 1) := by decide +kernel
theorem dX12_unary_38 : decode cX12_unary 38 = .ok (.dup, 1) := by decide +kernel
theorem dX12_unary_39 : decode cX12_unary 39 = .ok (.getfield 307, 3) := by decide +kernel
theorem dX12_unary_42 : decode cX12_unary 42 = .ok (.iconst 1, 1) := by decide +kernel
theorem dX12_unary_43 : decode cX12_unary 43 = .ok (.isub, 1) := by decide +kernel
theorem dX12_unary_44 : decode cX12_unary 44 = .ok (.putfield 307, 3) := by decide +kernel
theorem dX12_unary_47 : decode cX12_unary 47 = .ok (.return_, 1) := by decide +kernel
theorem dX12_unary_48 : decode cX12_unary 48 = .ok (.aload_n 0, 1) := by decide +kernel
theorem dX12_unary_49 : decode cX12_unary 49 = .ok (.invokevirtual 215, 3) := by decide +kernel
theorem dX12_unary_52 : decode cX12_unary 52 = .ok (.ifCond .eq 4, 3) := by decide +kernel
theorem dX12_unary_55 : decode cX12_unary 55 = .ok (.return_, 1) := by decide +kernel
theorem dX12_unary_56 : decode cX12_unary 56 = .ok (.aload_n 0, 1) := by decide +kernel
theorem dX12_unary_57 : decode cX12_unary 57 = .ok (.getfield 225, 3) := by decide +kernel
theorem dX12_unary_60 : decode cX12_unary 60 = .ok (.iconst 2, 1) := by decide +kernel
theorem dX12_unary_61 : decode cX12_unary 61 = .ok (.if_icmp .ne 21, 3) := by decide +kernel
theorem dX12_unary_64 : decode cX12_unary 64 = .ok (.aload_n 0, 1) := by decide +kernel
theorem dX12_unary_65 : decode cX12_unary 65 = .ok (.iconst 1, 1) := by decide +kernel
theorem dX12_unary_66 : decode cX12_unary 66 = .ok (.aload_n 0, 1) := by decide +kernel
theorem dX12_unary_67 : decode cX12_unary 67 = .ok (.getfield 261, 3) := by decide +kernel
theorem dX12_unary_70 : decode cX12_unary 70 = .ok (.iconst 0, 1) := by decide +kernel
theorem dX12_unary_71 : decode cX12_unary 71 = .ok (.invokevirtual 374, 3) := by decide +kernel
theorem dX12_unary_74 : decode cX12_unary 74 = .ok (.pop, 1) := by decide +kernel
theorem dX12_unary_75 : decode cX12_unary 75 = .ok (.aload_n 0, 1) := by decide +kernel
theorem dX12_unary_76 : decode cX12_unary 76 = .ok (.invokevirtual 295, 3) := by decide +kernel
theorem dX12_unary_79 : decode cX12_unary 79 = .ok (.goto 127, 3) := by decide +kernel
theorem dX12_unary_82 : decode cX12_unary 82 = .ok (.aload_n 0, 1) := by decide +kernel
theorem dX12_unary_83 : decode cX12_unary 83 = .ok (.getfield 225, 3) := by decide +kernel
theorem dX12_unary_86 : decode cX12_unary 86 = .ok (.ifCond .ne 101, 3) := by decide +kernel
theorem dX12_unary_89 : decode cX12_unary 89 = .ok (.aload_n 0, 1) := by decide +kernel
theorem dX12_unary_90 : decode cX12_unary 90 = .ok (.getfield 222, 3) := by decide +kernel
theorem dX12_unary_93 : decode cX12_unary 93 = .ok (.istore_n 1, 1) := by decide +kernel
theorem dX12_unary_94 : decode cX12_unary 94 = .ok (.aload_n 0, 1) := by decide +kernel
theorem dX12_unary_95 : decode cX12_unary 95 = .ok (.getfield 245, 3) := by decide +kernel
theorem dX12_unary_98 : decode cX12_unary 98 = .ok (.lstore_n 2, 1) := by decide +kernel
theorem dX12_unary_99 : decode cX12_unary 99 = .ok (.aload_n 0, 1) := by decide +kernel
theorem dX12_unary_100 : decode cX12_unary 100 = .ok (.invokevirtual 295, 3) := by decide +kernel
theorem dX12_unary_103 : decode cX12_unary 103 = .ok (.aload_n 0, 1) := by decide +kernel
theorem dX12_unary_104 : decode cX12_unary 104 = .ok (.bipush 91, 2) := by decide +kernel
theorem dX12_unary_106 : decode cX12_unary 106 = .ok (.invokevirtual 292, 3) := by decide +kernel
theorem dX12_unary_109 : decode cX12_unary 109 = .ok (.ifCond .eq 69, 3) := by decide +kernel
theorem dX12_unary_112 : decode cX12_unary 112 = .ok (.aload_n 0, 1) := by decide +kernel
theorem dX12_unary_113 : decode cX12_unary 113 = .ok (.iconst 3, 1) := by decide +kernel
theorem dX12_unary_114 : decode cX12_unary 114 = .ok (.aload_n 0, 1) := by decide +kernel
theorem dX12_unary_115 : decode cX12_unary 115 = .ok (.iload_n 1, 1) := by decide +kernel
theorem dX12_unary_116 : decode cX12_unary 116 = .ok (.lload_n 2, 1) := by decide +kernel
theorem dX12_unary_117 : decode cX12_unary 117 = .ok (.invokevirtual 447, 3) := by decide +kernel
theorem dX12_unary_120 : decode cX12_unary 120 = .ok (.i2l, 1) := by decide +kernel
theorem dX12_unary_121 : decode cX12_unary 121 = .ok (.iconst 0, 1) := by decide +kernel
theorem dX12_unary_122 : decode cX12_unary 122 = .ok (.invokevirtual 374, 3) := by decide +kernel
theorem dX12_unary_125 : decode cX12_unary 125 = .ok (.pop, 1) := by decide +kernel
theorem dX12_unary_126 : decode cX12_unary 126 = .ok (.aload_n 0, 1) := by decide +kernel
theorem dX12_unary_127 : decode cX12_unary 127 = .ok (.iconst 0, 1) := by decide +kernel
theorem dX12_unary_128 : decode cX12_unary 128 = .ok (.invokevirtual 468, 3) := by decide +kernel
theorem dX12_unary_131 : decode cX12_unary 131 = .ok (.istore 4, 2) := by decide +kernel
theorem dX12_unary_133 : decode cX12_unary 133 = .ok (.aload_n 0, 1) := by decide +kernel
theorem dX12_unary_134 : decode cX12_unary 134 = .ok (.invokevirtual 310, 3) := by decide +kernel
theorem dX12_unary_137 : decode cX12_unary 137 = .ok (.aload_n 0, 1) := by decide +kernel
theorem dX12_unary_138 : decode cX12_unary 138 = .ok (.invokevirtual 402, 3) := by decide +kernel
theorem dX12_unary_141 : decode cX12_unary 141 = .ok (.aload_n 0, 1) := by decide +kernel
theorem dX12_unary_142 : decode cX12_unary 142 = .ok (.bipush 93, 2) := by decide +kernel
theorem dX12_unary_144 : decode cX12_unary 144 = .ok (.invokevirtual 387, 3) := by decide +kernel
theorem dX12_unary_147 : decode cX12_unary 147 = .ok (.aload_n 0, 1) := by decide +kernel
theorem dX12_unary_148 : decode cX12_unary 148 = .ok (.iconst 1, 1) := by decide +kernel
theorem dX12_unary_149 : decode cX12_unary 149 = .ok (.invokevirtual 468, 3) := by decide +kernel
theorem dX12_unary_152 : decode cX12_unary 152 = .ok (.istore 5, 2) := by decide +kernel
theorem dX12_unary_154 : decode cX12_unary 154 = .ok (.aload_n 0, 1) := by decide +kernel
theorem dX12_unary_155 : decode cX12_unary 155 = .ok (.bipush 24, 2) := by decide +kernel
theorem dX12_unary_157 : decode cX12_unary 157 = .ok (.lconst 0, 1) := by decide +kernel
theorem dX12_unary_158 : decode cX12_unary 158 = .ok (.iconst 0, 1) := by decide +kernel
theorem dX12_unary_159 : decode cX12_unary 159 = .ok (.invokevirtual 374, 3) := by decide +kernel
theorem dX12_unary_162 : decode cX12_unary 162 = .ok (.pop, 1) := by decide +kernel
theorem dX12_unary_163 : decode cX12_unary 163 = .ok (.aload_n 0, 1) := by decide +kernel
theorem dX12_unary_164 : decode cX12_unary 164 = .ok (.iload 4, 2) := by decide +kernel
theorem dX12_unary_166 : decode cX12_unary 166 = .ok (.invokevirtual 474, 3) := by decide +kernel
theorem dX12_unary_169 : decode cX12_unary 169 = .ok (.aload_n 0, 1) := by decide +kernel
theorem dX12_unary_170 : decode cX12_unary 170 = .ok (.iload 5, 2) := by decide +kernel
theorem dX12_unary_172 : decode cX12_unary 172 = .ok (.invokevirtual 474, 3) := by decide +kernel
theorem dX12_unary_175 : decode cX12_unary 175 = .ok (.goto 9, 3) := by decide +kernel
theorem dX12_unary_178 : decode cX12_unary 178 = .ok (.aload_n 0, 1) := by decide +kernel
theorem dX12_unary_179 : decode cX12_unary 179 = .ok (.iload_n 1, 1) := by decide +kernel
theorem dX12_unary_180 : decode cX12_unary 180 = .ok (.lload_n 2, 1) := by decide +kernel
theorem dX12_unary_181 : decode cX12_unary 181 = .ok (.invokevirtual 489, 3) := by decide +kernel
theorem dX12_unary_184 : decode cX12_unary 184 = .ok (.goto 22, 3) := by decide +kernel
theorem dX12_unary_187 : decode cX12_unary 187 = .ok (.aload_n 0, 1) := by decide +kernel
theorem dX12_unary_188 : decode cX12_unary 188 = .ok (.getfield 225, 3) := by decide +kernel
theorem dX12_unary_191 : decode cX12_unary 191 = .ok (.iconst 1, 1) := by decide +kernel
theorem dX12_unary_192 : decode cX12_unary 192 = .ok (.if_icmp .ne 10, 3) := by decide +kernel
theorem dX12_unary_195 : decode cX12_unary 195 = .ok (.aload_n 0, 1) := by decide +kernel
theorem dX12_unary_196 : decode cX12_unary 196 = .ok (.invokevirtual 493, 3) := by decide +kernel
theorem dX12_unary_199 : decode cX12_unary 199 = .ok (.goto 7, 3) := by decide +kernel
theorem dX12_unary_202 : decode cX12_unary 202 = .ok (.aload_n 0, 1) := by decide +kernel
theorem dX12_unary_203 : decode cX12_unary 203 = .ok (.invokevirtual 496, 3) := by decide +kernel
theorem dX12_unary_206 : decode cX12_unary 206 = .ok (.return_, 1) := by decide +kernel
theorem dX12_primary_0 : decode cX12_primary 0 = .ok (.aload_n 0, 1) := by decide +kernel
theorem dX12_primary_1 : decode cX12_primary 1 = .ok (.bipush 40, 2) := by decide +kernel
theorem dX12_primary_3 : decode cX12_primary 3 = .ok (.invokevirtual 292, 3) := by decide +kernel
theorem dX12_primary_6 : decode cX12_primary 6 = .ok (.ifCond .eq 15, 3) := by decide +kernel
theorem dX12_primary_9 : decode cX12_primary 9 = .ok (.aload_n 0, 1) := by decide +kernel
theorem dX12_primary_10 : decode cX12_primary 10 = .ok (.aload_n 0, 1) := by decide +kernel
theorem dX12_primary_11 : decode cX12_primary 11 = .ok (.getfield 266, 3) := by decide +kernel
theorem dX12_primary_14 : decode cX12_primary 14 = .ok (.lload_n 2, 1) := by decide +kernel
theorem dX12_primary_15 : decode cX12_primary 15 = .ok (.invokevirtual 499, 3) := by decide +kernel
theorem dX12_primary_18 : decode cX12_primary 18 = .ok (.goto 51, 3) := by decide +kernel
theorem dX12_primary_21 : decode cX12_primary 21 = .ok (.aload_n 0, 1) := by decide +kernel
theorem dX12_primary_22 : decode cX12_primary 22 = .ok (.bipush 33, 2) := by decide +kernel
theorem dX12_primary_24 : decode cX12_primary 24 = .ok (.invokevirtual 292, 3) := by decide +kernel
theorem dX12_primary_27 : decode cX12_primary 27 = .ok (.ifCond .eq 28, 3) := by decide +kernel
theorem dX12_primary_30 : decode cX12_primary 30 = .ok (.aload_n 0, 1) := by decide +kernel
theorem dX12_primary_31 : decode cX12_primary 31 = .ok (.iconst 3, 1) := by decide +kernel
theorem dX12_primary_32 : decode cX12_primary 32 = .ok (.aload_n 0, 1) := by decide +kernel
theorem dX12_primary_33 : decode cX12_primary 33 = .ok (.iload_n 1, 1) := by decide +kernel
theorem dX12_primary_34 : decode cX12_primary 34 = .ok (.lload_n 2, 1) := by decide +kernel
theorem dX12_primary_35 : decode cX12_primary 35 = .ok (.invokevirtual 447, 3) := by decide +kernel
theorem dX12_primary_38 : decode cX12_primary 38 = .ok (.i2l, 1) := by decide +kernel
theorem dX12_primary_39 : decode cX12_primary 39 = .ok (.iconst 0, 1) := by decide +kernel
theorem dX12_primary_40 : decode cX12_primary 40 = .ok (.invokevirtual 374, 3) := by decide +kernel
theorem dX12_primary_43 : decode cX12_primary 43 = .ok (.pop, 1) := by decide +kernel
theorem dX12_primary_44 : decode cX12_primary 44 = .ok (.aload_n 0, 1) := by decide +kernel
theorem dX12_primary_45 : decode cX12_primary 45 = .ok (.invokevirtual 295, 3) := by decide +kernel
theorem dX12_primary_48 : decode cX12_primary 48 = .ok (.aload_n 0, 1) := by decide +kernel
theorem dX12_primary_49 : decode cX12_primary 49 = .ok (.invokevirtual 502, 3) := by decide +kernel
theorem dX12_primary_52 : decode cX12_primary 52 = .ok (.goto 17, 3) := by decide +kernel
theorem dX12_primary_55 : decode cX12_primary 55 = .ok (.aload_n 0, 1) := by decide +kernel
theorem dX12_primary_56 : decode cX12_primary 56 = .ok (.iconst 3, 1) := by decide +kernel
theorem dX12_primary_57 : decode cX12_primary 57 = .ok (.aload_n 0, 1) := by decide +kernel
theorem dX12_primary_58 : decode cX12_primary 58 = .ok (.iload_n 1, 1) := by decide +kernel
theorem dX12_primary_59 : decode cX12_primary 59 = .ok (.lload_n 2, 1) := by decide +kernel
theorem dX12_primary_60 : decode cX12_primary 60 = .ok (.invokevirtual 447, 3) := by decide +kernel
theorem dX12_primary_63 : decode cX12_primary 63 = .ok (.i2l, 1) := by decide +kernel
theorem dX12_primary_64 : decode cX12_primary 64 = .ok (.iconst 0, 1) := by decide +kernel
theorem dX12_primary_65 : decode cX12_primary 65 = .ok (.invokevirtual 374, 3) := by decide +kernel
theorem dX12_primary_68 : decode cX12_primary 68 = .ok (.pop, 1) := by decide +kernel
theorem dX12_primary_69 : decode cX12_primary 69 = .ok (.return_, 1) := by decide +kernel
theorem dX12_call_0 : decode cX12_call 0 = .ok (.aload_n 0, 1) := by decide +kernel
theorem dX12_call_1 : decode cX12_call 1 = .ok (.getfield 505, 3) := by decide +kernel
theorem dX12_call_4 : decode cX12_call 4 = .ok (.istore 4, 2) := by decide +kernel
theorem dX12_call_6 : decode cX12_call 6 = .ok (.aload_n 0, 1) := by decide +kernel
theorem dX12_call_7 : decode cX12_call 7 = .ok (.iconst 0, 1) := by decide +kernel
theorem dX12_call_8 : decode cX12_call 8 = .ok (.invokevirtual 508, 3) := by decide +kernel
theorem dX12_call_11 : decode cX12_call 11 = .ok (.istore 5, 2) := by decide +kernel
theorem dX12_call_13 : decode cX12_call 13 = .ok (.aload_n 0, 1) := by decide +kernel
theorem dX12_call_14 : decode cX12_call 14 = .ok (.bipush 25, 2) := by decide +kernel
theorem dX12_call_16 : decode cX12_call 16 = .ok (.lload_n 2, 1) := by decide +kernel
theorem dX12_call_17 : decode cX12_call 17 = .ok (.iconst 4, 1) := by decide +kernel
theorem dX12_call_18 : decode cX12_call 18 = .ok (.iload 5, 2) := by decide +kernel
theorem dX12_call_20 : decode cX12_call 20 = .ok (.imul, 1) := by decide +kernel
theorem dX12_call_21 : decode cX12_call 21 = .ok (.iload_n 1, 1) := by decide +kernel
theorem dX12_call_22 : decode cX12_call 22 = .ok (.iadd, 1) := by decide +kernel
theorem dX12_call_23 : decode cX12_call 23 = .ok (.invokevirtual 374, 3) := by decide +kernel
theorem dX12_call_26 : decode cX12_call 26 = .ok (.istore 6, 2) := by decide +kernel
theorem dX12_call_28 : decode cX12_call 28 = .ok (.aload_n 0, 1) := by decide +kernel
theorem dX12_call_29 : decode cX12_call 29 = .ok (.iload 4, 2) := by decide +kernel
theorem dX12_call_31 : decode cX12_call 31 = .ok (.invokevirtual 511, 3) := by decide +kernel
theorem dX12_call_34 : decode cX12_call 34 = .ok (.return_, 1) := by decide +kernel
theorem dX12_bang_0 : decode cX12_bang 0 = .ok (.aload_n 0, 1) := by decide +kernel
theorem dX12_bang_1 : decode cX12_bang 1 = .ok (.getfield 505, 3) := by decide +kernel
theorem dX12_bang_4 : decode cX12_bang 4 = .ok (.istore_n 1, 1) := by decide +kernel
theorem dX12_bang_5 : decode cX12_bang 5 = .ok (.aload_n 0, 1) := by decide +kernel
theorem dX12_bang_6 : decode cX12_bang 6 = .ok (.iconst 0, 1) := by decide +kernel
theorem dX12_bang_7 : decode cX12_bang 7 = .ok (.invokevirtual 468, 3) := by decide +kernel
theorem dX12_bang_10 : decode cX12_bang 10 = .ok (.istore_n 2, 1) := by decide +kernel
theorem dX12_bang_11 : decode cX12_bang 11 = .ok (.iload_n 2, 1) := by decide +kernel
theorem dX12_bang_12 : decode cX12_bang 12 = .ok (.iconst (-1), 1) := by decide +kernel
theorem dX12_bang_13 : decode cX12_bang 13 = .ok (.if_icmp .eq 23, 3) := by decide +kernel
theorem dX12_bang_16 : decode cX12_bang 16 = .ok (.aload_n 0, 1) := by decide +kernel
theorem dX12_bang_17 : decode cX12_bang 17 = .ok (.getfield 54, 3) := by decide +kernel
theorem dX12_bang_20 : decode cX12_bang 20 = .ok (.aload_n 0, 1) := by decide +kernel
theorem dX12_bang_21 : decode cX12_bang 21 = .ok (.getfield 505, 3) := by decide +kernel
theorem dX12_bang_24 : decode cX12_bang 24 = .ok (.iload_n 2, 1) := by decide +kernel
theorem dX12_bang_25 : decode cX12_bang 25 = .ok (.iastore, 1) := by decide +kernel
theorem dX12_bang_26 : decode cX12_bang 26 = .ok (.aload_n 0, 1) := by decide +kernel
theorem dX12_bang_27 : decode cX12_bang 27 = .ok (.dup, 1) := by decide +kernel
theorem dX12_bang_28 : decode cX12_bang 28 = .ok (.getfield 505, 3) := by decide +kernel
theorem dX12_bang_31 : decode cX12_bang 31 = .ok (.iconst 1, 1) := by decide +kernel
theorem dX12_bang_32 : decode cX12_bang 32 = .ok (.iadd, 1) := by decide +kernel
theorem dX12_bang_33 : decode cX12_bang 33 = .ok (.putfield 505, 3) := by decide +kernel
theorem dX12_bang_36 : decode cX12_bang 36 = .ok (.aload_n 0, 1) := by decide +kernel
theorem dX12_bang_37 : decode cX12_bang 37 = .ok (.iconst 1, 1) := by decide +kernel
theorem dX12_bang_38 : decode cX12_bang 38 = .ok (.invokevirtual 508, 3) := by decide +kernel
theorem dX12_bang_41 : decode cX12_bang 41 = .ok (.istore_n 3, 1) := by decide +kernel
theorem dX12_bang_42 : decode cX12_bang 42 = .ok (.aload_n 0, 1) := by decide +kernel
theorem dX12_bang_43 : decode cX12_bang 43 = .ok (.bipush 26, 2) := by decide +kernel
theorem dX12_bang_45 : decode cX12_bang 45 = .ok (.lconst 0, 1) := by decide +kernel
theorem dX12_bang_46 : decode cX12_bang 46 = .ok (.iload_n 3, 1) := by decide +kernel
theorem dX12_bang_47 : decode cX12_bang 47 = .ok (.invokevirtual 374, 3) := by decide +kernel
theorem dX12_bang_50 : decode cX12_bang 50 = .ok (.pop, 1) := by decide +kernel
theorem dX12_bang_51 : decode cX12_bang 51 = .ok (.aload_n 0, 1) := by decide +kernel
theorem dX12_bang_52 : decode cX12_bang 52 = .ok (.iload_n 1, 1) := by decide +kernel
theorem dX12_bang_53 : decode cX12_bang 53 = .ok (.invokevirtual 511, 3) := by decide +kernel
theorem dX12_bang_56 : decode cX12_bang 56 = .ok (.return_, 1) := by decide +kernel
theorem dX12_worded_0 : decode cX12_worded 0 = .ok (.aload_n 0, 1) := by decide +kernel
theorem dX12_worded_1 : decode cX12_worded 1 = .ok (.getfield 256, 3) := by decide +kernel
theorem dX12_worded_4 : decode cX12_worded 4 = .ok (.istore_n 1, 1) := by decide +kernel
theorem dX12_worded_5 : decode cX12_worded 5 = .ok (.iload_n 1, 1) := by decide +kernel
theorem dX12_worded_6 : decode cX12_worded 6 = .ok (.bipush 23, 2) := by decide +kernel
theorem dX12_worded_8 : decode cX12_worded 8 = .ok (.if_icmp .eq 17, 3) := by decide +kernel
theorem dX12_worded_11 : decode cX12_worded 11 = .ok (.iload_n 1, 1) := by decide +kernel
theorem dX12_worded_12 : decode cX12_worded 12 = .ok (.bipush 26, 2) := by decide +kernel
theorem dX12_worded_14 : decode cX12_worded 14 = .ok (.if_icmp .ne 37, 3) := by decide +kernel
theorem dX12_worded_17 : decode cX12_worded 17 = .ok (.aload_n 0, 1) := by decide +kernel
theorem dX12_worded_18 : decode cX12_worded 18 = .ok (.getfield 266, 3) := by decide +kernel
theorem dX12_worded_21 : decode cX12_worded 21 = .ok (.iconst 1, 1) := by decide +kernel
theorem dX12_worded_22 : decode cX12_worded 22 = .ok (.if_icmp .ne 29, 3) := by decide +kernel
theorem dX12_worded_25 : decode cX12_worded 25 = .ok (.aload_n 0, 1) := by decide +kernel
theorem dX12_worded_26 : decode cX12_worded 26 = .ok (.iload_n 1, 1) := by decide +kernel
theorem dX12_worded_27 : decode cX12_worded 27 = .ok (.bipush 23, 2) := by decide +kernel
theorem dX12_worded_29 : decode cX12_worded 29 = .ok (.if_icmp .ne 7, 3) := by decide +kernel
theorem dX12_worded_32 : decode cX12_worded 32 = .ok (.iconst 2, 1) := by decide +kernel
theorem dX12_worded_33 : decode cX12_worded 33 = .ok (.goto 5, 3) := by decide +kernel
theorem dX12_worded_36 : decode cX12_worded 36 = .ok (.bipush 28, 2) := by decide +kernel
theorem dX12_worded_38 : decode cX12_worded 38 = .ok (.lconst 0, 1) := by decide +kernel
theorem dX12_worded_39 : decode cX12_worded 39 = .ok (.iconst 0, 1) := by decide +kernel
theorem dX12_worded_40 : decode cX12_worded 40 = .ok (.invokevirtual 374, 3) := by decide +kernel
theorem dX12_worded_43 : decode cX12_worded 43 = .ok (.pop, 1) := by decide +kernel
theorem dX12_worded_44 : decode cX12_worded 44 = .ok (.aload_n 0, 1) := by decide +kernel
theorem dX12_worded_45 : decode cX12_worded 45 = .ok (.invokevirtual 295, 3) := by decide +kernel
theorem dX12_worded_48 : decode cX12_worded 48 = .ok (.goto 175, 3) := by decide +kernel
theorem dX12_worded_51 : decode cX12_worded 51 = .ok (.iload_n 1, 1) := by decide +kernel
theorem dX12_worded_52 : decode cX12_worded 52 = .ok (.bipush 24, 2) := by decide +kernel
theorem dX12_worded_54 : decode cX12_worded 54 = .ok (.if_icmp .ne 21, 3) := by decide +kernel
theorem dX12_worded_57 : decode cX12_worded 57 = .ok (.aload_n 0, 1) := by decide +kernel
theorem dX12_worded_58 : decode cX12_worded 58 = .ok (.invokevirtual 295, 3) := by decide +kernel
theorem dX12_worded_61 : decode cX12_worded 61 = .ok (.aload_n 0, 1) := by decide +kernel
theorem dX12_worded_62 : decode cX12_worded 62 = .ok (.bipush 22, 2) := by decide +kernel
theorem dX12_worded_64 : decode cX12_worded 64 = .ok (.bipush 91, 2) := by decide +kernel
theorem dX12_worded_66 : decode cX12_worded 66 = .ok (.bipush 93, 2) := by decide +kernel
theorem dX12_worded_68 : decode cX12_worded 68 = .ok (.iconst 0, 1) := by decide +kernel
theorem dX12_worded_69 : decode cX12_worded 69 = .ok (.invokevirtual 514, 3) := by decide +kernel
theorem dX12_worded_72 : decode cX12_worded 72 = .ok (.goto 151, 3) := by decide +kernel
theorem dX12_worded_75 : decode cX12_worded 75 = .ok (.iload_n 1, 1) := by decide +kernel
theorem dX12_worded_76 : decode cX12_worded 76 = .ok (.bipush 25, 2) := by decide +kernel
theorem dX12_worded_78 : decode cX12_worded 78 = .ok (.if_icmp .ne 21, 3) := by decide +kernel
theorem dX12_worded_81 : decode cX12_worded 81 = .ok (.aload_n 0, 1) := by decide +kernel
theorem dX12_worded_82 : decode cX12_worded 82 = .ok (.invokevirtual 295, 3) := by decide +kernel
theorem dX12_worded_85 : decode cX12_worded 85 = .ok (.aload_n 0, 1) := by decide +kernel
theorem dX12_worded_86 : decode cX12_worded 86 = .ok (.bipush 23, 2) := by decide +kernel
theorem dX12_worded_88 : decode cX12_worded 88 = .ok (.bipush 40, 2) := by decide +kernel
theorem dX12_worded_90 : decode cX12_worded 90 = .ok (.bipush 41, 2) := by decide +kernel
theorem dX12_worded_92 : decode cX12_worded 92 = .ok (.iconst 0, 1) := by decide +kernel
theorem dX12_worded_93 : decode cX12_worded 93 = .ok (.invokevirtual 514, 3) := by decide +kernel
theorem dX12_worded_96 : decode cX12_worded 96 = .ok (.goto 127, 3) := by decide +kernel
theorem dX12_worded_99 : decode cX12_worded 99 = .ok (.iload_n 1, 1) := by decide +kernel
theorem dX12_worded_100 : decode cX12_worded 100 = .ok (.bipush 28, 2) := by decide +kernel
theorem dX12_worded_102 : decode cX12_worded 102 = .ok (.if_icmp .ne 34, 3) := by decide +kernel
theorem dX12_worded_105 : decode cX12_worded 105 = .ok (.aload_n 0, 1) := by decide +kernel
theorem dX12_worded_106 : decode cX12_worded 106 = .ok (.getfield 266, 3) := by decide +kernel
theorem dX12_worded_109 : decode cX12_worded 109 = .ok (.iconst 2, 1) := by decide +kernel
theorem dX12_worded_110 : decode cX12_worded 110 = .ok (.if_icmp .ne 26, 3) := by decide +kernel
theorem dX12_worded_113 : decode cX12_worded 113 = .ok (.aload_n 0, 1) := by decide +kernel
theorem dX12_worded_114 : decode cX12_worded 114 = .ok (.invokevirtual 295, 3) := by decide +kernel
theorem dX12_worded_117 : decode cX12_worded 117 = .ok (.aload_n 0, 1) := by decide +kernel
theorem dX12_worded_118 : decode cX12_worded 118 = .ok (.invokevirtual 346, 3) := by decide +kernel
theorem dX12_worded_121 : decode cX12_worded 121 = .ok (.istore_n 2, 1) := by decide +kernel
theorem dX12_worded_122 : decode cX12_worded 122 = .ok (.aload_n 0, 1) := by decide +kernel
theorem dX12_worded_123 : decode cX12_worded 123 = .ok (.bipush 29, 2) := by decide +kernel
theorem dX12_worded_125 : decode cX12_worded 125 = .ok (.bipush 40, 2) := by decide +kernel
theorem dX12_worded_127 : decode cX12_worded 127 = .ok (.bipush 41, 2) := by decide +kernel
theorem dX12_worded_129 : decode cX12_worded 129 = .ok (.iload_n 2, 1) := by decide +kernel
theorem dX12_worded_130 : decode cX12_worded 130 = .ok (.invokevirtual 514, 3) := by decide +kernel
theorem dX12_worded_133 : decode cX12_worded 133 = .ok (.goto 90, 3) := by decide +kernel
theorem dX12_worded_136 : decode cX12_worded 136 = .ok (.iload_n 1, 1) := by decide +kernel
theorem dX12_worded_137 : decode cX12_worded 137 = .ok (.bipush 27, 2) := by decide +kernel
theorem dX12_worded_139 : decode cX12_worded 139 = .ok (.if_icmp .ne 43, 3) := by decide +kernel
theorem dX12_worded_142 : decode cX12_worded 142 = .ok (.aload_n 0, 1) := by decide +kernel
theorem dX12_worded_143 : decode cX12_worded 143 = .ok (.getfield 266, 3) := by decide +kernel
theorem dX12_worded_146 : decode cX12_worded 146 = .ok (.iconst 2, 1) := by decide +kernel
theorem dX12_worded_147 : decode cX12_worded 147 = .ok (.if_icmp .ne 35, 3) := by decide +kernel
theorem dX12_worded_150 : decode cX12_worded 150 = .ok (.aload_n 0, 1) := by decide +kernel
theorem dX12_worded_151 : decode cX12_worded 151 = .ok (.invokevirtual 295, 3) := by decide +kernel
theorem dX12_worded_154 : decode cX12_worded 154 = .ok (.aload_n 0, 1) := by decide +kernel
theorem dX12_worded_155 : decode cX12_worded 155 = .ok (.bipush 40, 2) := by decide +kernel
theorem dX12_worded_157 : decode cX12_worded 157 = .ok (.invokevirtual 378, 3) := by decide +kernel
theorem dX12_worded_160 : decode cX12_worded 160 = .ok (.aload_n 0, 1) := by decide +kernel
theorem dX12_worded_161 : decode cX12_worded 161 = .ok (.invokevirtual 402, 3) := by decide +kernel
theorem dX12_worded_164 : decode cX12_worded 164 = .ok (.aload_n 0, 1) := by decide +kernel
theorem dX12_worded_165 : decode cX12_worded 165 = .ok (.bipush 41, 2) := by decide +kernel
theorem dX12_worded_167 : decode cX12_worded 167 = .ok (.invokevirtual 387, 3) := by decide +kernel
theorem dX12_worded_170 : decode cX12_worded 170 = .ok (.aload_n 0, 1) := by decide +kernel
theorem dX12_worded_171 : decode cX12_worded 171 = .ok (.bipush 30, 2) := by decide +kernel
theorem dX12_worded_173 : decode cX12_worded 173 = .ok (.lconst 0, 1) := by decide +kernel
theorem dX12_worded_174 : decode cX12_worded 174 = .ok (.iconst 0, 1) := by decide +kernel
theorem dX12_worded_175 : decode cX12_worded 175 = .ok (.invokevirtual 374, 3) := by decide +kernel
theorem dX12_worded_178 : decode cX12_worded 178 = .ok (.pop, 1) := by decide +kernel
theorem dX12_worded_179 : decode cX12_worded 179 = .ok (.goto 44, 3) := by decide +kernel
theorem dX12_worded_182 : decode cX12_worded 182 = .ok (.iload_n 1, 1) := by decide +kernel
theorem dX12_worded_183 : decode cX12_worded 183 = .ok (.bipush 29, 2) := by decide +kernel
theorem dX12_worded_185 : decode cX12_worded 185 = .ok (.if_icmp .lt 30, 3) := by decide +kernel
theorem dX12_worded_188 : decode cX12_worded 188 = .ok (.aload_n 0, 1) := by decide +kernel
theorem dX12_worded_189 : decode cX12_worded 189 = .ok (.invokevirtual 295, 3) := by decide +kernel
theorem dX12_worded_192 : decode cX12_worded 192 = .ok (.aload_n 0, 1) := by decide +kernel
theorem dX12_worded_193 : decode cX12_worded 193 = .ok (.bipush 46, 2) := by decide +kernel
theorem dX12_worded_195 : decode cX12_worded 195 = .ok (.invokevirtual 313, 3) := by decide +kernel
theorem dX12_worded_198 : decode cX12_worded 198 = .ok (.aload_n 0, 1) := by decide +kernel
theorem dX12_worded_199 : decode cX12_worded 199 = .ok (.invokevirtual 329, 3) := by decide +kernel
theorem dX12_worded_202 : decode cX12_worded 202 = .ok (.lstore_n 2, 1) := by decide +kernel
theorem dX12_worded_203 : decode cX12_worded 203 = .ok (.aload_n 0, 1) := by decide +kernel
theorem dX12_worded_204 : decode cX12_worded 204 = .ok (.iload_n 1, 1) := by decide +kernel
theorem dX12_worded_205 : decode cX12_worded 205 = .ok (.bipush 29, 2) := by decide +kernel
theorem dX12_worded_207 : decode cX12_worded 207 = .ok (.isub, 1) := by decide +kernel
theorem dX12_worded_208 : decode cX12_worded 208 = .ok (.lload_n 2, 1) := by decide +kernel
theorem dX12_worded_209 : decode cX12_worded 209 = .ok (.invokevirtual 499, 3) := by decide +kernel
theorem dX12_worded_212 : decode cX12_worded 212 = .ok (.goto 11, 3) := by decide +kernel
theorem dX12_worded_215 : decode cX12_worded 215 = .ok (.aload_n 0, 1) := by decide +kernel
theorem dX12_worded_216 : decode cX12_worded 216 = .ok (.aload_n 0, 1) := by decide +kernel
theorem dX12_worded_217 : decode cX12_worded 217 = .ok (.getfield 222, 3) := by decide +kernel
theorem dX12_worded_220 : decode cX12_worded 220 = .ok (.invokevirtual 249, 3) := by decide +kernel
theorem dX12_worded_223 : decode cX12_worded 223 = .ok (.return_, 1) := by decide +kernel
theorem dX12_signed_0 : decode cX12_signed 0 = .ok (.aload_n 0, 1) := by decide +kernel
theorem dX12_signed_1 : decode cX12_signed 1 = .ok (.bipush 40, 2) := by decide +kernel
theorem dX12_signed_3 : decode cX12_signed 3 = .ok (.invokevirtual 292, 3) := by decide +kernel
theorem dX12_signed_6 : decode cX12_signed 6 = .ok (.ifCond .eq 20, 3) := by decide +kernel
theorem dX12_signed_9 : decode cX12_signed 9 = .ok (.aload_n 0, 1) := by decide +kernel
theorem dX12_signed_10 : decode cX12_signed 10 = .ok (.invokevirtual 310, 3) := by decide +kernel
theorem dX12_signed_13 : decode cX12_signed 13 = .ok (.aload_n 0, 1) := by decide +kernel
theorem dX12_signed_14 : decode cX12_signed 14 = .ok (.invokevirtual 402, 3) := by decide +kernel
theorem dX12_signed_17 : decode cX12_signed 17 = .ok (.aload_n 0, 1) := by decide +kernel
theorem dX12_signed_18 : decode cX12_signed 18 = .ok (.bipush 41, 2) := by decide +kernel
theorem dX12_signed_20 : decode cX12_signed 20 = .ok (.invokevirtual 387, 3) := by decide +kernel
theorem dX12_signed_23 : decode cX12_signed 23 = .ok (.goto 84, 3) := by decide +kernel
theorem dX12_signed_26 : decode cX12_signed 26 = .ok (.aload_n 0, 1) := by decide +kernel
theorem dX12_signed_27 : decode cX12_signed 27 = .ok (.bipush 38, 2) := by decide +kernel
theorem dX12_signed_29 : decode cX12_signed 29 = .ok (.invokevirtual 301, 3) := by decide +kernel
theorem dX12_signed_32 : decode cX12_signed 32 = .ok (.ifCond .eq 67, 3) := by decide +kernel
theorem dX12_signed_35 : decode cX12_signed 35 = .ok (.aload_n 0, 1) := by decide +kernel
theorem dX12_signed_36 : decode cX12_signed 36 = .ok (.getfield 266, 3) := by decide +kernel
theorem dX12_signed_39 : decode cX12_signed 39 = .ok (.istore_n 1, 1) := by decide +kernel
theorem dX12_signed_40 : decode cX12_signed 40 = .ok (.aload_n 0, 1) := by decide +kernel
theorem dX12_signed_41 : decode cX12_signed 41 = .ok (.invokevirtual 215, 3) := by decide +kernel
theorem dX12_signed_44 : decode cX12_signed 44 = .ok (.ifCond .ne 38, 3) := by decide +kernel
theorem dX12_signed_47 : decode cX12_signed 47 = .ok (.aload_n 0, 1) := by decide +kernel
theorem dX12_signed_48 : decode cX12_signed 48 = .ok (.getfield 225, 3) := by decide +kernel
theorem dX12_signed_51 : decode cX12_signed 51 = .ok (.iconst 1, 1) := by decide +kernel
theorem dX12_signed_52 : decode cX12_signed 52 = .ok (.if_icmp .ne 30, 3) := by decide +kernel
theorem dX12_signed_55 : decode cX12_signed 55 = .ok (.aload_n 0, 1) := by decide +kernel
theorem dX12_signed_56 : decode cX12_signed 56 = .ok (.getfield 256, 3) := by decide +kernel
theorem dX12_signed_59 : decode cX12_signed 59 = .ok (.bipush 29, 2) := by decide +kernel
theorem dX12_signed_61 : decode cX12_signed 61 = .ok (.if_icmp .lt 21, 3) := by decide +kernel
theorem dX12_signed_64 : decode cX12_signed 64 = .ok (.aload_n 0, 1) := by decide +kernel
theorem dX12_signed_65 : decode cX12_signed 65 = .ok (.getfield 256, 3) := by decide +kernel
theorem dX12_signed_68 : decode cX12_signed 68 = .ok (.bipush 29, 2) := by decide +kernel
theorem dX12_signed_70 : decode cX12_signed 70 = .ok (.isub, 1) := by decide +kernel
theorem dX12_signed_71 : decode cX12_signed 71 = .ok (.istore_n 1, 1) := by decide +kernel
theorem dX12_signed_72 : decode cX12_signed 72 = .ok (.aload_n 0, 1) := by decide +kernel
theorem dX12_signed_73 : decode cX12_signed 73 = .ok (.invokevirtual 295, 3) := by decide +kernel
theorem dX12_signed_76 : decode cX12_signed 76 = .ok (.aload_n 0, 1) := by decide +kernel
theorem dX12_signed_77 : decode cX12_signed 77 = .ok (.bipush 46, 2) := by decide +kernel
theorem dX12_signed_79 : decode cX12_signed 79 = .ok (.invokevirtual 313, 3) := by decide +kernel
theorem dX12_signed_82 : decode cX12_signed 82 = .ok (.aload_n 0, 1) := by decide +kernel
theorem dX12_signed_83 : decode cX12_signed 83 = .ok (.invokevirtual 329, 3) := by decide +kernel
theorem dX12_signed_86 : decode cX12_signed 86 = .ok (.lstore_n 2, 1) := by decide +kernel
theorem dX12_signed_87 : decode cX12_signed 87 = .ok (.aload_n 0, 1) := by decide +kernel
theorem dX12_signed_88 : decode cX12_signed 88 = .ok (.bipush 27, 2) := by decide +kernel
theorem dX12_signed_90 : decode cX12_signed 90 = .ok (.lload_n 2, 1) := by decide +kernel
theorem dX12_signed_91 : decode cX12_signed 91 = .ok (.iload_n 1, 1) := by decide +kernel
theorem dX12_signed_92 : decode cX12_signed 92 = .ok (.invokevirtual 374, 3) := by decide +kernel
theorem dX12_signed_95 : decode cX12_signed 95 = .ok (.pop, 1) := by decide +kernel
theorem dX12_signed_96 : decode cX12_signed 96 = .ok (.goto 11, 3) := by decide +kernel
theorem dX12_signed_99 : decode cX12_signed 99 = .ok (.aload_n 0, 1) := by decide +kernel
theorem dX12_signed_100 : decode cX12_signed 100 = .ok (.aload_n 0, 1) := by decide +kernel
theorem dX12_signed_101 : decode cX12_signed 101 = .ok (.getfield 222, 3) := by decide +kernel
theorem dX12_signed_104 : decode cX12_signed 104 = .ok (.invokevirtual 249, 3) := by decide +kernel
theorem dX12_signed_107 : decode cX12_signed 107 = .ok (.return_, 1) := by decide +kernel
theorem m4d {n t : Int} (h : 0 ≤ n) (h0 : 0 ≤ t) (h3 : t ≤ 3) : (4 * n + t).tdiv 4 = n := by
  rw [Int.tdiv_eq_ediv_of_nonneg (by omega)]; omega
theorem wls_em {μ : M3} {n : Int} {i : Int} : i ∈ wls μ n n ↔ i ∈ ([] : List Int) := by
  rw [mem_wls]
  constructor
  · intro h
    obtain ⟨k, hk, _⟩ := h
    omega
  · intro h
    cases h
theorem mPX.w0 {μo μ : M3} {t e w H : Int} {n : Int} (h : mPX μo μ t e w H []) : mPX μo μ t e w H (wls μ n n) := h.mem (fun _ => wls_em)
/-- the parts that wait land behind the call -/
theorem as_call {μo μ1 μ2 ν : M3} {t e H f n T : Int} {L : List Int} (h : mPX μo μ1 t e 1 H L) (he : e = 1) (a : mAIM μ1 ν (wls μ2 f n) T) (hT : T = μ1.1 111 22) (k : ∀ i, i ∈ wls μ2 f n ↔ i ∈ L) : mEX μo ν t 1 0 H := by
  subst he
  exact mPX.fin h a hT (by decide) k
set_option maxHeartbeats 4000000 in
set_option maxRecDepth 100000 in
theorem c_X12_call (ω : Om) (l : Launch) (μ : M3) (x1 : Int) (x2 : Int) (F : Nat) (Lo : Nat) (Fu : Nat) (Lu : Nat) (kf : Int) (tt : Int) (hx1 : ir x1) (hx2 : jr x2) (htt : tt = μ.1 111 14) (hF : 60 ≤ F) (hLo : 2000 ≤ Lo) (hFu : Fu ≤ F) (hLu : Lu ≤ Lo) (hE : ∀ (μ : M3) (tt : Int) (htt : tt = μ.1 111 14) (hPM : PM μ) (hnn : 0 ≤ nn μ ∧ nn μ ≤ 9 ∧ 9 * wr μ ≤ nn μ) (hn8 : nn μ ≤ 8 + wr μ) (hcd : 0 ≤ μ.1 111 22 ∧ μ.1 111 22 ≤ 2 * μ.1 111 9 + 200 + 40 * wr μ) (hW : 0 ≤ μ.1 111 39 ∧ μ.1 111 39 ≤ μ.1 111 22) (hsl : 0 ≤ μ.1 111 31 ∧ μ.1 111 31 ≤ 300) (hfu : 0 ≤ (kf - 1) ∧ 9 ≤ nn μ + (kf - 1)) (hH0 : ∀ _ : Unit, bd μ = 0 → mH0 μ), CtV ω l yX12_expr cX12_expr 1 (F + 0) (Lo + 0) [.ref (oP ω 111)] μ (fun (μ' : M3) => (Fr [111, 113, 115, 116, 117, 123, 126] μ μ') ∧ (∀ j, j ∉ ([6, 8, 9, 10, 11, 12, 13, 15, 16, 17, 18, 22, 29, 39] : List Int) → μ'.1 111 j = μ.1 111 j) ∧ (PM μ') ∧ (μ.1 111 22 ≤ μ'.1 111 22 ∧ μ'.1 111 22 ≤ μ.1 111 22 + 2 * (μ'.1 111 9 - μ.1 111 9) + (- 1 + 3 * wr μ' - 2 * wr μ)) ∧ (μ.1 111 9 ≤ μ'.1 111 9) ∧ (μ.1 111 29 ≤ μ'.1 111 29) ∧ (wr μ ≤ wr μ' ∧ bd μ ≤ bd μ') ∧ (nn μ ≤ nn μ' ∧ nn μ' ≤ nn μ + 9 * wr μ' ∧ nn μ' ≤ 9 ∧ 9 * wr μ' ≤ nn μ') ∧ (μ'.1 111 39 = μ.1 111 39) ∧ (∀ j, j < μ.1 111 39 → μ'.1 126 j = μ.1 126 j) ∧ (∀ _ : Unit, bd μ' = 0 → mEX μ μ' tt 1 0 (11 * (9 - nn μ))) ∧ (mEXT μ μ'))) (hU : ∀ (μ : M3) (tt : Int) (htt : tt = μ.1 111 14) (hPM : PM μ) (hnn : 0 ≤ nn μ ∧ nn μ ≤ 9 ∧ 9 * wr μ ≤ nn μ) (hn8 : nn μ ≤ 8 + wr μ) (hcd : 0 ≤ μ.1 111 22 ∧ μ.1 111 22 ≤ 2 * μ.1 111 9 + 200 + 40 * wr μ) (hW : 0 ≤ μ.1 111 39 ∧ μ.1 111 39 ≤ μ.1 111 22) (hsl : 0 ≤ μ.1 111 31 ∧ μ.1 111 31 ≤ 300) (hfu : 0 ≤ (kf - 1) ∧ 9 ≤ nn μ + (kf - 1)) (hH0 : ∀ _ : Unit, bd μ = 0 → mH0 μ), CtV ω l yX12_unary cX12_unary 6 (Fu + 0) (Lu + 0) [.ref (oP ω 111)] μ (fun (μ' : M3) => (Fr [111, 113, 115, 116, 117, 123, 126] μ μ') ∧ (∀ j, j ∉ ([6, 8, 9, 10, 11, 12, 13, 15, 16, 17, 18, 22, 29, 39] : List Int) → μ'.1 111 j = μ.1 111 j) ∧ (PM μ') ∧ (μ.1 111 22 ≤ μ'.1 111 22 ∧ μ'.1 111 22 ≤ μ.1 111 22 + 2 * (μ'.1 111 9 - μ.1 111 9) + (- 1 + 3 * wr μ' - 2 * wr μ)) ∧ (μ.1 111 9 ≤ μ'.1 111 9) ∧ (μ.1 111 29 ≤ μ'.1 111 29) ∧ (wr μ ≤ wr μ' ∧ bd μ ≤ bd μ') ∧ (nn μ ≤ nn μ' ∧ nn μ' ≤ nn μ + 9 * wr μ' ∧ nn μ' ≤ 9 ∧ 9 * wr μ' ≤ nn μ') ∧ (μ'.1 111 39 = μ.1 111 39) ∧ (∀ j, j < μ.1 111 39 → μ'.1 126 j = μ.1 126 j) ∧ (∀ _ : Unit, bd μ' = 0 → mEX μ μ' tt 1 0 (11 * (9 - nn μ) - 3)) ∧ (mEXT μ μ'))) (hPM : PM μ) (hnn : 0 ≤ nn μ ∧ nn μ ≤ 9 ∧ 9 * wr μ ≤ nn μ) (hn8 : nn μ ≤ 8 + wr μ) (hcd : 0 ≤ μ.1 111 22 ∧ μ.1 111 22 ≤ 2 * μ.1 111 9 + 200 + 40 * wr μ) (hW : 0 ≤ μ.1 111 39 ∧ μ.1 111 39 ≤ μ.1 111 22) (hsl : 0 ≤ μ.1 111 31 ∧ μ.1 111 31 ≤ 300) (hfu : 0 ≤ kf ∧ 9 ≤ nn μ + kf) (hH0 : ∀ _ : Unit, bd μ = 0 → mH0 μ) (ht03 : 0 ≤ x1 ∧ x1 ≤ 3) : CtV ω l yX12_call cX12_call 7 (F + 2) (Lo + 44) [.ref (oP ω 111), .int (iv x1), .long (jv x2)] μ (fun (μ' : M3) => (Fr [111, 113, 115, 116, 117, 123, 126] μ μ') ∧ (∀ j, j ∉ ([6, 8, 9, 10, 11, 12, 13, 15, 16, 17, 18, 22, 29, 39] : List Int) → μ'.1 111 j = μ.1 111 j) ∧ (PM μ') ∧ (μ.1 111 22 ≤ μ'.1 111 22 ∧ μ'.1 111 22 ≤ μ.1 111 22 + 2 * (μ'.1 111 9 - μ.1 111 9) + (- 1 + 3 * wr μ')) ∧ (μ.1 111 9 ≤ μ'.1 111 9) ∧ (μ.1 111 29 ≤ μ'.1 111 29) ∧ (wr μ ≤ wr μ' ∧ bd μ ≤ bd μ') ∧ (nn μ ≤ nn μ' ∧ nn μ' ≤ nn μ + 9 * wr μ' ∧ nn μ' ≤ 9 ∧ 9 * wr μ' ≤ nn μ') ∧ (μ'.1 111 39 = μ.1 111 39) ∧ (∀ j, j < μ.1 111 39 → μ'.1 126 j = μ.1 126 j) ∧ (∀ _ : Unit, bd μ' = 0 → mEX μ μ' tt 1 0 (11 * (9 - nn μ) - 3)) ∧ (mEXT μ μ')) := by
  refine CtV.go (by decide) (Nat.le_of_ble_eq_true rfl) (fun ρ p e s m below meth c R ls G hR hret hlk hl => ?_)
  have hx := G.1.1
  have hb := G.1.2.1
  have hl : lv_has ls 7 [(0, .ref (oP ω 111)), (1, .int (iv x1)), (2, .long (jv x2))] := hl
  generalize s.drawn = d0 at G ⊢
  have hr_x1 : -2147483648 ≤ x1 ∧ x1 ≤ 2147483647 := hx1
  have hw_0 := wr_r (μ := μ)
  have hpp_ := hPM.1.2.1
  have hpn_ := hPM.2.1
  have hpt_ := hPM.1.2.2.2.1
  have hpw_ := hPM.1.2.2.2.2.1
  have hpa_ := hPM.1.1
  have hX_1 : ∀ _ : Unit, bd μ = 0 → mPX μ μ tt 0 1 (11 * (9 - nn μ) - 3) [] := fun _ h0 => mPX.nil (hH0 () h0) (by omega)
  refine lv_aload_n hx hb dX12_call_0 rfl (lv_at hl 0 rfl) ?_
  refine xa_geti G fd_X12 (a := 111) (x := μ.1 111 39) 39 rfl (by decide) rfl (wm 7 188 rfl rfl) ⟨rfl, rfl, rfl⟩ dX12_call_1 rfl rfl ?_
  have hr_2 : -2147483648 ≤ μ.1 111 39 ∧ μ.1 111 39 ≤ 2147483647 := by have h9 := G.hr (a := 111) (k := 39) rfl; exact h9
  refine lv_istore (lv' := [(4, .int (iv (μ.1 111 39))), (0, .ref (oP ω 111)), (1, .int (iv x1)), (2, .long (jv x2))]) hx hb dX12_call_4 hl (by decide) rfl (fun ls hl => ?_)
  refine lv_aload_n hx hb dX12_call_6 rfl (lv_at hl 1 rfl) ?_
  refine lv_iconst (v := iv 0) hx hb dX12_call_7 rfl ?_
  have e_3 : μ.1 111 14 = tt := htt.symm
  refine xc_iV G (b := 111) (rest := []) (As := [.int (iv 0)]) (c_X12_arguments ω l μ 0 F Lo Fu Lu kf μ (11 * (9 - nn μ) - 3) (μ.1 111 39) (μ.1 111 22) tt (by unfold ir; omega) (by omega) hF hLo hFu hLu hE hU hPM (by omega) (by omega) (by omega) (by omega) (by omega) (by omega) (by omega) (by omega) (by omega) (fun j h1 h2 => absurd h1 (by omega)) (fun _ h0 => (mPX.w0 ((hX_1 ()) h0))) (by omega)) (wm 9 183 rfl rfl) (wm 9 185 rfl rfl) (wm 0 158 rfl rfl) rfl rfl (by decide) rfl (wm 1 18 rfl rfl) (wm 9 186 rfl rfl) (by decide) hR ⟨sfr (F := F) (a := 1) (by decide), slo (L := Lo) (m := 5) (a := 20) (by decide)⟩ (n := 1) rfl rfl (Nat.le_of_ble_eq_true rfl) hl.1 dX12_call_8 (fun r_5 μ4 ρ d0 H locs hr_r_5 hp G => ?_)
  have hr_r_5 : -2147483648 ≤ r_5 ∧ r_5 ≤ 2147483647 := hr_r_5
  obtain ⟨F_6, hp_7, hp_8, hp_9, hp_10, hp_11, hp_12, hp_13, hp_14, hp_15, hp_16, hp_17, hp_18, hp_19⟩ := hp
  have hpl_20 := hp_8.pl
  have hw_21 := wr_r (μ := μ4)
  have hxt_22 : mEXT μ μ4 := (mEXT.rf (μ := μ)).tr hp_19
  have hX_23 : ∀ _ : Unit, bd μ4 = 0 → mPX μ μ4 tt (0 + r_5) 1 (11 * (9 - nn μ) - 3) (wls μ4 (μ.1 111 39) (μ4.1 111 39) ++ []) := fun _ h0 => (by rw [List.append_nil]; exact hp_18 () h0)
  refine lv_istore (lv' := [(5, .int (iv r_5)), (4, .int (iv (μ.1 111 39))), (0, .ref (oP ω 111)), (1, .int (iv x1)), (2, .long (jv x2))]) hx hb dX12_call_11 hl (by decide) rfl (fun ls hl => ?_)
  refine lv_aload_n hx hb dX12_call_13 rfl (lv_at hl 2 rfl) ?_
  refine lv_bipush (v := iv 25) hx hb dX12_call_14 rfl ?_
  refine lv_lload_n hx hb dX12_call_16 rfl (lv_at hl 4 rfl) ?_
  refine lv_iconst (v := iv 4) hx hb dX12_call_17 rfl ?_
  refine lv_iload hx hb dX12_call_18 (lv_at hl 0 rfl) ?_
  refine xb_imul hx hb dX12_call_20 ?_
  refine lv_iload_n hx hb dX12_call_21 rfl (lv_at hl 3 rfl) ?_
  refine xb_iadd hx hb dX12_call_22 ?_
  refine xc_iV G (b := 111) (rest := []) (As := [.int (iv 25), .long (jv x2), .int (iv ((4 * r_5) + x1))]) (c_X12_emit ω l μ4 25 x2 ((4 * r_5) + x1) (by unfold ir; omega) hx2 (by unfold ir; omega) (by omega)) (wm 9 126 rfl rfl) (wm 9 128 rfl rfl) (wm 0 144 rfl rfl) rfl rfl (by decide) rfl (wm 1 18 rfl rfl) (wm 9 129 rfl rfl) (by decide) hR ⟨nfr hF (by decide), nlo hLo (by decide)⟩ (n := 3) rfl rfl (Nat.le_of_ble_eq_true rfl) hl.1 dX12_call_23 (fun r_25 μ24 ρ d0 H locs hr_r_25 hp G => ?_)
  have hr_r_25 : -2147483648 ≤ r_25 ∧ r_25 ≤ 2147483647 := hr_r_25
  obtain ⟨F_26, hp_27, hp_28, hp_29, hp_30⟩ := hp
  have hxt_31 : mEXT μ μ24 := hxt_22.tr hp_28.1
  have e_32 : wr μ24 = wr μ4 := (wr_cg (hp_27 15 (by decide)))
  have e_33 : bd μ24 = bd μ4 := (bd_cg (hp_27 15 (by decide)) (hp_27 16 (by decide)))
  have e_34 : nn μ24 = nn μ4 := (nn_cg (hp_27 15 (by decide)) (hp_27 18 (by decide)))
  have e_36 : μ24.1 111 29 = μ4.1 111 29 := (hp_27 29 (by decide))
  have hX_35 : ∀ _ : Unit, bd μ24 = 0 → mPX μ μ24 tt ((0 + r_5) + (1 - r_5)) 1 (11 * (9 - nn μ) - 3) (wls μ4 (μ.1 111 39) (μ4.1 111 39) ++ []) := fun _ h0 => ((((hX_23 ()) (by have e9 : bd μ4 = bd μ4 := rfl; have e8 : bd μ24 = bd μ4 := (bd_cg (hp_27 15 (by decide)) (hp_27 16 (by decide))); omega))).app (mAD.ex (t := tt) (e := 1 - r_5) hp_28 ((hX_23 ()) (by have e9 : bd μ4 = bd μ4 := rfl; have e8 : bd μ24 = bd μ4 := (bd_cg (hp_27 15 (by decide)) (hp_27 16 (by decide))); omega)).h1.1 (by unfold mpl; omega) (by show 1 - (Int.tdiv _ 4) = _; rw [m4d (by omega) (by omega) (by omega)]) (by have h9 := ((hX_23 ()) (by have e9 : bd μ4 = bd μ4 := rfl; have e8 : bd μ24 = bd μ4 := (bd_cg (hp_27 15 (by decide)) (hp_27 16 (by decide))); omega)).h1; omega) ⟨fun q => absurd q (by decide), fun q => absurd q (by decide), fun q => absurd q (by decide), fun q => absurd q (by decide), fun q => absurd q (by decide), fun q => absurd q (by decide), fun q => absurd q (by decide), fun q => absurd q (by decide), fun q => absurd q (by decide), fun q => absurd q (by decide), fun q => absurd q (by decide), fun q => absurd q (by decide), fun q => absurd q (by decide), fun q => absurd q (by decide), fun q => absurd q (by decide), fun q => absurd q (by decide), fun _ => ⟨by omega, by omega, by have h9 := ((hX_23 ()) (by have e9 : bd μ4 = bd μ4 := rfl; have e8 : bd μ24 = bd μ4 := (bd_cg (hp_27 15 (by decide)) (hp_27 16 (by decide))); omega)).h1; rw [m4d (by omega) (by omega) (by omega), (hp_28.1.fo (t := tt) _ (Int.le_refl _)).1]; omega⟩, fun q => absurd q (by decide), fun q => absurd q (by decide), fun q => absurd q (by decide), fun q => absurd q (by decide), fun q => absurd q (by decide), ⟨by decide, by decide⟩⟩) (by have h9 := ((hX_23 ()) (by have e9 : bd μ4 = bd μ4 := rfl; have e8 : bd μ24 = bd μ4 := (bd_cg (hp_27 15 (by decide)) (hp_27 16 (by decide))); omega)).h1; omega)).ee (by omega)
  refine lv_istore (lv' := [(6, .int (iv r_25)), (5, .int (iv r_5)), (4, .int (iv (μ.1 111 39))), (0, .ref (oP ω 111)), (1, .int (iv x1)), (2, .long (jv x2))]) hx hb dX12_call_26 hl (by decide) rfl (fun ls hl => ?_)
  refine lv_aload_n hx hb dX12_call_28 rfl (lv_at hl 3 rfl) ?_
  refine lv_iload hx hb dX12_call_29 (lv_at hl 2 rfl) ?_
  have e_37 : μ24.1 111 39 = μ4.1 111 39 := (hp_27 39 (by decide))
  have e_38 : wr μ24 = wr μ4 := (wr_cg (hp_27 15 (by decide)))
  have e_39 : bd μ24 = bd μ4 := (bd_cg (hp_27 15 (by decide)) (hp_27 16 (by decide)))
  have e_40 : nn μ24 = nn μ4 := (nn_cg (hp_27 15 (by decide)) (hp_27 18 (by decide)))
  have e_41 : μ24.1 111 39 = μ4.1 111 39 := (hp_27 39 (by decide))
  have hwl_42 : ∀ j, (μ.1 111 39) ≤ j → j < μ24.1 111 39 → μ.1 111 22 ≤ μ24.1 126 j ∧ μ24.1 126 j < μ24.1 111 22 := (fun j h1 h2 => by rcases Int.lt_or_le j (μ4.1 111 39) with h9 | h9; (have b9 := hp_17 j h1 h9; rw [show μ24.1 126 j = μ4.1 126 j from (F_26.1 126 (by decide) j)]; exact ⟨b9.1, by omega⟩); (omega))
  have e_43 : μ24.1 111 29 = μ4.1 111 29 := (hp_27 29 (by decide))
  have e_44 : μ24.1 111 39 = μ4.1 111 39 := (hp_27 39 (by decide))
  have e_45 : μ24.1 111 39 = μ4.1 111 39 := (hp_27 39 (by decide))
  have e_46 : μ24.1 111 39 = μ4.1 111 39 := (hp_27 39 (by decide))
  have e_47 : μ24.1 111 39 = μ4.1 111 39 := (hp_27 39 (by decide))
  have e_48 : μ24.1 111 39 = μ4.1 111 39 := (hp_27 39 (by decide))
  have e_49 : μ24.1 111 39 = μ4.1 111 39 := (hp_27 39 (by decide))
  have e_50 : μ24.1 111 39 = μ4.1 111 39 := (hp_27 39 (by decide))
  refine xc_vV G (b := 111) (rest := []) (As := [.int (iv (μ.1 111 39))]) (c_X12_landsFrom ω l μ24 (μ.1 111 39) (by unfold ir; omega) (by omega) (by omega) (fun j h1 h2 => by have b9 := (hwl_42) j h1 h2; omega)) (wm 9 187 rfl rfl) (wm 9 189 rfl rfl) (wm 0 159 rfl rfl) rfl rfl (by decide) rfl (wm 1 18 rfl rfl) (wm 9 190 rfl rfl) (by decide) hR ⟨nfr hF (by decide), nlo hLo (by decide)⟩ (n := 1) rfl rfl (Nat.le_of_ble_eq_true rfl) hl.1 dX12_call_31 (fun μ51 ρ d0 H locs hp G => ?_)
  obtain ⟨F_52, hp_53, hp_54, hp_55⟩ := hp
  have hxt_56 : mEXT μ μ51 := hxt_31.am hp_54 (fun i hi => by obtain ⟨j9, hj9, hi9⟩ := mem_wls.1 hi; have b9 := (hwl_42) j9 hj9.1 (by omega); omega)
  have e_57 : wr μ51 = wr μ4 := ((wr_cg (hp_53 15 (by decide))).trans (wr_cg (hp_27 15 (by decide))))
  have e_58 : bd μ51 = bd μ4 := ((bd_cg (hp_53 15 (by decide)) (hp_53 16 (by decide))).trans (bd_cg (hp_27 15 (by decide)) (hp_27 16 (by decide))))
  have e_59 : nn μ51 = nn μ4 := ((nn_cg (hp_53 15 (by decide)) (hp_53 18 (by decide))).trans (nn_cg (hp_27 15 (by decide)) (hp_27 18 (by decide))))
  have e_61 : μ51.1 111 29 = μ4.1 111 29 := ((hp_53 29 (by decide)).trans (hp_27 29 (by decide)))
  have hX_60 : ∀ _ : Unit, bd μ51 = 0 → mPX μ μ51 tt 1 1 (11 * (9 - nn μ) - 3) [] := fun _ h0 => mPX.of (as_call ((hX_35 ()) (by have e9 : bd μ24 = bd μ4 := (bd_cg (hp_27 15 (by decide)) (hp_27 16 (by decide))); have e8 : bd μ51 = bd μ4 := ((bd_cg (hp_53 15 (by decide)) (hp_53 16 (by decide))).trans (bd_cg (hp_27 15 (by decide)) (hp_27 16 (by decide)))); omega)) (by omega) hp_54 rfl (fun i => wls_cg (fun j h1 h9 => (F_26.1 126 (by decide) j)) (by omega)))
  have e_62 : μ51.1 111 22 = μ24.1 111 22 := (hp_53 22 (by decide))
  have e_63 : μ51.1 111 9 = μ4.1 111 9 := ((hp_53 9 (by decide)).trans (hp_27 9 (by decide)))
  have e_64 : μ51.1 111 29 = μ4.1 111 29 := ((hp_53 29 (by decide)).trans (hp_27 29 (by decide)))
  have e_65 : wr μ51 = wr μ4 := ((wr_cg (hp_53 15 (by decide))).trans (wr_cg (hp_27 15 (by decide))))
  have e_66 : bd μ51 = bd μ4 := ((bd_cg (hp_53 15 (by decide)) (hp_53 16 (by decide))).trans (bd_cg (hp_27 15 (by decide)) (hp_27 16 (by decide))))
  have e_67 : nn μ51 = nn μ4 := ((nn_cg (hp_53 15 (by decide)) (hp_53 18 (by decide))).trans (nn_cg (hp_27 15 (by decide)) (hp_27 18 (by decide))))
  have hPM_68 : PM μ51 := hp_8.cg ((((hp_53 4 (by decide)).trans ((hp_27 4 (by decide)).trans (hp_7 4 (by decide))))).trans ((hp_7 4 (by decide))).symm) ((hp_53 6 (by decide)).trans (hp_27 6 (by decide))) ((((hp_53 7 (by decide)).trans ((hp_27 7 (by decide)).trans (hp_7 7 (by decide))))).trans ((hp_7 7 (by decide))).symm) ((hp_53 8 (by decide)).trans (hp_27 8 (by decide))) ((hp_53 9 (by decide)).trans (hp_27 9 (by decide))) ((hp_53 11 (by decide)).trans (hp_27 11 (by decide))) ((hp_53 12 (by decide)).trans (hp_27 12 (by decide))) ((((hp_53 14 (by decide)).trans ((hp_27 14 (by decide)).trans ((hp_7 14 (by decide)).trans htt.symm)))).trans (((hp_7 14 (by decide)).trans htt.symm)).symm) ((hp_53 15 (by decide)).trans (hp_27 15 (by decide))) ((hp_53 29 (by decide)).trans (hp_27 29 (by decide))) (fun j => ((F_52.1 123 (by decide) j).trans (F_26.1 123 (by decide) j)))
  have e_69 : μ51.1 111 22 = μ24.1 111 22 := (hp_53 22 (by decide))
  have e_70 : μ51.1 111 22 = μ24.1 111 22 := (hp_53 22 (by decide))
  have e_71 : μ51.1 111 9 = μ4.1 111 9 := ((hp_53 9 (by decide)).trans (hp_27 9 (by decide)))
  have e_72 : wr μ51 = wr μ4 := ((wr_cg (hp_53 15 (by decide))).trans (wr_cg (hp_27 15 (by decide))))
  have e_73 : μ51.1 111 9 = μ4.1 111 9 := ((hp_53 9 (by decide)).trans (hp_27 9 (by decide)))
  have e_74 : μ51.1 111 29 = μ4.1 111 29 := ((hp_53 29 (by decide)).trans (hp_27 29 (by decide)))
  have e_75 : wr μ51 = wr μ4 := ((wr_cg (hp_53 15 (by decide))).trans (wr_cg (hp_27 15 (by decide))))
  have e_76 : bd μ51 = bd μ4 := ((bd_cg (hp_53 15 (by decide)) (hp_53 16 (by decide))).trans (bd_cg (hp_27 15 (by decide)) (hp_27 16 (by decide))))
  have e_77 : wr μ51 = wr μ4 := ((wr_cg (hp_53 15 (by decide))).trans (wr_cg (hp_27 15 (by decide))))
  have e_78 : nn μ51 = nn μ4 := ((nn_cg (hp_53 15 (by decide)) (hp_53 18 (by decide))).trans (nn_cg (hp_27 15 (by decide)) (hp_27 18 (by decide))))
  exact xr_v G hret hlk dX12_call_34 ⟨(Fr.tr (Fr.tr (Fr.tr Fr.rf F_6 (by decide)) F_26 (by decide)) F_52 (by decide)), (fun j hj => ((hp_53 j (fun h9 => hj ((by decide : ∀ x ∈ ([39] : List Int), x ∈ ([6, 8, 9, 10, 11, 12, 13, 15, 16, 17, 18, 22, 29, 39] : List Int)) j h9))).trans ((hp_27 j (fun h9 => hj ((by decide : ∀ x ∈ ([22] : List Int), x ∈ ([6, 8, 9, 10, 11, 12, 13, 15, 16, 17, 18, 22, 29, 39] : List Int)) j h9))).trans (hp_7 j (fun h9 => hj ((by decide : ∀ x ∈ ([6, 8, 9, 10, 11, 12, 13, 15, 16, 17, 18, 22, 29, 39] : List Int), x ∈ ([6, 8, 9, 10, 11, 12, 13, 15, 16, 17, 18, 22, 29, 39] : List Int)) j h9)))))), hPM_68, (by omega), (by omega), (by omega), (by omega), (by omega), (by omega), (fun j hj => ((F_52.1 126 (by decide) j).trans ((F_26.1 126 (by decide) j).trans (hp_15 j (by omega))))), (fun _ h0 => (mPX.ex ((hX_60 ()) h0)).e (by omega)), hxt_56⟩

set_option maxHeartbeats 4000000 in
set_option maxRecDepth 100000 in
theorem c_X12_bang (ω : Om) (l : Launch) (μ : M3) (F : Nat) (Lo : Nat) (Fu : Nat) (Lu : Nat) (kf : Int) (μo : M3) (HH : Int) (tt : Int) (htt : tt = μ.1 111 14) (hF : 60 ≤ F) (hLo : 2000 ≤ Lo) (hFu : Fu ≤ F) (hLu : Lu ≤ Lo) (hE : ∀ (μ : M3) (tt : Int) (htt : tt = μ.1 111 14) (hPM : PM μ) (hnn : 0 ≤ nn μ ∧ nn μ ≤ 9 ∧ 9 * wr μ ≤ nn μ) (hn8 : nn μ ≤ 8 + wr μ) (hcd : 0 ≤ μ.1 111 22 ∧ μ.1 111 22 ≤ 2 * μ.1 111 9 + 200 + 40 * wr μ) (hW : 0 ≤ μ.1 111 39 ∧ μ.1 111 39 ≤ μ.1 111 22) (hsl : 0 ≤ μ.1 111 31 ∧ μ.1 111 31 ≤ 300) (hfu : 0 ≤ (kf - 1) ∧ 9 ≤ nn μ + (kf - 1)) (hH0 : ∀ _ : Unit, bd μ = 0 → mH0 μ), CtV ω l yX12_expr cX12_expr 1 (F + 0) (Lo + 0) [.ref (oP ω 111)] μ (fun (μ' : M3) => (Fr [111, 113, 115, 116, 117, 123, 126] μ μ') ∧ (∀ j, j ∉ ([6, 8, 9, 10, 11, 12, 13, 15, 16, 17, 18, 22, 29, 39] : List Int) → μ'.1 111 j = μ.1 111 j) ∧ (PM μ') ∧ (μ.1 111 22 ≤ μ'.1 111 22 ∧ μ'.1 111 22 ≤ μ.1 111 22 + 2 * (μ'.1 111 9 - μ.1 111 9) + (- 1 + 3 * wr μ' - 2 * wr μ)) ∧ (μ.1 111 9 ≤ μ'.1 111 9) ∧ (μ.1 111 29 ≤ μ'.1 111 29) ∧ (wr μ ≤ wr μ' ∧ bd μ ≤ bd μ') ∧ (nn μ ≤ nn μ' ∧ nn μ' ≤ nn μ + 9 * wr μ' ∧ nn μ' ≤ 9 ∧ 9 * wr μ' ≤ nn μ') ∧ (μ'.1 111 39 = μ.1 111 39) ∧ (∀ j, j < μ.1 111 39 → μ'.1 126 j = μ.1 126 j) ∧ (∀ _ : Unit, bd μ' = 0 → mEX μ μ' tt 1 0 (11 * (9 - nn μ))) ∧ (mEXT μ μ'))) (hU : ∀ (μ : M3) (tt : Int) (htt : tt = μ.1 111 14) (hPM : PM μ) (hnn : 0 ≤ nn μ ∧ nn μ ≤ 9 ∧ 9 * wr μ ≤ nn μ) (hn8 : nn μ ≤ 8 + wr μ) (hcd : 0 ≤ μ.1 111 22 ∧ μ.1 111 22 ≤ 2 * μ.1 111 9 + 200 + 40 * wr μ) (hW : 0 ≤ μ.1 111 39 ∧ μ.1 111 39 ≤ μ.1 111 22) (hsl : 0 ≤ μ.1 111 31 ∧ μ.1 111 31 ≤ 300) (hfu : 0 ≤ (kf - 1) ∧ 9 ≤ nn μ + (kf - 1)) (hH0 : ∀ _ : Unit, bd μ = 0 → mH0 μ), CtV ω l yX12_unary cX12_unary 6 (Fu + 0) (Lu + 0) [.ref (oP ω 111)] μ (fun (μ' : M3) => (Fr [111, 113, 115, 116, 117, 123, 126] μ μ') ∧ (∀ j, j ∉ ([6, 8, 9, 10, 11, 12, 13, 15, 16, 17, 18, 22, 29, 39] : List Int) → μ'.1 111 j = μ.1 111 j) ∧ (PM μ') ∧ (μ.1 111 22 ≤ μ'.1 111 22 ∧ μ'.1 111 22 ≤ μ.1 111 22 + 2 * (μ'.1 111 9 - μ.1 111 9) + (- 1 + 3 * wr μ' - 2 * wr μ)) ∧ (μ.1 111 9 ≤ μ'.1 111 9) ∧ (μ.1 111 29 ≤ μ'.1 111 29) ∧ (wr μ ≤ wr μ' ∧ bd μ ≤ bd μ') ∧ (nn μ ≤ nn μ' ∧ nn μ' ≤ nn μ + 9 * wr μ' ∧ nn μ' ≤ 9 ∧ 9 * wr μ' ≤ nn μ') ∧ (μ'.1 111 39 = μ.1 111 39) ∧ (∀ j, j < μ.1 111 39 → μ'.1 126 j = μ.1 126 j) ∧ (∀ _ : Unit, bd μ' = 0 → mEX μ μ' tt 1 0 (11 * (9 - nn μ) - 3)) ∧ (mEXT μ μ'))) (hPM : PM μ) (hnn : 0 ≤ nn μ ∧ nn μ ≤ 9 ∧ 9 * wr μ ≤ nn μ) (hn8 : nn μ ≤ 8 + wr μ) (hcd : 0 ≤ μ.1 111 22 ∧ μ.1 111 22 ≤ 2 * μ.1 111 9 + 198 + 40 * wr μ) (hW : 0 ≤ μ.1 111 39 ∧ μ.1 111 39 ≤ μ.1 111 22) (hsl : 0 ≤ μ.1 111 31 ∧ μ.1 111 31 ≤ 300) (hfu : 0 ≤ kf ∧ 9 ≤ nn μ + kf) (hEX : ∀ _ : Unit, bd μ = 0 → mEX μo μ tt 1 0 HH) (hHH : 11 * (9 - nn μ) - 3 ≤ HH) : CtV ω l yX12_bang cX12_bang 4 (F + 2) (Lo + 44) [.ref (oP ω 111)] μ (fun (μ' : M3) => (Fr [111, 113, 115, 116, 117, 123, 126] μ μ') ∧ (∀ j, j ∉ ([6, 8, 9, 10, 11, 12, 13, 15, 16, 17, 18, 22, 29, 39] : List Int) → μ'.1 111 j = μ.1 111 j) ∧ (PM μ') ∧ (μ.1 111 22 ≤ μ'.1 111 22 ∧ μ'.1 111 22 ≤ μ.1 111 22 + 2 * (μ'.1 111 9 - μ.1 111 9) + (0 + 3 * wr μ')) ∧ (μ.1 111 9 ≤ μ'.1 111 9) ∧ (μ.1 111 29 ≤ μ'.1 111 29) ∧ (wr μ ≤ wr μ' ∧ bd μ ≤ bd μ') ∧ (nn μ ≤ nn μ' ∧ nn μ' ≤ nn μ + 9 * wr μ' ∧ nn μ' ≤ 9 ∧ 9 * wr μ' ≤ nn μ') ∧ (μ'.1 111 39 = μ.1 111 39) ∧ (∀ j, j < μ.1 111 39 → μ'.1 126 j = μ.1 126 j) ∧ (∀ _ : Unit, bd μ' = 0 → mEX μo μ' tt 1 0 HH) ∧ (mEXT μ μ')) := by
  refine CtV.go (by decide) (Nat.le_of_ble_eq_true rfl) (fun ρ p e s m below meth c R ls G hR hret hlk hl => ?_)
  have hx := G.1.1
  have hb := G.1.2.1
  have hl : lv_has ls 4 [(0, .ref (oP ω 111))] := hl
  generalize s.drawn = d0 at G ⊢
  have hw_0 := wr_r (μ := μ)
  have hpp_ := hPM.1.2.1
  have hpn_ := hPM.2.1
  have hpt_ := hPM.1.2.2.2.1
  have hpw_ := hPM.1.2.2.2.2.1
  have hpa_ := hPM.1.1
  have hX_1 : ∀ _ : Unit, bd μ = 0 → mPX μo μ tt 1 1 HH (wls μ (μ.1 111 39) (μ.1 111 39) ++ []) := fun _ h0 => (by rw [List.append_nil]; exact mPX.w0 (mPX.of (hEX () h0)))
  have hwk : ∀ j, μ.1 111 39 ≤ j → j < μ.1 111 39 → μ.1 111 22 ≤ μ.1 126 j ∧ μ.1 126 j < μ.1 111 22 := fun j h1 h2 => absurd h1 (by omega)
  refine lv_aload_n hx hb dX12_bang_0 rfl (lv_at hl 0 rfl) ?_
  refine xa_geti G fd_X12 (a := 111) (x := μ.1 111 39) 39 rfl (by decide) rfl (wm 7 188 rfl rfl) ⟨rfl, rfl, rfl⟩ dX12_bang_1 rfl rfl ?_
  have hr_2 : -2147483648 ≤ μ.1 111 39 ∧ μ.1 111 39 ≤ 2147483647 := by have h9 := G.hr (a := 111) (k := 39) rfl; exact h9
  refine lv_istore_n (lv' := [(1, .int (iv (μ.1 111 39))), (0, .ref (oP ω 111))]) hx hb dX12_bang_4 rfl hl (by decide) rfl (fun ls hl => ?_)
  refine lv_aload_n hx hb dX12_bang_5 rfl (lv_at hl 1 rfl) ?_
  refine lv_iconst (v := iv 0) hx hb dX12_bang_6 rfl ?_
  have e_3 : μ.1 111 14 = tt := htt.symm
  refine xc_iV G (b := 111) (rest := []) (As := [.int (iv 0)]) (c_X12_skips ω l μ 0 tt (by unfold ir; omega) (by omega) (by omega)) (wm 9 159 rfl rfl) (wm 9 161 rfl rfl) (wm 0 152 rfl rfl) rfl rfl (by decide) rfl (wm 1 18 rfl rfl) (wm 9 162 rfl rfl) (by decide) hR ⟨nfr hF (by decide), nlo hLo (by decide)⟩ (n := 1) rfl rfl (Nat.le_of_ble_eq_true rfl) hl.1 dX12_bang_7 (fun r_5 μ4 ρ d0 H locs hr_r_5 hp G => ?_)
  have hr_r_5 : -2147483648 ≤ r_5 ∧ r_5 ≤ 2147483647 := hr_r_5
  obtain ⟨F_6, hp_7, hp_8, hp_9⟩ := hp
  have hqr_r_5 : (r_5 = -1) ∨ (μ.1 111 22 ≤ r_5 ∧ r_5 < μ4.1 111 22) := by rcases hp_8 with ⟨q1, q2, q3, q4⟩ | ⟨q1, q2, q3⟩; (right; have := q2.2.1; omega); (left; exact q2)
  have hxt_10 : mEXT μ μ4 := (mEXT.rf (μ := μ)).tr hp_8.ext
  have e_11 : wr μ4 = wr μ := (wr_cg (hp_7 15 (by decide)))
  have e_12 : bd μ4 = bd μ := (bd_cg (hp_7 15 (by decide)) (hp_7 16 (by decide)))
  have e_13 : nn μ4 = nn μ := (nn_cg (hp_7 15 (by decide)) (hp_7 18 (by decide)))
  replace hp_8 := fun _ : Unit => hp_8
  have e_15 : μ4.1 111 29 = μ.1 111 29 := (hp_7 29 (by decide))
  have hX_14 : ∀ _ : Unit, bd μ4 = 0 → mPX μo μ4 tt 1 1 HH (lsk r_5 ++ (wls μ (μ.1 111 39) (μ.1 111 39) ++ [])) := fun _ h0 => mPX.sk ((hX_1 ()) (by have e9 : bd μ = bd μ := rfl; have e8 : bd μ4 = bd μ := (bd_cg (hp_7 15 (by decide)) (hp_7 16 (by decide))); omega)) (hp_8 ()) (by omega) (by omega) (by decide)
  have hqs_r_5 : (r_5 = -1) ∨ (μ4.1 111 22 = μ.1 111 22 + 1 ∧ r_5 = μ.1 111 22) := by rcases hp_8 () with ⟨q1, q2, q3, q4⟩ | ⟨q1, q2, q3⟩; (right; exact ⟨q2.2.1, q3⟩); (left; exact q2)
  refine lv_istore_n (lv' := [(2, .int (iv r_5)), (1, .int (iv (μ.1 111 39))), (0, .ref (oP ω 111))]) hx hb dX12_bang_10 rfl hl (by decide) rfl (fun ls hl => ?_)
  refine lv_iload_n hx hb dX12_bang_11 rfl (lv_at hl 0 rfl) ?_
  refine lv_iconst (v := iv (-1)) hx hb dX12_bang_12 rfl ?_
  refine xb_icmp_eq (tgt := 36) hx hb (by unfold ir; omega) (by unfold ir; omega) dX12_bang_13 (by decide) (fun c_13 => ?_) (fun c_13 => ?_)
  · refine lv_aload_n hx hb dX12_bang_36 rfl (lv_at hl 2 rfl) ?_
    refine lv_iconst (v := iv 1) hx hb dX12_bang_37 rfl ?_
    have e_16 : μ4.1 111 39 = μ.1 111 39 := (hp_7 39 (by decide))
    have e_17 : wr μ4 = wr μ := (wr_cg (hp_7 15 (by decide)))
    have e_18 : bd μ4 = bd μ := (bd_cg (hp_7 15 (by decide)) (hp_7 16 (by decide)))
    have e_19 : nn μ4 = nn μ := (nn_cg (hp_7 15 (by decide)) (hp_7 18 (by decide)))
    have e_20 : μ4.1 111 39 = μ.1 111 39 := (hp_7 39 (by decide))
    have e_21 : μ4.1 111 29 = μ.1 111 29 := (hp_7 29 (by decide))
    have e_22 : μ4.1 111 14 = tt := ((hp_7 14 (by decide)).trans htt.symm)
    have hPM_23 : PM μ4 := hPM.cg (hp_7 4 (by decide)) (hp_7 6 (by decide)) (hp_7 7 (by decide)) (hp_7 8 (by decide)) (hp_7 9 (by decide)) (hp_7 11 (by decide)) (hp_7 12 (by decide)) ((((hp_7 14 (by decide)).trans htt.symm)).trans (htt.symm).symm) (hp_7 15 (by decide)) (hp_7 29 (by decide)) (fun j => (F_6.1 123 (by decide) j))
    have e_24 : wr μ4 = wr μ := (wr_cg (hp_7 15 (by decide)))
    have e_25 : nn μ4 = nn μ := (nn_cg (hp_7 15 (by decide)) (hp_7 18 (by decide)))
    have e_26 : wr μ4 = wr μ := (wr_cg (hp_7 15 (by decide)))
    have e_27 : nn μ4 = nn μ := (nn_cg (hp_7 15 (by decide)) (hp_7 18 (by decide)))
    have e_28 : μ4.1 111 9 = μ.1 111 9 := (hp_7 9 (by decide))
    have e_29 : wr μ4 = wr μ := (wr_cg (hp_7 15 (by decide)))
    have e_30 : μ4.1 111 39 = μ.1 111 39 := (hp_7 39 (by decide))
    have e_31 : μ4.1 111 39 = μ.1 111 39 := (hp_7 39 (by decide))
    have e_32 : μ4.1 111 31 = μ.1 111 31 := (hp_7 31 (by decide))
    have e_33 : μ4.1 111 31 = μ.1 111 31 := (hp_7 31 (by decide))
    have e_34 : nn μ4 = nn μ := (nn_cg (hp_7 15 (by decide)) (hp_7 18 (by decide)))
    have e_35 : μ4.1 111 39 = μ.1 111 39 := (hp_7 39 (by decide))
    have e_36 : μ4.1 111 39 = μ.1 111 39 := (hp_7 39 (by decide))
    have e_37 : μ4.1 111 39 = μ.1 111 39 := (hp_7 39 (by decide))
    have e_38 : nn μ4 = nn μ := (nn_cg (hp_7 15 (by decide)) (hp_7 18 (by decide)))
    have e_39 : μ4.1 111 9 = μ.1 111 9 := (hp_7 9 (by decide))
    have e_40 : μ4.1 111 9 = μ.1 111 9 := (hp_7 9 (by decide))
    have e_41 : μ4.1 111 29 = μ.1 111 29 := (hp_7 29 (by decide))
    have e_42 : wr μ4 = wr μ := (wr_cg (hp_7 15 (by decide)))
    have e_43 : bd μ4 = bd μ := (bd_cg (hp_7 15 (by decide)) (hp_7 16 (by decide)))
    have e_44 : nn μ4 = nn μ := (nn_cg (hp_7 15 (by decide)) (hp_7 18 (by decide)))
    have e_45 : μ4.1 111 39 = μ.1 111 39 := (hp_7 39 (by decide))
    refine xc_iV G (b := 111) (rest := []) (As := [.int (iv 1)]) (c_X12_arguments ω l μ4 1 F Lo Fu Lu kf μo (HH) (μ.1 111 39) (μ.1 111 22) tt (by unfold ir; omega) (by omega) hF hLo hFu hLu hE hU hPM_23 (by omega) (by omega) (by omega) (by omega) (by omega) (by omega) (by omega) (by omega) (by omega) (fun j h1 h2 => by rcases Int.lt_or_le j (μ.1 111 39) with h9 | h9; (have b9 := hwk j h1 h9; rw [show μ4.1 126 j = μ.1 126 j from (F_6.1 126 (by decide) j)]; exact ⟨b9.1, by omega⟩); (omega)) (fun _ h0 => (((hX_14 ()) h0).ee (by omega)).mem (fun i => wls_old (fun j h1 h9 => (F_6.1 126 (by decide) j)) (by omega) (by omega))) (by omega)) (wm 9 183 rfl rfl) (wm 9 185 rfl rfl) (wm 0 158 rfl rfl) rfl rfl (by decide) rfl (wm 1 18 rfl rfl) (wm 9 186 rfl rfl) (by decide) hR ⟨sfr (F := F) (a := 1) (by decide), slo (L := Lo) (m := 5) (a := 20) (by decide)⟩ (n := 1) rfl rfl (Nat.le_of_ble_eq_true rfl) hl.1 dX12_bang_38 (fun r_47 μ46 ρ d0 H locs hr_r_47 hp G => ?_)
    have hr_r_47 : -2147483648 ≤ r_47 ∧ r_47 ≤ 2147483647 := hr_r_47
    obtain ⟨F_48, hp_49, hp_50, hp_51, hp_52, hp_53, hp_54, hp_55, hp_56, hp_57, hp_58, hp_59, hp_60, hp_61⟩ := hp
    have hpl_62 := hp_50.pl
    have hw_63 := wr_r (μ := μ46)
    have hw_64 := wr_r (μ := μ4)
    have hxt_65 : mEXT μ μ46 := hxt_10.tr hp_61
    have hX_66 : ∀ _ : Unit, bd μ46 = 0 → mPX μo μ46 tt (1 + r_47) 1 HH (wls μ46 (μ.1 111 39) (μ46.1 111 39) ++ []) := fun _ h0 => (by rw [List.append_nil]; exact hp_60 () h0)
    refine lv_istore_n (lv' := [(3, .int (iv r_47)), (2, .int (iv r_5)), (1, .int (iv (μ.1 111 39))), (0, .ref (oP ω 111))]) hx hb dX12_bang_41 rfl hl (by decide) rfl (fun ls hl => ?_)
    refine lv_aload_n hx hb dX12_bang_42 rfl (lv_at hl 3 rfl) ?_
    refine lv_bipush (v := iv 26) hx hb dX12_bang_43 rfl ?_
    refine lv_lconst (v := jv 0) hx hb dX12_bang_45 rfl ?_
    refine lv_iload_n hx hb dX12_bang_46 rfl (lv_at hl 0 rfl) ?_
    refine xc_iV G (b := 111) (rest := []) (As := [.int (iv 26), .long (jv 0), .int (iv r_47)]) (c_X12_emit ω l μ46 26 0 r_47 (by unfold ir; omega) (by unfold jr; omega) (by unfold ir; omega) (by omega)) (wm 9 126 rfl rfl) (wm 9 128 rfl rfl) (wm 0 144 rfl rfl) rfl rfl (by decide) rfl (wm 1 18 rfl rfl) (wm 9 129 rfl rfl) (by decide) hR ⟨nfr hF (by decide), nlo hLo (by decide)⟩ (n := 3) rfl rfl (Nat.le_of_ble_eq_true rfl) hl.1 dX12_bang_47 (fun r_68 μ67 ρ d0 H locs hr_r_68 hp G => ?_)
    have hr_r_68 : -2147483648 ≤ r_68 ∧ r_68 ≤ 2147483647 := hr_r_68
    obtain ⟨F_69, hp_70, hp_71, hp_72, hp_73⟩ := hp
    have hxt_74 : mEXT μ μ67 := hxt_65.tr hp_71.1
    have e_75 : wr μ67 = wr μ46 := (wr_cg (hp_70 15 (by decide)))
    have e_76 : bd μ67 = bd μ46 := (bd_cg (hp_70 15 (by decide)) (hp_70 16 (by decide)))
    have e_77 : nn μ67 = nn μ46 := (nn_cg (hp_70 15 (by decide)) (hp_70 18 (by decide)))
    have e_79 : μ67.1 111 29 = μ46.1 111 29 := (hp_70 29 (by decide))
    have hX_78 : ∀ _ : Unit, bd μ67 = 0 → mPX μo μ67 tt ((1 + r_47) + (- r_47)) 1 HH (wls μ46 (μ.1 111 39) (μ46.1 111 39) ++ []) := fun _ h0 => ((((hX_66 ()) (by have e9 : bd μ46 = bd μ46 := rfl; have e8 : bd μ67 = bd μ46 := (bd_cg (hp_70 15 (by decide)) (hp_70 16 (by decide))); omega))).app (mAD.ex (t := tt) (e := - r_47) hp_71 ((hX_66 ()) (by have e9 : bd μ46 = bd μ46 := rfl; have e8 : bd μ67 = bd μ46 := (bd_cg (hp_70 15 (by decide)) (hp_70 16 (by decide))); omega)).h1.1 (by unfold mpl; omega) (by show - _ = _; omega) (by have h9 := ((hX_66 ()) (by have e9 : bd μ46 = bd μ46 := rfl; have e8 : bd μ67 = bd μ46 := (bd_cg (hp_70 15 (by decide)) (hp_70 16 (by decide))); omega)).h1; omega) ⟨fun q => absurd q (by decide), fun q => absurd q (by decide), fun q => absurd q (by decide), fun q => absurd q (by decide), fun q => absurd q (by decide), fun q => absurd q (by decide), fun q => absurd q (by decide), fun q => absurd q (by decide), fun q => absurd q (by decide), fun q => absurd q (by decide), fun q => absurd q (by decide), fun q => absurd q (by decide), fun q => absurd q (by decide), fun q => absurd q (by decide), fun q => absurd q (by decide), fun q => absurd q (by decide), fun q => absurd q (by decide), fun _ => ⟨by omega, by omega, by have h9 := ((hX_66 ()) (by have e9 : bd μ46 = bd μ46 := rfl; have e8 : bd μ67 = bd μ46 := (bd_cg (hp_70 15 (by decide)) (hp_70 16 (by decide))); omega)).h1; rw [(hp_71.1.fo (t := tt) _ (Int.le_refl _)).1]; omega⟩, fun q => absurd q (by decide), fun q => absurd q (by decide), fun q => absurd q (by decide), fun q => absurd q (by decide), ⟨by decide, by decide⟩⟩) (by have h9 := ((hX_66 ()) (by have e9 : bd μ46 = bd μ46 := rfl; have e8 : bd μ67 = bd μ46 := (bd_cg (hp_70 15 (by decide)) (hp_70 16 (by decide))); omega)).h1; omega)).ee (by omega)
    refine lv_pop hx hb dX12_bang_50 rfl ?_
    refine lv_aload_n hx hb dX12_bang_51 rfl (lv_at hl 3 rfl) ?_
    refine lv_iload_n hx hb dX12_bang_52 rfl (lv_at hl 2 rfl) ?_
    have e_80 : μ67.1 111 39 = μ46.1 111 39 := (hp_70 39 (by decide))
    have e_81 : wr μ67 = wr μ46 := (wr_cg (hp_70 15 (by decide)))
    have e_82 : bd μ67 = bd μ46 := (bd_cg (hp_70 15 (by decide)) (hp_70 16 (by decide)))
    have e_83 : nn μ67 = nn μ46 := (nn_cg (hp_70 15 (by decide)) (hp_70 18 (by decide)))
    have e_84 : μ67.1 111 39 = μ46.1 111 39 := (hp_70 39 (by decide))
    have hwl_85 : ∀ j, (μ.1 111 39) ≤ j → j < μ67.1 111 39 → μ.1 111 22 ≤ μ67.1 126 j ∧ μ67.1 126 j < μ67.1 111 22 := (fun j h1 h2 => by rcases Int.lt_or_le j (μ46.1 111 39) with h9 | h9; (have b9 := hp_59 j h1 h9; rw [show μ67.1 126 j = μ46.1 126 j from (F_69.1 126 (by decide) j)]; exact ⟨b9.1, by omega⟩); (omega))
    have e_86 : μ67.1 111 29 = μ46.1 111 29 := (hp_70 29 (by decide))
    have e_87 : μ67.1 111 39 = μ46.1 111 39 := (hp_70 39 (by decide))
    have e_88 : μ67.1 111 39 = μ46.1 111 39 := (hp_70 39 (by decide))
    have e_89 : μ67.1 111 39 = μ46.1 111 39 := (hp_70 39 (by decide))
    have e_90 : μ67.1 111 39 = μ46.1 111 39 := (hp_70 39 (by decide))
    have e_91 : μ67.1 111 39 = μ46.1 111 39 := (hp_70 39 (by decide))
    have e_92 : μ67.1 111 39 = μ46.1 111 39 := (hp_70 39 (by decide))
    have e_93 : μ67.1 111 39 = μ46.1 111 39 := (hp_70 39 (by decide))
    refine xc_vV G (b := 111) (rest := []) (As := [.int (iv (μ.1 111 39))]) (c_X12_landsFrom ω l μ67 (μ.1 111 39) (by unfold ir; omega) (by omega) (by omega) (fun j h1 h2 => by have b9 := (hwl_85) j h1 h2; omega)) (wm 9 187 rfl rfl) (wm 9 189 rfl rfl) (wm 0 159 rfl rfl) rfl rfl (by decide) rfl (wm 1 18 rfl rfl) (wm 9 190 rfl rfl) (by decide) hR ⟨nfr hF (by decide), nlo hLo (by decide)⟩ (n := 1) rfl rfl (Nat.le_of_ble_eq_true rfl) hl.1 dX12_bang_53 (fun μ94 ρ d0 H locs hp G => ?_)
    obtain ⟨F_95, hp_96, hp_97, hp_98⟩ := hp
    have hxt_99 : mEXT μ μ94 := hxt_74.am hp_97 (fun i hi => by obtain ⟨j9, hj9, hi9⟩ := mem_wls.1 hi; have b9 := (hwl_85) j9 hj9.1 (by omega); omega)
    have e_100 : wr μ94 = wr μ46 := ((wr_cg (hp_96 15 (by decide))).trans (wr_cg (hp_70 15 (by decide))))
    have e_101 : bd μ94 = bd μ46 := ((bd_cg (hp_96 15 (by decide)) (hp_96 16 (by decide))).trans (bd_cg (hp_70 15 (by decide)) (hp_70 16 (by decide))))
    have e_102 : nn μ94 = nn μ46 := ((nn_cg (hp_96 15 (by decide)) (hp_96 18 (by decide))).trans (nn_cg (hp_70 15 (by decide)) (hp_70 18 (by decide))))
    have e_104 : μ94.1 111 29 = μ46.1 111 29 := ((hp_96 29 (by decide)).trans (hp_70 29 (by decide)))
    have hX_103 : ∀ _ : Unit, bd μ94 = 0 → mPX μo μ94 tt 1 1 HH [] := fun _ h0 => mPX.of (as_call ((hX_78 ()) (by have e9 : bd μ67 = bd μ46 := (bd_cg (hp_70 15 (by decide)) (hp_70 16 (by decide))); have e8 : bd μ94 = bd μ46 := ((bd_cg (hp_96 15 (by decide)) (hp_96 16 (by decide))).trans (bd_cg (hp_70 15 (by decide)) (hp_70 16 (by decide)))); omega)) (by omega) hp_97 rfl (fun i => wls_cg (fun j h1 h9 => (F_69.1 126 (by decide) j)) (by omega)))
    have e_105 : μ94.1 111 22 = μ67.1 111 22 := (hp_96 22 (by decide))
    have e_106 : μ94.1 111 9 = μ46.1 111 9 := ((hp_96 9 (by decide)).trans (hp_70 9 (by decide)))
    have e_107 : μ94.1 111 29 = μ46.1 111 29 := ((hp_96 29 (by decide)).trans (hp_70 29 (by decide)))
    have e_108 : wr μ94 = wr μ46 := ((wr_cg (hp_96 15 (by decide))).trans (wr_cg (hp_70 15 (by decide))))
    have e_109 : bd μ94 = bd μ46 := ((bd_cg (hp_96 15 (by decide)) (hp_96 16 (by decide))).trans (bd_cg (hp_70 15 (by decide)) (hp_70 16 (by decide))))
    have e_110 : nn μ94 = nn μ46 := ((nn_cg (hp_96 15 (by decide)) (hp_96 18 (by decide))).trans (nn_cg (hp_70 15 (by decide)) (hp_70 18 (by decide))))
    have hPM_111 : PM μ94 := hp_50.cg ((((hp_96 4 (by decide)).trans ((hp_70 4 (by decide)).trans ((hp_49 4 (by decide)).trans (hp_7 4 (by decide)))))).trans (((hp_49 4 (by decide)).trans (hp_7 4 (by decide)))).symm) ((hp_96 6 (by decide)).trans (hp_70 6 (by decide))) ((((hp_96 7 (by decide)).trans ((hp_70 7 (by decide)).trans ((hp_49 7 (by decide)).trans (hp_7 7 (by decide)))))).trans (((hp_49 7 (by decide)).trans (hp_7 7 (by decide)))).symm) ((hp_96 8 (by decide)).trans (hp_70 8 (by decide))) ((hp_96 9 (by decide)).trans (hp_70 9 (by decide))) ((hp_96 11 (by decide)).trans (hp_70 11 (by decide))) ((hp_96 12 (by decide)).trans (hp_70 12 (by decide))) ((((hp_96 14 (by decide)).trans ((hp_70 14 (by decide)).trans ((hp_49 14 (by decide)).trans ((hp_7 14 (by decide)).trans htt.symm))))).trans (((hp_49 14 (by decide)).trans ((hp_7 14 (by decide)).trans htt.symm))).symm) ((hp_96 15 (by decide)).trans (hp_70 15 (by decide))) ((hp_96 29 (by decide)).trans (hp_70 29 (by decide))) (fun j => ((F_95.1 123 (by decide) j).trans (F_69.1 123 (by decide) j)))
    have e_112 : μ94.1 111 22 = μ67.1 111 22 := (hp_96 22 (by decide))
    have e_113 : μ94.1 111 22 = μ67.1 111 22 := (hp_96 22 (by decide))
    have e_114 : μ94.1 111 9 = μ46.1 111 9 := ((hp_96 9 (by decide)).trans (hp_70 9 (by decide)))
    have e_115 : wr μ94 = wr μ46 := ((wr_cg (hp_96 15 (by decide))).trans (wr_cg (hp_70 15 (by decide))))
    have e_116 : μ94.1 111 9 = μ46.1 111 9 := ((hp_96 9 (by decide)).trans (hp_70 9 (by decide)))
    have e_117 : μ94.1 111 29 = μ46.1 111 29 := ((hp_96 29 (by decide)).trans (hp_70 29 (by decide)))
    have e_118 : wr μ94 = wr μ46 := ((wr_cg (hp_96 15 (by decide))).trans (wr_cg (hp_70 15 (by decide))))
    have e_119 : bd μ94 = bd μ46 := ((bd_cg (hp_96 15 (by decide)) (hp_96 16 (by decide))).trans (bd_cg (hp_70 15 (by decide)) (hp_70 16 (by decide))))
    have e_120 : wr μ94 = wr μ46 := ((wr_cg (hp_96 15 (by decide))).trans (wr_cg (hp_70 15 (by decide))))
    have e_121 : nn μ94 = nn μ46 := ((nn_cg (hp_96 15 (by decide)) (hp_96 18 (by decide))).trans (nn_cg (hp_70 15 (by decide)) (hp_70 18 (by decide))))
    exact xr_v G hret hlk dX12_bang_56 ⟨(Fr.tr (Fr.tr (Fr.tr (Fr.tr Fr.rf F_6 (by decide)) F_48 (by decide)) F_69 (by decide)) F_95 (by decide)), (fun j hj => ((hp_96 j (fun h9 => hj ((by decide : ∀ x ∈ ([39] : List Int), x ∈ ([6, 8, 9, 10, 11, 12, 13, 15, 16, 17, 18, 22, 29, 39] : List Int)) j h9))).trans ((hp_70 j (fun h9 => hj ((by decide : ∀ x ∈ ([22] : List Int), x ∈ ([6, 8, 9, 10, 11, 12, 13, 15, 16, 17, 18, 22, 29, 39] : List Int)) j h9))).trans ((hp_49 j (fun h9 => hj ((by decide : ∀ x ∈ ([6, 8, 9, 10, 11, 12, 13, 15, 16, 17, 18, 22, 29, 39] : List Int), x ∈ ([6, 8, 9, 10, 11, 12, 13, 15, 16, 17, 18, 22, 29, 39] : List Int)) j h9))).trans (hp_7 j (fun h9 => hj ((by decide : ∀ x ∈ ([22] : List Int), x ∈ ([6, 8, 9, 10, 11, 12, 13, 15, 16, 17, 18, 22, 29, 39] : List Int)) j h9))))))), hPM_111, (by omega), (by omega), (by omega), (by omega), (by omega), (by omega), (fun j hj => ((F_95.1 126 (by decide) j).trans ((F_69.1 126 (by decide) j).trans ((hp_57 j (by omega)).trans (F_6.1 126 (by decide) j))))), (fun _ h0 => (mPX.ex ((hX_103 ()) h0)).e (by omega)), hxt_99⟩
  · refine lv_aload_n hx hb dX12_bang_16 rfl (lv_at hl 2 rfl) ?_
    refine xa_getr G fd_X12 (a := 111) (x := 126) 38 rfl (by decide) rfl (wm 7 187 rfl rfl) ⟨rfl, rfl, rfl⟩ dX12_bang_17 rfl (G.sk 124 rfl) (by decide) rfl ?_
    refine lv_aload_n hx hb dX12_bang_20 rfl (lv_at hl 2 rfl) ?_
    refine xa_geti G fd_X12 (a := 111) (x := μ.1 111 39) 39 rfl (by decide) rfl (wm 7 188 rfl rfl) ⟨rfl, rfl, rfl⟩ dX12_bang_21 rfl (hp_7 39 (by decide)) ?_
    refine lv_iload_n hx hb dX12_bang_24 rfl (lv_at hl 0 rfl) ?_
    have e_122 : μ4.1 111 39 = μ.1 111 39 := (hp_7 39 (by decide))
    refine xa_iast G (a := 126) (i := μ.1 111 39) (x := r_5) rfl (by have h9 := G.lc (a := 126) (n := 12000) 64 rfl; omega) (by unfold ir; omega) dX12_bang_25 rfl (fun H locs G => ?_)
    refine lv_aload_n hx hb dX12_bang_26 rfl (lv_at hl 2 rfl) ?_
    refine lv_dup hx hb dX12_bang_27 rfl ?_
    refine xa_geti G fd_X12 (a := 111) (x := μ.1 111 39) 39 rfl (by decide) rfl (wm 7 188 rfl rfl) ⟨rfl, rfl, rfl⟩ dX12_bang_28 rfl ((sv_n _ (fun h9 => absurd h9.1 (by decide))).trans (hp_7 39 (by decide))) ?_
    refine lv_iconst (v := iv 1) hx hb dX12_bang_31 rfl ?_
    refine xb_iadd hx hb dX12_bang_32 ?_
    refine xa_puti G fd_X12 (a := 111) (x := (μ.1 111 39) + 1) 39 (kz := 39) rfl rfl (by decide) rfl (by unfold ir; omega) (wm 7 188 rfl rfl) ⟨rfl, rfl, rfl, rfl⟩ rfl dX12_bang_33 rfl (fun H locs G => ?_)
    refine lv_aload_n hx hb dX12_bang_36 rfl (lv_at hl 2 rfl) ?_
    refine lv_iconst (v := iv 1) hx hb dX12_bang_37 rfl ?_
    have e_123 : (sv (sv μ4 126 (μ.1 111 39) r_5) 111 39 ((μ.1 111 39) + 1)).1 111 39 = (μ.1 111 39) + 1 := (sv_s _ _ _ _)
    have e_124 : (sv (sv μ4 126 (μ.1 111 39) r_5) 111 39 ((μ.1 111 39) + 1)).1 111 22 = μ4.1 111 22 := ((sv_n _ (by decide)).trans (sv_n _ (fun h9 => absurd h9.1 (by decide))))
    have e_125 : wr (sv (sv μ4 126 (μ.1 111 39) r_5) 111 39 ((μ.1 111 39) + 1)) = wr μ := ((wr_cg (sv_n _ (by decide))).trans ((wr_cg (sv_n _ (fun h9 => absurd h9.1 (by decide)))).trans (wr_cg (hp_7 15 (by decide)))))
    have e_126 : bd (sv (sv μ4 126 (μ.1 111 39) r_5) 111 39 ((μ.1 111 39) + 1)) = bd μ := ((bd_cg (sv_n _ (by decide)) (sv_n _ (by decide))).trans ((bd_cg (sv_n _ (fun h9 => absurd h9.1 (by decide))) (sv_n _ (fun h9 => absurd h9.1 (by decide)))).trans (bd_cg (hp_7 15 (by decide)) (hp_7 16 (by decide)))))
    have e_127 : nn (sv (sv μ4 126 (μ.1 111 39) r_5) 111 39 ((μ.1 111 39) + 1)) = nn μ := ((nn_cg (sv_n _ (by decide)) (sv_n _ (by decide))).trans ((nn_cg (sv_n _ (fun h9 => absurd h9.1 (by decide))) (sv_n _ (fun h9 => absurd h9.1 (by decide)))).trans (nn_cg (hp_7 15 (by decide)) (hp_7 18 (by decide)))))
    have e_128 : (sv (sv μ4 126 (μ.1 111 39) r_5) 111 39 ((μ.1 111 39) + 1)).1 111 29 = μ.1 111 29 := ((sv_n _ (by decide)).trans ((sv_n _ (fun h9 => absurd h9.1 (by decide))).trans (hp_7 29 (by decide))))
    have e_129 : wr (sv (sv μ4 126 (μ.1 111 39) r_5) 111 39 ((μ.1 111 39) + 1)) = wr μ := ((wr_cg (sv_n _ (by decide))).trans ((wr_cg (sv_n _ (fun h9 => absurd h9.1 (by decide)))).trans (wr_cg (hp_7 15 (by decide)))))
    have e_130 : bd (sv (sv μ4 126 (μ.1 111 39) r_5) 111 39 ((μ.1 111 39) + 1)) = bd μ := ((bd_cg (sv_n _ (by decide)) (sv_n _ (by decide))).trans ((bd_cg (sv_n _ (fun h9 => absurd h9.1 (by decide))) (sv_n _ (fun h9 => absurd h9.1 (by decide)))).trans (bd_cg (hp_7 15 (by decide)) (hp_7 16 (by decide)))))
    have e_131 : nn (sv (sv μ4 126 (μ.1 111 39) r_5) 111 39 ((μ.1 111 39) + 1)) = nn μ := ((nn_cg (sv_n _ (by decide)) (sv_n _ (by decide))).trans ((nn_cg (sv_n _ (fun h9 => absurd h9.1 (by decide))) (sv_n _ (fun h9 => absurd h9.1 (by decide)))).trans (nn_cg (hp_7 15 (by decide)) (hp_7 18 (by decide)))))
    have e_133 : (sv (sv μ4 126 (μ.1 111 39) r_5) 111 39 ((μ.1 111 39) + 1)).1 111 29 = μ.1 111 29 := ((sv_n _ (by decide)).trans ((sv_n _ (fun h9 => absurd h9.1 (by decide))).trans (hp_7 29 (by decide))))
    have hX_132 : ∀ _ : Unit, bd (sv (sv μ4 126 (μ.1 111 39) r_5) 111 39 ((μ.1 111 39) + 1)) = 0 → mPX μo (sv (sv μ4 126 (μ.1 111 39) r_5) 111 39 ((μ.1 111 39) + 1)) tt 1 1 HH (lsk r_5 ++ (wls μ (μ.1 111 39) (μ.1 111 39) ++ [])) := fun _ h0 => (hX_14 () (by have e9 : bd μ4 = bd μ := (bd_cg (hp_7 15 (by decide)) (hp_7 16 (by decide))); have e8 : bd (sv (sv μ4 126 (μ.1 111 39) r_5) 111 39 ((μ.1 111 39) + 1)) = bd μ := ((bd_cg (sv_n _ (by decide)) (sv_n _ (by decide))).trans ((bd_cg (sv_n _ (fun h9 => absurd h9.1 (by decide))) (sv_n _ (fun h9 => absurd h9.1 (by decide)))).trans (bd_cg (hp_7 15 (by decide)) (hp_7 16 (by decide))))); omega)).qm (q0m.fr (K := [111, 126]) (Fr.put (Fr.put Fr.rf (by decide)) (by decide)) (by decide) (by decide) (by decide) ((sv_n _ (by decide)).trans (sv_n _ (fun h9 => absurd h9.1 (by decide)))) (by omega))
    have e_134 : (sv (sv μ4 126 (μ.1 111 39) r_5) 111 39 ((μ.1 111 39) + 1)).1 111 39 = (μ.1 111 39) + 1 := (sv_s _ _ _ _)
    have e_135 : (sv (sv μ4 126 (μ.1 111 39) r_5) 111 39 ((μ.1 111 39) + 1)).1 111 22 = μ4.1 111 22 := ((sv_n _ (by decide)).trans (sv_n _ (fun h9 => absurd h9.1 (by decide))))
    have e_136 : (sv (sv μ4 126 (μ.1 111 39) r_5) 111 39 ((μ.1 111 39) + 1)).1 111 29 = μ.1 111 29 := ((sv_n _ (by decide)).trans ((sv_n _ (fun h9 => absurd h9.1 (by decide))).trans (hp_7 29 (by decide))))
    have e_137 : (sv (sv μ4 126 (μ.1 111 39) r_5) 111 39 ((μ.1 111 39) + 1)).1 111 29 = μ.1 111 29 := ((sv_n _ (by decide)).trans ((sv_n _ (fun h9 => absurd h9.1 (by decide))).trans (hp_7 29 (by decide))))
    have hxt_138 : mEXT μ (sv (sv μ4 126 (μ.1 111 39) r_5) 111 39 ((μ.1 111 39) + 1)) := hxt_10.tr (q0m.fr (K := [111, 126]) (Fr.put (Fr.put Fr.rf (by decide)) (by decide)) (by decide) (by decide) (by decide) ((sv_n _ (by decide)).trans (sv_n _ (fun h9 => absurd h9.1 (by decide)))) (by omega)).1
    have e_139 : (sv (sv μ4 126 (μ.1 111 39) r_5) 111 39 ((μ.1 111 39) + 1)).1 111 14 = tt := ((sv_n _ (by decide)).trans ((sv_n _ (fun h9 => absurd h9.1 (by decide))).trans ((hp_7 14 (by decide)).trans htt.symm)))
    have hPM_140 : PM (sv (sv μ4 126 (μ.1 111 39) r_5) 111 39 ((μ.1 111 39) + 1)) := hPM.cg ((sv_n _ (by decide)).trans ((sv_n _ (fun h9 => absurd h9.1 (by decide))).trans (hp_7 4 (by decide)))) ((sv_n _ (by decide)).trans ((sv_n _ (fun h9 => absurd h9.1 (by decide))).trans (hp_7 6 (by decide)))) ((sv_n _ (by decide)).trans ((sv_n _ (fun h9 => absurd h9.1 (by decide))).trans (hp_7 7 (by decide)))) ((sv_n _ (by decide)).trans ((sv_n _ (fun h9 => absurd h9.1 (by decide))).trans (hp_7 8 (by decide)))) ((sv_n _ (by decide)).trans ((sv_n _ (fun h9 => absurd h9.1 (by decide))).trans (hp_7 9 (by decide)))) ((sv_n _ (by decide)).trans ((sv_n _ (fun h9 => absurd h9.1 (by decide))).trans (hp_7 11 (by decide)))) ((sv_n _ (by decide)).trans ((sv_n _ (fun h9 => absurd h9.1 (by decide))).trans (hp_7 12 (by decide)))) ((((sv_n _ (by decide)).trans ((sv_n _ (fun h9 => absurd h9.1 (by decide))).trans ((hp_7 14 (by decide)).trans htt.symm)))).trans (htt.symm).symm) ((sv_n _ (by decide)).trans ((sv_n _ (fun h9 => absurd h9.1 (by decide))).trans (hp_7 15 (by decide)))) ((sv_n _ (by decide)).trans ((sv_n _ (fun h9 => absurd h9.1 (by decide))).trans (hp_7 29 (by decide)))) (fun j => ((sv_n _ (by omega)).trans ((sv_n _ (by omega)).trans (F_6.1 123 (by decide) j))))
    have e_141 : wr (sv (sv μ4 126 (μ.1 111 39) r_5) 111 39 ((μ.1 111 39) + 1)) = wr μ := ((wr_cg (sv_n _ (by decide))).trans ((wr_cg (sv_n _ (fun h9 => absurd h9.1 (by decide)))).trans (wr_cg (hp_7 15 (by decide)))))
    have e_142 : nn (sv (sv μ4 126 (μ.1 111 39) r_5) 111 39 ((μ.1 111 39) + 1)) = nn μ := ((nn_cg (sv_n _ (by decide)) (sv_n _ (by decide))).trans ((nn_cg (sv_n _ (fun h9 => absurd h9.1 (by decide))) (sv_n _ (fun h9 => absurd h9.1 (by decide)))).trans (nn_cg (hp_7 15 (by decide)) (hp_7 18 (by decide)))))
    have e_143 : wr (sv (sv μ4 126 (μ.1 111 39) r_5) 111 39 ((μ.1 111 39) + 1)) = wr μ := ((wr_cg (sv_n _ (by decide))).trans ((wr_cg (sv_n _ (fun h9 => absurd h9.1 (by decide)))).trans (wr_cg (hp_7 15 (by decide)))))
    have e_144 : nn (sv (sv μ4 126 (μ.1 111 39) r_5) 111 39 ((μ.1 111 39) + 1)) = nn μ := ((nn_cg (sv_n _ (by decide)) (sv_n _ (by decide))).trans ((nn_cg (sv_n _ (fun h9 => absurd h9.1 (by decide))) (sv_n _ (fun h9 => absurd h9.1 (by decide)))).trans (nn_cg (hp_7 15 (by decide)) (hp_7 18 (by decide)))))
    have e_145 : (sv (sv μ4 126 (μ.1 111 39) r_5) 111 39 ((μ.1 111 39) + 1)).1 111 22 = μ4.1 111 22 := ((sv_n _ (by decide)).trans (sv_n _ (fun h9 => absurd h9.1 (by decide))))
    have e_146 : (sv (sv μ4 126 (μ.1 111 39) r_5) 111 39 ((μ.1 111 39) + 1)).1 111 22 = μ4.1 111 22 := ((sv_n _ (by decide)).trans (sv_n _ (fun h9 => absurd h9.1 (by decide))))
    have e_147 : (sv (sv μ4 126 (μ.1 111 39) r_5) 111 39 ((μ.1 111 39) + 1)).1 111 9 = μ.1 111 9 := ((sv_n _ (by decide)).trans ((sv_n _ (fun h9 => absurd h9.1 (by decide))).trans (hp_7 9 (by decide))))
    have e_148 : wr (sv (sv μ4 126 (μ.1 111 39) r_5) 111 39 ((μ.1 111 39) + 1)) = wr μ := ((wr_cg (sv_n _ (by decide))).trans ((wr_cg (sv_n _ (fun h9 => absurd h9.1 (by decide)))).trans (wr_cg (hp_7 15 (by decide)))))
    have e_149 : (sv (sv μ4 126 (μ.1 111 39) r_5) 111 39 ((μ.1 111 39) + 1)).1 111 39 = (μ.1 111 39) + 1 := (sv_s _ _ _ _)
    have e_150 : (sv (sv μ4 126 (μ.1 111 39) r_5) 111 39 ((μ.1 111 39) + 1)).1 111 39 = (μ.1 111 39) + 1 := (sv_s _ _ _ _)
    have e_151 : (sv (sv μ4 126 (μ.1 111 39) r_5) 111 39 ((μ.1 111 39) + 1)).1 111 22 = μ4.1 111 22 := ((sv_n _ (by decide)).trans (sv_n _ (fun h9 => absurd h9.1 (by decide))))
    have e_152 : (sv (sv μ4 126 (μ.1 111 39) r_5) 111 39 ((μ.1 111 39) + 1)).1 111 31 = μ.1 111 31 := ((sv_n _ (by decide)).trans ((sv_n _ (fun h9 => absurd h9.1 (by decide))).trans (hp_7 31 (by decide))))
    have e_153 : (sv (sv μ4 126 (μ.1 111 39) r_5) 111 39 ((μ.1 111 39) + 1)).1 111 31 = μ.1 111 31 := ((sv_n _ (by decide)).trans ((sv_n _ (fun h9 => absurd h9.1 (by decide))).trans (hp_7 31 (by decide))))
    have e_154 : nn (sv (sv μ4 126 (μ.1 111 39) r_5) 111 39 ((μ.1 111 39) + 1)) = nn μ := ((nn_cg (sv_n _ (by decide)) (sv_n _ (by decide))).trans ((nn_cg (sv_n _ (fun h9 => absurd h9.1 (by decide))) (sv_n _ (fun h9 => absurd h9.1 (by decide)))).trans (nn_cg (hp_7 15 (by decide)) (hp_7 18 (by decide)))))
    have e_155 : (sv (sv μ4 126 (μ.1 111 39) r_5) 111 39 ((μ.1 111 39) + 1)).1 111 39 = (μ.1 111 39) + 1 := (sv_s _ _ _ _)
    have e_156 : (sv (sv μ4 126 (μ.1 111 39) r_5) 111 39 ((μ.1 111 39) + 1)).1 111 39 = (μ.1 111 39) + 1 := (sv_s _ _ _ _)
    have e_157 : (sv (sv μ4 126 (μ.1 111 39) r_5) 111 39 ((μ.1 111 39) + 1)).1 111 39 = (μ.1 111 39) + 1 := (sv_s _ _ _ _)
    have e_158 : (sv (sv μ4 126 (μ.1 111 39) r_5) 111 39 ((μ.1 111 39) + 1)).1 111 22 = μ4.1 111 22 := ((sv_n _ (by decide)).trans (sv_n _ (fun h9 => absurd h9.1 (by decide))))
    have e_159 : (sv (sv μ4 126 (μ.1 111 39) r_5) 111 39 ((μ.1 111 39) + 1)).1 111 22 = μ4.1 111 22 := ((sv_n _ (by decide)).trans (sv_n _ (fun h9 => absurd h9.1 (by decide))))
    have e_160 : (sv (sv μ4 126 (μ.1 111 39) r_5) 111 39 ((μ.1 111 39) + 1)).1 111 22 = μ4.1 111 22 := ((sv_n _ (by decide)).trans (sv_n _ (fun h9 => absurd h9.1 (by decide))))
    have e_161 : nn (sv (sv μ4 126 (μ.1 111 39) r_5) 111 39 ((μ.1 111 39) + 1)) = nn μ := ((nn_cg (sv_n _ (by decide)) (sv_n _ (by decide))).trans ((nn_cg (sv_n _ (fun h9 => absurd h9.1 (by decide))) (sv_n _ (fun h9 => absurd h9.1 (by decide)))).trans (nn_cg (hp_7 15 (by decide)) (hp_7 18 (by decide)))))
    have e_162 : (sv (sv μ4 126 (μ.1 111 39) r_5) 111 39 ((μ.1 111 39) + 1)).1 111 22 = μ4.1 111 22 := ((sv_n _ (by decide)).trans (sv_n _ (fun h9 => absurd h9.1 (by decide))))
    have e_163 : (sv (sv μ4 126 (μ.1 111 39) r_5) 111 39 ((μ.1 111 39) + 1)).1 111 22 = μ4.1 111 22 := ((sv_n _ (by decide)).trans (sv_n _ (fun h9 => absurd h9.1 (by decide))))
    have e_164 : (sv (sv μ4 126 (μ.1 111 39) r_5) 111 39 ((μ.1 111 39) + 1)).1 111 9 = μ.1 111 9 := ((sv_n _ (by decide)).trans ((sv_n _ (fun h9 => absurd h9.1 (by decide))).trans (hp_7 9 (by decide))))
    have e_165 : (sv (sv μ4 126 (μ.1 111 39) r_5) 111 39 ((μ.1 111 39) + 1)).1 111 9 = μ.1 111 9 := ((sv_n _ (by decide)).trans ((sv_n _ (fun h9 => absurd h9.1 (by decide))).trans (hp_7 9 (by decide))))
    have e_166 : (sv (sv μ4 126 (μ.1 111 39) r_5) 111 39 ((μ.1 111 39) + 1)).1 111 29 = μ.1 111 29 := ((sv_n _ (by decide)).trans ((sv_n _ (fun h9 => absurd h9.1 (by decide))).trans (hp_7 29 (by decide))))
    have e_167 : wr (sv (sv μ4 126 (μ.1 111 39) r_5) 111 39 ((μ.1 111 39) + 1)) = wr μ := ((wr_cg (sv_n _ (by decide))).trans ((wr_cg (sv_n _ (fun h9 => absurd h9.1 (by decide)))).trans (wr_cg (hp_7 15 (by decide)))))
    have e_168 : bd (sv (sv μ4 126 (μ.1 111 39) r_5) 111 39 ((μ.1 111 39) + 1)) = bd μ := ((bd_cg (sv_n _ (by decide)) (sv_n _ (by decide))).trans ((bd_cg (sv_n _ (fun h9 => absurd h9.1 (by decide))) (sv_n _ (fun h9 => absurd h9.1 (by decide)))).trans (bd_cg (hp_7 15 (by decide)) (hp_7 16 (by decide)))))
    have e_169 : nn (sv (sv μ4 126 (μ.1 111 39) r_5) 111 39 ((μ.1 111 39) + 1)) = nn μ := ((nn_cg (sv_n _ (by decide)) (sv_n _ (by decide))).trans ((nn_cg (sv_n _ (fun h9 => absurd h9.1 (by decide))) (sv_n _ (fun h9 => absurd h9.1 (by decide)))).trans (nn_cg (hp_7 15 (by decide)) (hp_7 18 (by decide)))))
    have e_170 : (sv (sv μ4 126 (μ.1 111 39) r_5) 111 39 ((μ.1 111 39) + 1)).1 111 39 = (μ.1 111 39) + 1 := (sv_s _ _ _ _)
    refine xc_iV G (b := 111) (rest := []) (As := [.int (iv 1)]) (c_X12_arguments ω l (sv (sv μ4 126 (μ.1 111 39) r_5) 111 39 ((μ.1 111 39) + 1)) 1 F Lo Fu Lu kf μo (HH) (μ.1 111 39) (μ.1 111 22) tt (by unfold ir; omega) (by omega) hF hLo hFu hLu hE hU hPM_140 (by omega) (by omega) (by omega) (by omega) (by omega) (by omega) (by omega) (by omega) (by omega) (fun j h1 h2 => by rcases Int.lt_or_le j (μ.1 111 39) with h9 | h9; (have b9 := hwk j h1 h9; rw [show (sv (sv μ4 126 (μ.1 111 39) r_5) 111 39 ((μ.1 111 39) + 1)).1 126 j = μ.1 126 j from ((sv_n _ (fun h9 => absurd h9.1 (by decide))).trans ((sv_n _ (by omega)).trans (F_6.1 126 (by decide) j)))]; exact ⟨b9.1, by omega⟩); (rw [show j = μ.1 111 39 by omega, show (sv (sv μ4 126 (μ.1 111 39) r_5) 111 39 ((μ.1 111 39) + 1)).1 126 (μ.1 111 39) = r_5 from ((sv_n _ (fun h9 => absurd h9.1 (by decide))).trans (sv_s _ _ _ _))]; omega)) (fun _ h0 => (((hX_132 ()) h0).ee (by omega)).mem (fun i => wls_new (by omega) (fun j h1 h9 => ((sv_n _ (fun h9 => absurd h9.1 (by decide))).trans ((sv_n _ (by omega)).trans (F_6.1 126 (by decide) j)))) (by omega) (by rw [show μ.1 111 39 = μ.1 111 39 by omega]; exact ((sv_n _ (fun h9 => absurd h9.1 (by decide))).trans (sv_s _ _ _ _))) (by omega))) (by omega)) (wm 9 183 rfl rfl) (wm 9 185 rfl rfl) (wm 0 158 rfl rfl) rfl rfl (by decide) rfl (wm 1 18 rfl rfl) (wm 9 186 rfl rfl) (by decide) hR ⟨sfr (F := F) (a := 1) (by decide), slo (L := Lo) (m := 5) (a := 20) (by decide)⟩ (n := 1) rfl rfl (Nat.le_of_ble_eq_true rfl) hl.1 dX12_bang_38 (fun r_172 μ171 ρ d0 H locs hr_r_172 hp G => ?_)
    have hr_r_172 : -2147483648 ≤ r_172 ∧ r_172 ≤ 2147483647 := hr_r_172
    obtain ⟨F_173, hp_174, hp_175, hp_176, hp_177, hp_178, hp_179, hp_180, hp_181, hp_182, hp_183, hp_184, hp_185, hp_186⟩ := hp
    have hpl_187 := hp_175.pl
    have hw_188 := wr_r (μ := μ171)
    have hxt_189 : mEXT μ μ171 := hxt_138.tr hp_186
    have hX_190 : ∀ _ : Unit, bd μ171 = 0 → mPX μo μ171 tt (1 + r_172) 1 HH (wls μ171 (μ.1 111 39) (μ171.1 111 39) ++ []) := fun _ h0 => (by rw [List.append_nil]; exact hp_185 () h0)
    refine lv_istore_n (lv' := [(3, .int (iv r_172)), (2, .int (iv r_5)), (1, .int (iv (μ.1 111 39))), (0, .ref (oP ω 111))]) hx hb dX12_bang_41 rfl hl (by decide) rfl (fun ls hl => ?_)
    refine lv_aload_n hx hb dX12_bang_42 rfl (lv_at hl 3 rfl) ?_
    refine lv_bipush (v := iv 26) hx hb dX12_bang_43 rfl ?_
    refine lv_lconst (v := jv 0) hx hb dX12_bang_45 rfl ?_
    refine lv_iload_n hx hb dX12_bang_46 rfl (lv_at hl 0 rfl) ?_
    refine xc_iV G (b := 111) (rest := []) (As := [.int (iv 26), .long (jv 0), .int (iv r_172)]) (c_X12_emit ω l μ171 26 0 r_172 (by unfold ir; omega) (by unfold jr; omega) (by unfold ir; omega) (by omega)) (wm 9 126 rfl rfl) (wm 9 128 rfl rfl) (wm 0 144 rfl rfl) rfl rfl (by decide) rfl (wm 1 18 rfl rfl) (wm 9 129 rfl rfl) (by decide) hR ⟨nfr hF (by decide), nlo hLo (by decide)⟩ (n := 3) rfl rfl (Nat.le_of_ble_eq_true rfl) hl.1 dX12_bang_47 (fun r_192 μ191 ρ d0 H locs hr_r_192 hp G => ?_)
    have hr_r_192 : -2147483648 ≤ r_192 ∧ r_192 ≤ 2147483647 := hr_r_192
    obtain ⟨F_193, hp_194, hp_195, hp_196, hp_197⟩ := hp
    have hxt_198 : mEXT μ μ191 := hxt_189.tr hp_195.1
    have e_199 : wr μ191 = wr μ171 := (wr_cg (hp_194 15 (by decide)))
    have e_200 : bd μ191 = bd μ171 := (bd_cg (hp_194 15 (by decide)) (hp_194 16 (by decide)))
    have e_201 : nn μ191 = nn μ171 := (nn_cg (hp_194 15 (by decide)) (hp_194 18 (by decide)))
    have e_203 : μ191.1 111 29 = μ171.1 111 29 := (hp_194 29 (by decide))
    have hX_202 : ∀ _ : Unit, bd μ191 = 0 → mPX μo μ191 tt ((1 + r_172) + (- r_172)) 1 HH (wls μ171 (μ.1 111 39) (μ171.1 111 39) ++ []) := fun _ h0 => ((((hX_190 ()) (by have e9 : bd μ171 = bd μ171 := rfl; have e8 : bd μ191 = bd μ171 := (bd_cg (hp_194 15 (by decide)) (hp_194 16 (by decide))); omega))).app (mAD.ex (t := tt) (e := - r_172) hp_195 ((hX_190 ()) (by have e9 : bd μ171 = bd μ171 := rfl; have e8 : bd μ191 = bd μ171 := (bd_cg (hp_194 15 (by decide)) (hp_194 16 (by decide))); omega)).h1.1 (by unfold mpl; omega) (by show - _ = _; omega) (by have h9 := ((hX_190 ()) (by have e9 : bd μ171 = bd μ171 := rfl; have e8 : bd μ191 = bd μ171 := (bd_cg (hp_194 15 (by decide)) (hp_194 16 (by decide))); omega)).h1; omega) ⟨fun q => absurd q (by decide), fun q => absurd q (by decide), fun q => absurd q (by decide), fun q => absurd q (by decide), fun q => absurd q (by decide), fun q => absurd q (by decide), fun q => absurd q (by decide), fun q => absurd q (by decide), fun q => absurd q (by decide), fun q => absurd q (by decide), fun q => absurd q (by decide), fun q => absurd q (by decide), fun q => absurd q (by decide), fun q => absurd q (by decide), fun q => absurd q (by decide), fun q => absurd q (by decide), fun q => absurd q (by decide), fun _ => ⟨by omega, by omega, by have h9 := ((hX_190 ()) (by have e9 : bd μ171 = bd μ171 := rfl; have e8 : bd μ191 = bd μ171 := (bd_cg (hp_194 15 (by decide)) (hp_194 16 (by decide))); omega)).h1; rw [(hp_195.1.fo (t := tt) _ (Int.le_refl _)).1]; omega⟩, fun q => absurd q (by decide), fun q => absurd q (by decide), fun q => absurd q (by decide), fun q => absurd q (by decide), ⟨by decide, by decide⟩⟩) (by have h9 := ((hX_190 ()) (by have e9 : bd μ171 = bd μ171 := rfl; have e8 : bd μ191 = bd μ171 := (bd_cg (hp_194 15 (by decide)) (hp_194 16 (by decide))); omega)).h1; omega)).ee (by omega)
    refine lv_pop hx hb dX12_bang_50 rfl ?_
    refine lv_aload_n hx hb dX12_bang_51 rfl (lv_at hl 3 rfl) ?_
    refine lv_iload_n hx hb dX12_bang_52 rfl (lv_at hl 2 rfl) ?_
    have e_204 : μ191.1 111 39 = μ171.1 111 39 := (hp_194 39 (by decide))
    have e_205 : wr μ191 = wr μ171 := (wr_cg (hp_194 15 (by decide)))
    have e_206 : bd μ191 = bd μ171 := (bd_cg (hp_194 15 (by decide)) (hp_194 16 (by decide)))
    have e_207 : nn μ191 = nn μ171 := (nn_cg (hp_194 15 (by decide)) (hp_194 18 (by decide)))
    have e_208 : μ191.1 111 39 = μ171.1 111 39 := (hp_194 39 (by decide))
    have hwl_209 : ∀ j, (μ.1 111 39) ≤ j → j < μ191.1 111 39 → μ.1 111 22 ≤ μ191.1 126 j ∧ μ191.1 126 j < μ191.1 111 22 := (fun j h1 h2 => by rcases Int.lt_or_le j (μ171.1 111 39) with h9 | h9; (have b9 := hp_184 j h1 h9; rw [show μ191.1 126 j = μ171.1 126 j from (F_193.1 126 (by decide) j)]; exact ⟨b9.1, by omega⟩); (omega))
    have e_210 : μ191.1 111 29 = μ171.1 111 29 := (hp_194 29 (by decide))
    have e_211 : μ191.1 111 39 = μ171.1 111 39 := (hp_194 39 (by decide))
    have e_212 : μ191.1 111 39 = μ171.1 111 39 := (hp_194 39 (by decide))
    have e_213 : μ191.1 111 39 = μ171.1 111 39 := (hp_194 39 (by decide))
    have e_214 : μ191.1 111 39 = μ171.1 111 39 := (hp_194 39 (by decide))
    have e_215 : μ191.1 111 39 = μ171.1 111 39 := (hp_194 39 (by decide))
    have e_216 : μ191.1 111 39 = μ171.1 111 39 := (hp_194 39 (by decide))
    have e_217 : μ191.1 111 39 = μ171.1 111 39 := (hp_194 39 (by decide))
    refine xc_vV G (b := 111) (rest := []) (As := [.int (iv (μ.1 111 39))]) (c_X12_landsFrom ω l μ191 (μ.1 111 39) (by unfold ir; omega) (by omega) (by omega) (fun j h1 h2 => by have b9 := (hwl_209) j h1 h2; omega)) (wm 9 187 rfl rfl) (wm 9 189 rfl rfl) (wm 0 159 rfl rfl) rfl rfl (by decide) rfl (wm 1 18 rfl rfl) (wm 9 190 rfl rfl) (by decide) hR ⟨nfr hF (by decide), nlo hLo (by decide)⟩ (n := 1) rfl rfl (Nat.le_of_ble_eq_true rfl) hl.1 dX12_bang_53 (fun μ218 ρ d0 H locs hp G => ?_)
    obtain ⟨F_219, hp_220, hp_221, hp_222⟩ := hp
    have hxt_223 : mEXT μ μ218 := hxt_198.am hp_221 (fun i hi => by obtain ⟨j9, hj9, hi9⟩ := mem_wls.1 hi; have b9 := (hwl_209) j9 hj9.1 (by omega); omega)
    have e_224 : wr μ218 = wr μ171 := ((wr_cg (hp_220 15 (by decide))).trans (wr_cg (hp_194 15 (by decide))))
    have e_225 : bd μ218 = bd μ171 := ((bd_cg (hp_220 15 (by decide)) (hp_220 16 (by decide))).trans (bd_cg (hp_194 15 (by decide)) (hp_194 16 (by decide))))
    have e_226 : nn μ218 = nn μ171 := ((nn_cg (hp_220 15 (by decide)) (hp_220 18 (by decide))).trans (nn_cg (hp_194 15 (by decide)) (hp_194 18 (by decide))))
    have e_228 : μ218.1 111 29 = μ171.1 111 29 := ((hp_220 29 (by decide)).trans (hp_194 29 (by decide)))
    have hX_227 : ∀ _ : Unit, bd μ218 = 0 → mPX μo μ218 tt 1 1 HH [] := fun _ h0 => mPX.of (as_call ((hX_202 ()) (by have e9 : bd μ191 = bd μ171 := (bd_cg (hp_194 15 (by decide)) (hp_194 16 (by decide))); have e8 : bd μ218 = bd μ171 := ((bd_cg (hp_220 15 (by decide)) (hp_220 16 (by decide))).trans (bd_cg (hp_194 15 (by decide)) (hp_194 16 (by decide)))); omega)) (by omega) hp_221 rfl (fun i => wls_cg (fun j h1 h9 => (F_193.1 126 (by decide) j)) (by omega)))
    have e_229 : μ218.1 111 22 = μ191.1 111 22 := (hp_220 22 (by decide))
    have e_230 : μ218.1 111 9 = μ171.1 111 9 := ((hp_220 9 (by decide)).trans (hp_194 9 (by decide)))
    have e_231 : μ218.1 111 29 = μ171.1 111 29 := ((hp_220 29 (by decide)).trans (hp_194 29 (by decide)))
    have e_232 : wr μ218 = wr μ171 := ((wr_cg (hp_220 15 (by decide))).trans (wr_cg (hp_194 15 (by decide))))
    have e_233 : bd μ218 = bd μ171 := ((bd_cg (hp_220 15 (by decide)) (hp_220 16 (by decide))).trans (bd_cg (hp_194 15 (by decide)) (hp_194 16 (by decide))))
    have e_234 : nn μ218 = nn μ171 := ((nn_cg (hp_220 15 (by decide)) (hp_220 18 (by decide))).trans (nn_cg (hp_194 15 (by decide)) (hp_194 18 (by decide))))
    have hPM_235 : PM μ218 := hp_175.cg ((((hp_220 4 (by decide)).trans ((hp_194 4 (by decide)).trans ((hp_174 4 (by decide)).trans ((sv_n _ (by decide)).trans ((sv_n _ (fun h9 => absurd h9.1 (by decide))).trans (hp_7 4 (by decide)))))))).trans (((hp_174 4 (by decide)).trans ((sv_n _ (by decide)).trans ((sv_n _ (fun h9 => absurd h9.1 (by decide))).trans (hp_7 4 (by decide)))))).symm) ((hp_220 6 (by decide)).trans (hp_194 6 (by decide))) ((((hp_220 7 (by decide)).trans ((hp_194 7 (by decide)).trans ((hp_174 7 (by decide)).trans ((sv_n _ (by decide)).trans ((sv_n _ (fun h9 => absurd h9.1 (by decide))).trans (hp_7 7 (by decide)))))))).trans (((hp_174 7 (by decide)).trans ((sv_n _ (by decide)).trans ((sv_n _ (fun h9 => absurd h9.1 (by decide))).trans (hp_7 7 (by decide)))))).symm) ((hp_220 8 (by decide)).trans (hp_194 8 (by decide))) ((hp_220 9 (by decide)).trans (hp_194 9 (by decide))) ((hp_220 11 (by decide)).trans (hp_194 11 (by decide))) ((hp_220 12 (by decide)).trans (hp_194 12 (by decide))) ((((hp_220 14 (by decide)).trans ((hp_194 14 (by decide)).trans ((hp_174 14 (by decide)).trans ((sv_n _ (by decide)).trans ((sv_n _ (fun h9 => absurd h9.1 (by decide))).trans ((hp_7 14 (by decide)).trans htt.symm))))))).trans (((hp_174 14 (by decide)).trans ((sv_n _ (by decide)).trans ((sv_n _ (fun h9 => absurd h9.1 (by decide))).trans ((hp_7 14 (by decide)).trans htt.symm))))).symm) ((hp_220 15 (by decide)).trans (hp_194 15 (by decide))) ((hp_220 29 (by decide)).trans (hp_194 29 (by decide))) (fun j => ((F_219.1 123 (by decide) j).trans (F_193.1 123 (by decide) j)))
    have e_236 : μ218.1 111 22 = μ191.1 111 22 := (hp_220 22 (by decide))
    have e_237 : μ218.1 111 22 = μ191.1 111 22 := (hp_220 22 (by decide))
    have e_238 : μ218.1 111 9 = μ171.1 111 9 := ((hp_220 9 (by decide)).trans (hp_194 9 (by decide)))
    have e_239 : wr μ218 = wr μ171 := ((wr_cg (hp_220 15 (by decide))).trans (wr_cg (hp_194 15 (by decide))))
    have e_240 : μ218.1 111 9 = μ171.1 111 9 := ((hp_220 9 (by decide)).trans (hp_194 9 (by decide)))
    have e_241 : μ218.1 111 29 = μ171.1 111 29 := ((hp_220 29 (by decide)).trans (hp_194 29 (by decide)))
    have e_242 : wr μ218 = wr μ171 := ((wr_cg (hp_220 15 (by decide))).trans (wr_cg (hp_194 15 (by decide))))
    have e_243 : bd μ218 = bd μ171 := ((bd_cg (hp_220 15 (by decide)) (hp_220 16 (by decide))).trans (bd_cg (hp_194 15 (by decide)) (hp_194 16 (by decide))))
    have e_244 : wr μ218 = wr μ171 := ((wr_cg (hp_220 15 (by decide))).trans (wr_cg (hp_194 15 (by decide))))
    have e_245 : nn μ218 = nn μ171 := ((nn_cg (hp_220 15 (by decide)) (hp_220 18 (by decide))).trans (nn_cg (hp_194 15 (by decide)) (hp_194 18 (by decide))))
    exact xr_v G hret hlk dX12_bang_56 ⟨(Fr.tr (Fr.tr (Fr.tr (Fr.put (Fr.put (Fr.tr Fr.rf F_6 (by decide)) (by decide)) (by decide)) F_173 (by decide)) F_193 (by decide)) F_219 (by decide)), (fun j hj => ((hp_220 j (fun h9 => hj ((by decide : ∀ x ∈ ([39] : List Int), x ∈ ([6, 8, 9, 10, 11, 12, 13, 15, 16, 17, 18, 22, 29, 39] : List Int)) j h9))).trans ((hp_194 j (fun h9 => hj ((by decide : ∀ x ∈ ([22] : List Int), x ∈ ([6, 8, 9, 10, 11, 12, 13, 15, 16, 17, 18, 22, 29, 39] : List Int)) j h9))).trans ((hp_174 j (fun h9 => hj ((by decide : ∀ x ∈ ([6, 8, 9, 10, 11, 12, 13, 15, 16, 17, 18, 22, 29, 39] : List Int), x ∈ ([6, 8, 9, 10, 11, 12, 13, 15, 16, 17, 18, 22, 29, 39] : List Int)) j h9))).trans ((sv_n _ (fun h9 => hj (by rw [h9.2]; decide))).trans ((sv_n _ (fun h9 => absurd h9.1 (by decide))).trans (hp_7 j (fun h9 => hj ((by decide : ∀ x ∈ ([22] : List Int), x ∈ ([6, 8, 9, 10, 11, 12, 13, 15, 16, 17, 18, 22, 29, 39] : List Int)) j h9))))))))), hPM_235, (by omega), (by omega), (by omega), (by omega), (by omega), (by omega), (fun j hj => ((F_219.1 126 (by decide) j).trans ((F_193.1 126 (by decide) j).trans ((hp_182 j (by omega)).trans ((sv_n _ (fun h9 => absurd h9.1 (by decide))).trans ((sv_n _ (by omega)).trans (F_6.1 126 (by decide) j))))))), (fun _ h0 => (mPX.ex ((hX_227 ()) h0)).e (by omega)), hxt_223⟩

set_option maxHeartbeats 4000000 in
set_option maxRecDepth 100000 in
theorem c_X12_primary (ω : Om) (l : Launch) (μ : M3) (x1 : Int) (x2 : Int) (F : Nat) (Lo : Nat) (Fu : Nat) (Lu : Nat) (kf : Int) (tt : Int) (hx1 : ir x1) (hx2 : jr x2) (htt : tt = μ.1 111 14) (hF : 60 ≤ F) (hLo : 2000 ≤ Lo) (hFu : Fu ≤ F) (hLu : Lu ≤ Lo) (hE : ∀ (μ : M3) (tt : Int) (htt : tt = μ.1 111 14) (hPM : PM μ) (hnn : 0 ≤ nn μ ∧ nn μ ≤ 9 ∧ 9 * wr μ ≤ nn μ) (hn8 : nn μ ≤ 8 + wr μ) (hcd : 0 ≤ μ.1 111 22 ∧ μ.1 111 22 ≤ 2 * μ.1 111 9 + 200 + 40 * wr μ) (hW : 0 ≤ μ.1 111 39 ∧ μ.1 111 39 ≤ μ.1 111 22) (hsl : 0 ≤ μ.1 111 31 ∧ μ.1 111 31 ≤ 300) (hfu : 0 ≤ (kf - 1) ∧ 9 ≤ nn μ + (kf - 1)) (hH0 : ∀ _ : Unit, bd μ = 0 → mH0 μ), CtV ω l yX12_expr cX12_expr 1 (F + 0) (Lo + 0) [.ref (oP ω 111)] μ (fun (μ' : M3) => (Fr [111, 113, 115, 116, 117, 123, 126] μ μ') ∧ (∀ j, j ∉ ([6, 8, 9, 10, 11, 12, 13, 15, 16, 17, 18, 22, 29, 39] : List Int) → μ'.1 111 j = μ.1 111 j) ∧ (PM μ') ∧ (μ.1 111 22 ≤ μ'.1 111 22 ∧ μ'.1 111 22 ≤ μ.1 111 22 + 2 * (μ'.1 111 9 - μ.1 111 9) + (- 1 + 3 * wr μ' - 2 * wr μ)) ∧ (μ.1 111 9 ≤ μ'.1 111 9) ∧ (μ.1 111 29 ≤ μ'.1 111 29) ∧ (wr μ ≤ wr μ' ∧ bd μ ≤ bd μ') ∧ (nn μ ≤ nn μ' ∧ nn μ' ≤ nn μ + 9 * wr μ' ∧ nn μ' ≤ 9 ∧ 9 * wr μ' ≤ nn μ') ∧ (μ'.1 111 39 = μ.1 111 39) ∧ (∀ j, j < μ.1 111 39 → μ'.1 126 j = μ.1 126 j) ∧ (∀ _ : Unit, bd μ' = 0 → mEX μ μ' tt 1 0 (11 * (9 - nn μ))) ∧ (mEXT μ μ'))) (hU : ∀ (μ : M3) (tt : Int) (htt : tt = μ.1 111 14) (hPM : PM μ) (hnn : 0 ≤ nn μ ∧ nn μ ≤ 9 ∧ 9 * wr μ ≤ nn μ) (hn8 : nn μ ≤ 8 + wr μ) (hcd : 0 ≤ μ.1 111 22 ∧ μ.1 111 22 ≤ 2 * μ.1 111 9 + 200 + 40 * wr μ) (hW : 0 ≤ μ.1 111 39 ∧ μ.1 111 39 ≤ μ.1 111 22) (hsl : 0 ≤ μ.1 111 31 ∧ μ.1 111 31 ≤ 300) (hfu : 0 ≤ (kf - 1) ∧ 9 ≤ nn μ + (kf - 1)) (hH0 : ∀ _ : Unit, bd μ = 0 → mH0 μ), CtV ω l yX12_unary cX12_unary 6 (Fu + 0) (Lu + 0) [.ref (oP ω 111)] μ (fun (μ' : M3) => (Fr [111, 113, 115, 116, 117, 123, 126] μ μ') ∧ (∀ j, j ∉ ([6, 8, 9, 10, 11, 12, 13, 15, 16, 17, 18, 22, 29, 39] : List Int) → μ'.1 111 j = μ.1 111 j) ∧ (PM μ') ∧ (μ.1 111 22 ≤ μ'.1 111 22 ∧ μ'.1 111 22 ≤ μ.1 111 22 + 2 * (μ'.1 111 9 - μ.1 111 9) + (- 1 + 3 * wr μ' - 2 * wr μ)) ∧ (μ.1 111 9 ≤ μ'.1 111 9) ∧ (μ.1 111 29 ≤ μ'.1 111 29) ∧ (wr μ ≤ wr μ' ∧ bd μ ≤ bd μ') ∧ (nn μ ≤ nn μ' ∧ nn μ' ≤ nn μ + 9 * wr μ' ∧ nn μ' ≤ 9 ∧ 9 * wr μ' ≤ nn μ') ∧ (μ'.1 111 39 = μ.1 111 39) ∧ (∀ j, j < μ.1 111 39 → μ'.1 126 j = μ.1 126 j) ∧ (∀ _ : Unit, bd μ' = 0 → mEX μ μ' tt 1 0 (11 * (9 - nn μ) - 3)) ∧ (mEXT μ μ'))) (hPM : PM μ) (hnn : 0 ≤ nn μ ∧ nn μ ≤ 9 ∧ 9 * wr μ ≤ nn μ) (hn8 : nn μ ≤ 8 + wr μ) (hcd : 0 ≤ μ.1 111 22 ∧ μ.1 111 22 ≤ 2 * μ.1 111 9 + 198 + 40 * wr μ) (hW : 0 ≤ μ.1 111 39 ∧ μ.1 111 39 ≤ μ.1 111 22) (hsl : 0 ≤ μ.1 111 31 ∧ μ.1 111 31 ≤ 300) (hfu : 0 ≤ kf ∧ 9 ≤ nn μ + kf) (hH0 : ∀ _ : Unit, bd μ = 0 → mH0 μ) (hx1n : 0 ≤ x1) : CtV ω l yX12_primary cX12_primary 4 (F + 3) (Lo + 70) [.ref (oP ω 111), .int (iv x1), .long (jv x2)] μ (fun (μ' : M3) => (Fr [111, 113, 115, 116, 117, 123, 126] μ μ') ∧ (∀ j, j ∉ ([6, 8, 9, 10, 11, 12, 13, 15, 16, 17, 18, 22, 29, 39] : List Int) → μ'.1 111 j = μ.1 111 j) ∧ (PM μ') ∧ (μ.1 111 22 ≤ μ'.1 111 22 ∧ μ'.1 111 22 ≤ μ.1 111 22 + 2 * (μ'.1 111 9 - μ.1 111 9) + (1 + 3 * wr μ')) ∧ (μ.1 111 9 ≤ μ'.1 111 9) ∧ (μ.1 111 29 ≤ μ'.1 111 29) ∧ (wr μ ≤ wr μ' ∧ bd μ ≤ bd μ') ∧ (nn μ ≤ nn μ' ∧ nn μ' ≤ nn μ + 9 * wr μ' ∧ nn μ' ≤ 9 ∧ 9 * wr μ' ≤ nn μ') ∧ (μ'.1 111 39 = μ.1 111 39) ∧ (∀ j, j < μ.1 111 39 → μ'.1 126 j = μ.1 126 j) ∧ (∀ _ : Unit, bd μ' = 0 → mEX μ μ' tt 1 0 (11 * (9 - nn μ) - 3)) ∧ (mEXT μ μ')) := by
  refine CtV.go (by decide) (Nat.le_of_ble_eq_true rfl) (fun ρ p e s m below meth c R ls G hR hret hlk hl => ?_)
  have hx := G.1.1
  have hb := G.1.2.1
  have hl : lv_has ls 4 [(0, .ref (oP ω 111)), (1, .int (iv x1)), (2, .long (jv x2))] := hl
  generalize s.drawn = d0 at G ⊢
  have hr_x1 : -2147483648 ≤ x1 ∧ x1 ≤ 2147483647 := hx1
  have hw_0 := wr_r (μ := μ)
  have hpp_ := hPM.1.2.1
  have hpn_ := hPM.2.1
  have hpt_ := hPM.1.2.2.2.1
  have hpw_ := hPM.1.2.2.2.2.1
  have hpa_ := hPM.1.1
  have hX_1 : ∀ _ : Unit, bd μ = 0 → mPX μ μ tt 0 1 (11 * (9 - nn μ) - 3) [] := fun _ h0 => mPX.nil (hH0 () h0) (by omega)
  refine lv_aload_n hx hb dX12_primary_0 rfl (lv_at hl 0 rfl) ?_
  refine lv_bipush (v := iv 40) hx hb dX12_primary_1 rfl ?_
  refine xc_iV G (b := 111) (rest := []) (As := [.int (iv 40)]) (c_X12_isSign ω l μ 40 (by unfold ir; omega)) (wm 9 90 rfl rfl) (wm 9 92 rfl rfl) (wm 0 135 rfl rfl) rfl rfl (by decide) rfl (wm 1 18 rfl rfl) (wm 9 93 rfl rfl) (by decide) hR ⟨nfr hF (by decide), nlo hLo (by decide)⟩ (n := 1) rfl rfl (Nat.le_of_ble_eq_true rfl) hl.1 dX12_primary_3 (fun r_3 μ2 ρ d0 H locs hr_r_3 hp G => ?_)
  have hr_r_3 : -2147483648 ≤ r_3 ∧ r_3 ≤ 2147483647 := hr_r_3
  obtain ⟨hsm_4, hp_5⟩ := hp
  have hsm_4 := Eq.symm hsm_4
  subst hsm_4
  refine xb_if_eq (tgt := 21) hx hb (by unfold ir; omega) dX12_primary_6 (by decide) (fun c_6 => ?_) (fun c_6 => ?_)
  · refine lv_aload_n hx hb dX12_primary_21 rfl (lv_at hl 0 rfl) ?_
    refine lv_bipush (v := iv 33) hx hb dX12_primary_22 rfl ?_
    refine xc_iV G (b := 111) (rest := []) (As := [.int (iv 33)]) (c_X12_isSign ω l μ 33 (by unfold ir; omega)) (wm 9 90 rfl rfl) (wm 9 92 rfl rfl) (wm 0 135 rfl rfl) rfl rfl (by decide) rfl (wm 1 18 rfl rfl) (wm 9 93 rfl rfl) (by decide) hR ⟨nfr hF (by decide), nlo hLo (by decide)⟩ (n := 1) rfl rfl (Nat.le_of_ble_eq_true rfl) hl.1 dX12_primary_24 (fun r_7 μ6 ρ d0 H locs hr_r_7 hp G => ?_)
    have hr_r_7 : -2147483648 ≤ r_7 ∧ r_7 ≤ 2147483647 := hr_r_7
    obtain ⟨hsm_8, hp_9⟩ := hp
    have hsm_8 := Eq.symm hsm_8
    subst hsm_8
    refine xb_if_eq (tgt := 55) hx hb (by unfold ir; omega) dX12_primary_27 (by decide) (fun c_27 => ?_) (fun c_27 => ?_)
    · refine lv_aload_n hx hb dX12_primary_55 rfl (lv_at hl 0 rfl) ?_
      refine lv_iconst (v := iv 3) hx hb dX12_primary_56 rfl ?_
      refine lv_aload_n hx hb dX12_primary_57 rfl (lv_at hl 0 rfl) ?_
      refine lv_iload_n hx hb dX12_primary_58 rfl (lv_at hl 1 rfl) ?_
      refine lv_lload_n hx hb dX12_primary_59 rfl (lv_at hl 2 rfl) ?_
      refine xc_iV G (b := 111) (rest := [.int (iv 3), .ref (oP ω 111)]) (As := [.int (iv x1), .long (jv x2)]) (c_X12_slot ω l μ x1 x2 (by unfold ir; omega) hx2 (by omega)) (wm 9 171 rfl rfl) (wm 9 173 rfl rfl) (wm 0 155 rfl rfl) rfl rfl (by decide) rfl (wm 1 18 rfl rfl) (wm 9 174 rfl rfl) (by decide) hR ⟨nfr hF (by decide), nlo hLo (by decide)⟩ (n := 2) rfl rfl (Nat.le_of_ble_eq_true rfl) hl.1 dX12_primary_60 (fun r_11 μ10 ρ d0 H locs hr_r_11 hp G => ?_)
      have hr_r_11 : -2147483648 ≤ r_11 ∧ r_11 ≤ 2147483647 := hr_r_11
      obtain ⟨F_12, hp_13, hp_14⟩ := hp
      have e_15 : wr μ10 = wr μ := (wr_cg (hp_13 15 (by decide)))
      have e_16 : bd μ10 = bd μ := (bd_cg (hp_13 15 (by decide)) (hp_13 16 (by decide)))
      have e_17 : nn μ10 = nn μ := (nn_cg (hp_13 15 (by decide)) (hp_13 18 (by decide)))
      refine xb_i2l hx hb (by unfold ir; omega) dX12_primary_63 ?_
      refine lv_iconst (v := iv 0) hx hb dX12_primary_64 rfl ?_
      have e_18 : μ10.1 111 29 = μ.1 111 29 := (hp_13 29 (by decide))
      have e_19 : wr μ10 = wr μ := (wr_cg (hp_13 15 (by decide)))
      have e_20 : bd μ10 = bd μ := (bd_cg (hp_13 15 (by decide)) (hp_13 16 (by decide)))
      have e_21 : nn μ10 = nn μ := (nn_cg (hp_13 15 (by decide)) (hp_13 18 (by decide)))
      have e_23 : μ10.1 111 29 = μ.1 111 29 := (hp_13 29 (by decide))
      have hX_22 : ∀ _ : Unit, bd μ10 = 0 → mPX μ μ10 tt 0 1 (11 * (9 - nn μ) - 3) [] := fun _ h0 => (hX_1 () (by have e9 : bd μ = bd μ := rfl; have e8 : bd μ10 = bd μ := (bd_cg (hp_13 15 (by decide)) (hp_13 16 (by decide))); omega)).qm (q0m.fr (K := [111]) (Fr.tr Fr.rf F_12 (by decide)) (by decide) (by decide) (by decide) (hp_13 22 (by decide)) (by omega))
      have e_24 : μ10.1 111 29 = μ.1 111 29 := (hp_13 29 (by decide))
      have e_25 : μ10.1 111 29 = μ.1 111 29 := (hp_13 29 (by decide))
      have hxt_26 : mEXT μ μ10 := (q0m.fr (K := [111]) (Fr.tr Fr.rf F_12 (by decide)) (by decide) (by decide) (by decide) (hp_13 22 (by decide)) (by omega)).1
      have e_27 : μ10.1 111 22 = μ.1 111 22 := (hp_13 22 (by decide))
      have e_28 : μ10.1 111 22 = μ.1 111 22 := (hp_13 22 (by decide))
      have e_29 : μ10.1 111 22 = μ.1 111 22 := (hp_13 22 (by decide))
      have e_30 : μ10.1 111 22 = μ.1 111 22 := (hp_13 22 (by decide))
      refine xc_iV G (b := 111) (rest := []) (As := [.int (iv 3), .long (jv r_11), .int (iv 0)]) (c_X12_emit ω l μ10 3 r_11 0 (by unfold ir; omega) (by unfold jr; omega) (by unfold ir; omega) (by omega)) (wm 9 126 rfl rfl) (wm 9 128 rfl rfl) (wm 0 144 rfl rfl) rfl rfl (by decide) rfl (wm 1 18 rfl rfl) (wm 9 129 rfl rfl) (by decide) hR ⟨nfr hF (by decide), nlo hLo (by decide)⟩ (n := 3) rfl rfl (Nat.le_of_ble_eq_true rfl) hl.1 dX12_primary_65 (fun r_32 μ31 ρ d0 H locs hr_r_32 hp G => ?_)
      have hr_r_32 : -2147483648 ≤ r_32 ∧ r_32 ≤ 2147483647 := hr_r_32
      obtain ⟨F_33, hp_34, hp_35, hp_36, hp_37⟩ := hp
      have hxt_38 : mEXT μ μ31 := hxt_26.tr hp_35.1
      have e_39 : wr μ31 = wr μ := ((wr_cg (hp_34 15 (by decide))).trans (wr_cg (hp_13 15 (by decide))))
      have e_40 : bd μ31 = bd μ := ((bd_cg (hp_34 15 (by decide)) (hp_34 16 (by decide))).trans (bd_cg (hp_13 15 (by decide)) (hp_13 16 (by decide))))
      have e_41 : nn μ31 = nn μ := ((nn_cg (hp_34 15 (by decide)) (hp_34 18 (by decide))).trans (nn_cg (hp_13 15 (by decide)) (hp_13 18 (by decide))))
      have e_43 : μ31.1 111 29 = μ.1 111 29 := ((hp_34 29 (by decide)).trans (hp_13 29 (by decide)))
      have hX_42 : ∀ _ : Unit, bd μ31 = 0 → mPX μ μ31 tt 1 1 (11 * (9 - nn μ) - 3) [] := fun _ h0 => (((hX_22 ()) (by have e9 : bd μ10 = bd μ := (bd_cg (hp_13 15 (by decide)) (hp_13 16 (by decide))); have e8 : bd μ31 = bd μ := ((bd_cg (hp_34 15 (by decide)) (hp_34 16 (by decide))).trans (bd_cg (hp_13 15 (by decide)) (hp_13 16 (by decide)))); omega)).app (mAD.ex (t := tt) (e := 1) hp_35 ((hX_22 ()) (by have e9 : bd μ10 = bd μ := (bd_cg (hp_13 15 (by decide)) (hp_13 16 (by decide))); have e8 : bd μ31 = bd μ := ((bd_cg (hp_34 15 (by decide)) (hp_34 16 (by decide))).trans (bd_cg (hp_13 15 (by decide)) (hp_13 16 (by decide)))); omega)).h1.1 (by unfold mpl; omega) rfl (by have h9 := ((hX_22 ()) (by have e9 : bd μ10 = bd μ := (bd_cg (hp_13 15 (by decide)) (hp_13 16 (by decide))); have e8 : bd μ31 = bd μ := ((bd_cg (hp_34 15 (by decide)) (hp_34 16 (by decide))).trans (bd_cg (hp_13 15 (by decide)) (hp_13 16 (by decide)))); omega)).h1; omega) ⟨fun q => absurd q (by decide), fun _ => ⟨by omega, by omega⟩, fun q => absurd q (by decide), fun q => absurd q (by decide), fun q => absurd q (by decide), fun q => absurd q (by decide), fun q => absurd q (by decide), fun q => absurd q (by decide), fun q => absurd q (by decide), fun q => absurd q (by decide), fun q => absurd q (by decide), fun q => absurd q (by decide), fun q => absurd q (by decide), fun q => absurd q (by decide), fun q => absurd q (by decide), fun q => absurd q (by decide), fun q => absurd q (by decide), fun q => absurd q (by decide), fun q => absurd q (by decide), fun q => absurd q (by decide), fun q => absurd q (by decide), fun q => absurd q (by decide), ⟨by decide, by decide⟩⟩) (by have h9 := ((hX_22 ()) (by have e9 : bd μ10 = bd μ := (bd_cg (hp_13 15 (by decide)) (hp_13 16 (by decide))); have e8 : bd μ31 = bd μ := ((bd_cg (hp_34 15 (by decide)) (hp_34 16 (by decide))).trans (bd_cg (hp_13 15 (by decide)) (hp_13 16 (by decide)))); omega)).h1; omega)).ee (by omega)
      refine lv_pop hx hb dX12_primary_68 rfl ?_
      have e_44 : μ31.1 111 9 = μ.1 111 9 := ((hp_34 9 (by decide)).trans (hp_13 9 (by decide)))
      have e_45 : μ31.1 111 29 = μ.1 111 29 := ((hp_34 29 (by decide)).trans (hp_13 29 (by decide)))
      have e_46 : μ31.1 111 39 = μ.1 111 39 := ((hp_34 39 (by decide)).trans (hp_13 39 (by decide)))
      have e_47 : wr μ31 = wr μ := ((wr_cg (hp_34 15 (by decide))).trans (wr_cg (hp_13 15 (by decide))))
      have e_48 : bd μ31 = bd μ := ((bd_cg (hp_34 15 (by decide)) (hp_34 16 (by decide))).trans (bd_cg (hp_13 15 (by decide)) (hp_13 16 (by decide))))
      have e_49 : nn μ31 = nn μ := ((nn_cg (hp_34 15 (by decide)) (hp_34 18 (by decide))).trans (nn_cg (hp_13 15 (by decide)) (hp_13 18 (by decide))))
      have hPM_50 : PM μ31 := hPM.cg ((hp_34 4 (by decide)).trans (hp_13 4 (by decide))) ((hp_34 6 (by decide)).trans (hp_13 6 (by decide))) ((hp_34 7 (by decide)).trans (hp_13 7 (by decide))) ((hp_34 8 (by decide)).trans (hp_13 8 (by decide))) ((hp_34 9 (by decide)).trans (hp_13 9 (by decide))) ((hp_34 11 (by decide)).trans (hp_13 11 (by decide))) ((hp_34 12 (by decide)).trans (hp_13 12 (by decide))) ((((hp_34 14 (by decide)).trans ((hp_13 14 (by decide)).trans htt.symm))).trans (htt.symm).symm) ((hp_34 15 (by decide)).trans (hp_13 15 (by decide))) ((hp_34 29 (by decide)).trans (hp_13 29 (by decide))) (fun j => ((F_33.1 123 (by decide) j).trans (F_12.1 123 (by decide) j)))
      have e_51 : μ31.1 111 9 = μ.1 111 9 := ((hp_34 9 (by decide)).trans (hp_13 9 (by decide)))
      have e_52 : wr μ31 = wr μ := ((wr_cg (hp_34 15 (by decide))).trans (wr_cg (hp_13 15 (by decide))))
      have e_53 : μ31.1 111 9 = μ.1 111 9 := ((hp_34 9 (by decide)).trans (hp_13 9 (by decide)))
      have e_54 : μ31.1 111 29 = μ.1 111 29 := ((hp_34 29 (by decide)).trans (hp_13 29 (by decide)))
      have e_55 : wr μ31 = wr μ := ((wr_cg (hp_34 15 (by decide))).trans (wr_cg (hp_13 15 (by decide))))
      have e_56 : bd μ31 = bd μ := ((bd_cg (hp_34 15 (by decide)) (hp_34 16 (by decide))).trans (bd_cg (hp_13 15 (by decide)) (hp_13 16 (by decide))))
      have e_57 : wr μ31 = wr μ := ((wr_cg (hp_34 15 (by decide))).trans (wr_cg (hp_13 15 (by decide))))
      have e_58 : nn μ31 = nn μ := ((nn_cg (hp_34 15 (by decide)) (hp_34 18 (by decide))).trans (nn_cg (hp_13 15 (by decide)) (hp_13 18 (by decide))))
      have e_59 : μ31.1 111 39 = μ.1 111 39 := ((hp_34 39 (by decide)).trans (hp_13 39 (by decide)))
      exact xr_v G hret hlk dX12_primary_69 ⟨(Fr.tr (Fr.tr Fr.rf F_12 (by decide)) F_33 (by decide)), (fun j hj => ((hp_34 j (fun h9 => hj ((by decide : ∀ x ∈ ([22] : List Int), x ∈ ([6, 8, 9, 10, 11, 12, 13, 15, 16, 17, 18, 22, 29, 39] : List Int)) j h9))).trans (hp_13 j (fun h9 => hj ((by decide : ∀ x ∈ ([17] : List Int), x ∈ ([6, 8, 9, 10, 11, 12, 13, 15, 16, 17, 18, 22, 29, 39] : List Int)) j h9))))), hPM_50, (by omega), (by omega), (by omega), (by omega), (by omega), (by omega), (fun j hj => ((F_33.1 126 (by decide) j).trans (F_12.1 126 (by decide) j))), (fun _ h0 => (mPX.ex ((hX_42 ()) h0)).e (by omega)), hxt_38⟩
    · refine lv_aload_n hx hb dX12_primary_30 rfl (lv_at hl 0 rfl) ?_
      refine lv_iconst (v := iv 3) hx hb dX12_primary_31 rfl ?_
      refine lv_aload_n hx hb dX12_primary_32 rfl (lv_at hl 0 rfl) ?_
      refine lv_iload_n hx hb dX12_primary_33 rfl (lv_at hl 1 rfl) ?_
      refine lv_lload_n hx hb dX12_primary_34 rfl (lv_at hl 2 rfl) ?_
      refine xc_iV G (b := 111) (rest := [.int (iv 3), .ref (oP ω 111)]) (As := [.int (iv x1), .long (jv x2)]) (c_X12_slot ω l μ x1 x2 (by unfold ir; omega) hx2 (by omega)) (wm 9 171 rfl rfl) (wm 9 173 rfl rfl) (wm 0 155 rfl rfl) rfl rfl (by decide) rfl (wm 1 18 rfl rfl) (wm 9 174 rfl rfl) (by decide) hR ⟨nfr hF (by decide), nlo hLo (by decide)⟩ (n := 2) rfl rfl (Nat.le_of_ble_eq_true rfl) hl.1 dX12_primary_35 (fun r_61 μ60 ρ d0 H locs hr_r_61 hp G => ?_)
      have hr_r_61 : -2147483648 ≤ r_61 ∧ r_61 ≤ 2147483647 := hr_r_61
      obtain ⟨F_62, hp_63, hp_64⟩ := hp
      have e_65 : wr μ60 = wr μ := (wr_cg (hp_63 15 (by decide)))
      have e_66 : bd μ60 = bd μ := (bd_cg (hp_63 15 (by decide)) (hp_63 16 (by decide)))
      have e_67 : nn μ60 = nn μ := (nn_cg (hp_63 15 (by decide)) (hp_63 18 (by decide)))
      refine xb_i2l hx hb (by unfold ir; omega) dX12_primary_38 ?_
      refine lv_iconst (v := iv 0) hx hb dX12_primary_39 rfl ?_
      have e_68 : μ60.1 111 29 = μ.1 111 29 := (hp_63 29 (by decide))
      have e_69 : wr μ60 = wr μ := (wr_cg (hp_63 15 (by decide)))
      have e_70 : bd μ60 = bd μ := (bd_cg (hp_63 15 (by decide)) (hp_63 16 (by decide)))
      have e_71 : nn μ60 = nn μ := (nn_cg (hp_63 15 (by decide)) (hp_63 18 (by decide)))
      have e_73 : μ60.1 111 29 = μ.1 111 29 := (hp_63 29 (by decide))
      have hX_72 : ∀ _ : Unit, bd μ60 = 0 → mPX μ μ60 tt 0 1 (11 * (9 - nn μ) - 3) [] := fun _ h0 => (hX_1 () (by have e9 : bd μ = bd μ := rfl; have e8 : bd μ60 = bd μ := (bd_cg (hp_63 15 (by decide)) (hp_63 16 (by decide))); omega)).qm (q0m.fr (K := [111]) (Fr.tr Fr.rf F_62 (by decide)) (by decide) (by decide) (by decide) (hp_63 22 (by decide)) (by omega))
      have e_74 : μ60.1 111 29 = μ.1 111 29 := (hp_63 29 (by decide))
      have e_75 : μ60.1 111 29 = μ.1 111 29 := (hp_63 29 (by decide))
      have hxt_76 : mEXT μ μ60 := (q0m.fr (K := [111]) (Fr.tr Fr.rf F_62 (by decide)) (by decide) (by decide) (by decide) (hp_63 22 (by decide)) (by omega)).1
      have e_77 : μ60.1 111 22 = μ.1 111 22 := (hp_63 22 (by decide))
      have e_78 : μ60.1 111 22 = μ.1 111 22 := (hp_63 22 (by decide))
      have e_79 : μ60.1 111 22 = μ.1 111 22 := (hp_63 22 (by decide))
      have e_80 : μ60.1 111 22 = μ.1 111 22 := (hp_63 22 (by decide))
      refine xc_iV G (b := 111) (rest := []) (As := [.int (iv 3), .long (jv r_61), .int (iv 0)]) (c_X12_emit ω l μ60 3 r_61 0 (by unfold ir; omega) (by unfold jr; omega) (by unfold ir; omega) (by omega)) (wm 9 126 rfl rfl) (wm 9 128 rfl rfl) (wm 0 144 rfl rfl) rfl rfl (by decide) rfl (wm 1 18 rfl rfl) (wm 9 129 rfl rfl) (by decide) hR ⟨nfr hF (by decide), nlo hLo (by decide)⟩ (n := 3) rfl rfl (Nat.le_of_ble_eq_true rfl) hl.1 dX12_primary_40 (fun r_82 μ81 ρ d0 H locs hr_r_82 hp G => ?_)
      have hr_r_82 : -2147483648 ≤ r_82 ∧ r_82 ≤ 2147483647 := hr_r_82
      obtain ⟨F_83, hp_84, hp_85, hp_86, hp_87⟩ := hp
      have hxt_88 : mEXT μ μ81 := hxt_76.tr hp_85.1
      have e_89 : wr μ81 = wr μ := ((wr_cg (hp_84 15 (by decide))).trans (wr_cg (hp_63 15 (by decide))))
      have e_90 : bd μ81 = bd μ := ((bd_cg (hp_84 15 (by decide)) (hp_84 16 (by decide))).trans (bd_cg (hp_63 15 (by decide)) (hp_63 16 (by decide))))
      have e_91 : nn μ81 = nn μ := ((nn_cg (hp_84 15 (by decide)) (hp_84 18 (by decide))).trans (nn_cg (hp_63 15 (by decide)) (hp_63 18 (by decide))))
      have e_93 : μ81.1 111 29 = μ.1 111 29 := ((hp_84 29 (by decide)).trans (hp_63 29 (by decide)))
      have hX_92 : ∀ _ : Unit, bd μ81 = 0 → mPX μ μ81 tt 1 1 (11 * (9 - nn μ) - 3) [] := fun _ h0 => (((hX_72 ()) (by have e9 : bd μ60 = bd μ := (bd_cg (hp_63 15 (by decide)) (hp_63 16 (by decide))); have e8 : bd μ81 = bd μ := ((bd_cg (hp_84 15 (by decide)) (hp_84 16 (by decide))).trans (bd_cg (hp_63 15 (by decide)) (hp_63 16 (by decide)))); omega)).app (mAD.ex (t := tt) (e := 1) hp_85 ((hX_72 ()) (by have e9 : bd μ60 = bd μ := (bd_cg (hp_63 15 (by decide)) (hp_63 16 (by decide))); have e8 : bd μ81 = bd μ := ((bd_cg (hp_84 15 (by decide)) (hp_84 16 (by decide))).trans (bd_cg (hp_63 15 (by decide)) (hp_63 16 (by decide)))); omega)).h1.1 (by unfold mpl; omega) rfl (by have h9 := ((hX_72 ()) (by have e9 : bd μ60 = bd μ := (bd_cg (hp_63 15 (by decide)) (hp_63 16 (by decide))); have e8 : bd μ81 = bd μ := ((bd_cg (hp_84 15 (by decide)) (hp_84 16 (by decide))).trans (bd_cg (hp_63 15 (by decide)) (hp_63 16 (by decide)))); omega)).h1; omega) ⟨fun q => absurd q (by decide), fun _ => ⟨by omega, by omega⟩, fun q => absurd q (by decide), fun q => absurd q (by decide), fun q => absurd q (by decide), fun q => absurd q (by decide), fun q => absurd q (by decide), fun q => absurd q (by decide), fun q => absurd q (by decide), fun q => absurd q (by decide), fun q => absurd q (by decide), fun q => absurd q (by decide), fun q => absurd q (by decide), fun q => absurd q (by decide), fun q => absurd q (by decide), fun q => absurd q (by decide), fun q => absurd q (by decide), fun q => absurd q (by decide), fun q => absurd q (by decide), fun q => absurd q (by decide), fun q => absurd q (by decide), fun q => absurd q (by decide), ⟨by decide, by decide⟩⟩) (by have h9 := ((hX_72 ()) (by have e9 : bd μ60 = bd μ := (bd_cg (hp_63 15 (by decide)) (hp_63 16 (by decide))); have e8 : bd μ81 = bd μ := ((bd_cg (hp_84 15 (by decide)) (hp_84 16 (by decide))).trans (bd_cg (hp_63 15 (by decide)) (hp_63 16 (by decide)))); omega)).h1; omega)).ee (by omega)
      refine lv_pop hx hb dX12_primary_43 rfl ?_
      refine lv_aload_n hx hb dX12_primary_44 rfl (lv_at hl 0 rfl) ?_
      have hPM_94 : PM μ81 := hPM.cg ((hp_84 4 (by decide)).trans (hp_63 4 (by decide))) ((hp_84 6 (by decide)).trans (hp_63 6 (by decide))) ((hp_84 7 (by decide)).trans (hp_63 7 (by decide))) ((hp_84 8 (by decide)).trans (hp_63 8 (by decide))) ((hp_84 9 (by decide)).trans (hp_63 9 (by decide))) ((hp_84 11 (by decide)).trans (hp_63 11 (by decide))) ((hp_84 12 (by decide)).trans (hp_63 12 (by decide))) ((((hp_84 14 (by decide)).trans ((hp_63 14 (by decide)).trans htt.symm))).trans (htt.symm).symm) ((hp_84 15 (by decide)).trans (hp_63 15 (by decide))) ((hp_84 29 (by decide)).trans (hp_63 29 (by decide))) (fun j => ((F_83.1 123 (by decide) j).trans (F_62.1 123 (by decide) j)))
      have e_95 : wr μ81 = wr μ := ((wr_cg (hp_84 15 (by decide))).trans (wr_cg (hp_63 15 (by decide))))
      have e_96 : nn μ81 = nn μ := ((nn_cg (hp_84 15 (by decide)) (hp_84 18 (by decide))).trans (nn_cg (hp_63 15 (by decide)) (hp_63 18 (by decide))))
      have e_97 : μ81.1 111 8 = μ.1 111 8 := ((hp_84 8 (by decide)).trans (hp_63 8 (by decide)))
      have e_98 : wr μ81 = wr μ := ((wr_cg (hp_84 15 (by decide))).trans (wr_cg (hp_63 15 (by decide))))
      have e_99 : μ81.1 111 9 = μ.1 111 9 := ((hp_84 9 (by decide)).trans (hp_63 9 (by decide)))
      have e_100 : wr μ81 = wr μ := ((wr_cg (hp_84 15 (by decide))).trans (wr_cg (hp_63 15 (by decide))))
      have e_101 : wr μ81 = wr μ := ((wr_cg (hp_84 15 (by decide))).trans (wr_cg (hp_63 15 (by decide))))
      have e_102 : bd μ81 = bd μ := ((bd_cg (hp_84 15 (by decide)) (hp_84 16 (by decide))).trans (bd_cg (hp_63 15 (by decide)) (hp_63 16 (by decide))))
      have e_103 : nn μ81 = nn μ := ((nn_cg (hp_84 15 (by decide)) (hp_84 18 (by decide))).trans (nn_cg (hp_63 15 (by decide)) (hp_63 18 (by decide))))
      refine xc_vV G (b := 111) (rest := []) (As := []) (c_X12_next ω l μ81  hPM_94 (by omega) (by omega)) (wm 9 0 rfl rfl) (wm 9 2 rfl rfl) (wm 0 119 rfl rfl) rfl rfl (by decide) rfl (wm 1 18 rfl rfl) (wm 9 3 rfl rfl) (by decide) hR ⟨nfr hF (by decide), nlo hLo (by decide)⟩ (n := 0) rfl rfl (Nat.le_of_ble_eq_true rfl) hl.1 dX12_primary_45 (fun μ104 ρ d0 H locs hp G => ?_)
      obtain ⟨F_105, hp_106, hp_107, hp_108, hp_109, hp_110⟩ := hp
      have hpl_111 := hp_107.pl
      have hw_112 := wr_r (μ := μ81)
      have hw_113 := wr_r (μ := μ104)
      refine lv_aload_n hx hb dX12_primary_48 rfl (lv_at hl 0 rfl) ?_
      have e_114 : μ104.1 111 29 = μ.1 111 29 := ((hp_106 29 (by decide)).trans ((hp_84 29 (by decide)).trans (hp_63 29 (by decide))))
      have e_116 : μ104.1 111 29 = μ.1 111 29 := ((hp_106 29 (by decide)).trans ((hp_84 29 (by decide)).trans (hp_63 29 (by decide))))
      have hX_115 : ∀ _ : Unit, bd μ104 = 0 → mPX μ μ104 tt 1 1 (11 * (9 - nn μ) - 3) [] := fun _ h0 => (hX_92 () (by have e9 : bd μ81 = bd μ := ((bd_cg (hp_84 15 (by decide)) (hp_84 16 (by decide))).trans (bd_cg (hp_63 15 (by decide)) (hp_63 16 (by decide)))); have e8 : bd μ104 = bd μ104 := rfl; omega)).qm (q0m.fr (K := [111]) (Fr.tr Fr.rf F_105 (by decide)) (by decide) (by decide) (by decide) (hp_106 22 (by decide)) (by omega))
      have e_117 : μ104.1 111 29 = μ.1 111 29 := ((hp_106 29 (by decide)).trans ((hp_84 29 (by decide)).trans (hp_63 29 (by decide))))
      have e_118 : μ104.1 111 29 = μ.1 111 29 := ((hp_106 29 (by decide)).trans ((hp_84 29 (by decide)).trans (hp_63 29 (by decide))))
      have hxt_119 : mEXT μ μ104 := hxt_88.tr (q0m.fr (K := [111]) (Fr.tr Fr.rf F_105 (by decide)) (by decide) (by decide) (by decide) (hp_106 22 (by decide)) (by omega)).1
      have e_120 : μ104.1 111 14 = tt := ((hp_106 14 (by decide)).trans ((hp_84 14 (by decide)).trans ((hp_63 14 (by decide)).trans htt.symm)))
      have e_121 : μ104.1 111 22 = μ81.1 111 22 := (hp_106 22 (by decide))
      have e_122 : μ104.1 111 22 = μ81.1 111 22 := (hp_106 22 (by decide))
      have e_123 : μ104.1 111 39 = μ.1 111 39 := ((hp_106 39 (by decide)).trans ((hp_84 39 (by decide)).trans (hp_63 39 (by decide))))
      have e_124 : μ104.1 111 39 = μ.1 111 39 := ((hp_106 39 (by decide)).trans ((hp_84 39 (by decide)).trans (hp_63 39 (by decide))))
      have e_125 : μ104.1 111 22 = μ81.1 111 22 := (hp_106 22 (by decide))
      have e_126 : μ104.1 111 31 = μ.1 111 31 := ((hp_106 31 (by decide)).trans ((hp_84 31 (by decide)).trans (hp_63 31 (by decide))))
      have e_127 : μ104.1 111 31 = μ.1 111 31 := ((hp_106 31 (by decide)).trans ((hp_84 31 (by decide)).trans (hp_63 31 (by decide))))
      have e_128 : μ104.1 111 22 = μ81.1 111 22 := (hp_106 22 (by decide))
      have e_129 : μ104.1 111 22 = μ81.1 111 22 := (hp_106 22 (by decide))
      have e_130 : μ104.1 111 29 = μ.1 111 29 := ((hp_106 29 (by decide)).trans ((hp_84 29 (by decide)).trans (hp_63 29 (by decide))))
      have e_131 : μ104.1 111 39 = μ.1 111 39 := ((hp_106 39 (by decide)).trans ((hp_84 39 (by decide)).trans (hp_63 39 (by decide))))
      refine xc_vV G (b := 111) (rest := []) (As := []) (c_X12_bang ω l μ104 F Lo Fu Lu kf μ (11 * (9 - nn μ) - 3) tt (by omega) hF hLo hFu hLu hE hU hp_107 (by omega) (by omega) (by omega) (by omega) (by omega) (by omega) (fun _ h0 => (mPX.ex ((hX_115 ()) h0)).e (by omega)) (by omega)) (wm 9 191 rfl rfl) (wm 9 193 rfl rfl) (wm 0 160 rfl rfl) rfl rfl (by decide) rfl (wm 1 18 rfl rfl) (wm 9 194 rfl rfl) (by decide) hR ⟨sfr (F := F) (a := 2) (by decide), slo (L := Lo) (m := 4) (a := 44) (by decide)⟩ (n := 0) rfl rfl (Nat.le_of_ble_eq_true rfl) hl.1 dX12_primary_49 (fun μ132 ρ d0 H locs hp G => ?_)
      obtain ⟨F_133, hp_134, hp_135, hp_136, hp_137, hp_138, hp_139, hp_140, hp_141, hp_142, hp_143, hp_144⟩ := hp
      have hpl_145 := hp_135.pl
      have hw_146 := wr_r (μ := μ132)
      have hxt_147 : mEXT μ μ132 := hxt_119.tr hp_144
      have hX_148 : ∀ _ : Unit, bd μ132 = 0 → mPX μ μ132 tt 1 1 (11 * (9 - nn μ) - 3) [] := fun _ h0 => mPX.of (hp_143 () h0)
      refine lv_goto (tgt := 69) hx hb dX12_primary_52 (by decide) ?_
      exact xr_v G hret hlk dX12_primary_69 ⟨(Fr.tr (Fr.tr (Fr.tr (Fr.tr Fr.rf F_62 (by decide)) F_83 (by decide)) F_105 (by decide)) F_133 (by decide)), (fun j hj => ((hp_134 j (fun h9 => hj ((by decide : ∀ x ∈ ([6, 8, 9, 10, 11, 12, 13, 15, 16, 17, 18, 22, 29, 39] : List Int), x ∈ ([6, 8, 9, 10, 11, 12, 13, 15, 16, 17, 18, 22, 29, 39] : List Int)) j h9))).trans ((hp_106 j (fun h9 => hj ((by decide : ∀ x ∈ ([6, 8, 9, 10, 11, 12, 13, 15] : List Int), x ∈ ([6, 8, 9, 10, 11, 12, 13, 15, 16, 17, 18, 22, 29, 39] : List Int)) j h9))).trans ((hp_84 j (fun h9 => hj ((by decide : ∀ x ∈ ([22] : List Int), x ∈ ([6, 8, 9, 10, 11, 12, 13, 15, 16, 17, 18, 22, 29, 39] : List Int)) j h9))).trans (hp_63 j (fun h9 => hj ((by decide : ∀ x ∈ ([17] : List Int), x ∈ ([6, 8, 9, 10, 11, 12, 13, 15, 16, 17, 18, 22, 29, 39] : List Int)) j h9))))))), hp_135, (by omega), (by omega), (by omega), (by omega), (by omega), (by omega), (fun j hj => ((hp_142 j (by omega)).trans ((F_105.1 126 (by decide) j).trans ((F_83.1 126 (by decide) j).trans (F_62.1 126 (by decide) j))))), (fun _ h0 => (mPX.ex ((hX_148 ()) h0)).e (by omega)), hxt_147⟩
  · refine lv_aload_n hx hb dX12_primary_9 rfl (lv_at hl 0 rfl) ?_
    refine lv_aload_n hx hb dX12_primary_10 rfl (lv_at hl 0 rfl) ?_
    refine xa_geti G fd_X12 (a := 111) (x := tt) 14 rfl (by decide) rfl (wm 7 163 rfl rfl) ⟨rfl, rfl, rfl⟩ dX12_primary_11 rfl htt.symm ?_
    have hr_149 : -2147483648 ≤ tt ∧ tt ≤ 2147483647 := by have h9 := G.hr (a := 111) (k := 14) rfl; rw [show μ.1 111 14 = tt from htt.symm] at h9; exact h9
    refine lv_lload_n hx hb dX12_primary_14 rfl (lv_at hl 2 rfl) ?_
    have e_150 : μ.1 111 14 = tt := htt.symm
    refine xc_vV G (b := 111) (rest := []) (As := [.int (iv tt), .long (jv x2)]) (c_X12_call ω l μ tt x2 F Lo Fu Lu kf tt (by unfold ir; omega) hx2 (by omega) hF hLo hFu hLu hE hU hPM (by omega) (by omega) (by omega) (by omega) (by omega) (by omega) (fun _ h0 => ((hX_1 ()) h0).h1.1) (by omega)) (wm 9 179 rfl rfl) (wm 9 181 rfl rfl) (wm 0 157 rfl rfl) rfl rfl (by decide) rfl (wm 1 18 rfl rfl) (wm 9 182 rfl rfl) (by decide) hR ⟨sfr (F := F) (a := 2) (by decide), slo (L := Lo) (m := 7) (a := 44) (by decide)⟩ (n := 2) rfl rfl (Nat.le_of_ble_eq_true rfl) hl.1 dX12_primary_15 (fun μ151 ρ d0 H locs hp G => ?_)
    obtain ⟨F_152, hp_153, hp_154, hp_155, hp_156, hp_157, hp_158, hp_159, hp_160, hp_161, hp_162, hp_163⟩ := hp
    have hpl_164 := hp_154.pl
    have hw_165 := wr_r (μ := μ151)
    have hxt_166 : mEXT μ μ151 := (mEXT.rf (μ := μ)).tr hp_163
    have hX_167 : ∀ _ : Unit, bd μ151 = 0 → mPX μ μ151 tt 1 1 (11 * (9 - nn μ) - 3) [] := fun _ h0 => (((hX_1 ()) (by have e9 : bd μ = bd μ := rfl; have e8 : bd μ151 = bd μ151 := rfl; omega)).app (hp_162 () h0) (by omega)).ee (by omega)
    refine lv_goto (tgt := 69) hx hb dX12_primary_18 (by decide) ?_
    exact xr_v G hret hlk dX12_primary_69 ⟨(Fr.tr Fr.rf F_152 (by decide)), (fun j hj => (hp_153 j (fun h9 => hj ((by decide : ∀ x ∈ ([6, 8, 9, 10, 11, 12, 13, 15, 16, 17, 18, 22, 29, 39] : List Int), x ∈ ([6, 8, 9, 10, 11, 12, 13, 15, 16, 17, 18, 22, 29, 39] : List Int)) j h9)))), hp_154, (by omega), (by omega), (by omega), (by omega), (by omega), (by omega), (fun j hj => (hp_161 j (by omega))), (fun _ h0 => (mPX.ex ((hX_167 ()) h0)).e (by omega)), hxt_166⟩

set_option maxHeartbeats 4000000 in
set_option maxRecDepth 100000 in
theorem c_X12_worded (ω : Om) (l : Launch) (μ : M3) (F : Nat) (Lo : Nat) (Fu : Nat) (Lu : Nat) (kf : Int) (tt : Int) (htt : tt = μ.1 111 14) (hF : 60 ≤ F) (hLo : 2000 ≤ Lo) (hFu : Fu ≤ F) (hLu : Lu ≤ Lo) (hE : ∀ (μ : M3) (tt : Int) (htt : tt = μ.1 111 14) (hPM : PM μ) (hnn : 0 ≤ nn μ ∧ nn μ ≤ 9 ∧ 9 * wr μ ≤ nn μ) (hn8 : nn μ ≤ 8 + wr μ) (hcd : 0 ≤ μ.1 111 22 ∧ μ.1 111 22 ≤ 2 * μ.1 111 9 + 200 + 40 * wr μ) (hW : 0 ≤ μ.1 111 39 ∧ μ.1 111 39 ≤ μ.1 111 22) (hsl : 0 ≤ μ.1 111 31 ∧ μ.1 111 31 ≤ 300) (hfu : 0 ≤ (kf - 1) ∧ 9 ≤ nn μ + (kf - 1)) (hH0 : ∀ _ : Unit, bd μ = 0 → mH0 μ), CtV ω l yX12_expr cX12_expr 1 (F + 0) (Lo + 0) [.ref (oP ω 111)] μ (fun (μ' : M3) => (Fr [111, 113, 115, 116, 117, 123, 126] μ μ') ∧ (∀ j, j ∉ ([6, 8, 9, 10, 11, 12, 13, 15, 16, 17, 18, 22, 29, 39] : List Int) → μ'.1 111 j = μ.1 111 j) ∧ (PM μ') ∧ (μ.1 111 22 ≤ μ'.1 111 22 ∧ μ'.1 111 22 ≤ μ.1 111 22 + 2 * (μ'.1 111 9 - μ.1 111 9) + (- 1 + 3 * wr μ' - 2 * wr μ)) ∧ (μ.1 111 9 ≤ μ'.1 111 9) ∧ (μ.1 111 29 ≤ μ'.1 111 29) ∧ (wr μ ≤ wr μ' ∧ bd μ ≤ bd μ') ∧ (nn μ ≤ nn μ' ∧ nn μ' ≤ nn μ + 9 * wr μ' ∧ nn μ' ≤ 9 ∧ 9 * wr μ' ≤ nn μ') ∧ (μ'.1 111 39 = μ.1 111 39) ∧ (∀ j, j < μ.1 111 39 → μ'.1 126 j = μ.1 126 j) ∧ (∀ _ : Unit, bd μ' = 0 → mEX μ μ' tt 1 0 (11 * (9 - nn μ))) ∧ (mEXT μ μ'))) (hU : ∀ (μ : M3) (tt : Int) (htt : tt = μ.1 111 14) (hPM : PM μ) (hnn : 0 ≤ nn μ ∧ nn μ ≤ 9 ∧ 9 * wr μ ≤ nn μ) (hn8 : nn μ ≤ 8 + wr μ) (hcd : 0 ≤ μ.1 111 22 ∧ μ.1 111 22 ≤ 2 * μ.1 111 9 + 200 + 40 * wr μ) (hW : 0 ≤ μ.1 111 39 ∧ μ.1 111 39 ≤ μ.1 111 22) (hsl : 0 ≤ μ.1 111 31 ∧ μ.1 111 31 ≤ 300) (hfu : 0 ≤ (kf - 1) ∧ 9 ≤ nn μ + (kf - 1)) (hH0 : ∀ _ : Unit, bd μ = 0 → mH0 μ), CtV ω l yX12_unary cX12_unary 6 (Fu + 0) (Lu + 0) [.ref (oP ω 111)] μ (fun (μ' : M3) => (Fr [111, 113, 115, 116, 117, 123, 126] μ μ') ∧ (∀ j, j ∉ ([6, 8, 9, 10, 11, 12, 13, 15, 16, 17, 18, 22, 29, 39] : List Int) → μ'.1 111 j = μ.1 111 j) ∧ (PM μ') ∧ (μ.1 111 22 ≤ μ'.1 111 22 ∧ μ'.1 111 22 ≤ μ.1 111 22 + 2 * (μ'.1 111 9 - μ.1 111 9) + (- 1 + 3 * wr μ' - 2 * wr μ)) ∧ (μ.1 111 9 ≤ μ'.1 111 9) ∧ (μ.1 111 29 ≤ μ'.1 111 29) ∧ (wr μ ≤ wr μ' ∧ bd μ ≤ bd μ') ∧ (nn μ ≤ nn μ' ∧ nn μ' ≤ nn μ + 9 * wr μ' ∧ nn μ' ≤ 9 ∧ 9 * wr μ' ≤ nn μ') ∧ (μ'.1 111 39 = μ.1 111 39) ∧ (∀ j, j < μ.1 111 39 → μ'.1 126 j = μ.1 126 j) ∧ (∀ _ : Unit, bd μ' = 0 → mEX μ μ' tt 1 0 (11 * (9 - nn μ) - 3)) ∧ (mEXT μ μ'))) (hPM : PM μ) (hnn : 0 ≤ nn μ ∧ nn μ ≤ 9 ∧ 9 * wr μ ≤ nn μ) (hn8 : nn μ ≤ 8 + wr μ) (hcd : 0 ≤ μ.1 111 22 ∧ μ.1 111 22 ≤ 2 * μ.1 111 9 + 200 + 40 * wr μ) (hW : 0 ≤ μ.1 111 39 ∧ μ.1 111 39 ≤ μ.1 111 22) (hsl : 0 ≤ μ.1 111 31 ∧ μ.1 111 31 ≤ 300) (hfu : 0 ≤ kf ∧ 9 ≤ nn μ + kf) (hH0 : ∀ _ : Unit, bd μ = 0 → mH0 μ) (hw0 : wr μ = 0) (hst : μ.1 111 8 = 1) : CtV ω l yX12_worded cX12_worded 4 (F + 3) (Lo + 70) [.ref (oP ω 111)] μ (fun (μ' : M3) => (Fr [111, 113, 115, 116, 117, 123, 126] μ μ') ∧ (∀ j, j ∉ ([6, 8, 9, 10, 11, 12, 13, 15, 16, 17, 18, 22, 29, 39] : List Int) → μ'.1 111 j = μ.1 111 j) ∧ (PM μ') ∧ (μ.1 111 22 ≤ μ'.1 111 22 ∧ μ'.1 111 22 ≤ μ.1 111 22 + 2 * (μ'.1 111 9 - μ.1 111 9) + (- 1 + 3 * wr μ' - 2 * wr μ)) ∧ (μ.1 111 9 ≤ μ'.1 111 9) ∧ (μ.1 111 29 ≤ μ'.1 111 29) ∧ (wr μ ≤ wr μ' ∧ bd μ ≤ bd μ') ∧ (nn μ ≤ nn μ' ∧ nn μ' ≤ nn μ + 9 * wr μ' ∧ nn μ' ≤ 9 ∧ 9 * wr μ' ≤ nn μ') ∧ (μ'.1 111 39 = μ.1 111 39) ∧ (∀ j, j < μ.1 111 39 → μ'.1 126 j = μ.1 126 j) ∧ (∀ _ : Unit, bd μ' = 0 → mEX μ μ' tt 1 0 (11 * (9 - nn μ) - 3)) ∧ (mEXT μ μ')) := by
  refine CtV.go (by decide) (Nat.le_of_ble_eq_true rfl) (fun ρ p e s m below meth c R ls G hR hret hlk hl => ?_)
  have hx := G.1.1
  have hb := G.1.2.1
  have hl : lv_has ls 4 [(0, .ref (oP ω 111))] := hl
  generalize s.drawn = d0 at G ⊢
  have hw_0 := wr_r (μ := μ)
  have hpp_ := hPM.1.2.1
  have hpn_ := hPM.2.1
  have hpt_ := hPM.1.2.2.2.1
  have hpw_ := hPM.1.2.2.2.2.1
  have hpa_ := hPM.1.1
  have hX_1 : ∀ _ : Unit, bd μ = 0 → mPX μ μ tt 0 1 (11 * (9 - nn μ) - 3) [] := fun _ h0 => mPX.nil (hH0 () h0) (by omega)
  refine lv_aload_n hx hb dX12_worded_0 rfl (lv_at hl 0 rfl) ?_
  refine xa_geti G fd_X12 (a := 111) (x := μ.1 111 11) 11 rfl (by decide) rfl (wm 7 160 rfl rfl) ⟨rfl, rfl, rfl⟩ dX12_worded_1 rfl rfl ?_
  have hr_2 : -2147483648 ≤ μ.1 111 11 ∧ μ.1 111 11 ≤ 2147483647 := by have h9 := G.hr (a := 111) (k := 11) rfl; exact h9
  refine lv_istore_n (lv' := [(1, .int (iv (μ.1 111 11))), (0, .ref (oP ω 111))]) hx hb dX12_worded_4 rfl hl (by decide) rfl (fun ls hl => ?_)
  refine lv_iload_n hx hb dX12_worded_5 rfl (lv_at hl 0 rfl) ?_
  refine lv_bipush (v := iv 23) hx hb dX12_worded_6 rfl ?_
  refine xb_icmp_eq (tgt := 25) hx hb (by unfold ir; omega) (by unfold ir; omega) dX12_worded_8 (by decide) (fun c_8 => ?_) (fun c_8 => ?_)
  · refine lv_aload_n hx hb dX12_worded_25 rfl (lv_at hl 1 rfl) ?_
    refine lv_iload_n hx hb dX12_worded_26 rfl (lv_at hl 0 rfl) ?_
    refine lv_bipush (v := iv 23) hx hb dX12_worded_27 rfl ?_
    refine xb_icmp_ne (tgt := 36) hx hb (by unfold ir; omega) (by unfold ir; omega) dX12_worded_29 (by decide) (fun c_29 => ?_) (fun c_29 => ?_)
    · refine lv_bipush (v := iv 28) hx hb dX12_worded_36 rfl ?_
      refine lv_lconst (v := jv 0) hx hb dX12_worded_38 rfl ?_
      refine lv_iconst (v := iv 0) hx hb dX12_worded_39 rfl ?_
      refine xc_iV G (b := 111) (rest := []) (As := [.int (iv 28), .long (jv 0), .int (iv 0)]) (c_X12_emit ω l μ 28 0 0 (by unfold ir; omega) (by unfold jr; omega) (by unfold ir; omega) (by omega)) (wm 9 126 rfl rfl) (wm 9 128 rfl rfl) (wm 0 144 rfl rfl) rfl rfl (by decide) rfl (wm 1 18 rfl rfl) (wm 9 129 rfl rfl) (by decide) hR ⟨nfr hF (by decide), nlo hLo (by decide)⟩ (n := 3) rfl rfl (Nat.le_of_ble_eq_true rfl) hl.1 dX12_worded_40 (fun r_4 μ3 ρ d0 H locs hr_r_4 hp G => ?_)
      have hr_r_4 : -2147483648 ≤ r_4 ∧ r_4 ≤ 2147483647 := hr_r_4
      obtain ⟨F_5, hp_6, hp_7, hp_8, hp_9⟩ := hp
      have hxt_10 : mEXT μ μ3 := (mEXT.rf (μ := μ)).tr hp_7.1
      have e_11 : wr μ3 = wr μ := (wr_cg (hp_6 15 (by decide)))
      have e_12 : bd μ3 = bd μ := (bd_cg (hp_6 15 (by decide)) (hp_6 16 (by decide)))
      have e_13 : nn μ3 = nn μ := (nn_cg (hp_6 15 (by decide)) (hp_6 18 (by decide)))
      have e_15 : μ3.1 111 29 = μ.1 111 29 := (hp_6 29 (by decide))
      have hX_14 : ∀ _ : Unit, bd μ3 = 0 → mPX μ μ3 tt 1 1 (11 * (9 - nn μ) - 3) [] := fun _ h0 => (((hX_1 ()) (by have e9 : bd μ = bd μ := rfl; have e8 : bd μ3 = bd μ := (bd_cg (hp_6 15 (by decide)) (hp_6 16 (by decide))); omega)).app (mAD.ex (t := tt) (e := 1) hp_7 ((hX_1 ()) (by have e9 : bd μ = bd μ := rfl; have e8 : bd μ3 = bd μ := (bd_cg (hp_6 15 (by decide)) (hp_6 16 (by decide))); omega)).h1.1 (by unfold mpl; omega) rfl (by have h9 := ((hX_1 ()) (by have e9 : bd μ = bd μ := rfl; have e8 : bd μ3 = bd μ := (bd_cg (hp_6 15 (by decide)) (hp_6 16 (by decide))); omega)).h1; omega) ⟨fun q => absurd q (by decide), fun q => absurd q (by decide), fun q => absurd q (by decide), fun q => absurd q (by decide), fun q => absurd q (by decide), fun q => absurd q (by decide), fun q => absurd q (by decide), fun q => absurd q (by decide), fun q => absurd q (by decide), fun q => absurd q (by decide), fun q => absurd q (by decide), fun q => absurd q (by decide), fun q => absurd q (by decide), fun q => absurd q (by decide), fun q => absurd q (by decide), fun q => absurd q (by decide), fun q => absurd q (by decide), fun q => absurd q (by decide), fun q => absurd q (by decide), fun q => absurd q (by decide), fun q => absurd q (by decide), fun _ => by omega, ⟨by decide, by decide⟩⟩) (by have h9 := ((hX_1 ()) (by have e9 : bd μ = bd μ := rfl; have e8 : bd μ3 = bd μ := (bd_cg (hp_6 15 (by decide)) (hp_6 16 (by decide))); omega)).h1; omega)).ee (by omega)
      refine lv_pop hx hb dX12_worded_43 rfl ?_
      refine lv_aload_n hx hb dX12_worded_44 rfl (lv_at hl 1 rfl) ?_
      have hPM_16 : PM μ3 := hPM.cg (hp_6 4 (by decide)) (hp_6 6 (by decide)) (hp_6 7 (by decide)) (hp_6 8 (by decide)) (hp_6 9 (by decide)) (hp_6 11 (by decide)) (hp_6 12 (by decide)) ((((hp_6 14 (by decide)).trans htt.symm)).trans (htt.symm).symm) (hp_6 15 (by decide)) (hp_6 29 (by decide)) (fun j => (F_5.1 123 (by decide) j))
      have e_17 : wr μ3 = wr μ := (wr_cg (hp_6 15 (by decide)))
      have e_18 : nn μ3 = nn μ := (nn_cg (hp_6 15 (by decide)) (hp_6 18 (by decide)))
      have e_19 : μ3.1 111 8 = μ.1 111 8 := (hp_6 8 (by decide))
      have e_20 : wr μ3 = wr μ := (wr_cg (hp_6 15 (by decide)))
      have e_21 : μ3.1 111 9 = μ.1 111 9 := (hp_6 9 (by decide))
      have e_22 : wr μ3 = wr μ := (wr_cg (hp_6 15 (by decide)))
      have e_23 : wr μ3 = wr μ := (wr_cg (hp_6 15 (by decide)))
      have e_24 : bd μ3 = bd μ := (bd_cg (hp_6 15 (by decide)) (hp_6 16 (by decide)))
      have e_25 : nn μ3 = nn μ := (nn_cg (hp_6 15 (by decide)) (hp_6 18 (by decide)))
      refine xc_vV G (b := 111) (rest := []) (As := []) (c_X12_next ω l μ3  hPM_16 (by omega) (by omega)) (wm 9 0 rfl rfl) (wm 9 2 rfl rfl) (wm 0 119 rfl rfl) rfl rfl (by decide) rfl (wm 1 18 rfl rfl) (wm 9 3 rfl rfl) (by decide) hR ⟨nfr hF (by decide), nlo hLo (by decide)⟩ (n := 0) rfl rfl (Nat.le_of_ble_eq_true rfl) hl.1 dX12_worded_45 (fun μ26 ρ d0 H locs hp G => ?_)
      obtain ⟨F_27, hp_28, hp_29, hp_30, hp_31, hp_32⟩ := hp
      have hpl_33 := hp_29.pl
      have hw_34 := wr_r (μ := μ3)
      have hw_35 := wr_r (μ := μ26)
      refine lv_goto (tgt := 223) hx hb dX12_worded_48 (by decide) ?_
      have e_36 : μ26.1 111 22 = μ3.1 111 22 := (hp_28 22 (by decide))
      have e_37 : μ26.1 111 29 = μ.1 111 29 := ((hp_28 29 (by decide)).trans (hp_6 29 (by decide)))
      have e_38 : μ26.1 111 39 = μ.1 111 39 := ((hp_28 39 (by decide)).trans (hp_6 39 (by decide)))
      have e_39 : μ26.1 111 29 = μ.1 111 29 := ((hp_28 29 (by decide)).trans (hp_6 29 (by decide)))
      have e_41 : μ26.1 111 29 = μ.1 111 29 := ((hp_28 29 (by decide)).trans (hp_6 29 (by decide)))
      have hX_40 : ∀ _ : Unit, bd μ26 = 0 → mPX μ μ26 tt 1 1 (11 * (9 - nn μ) - 3) [] := fun _ h0 => (hX_14 () (by have e9 : bd μ3 = bd μ := (bd_cg (hp_6 15 (by decide)) (hp_6 16 (by decide))); have e8 : bd μ26 = bd μ26 := rfl; omega)).qm (q0m.fr (K := [111]) (Fr.tr Fr.rf F_27 (by decide)) (by decide) (by decide) (by decide) (hp_28 22 (by decide)) (by omega))
      have e_42 : μ26.1 111 29 = μ.1 111 29 := ((hp_28 29 (by decide)).trans (hp_6 29 (by decide)))
      have hxt_43 : mEXT μ μ26 := hxt_10.tr (q0m.fr (K := [111]) (Fr.tr Fr.rf F_27 (by decide)) (by decide) (by decide) (by decide) (hp_28 22 (by decide)) (by omega)).1
      have e_44 : μ26.1 111 22 = μ3.1 111 22 := (hp_28 22 (by decide))
      have e_45 : μ26.1 111 22 = μ3.1 111 22 := (hp_28 22 (by decide))
      have e_46 : μ26.1 111 29 = μ.1 111 29 := ((hp_28 29 (by decide)).trans (hp_6 29 (by decide)))
      have e_47 : μ26.1 111 39 = μ.1 111 39 := ((hp_28 39 (by decide)).trans (hp_6 39 (by decide)))
      exact xr_v G hret hlk dX12_worded_223 ⟨(Fr.tr (Fr.tr Fr.rf F_5 (by decide)) F_27 (by decide)), (fun j hj => ((hp_28 j (fun h9 => hj ((by decide : ∀ x ∈ ([6, 8, 9, 10, 11, 12, 13, 15] : List Int), x ∈ ([6, 8, 9, 10, 11, 12, 13, 15, 16, 17, 18, 22, 29, 39] : List Int)) j h9))).trans (hp_6 j (fun h9 => hj ((by decide : ∀ x ∈ ([22] : List Int), x ∈ ([6, 8, 9, 10, 11, 12, 13, 15, 16, 17, 18, 22, 29, 39] : List Int)) j h9))))), hp_29, (by omega), (by omega), (by omega), (by omega), (by omega), (by omega), (fun j hj => ((F_27.1 126 (by decide) j).trans (F_5.1 126 (by decide) j))), (fun _ h0 => (mPX.ex ((hX_40 ()) h0)).e (by omega)), hxt_43⟩
    · refine lv_iconst (v := iv 2) hx hb dX12_worded_32 rfl ?_
      refine lv_goto (tgt := 38) hx hb dX12_worded_33 (by decide) ?_
      refine lv_lconst (v := jv 0) hx hb dX12_worded_38 rfl ?_
      refine lv_iconst (v := iv 0) hx hb dX12_worded_39 rfl ?_
      refine xc_iV G (b := 111) (rest := []) (As := [.int (iv 2), .long (jv 0), .int (iv 0)]) (c_X12_emit ω l μ 2 0 0 (by unfold ir; omega) (by unfold jr; omega) (by unfold ir; omega) (by omega)) (wm 9 126 rfl rfl) (wm 9 128 rfl rfl) (wm 0 144 rfl rfl) rfl rfl (by decide) rfl (wm 1 18 rfl rfl) (wm 9 129 rfl rfl) (by decide) hR ⟨nfr hF (by decide), nlo hLo (by decide)⟩ (n := 3) rfl rfl (Nat.le_of_ble_eq_true rfl) hl.1 dX12_worded_40 (fun r_49 μ48 ρ d0 H locs hr_r_49 hp G => ?_)
      have hr_r_49 : -2147483648 ≤ r_49 ∧ r_49 ≤ 2147483647 := hr_r_49
      obtain ⟨F_50, hp_51, hp_52, hp_53, hp_54⟩ := hp
      have hxt_55 : mEXT μ μ48 := (mEXT.rf (μ := μ)).tr hp_52.1
      have e_56 : wr μ48 = wr μ := (wr_cg (hp_51 15 (by decide)))
      have e_57 : bd μ48 = bd μ := (bd_cg (hp_51 15 (by decide)) (hp_51 16 (by decide)))
      have e_58 : nn μ48 = nn μ := (nn_cg (hp_51 15 (by decide)) (hp_51 18 (by decide)))
      have e_60 : μ48.1 111 29 = μ.1 111 29 := (hp_51 29 (by decide))
      have hX_59 : ∀ _ : Unit, bd μ48 = 0 → mPX μ μ48 tt 1 1 (11 * (9 - nn μ) - 3) [] := fun _ h0 => (((hX_1 ()) (by have e9 : bd μ = bd μ := rfl; have e8 : bd μ48 = bd μ := (bd_cg (hp_51 15 (by decide)) (hp_51 16 (by decide))); omega)).app (mAD.ex (t := tt) (e := 1) hp_52 ((hX_1 ()) (by have e9 : bd μ = bd μ := rfl; have e8 : bd μ48 = bd μ := (bd_cg (hp_51 15 (by decide)) (hp_51 16 (by decide))); omega)).h1.1 (by unfold mpl; omega) rfl (by have h9 := ((hX_1 ()) (by have e9 : bd μ = bd μ := rfl; have e8 : bd μ48 = bd μ := (bd_cg (hp_51 15 (by decide)) (hp_51 16 (by decide))); omega)).h1; omega) ⟨fun q => absurd q (by decide), fun q => absurd q (by decide), fun q => absurd q (by decide), fun q => absurd q (by decide), fun q => absurd q (by decide), fun q => absurd q (by decide), fun q => absurd q (by decide), fun q => absurd q (by decide), fun q => absurd q (by decide), fun q => absurd q (by decide), fun q => absurd q (by decide), fun q => absurd q (by decide), fun q => absurd q (by decide), fun q => absurd q (by decide), fun q => absurd q (by decide), fun q => absurd q (by decide), fun q => absurd q (by decide), fun q => absurd q (by decide), fun q => absurd q (by decide), fun q => absurd q (by decide), fun q => absurd q (by decide), fun q => absurd q (by decide), ⟨by decide, by decide⟩⟩) (by have h9 := ((hX_1 ()) (by have e9 : bd μ = bd μ := rfl; have e8 : bd μ48 = bd μ := (bd_cg (hp_51 15 (by decide)) (hp_51 16 (by decide))); omega)).h1; omega)).ee (by omega)
      refine lv_pop hx hb dX12_worded_43 rfl ?_
      refine lv_aload_n hx hb dX12_worded_44 rfl (lv_at hl 1 rfl) ?_
      have hPM_61 : PM μ48 := hPM.cg (hp_51 4 (by decide)) (hp_51 6 (by decide)) (hp_51 7 (by decide)) (hp_51 8 (by decide)) (hp_51 9 (by decide)) (hp_51 11 (by decide)) (hp_51 12 (by decide)) ((((hp_51 14 (by decide)).trans htt.symm)).trans (htt.symm).symm) (hp_51 15 (by decide)) (hp_51 29 (by decide)) (fun j => (F_50.1 123 (by decide) j))
      have e_62 : wr μ48 = wr μ := (wr_cg (hp_51 15 (by decide)))
      have e_63 : nn μ48 = nn μ := (nn_cg (hp_51 15 (by decide)) (hp_51 18 (by decide)))
      have e_64 : μ48.1 111 8 = μ.1 111 8 := (hp_51 8 (by decide))
      have e_65 : wr μ48 = wr μ := (wr_cg (hp_51 15 (by decide)))
      have e_66 : μ48.1 111 9 = μ.1 111 9 := (hp_51 9 (by decide))
      have e_67 : wr μ48 = wr μ := (wr_cg (hp_51 15 (by decide)))
      have e_68 : wr μ48 = wr μ := (wr_cg (hp_51 15 (by decide)))
      have e_69 : bd μ48 = bd μ := (bd_cg (hp_51 15 (by decide)) (hp_51 16 (by decide)))
      have e_70 : nn μ48 = nn μ := (nn_cg (hp_51 15 (by decide)) (hp_51 18 (by decide)))
      refine xc_vV G (b := 111) (rest := []) (As := []) (c_X12_next ω l μ48  hPM_61 (by omega) (by omega)) (wm 9 0 rfl rfl) (wm 9 2 rfl rfl) (wm 0 119 rfl rfl) rfl rfl (by decide) rfl (wm 1 18 rfl rfl) (wm 9 3 rfl rfl) (by decide) hR ⟨nfr hF (by decide), nlo hLo (by decide)⟩ (n := 0) rfl rfl (Nat.le_of_ble_eq_true rfl) hl.1 dX12_worded_45 (fun μ71 ρ d0 H locs hp G => ?_)
      obtain ⟨F_72, hp_73, hp_74, hp_75, hp_76, hp_77⟩ := hp
      have hpl_78 := hp_74.pl
      have hw_79 := wr_r (μ := μ48)
      have hw_80 := wr_r (μ := μ71)
      refine lv_goto (tgt := 223) hx hb dX12_worded_48 (by decide) ?_
      have e_81 : μ71.1 111 22 = μ48.1 111 22 := (hp_73 22 (by decide))
      have e_82 : μ71.1 111 29 = μ.1 111 29 := ((hp_73 29 (by decide)).trans (hp_51 29 (by decide)))
      have e_83 : μ71.1 111 39 = μ.1 111 39 := ((hp_73 39 (by decide)).trans (hp_51 39 (by decide)))
      have e_84 : μ71.1 111 29 = μ.1 111 29 := ((hp_73 29 (by decide)).trans (hp_51 29 (by decide)))
      have e_86 : μ71.1 111 29 = μ.1 111 29 := ((hp_73 29 (by decide)).trans (hp_51 29 (by decide)))
      have hX_85 : ∀ _ : Unit, bd μ71 = 0 → mPX μ μ71 tt 1 1 (11 * (9 - nn μ) - 3) [] := fun _ h0 => (hX_59 () (by have e9 : bd μ48 = bd μ := (bd_cg (hp_51 15 (by decide)) (hp_51 16 (by decide))); have e8 : bd μ71 = bd μ71 := rfl; omega)).qm (q0m.fr (K := [111]) (Fr.tr Fr.rf F_72 (by decide)) (by decide) (by decide) (by decide) (hp_73 22 (by decide)) (by omega))
      have e_87 : μ71.1 111 29 = μ.1 111 29 := ((hp_73 29 (by decide)).trans (hp_51 29 (by decide)))
      have hxt_88 : mEXT μ μ71 := hxt_55.tr (q0m.fr (K := [111]) (Fr.tr Fr.rf F_72 (by decide)) (by decide) (by decide) (by decide) (hp_73 22 (by decide)) (by omega)).1
      have e_89 : μ71.1 111 22 = μ48.1 111 22 := (hp_73 22 (by decide))
      have e_90 : μ71.1 111 22 = μ48.1 111 22 := (hp_73 22 (by decide))
      have e_91 : μ71.1 111 29 = μ.1 111 29 := ((hp_73 29 (by decide)).trans (hp_51 29 (by decide)))
      have e_92 : μ71.1 111 39 = μ.1 111 39 := ((hp_73 39 (by decide)).trans (hp_51 39 (by decide)))
      exact xr_v G hret hlk dX12_worded_223 ⟨(Fr.tr (Fr.tr Fr.rf F_50 (by decide)) F_72 (by decide)), (fun j hj => ((hp_73 j (fun h9 => hj ((by decide : ∀ x ∈ ([6, 8, 9, 10, 11, 12, 13, 15] : List Int), x ∈ ([6, 8, 9, 10, 11, 12, 13, 15, 16, 17, 18, 22, 29, 39] : List Int)) j h9))).trans (hp_51 j (fun h9 => hj ((by decide : ∀ x ∈ ([22] : List Int), x ∈ ([6, 8, 9, 10, 11, 12, 13, 15, 16, 17, 18, 22, 29, 39] : List Int)) j h9))))), hp_74, (by omega), (by omega), (by omega), (by omega), (by omega), (by omega), (fun j hj => ((F_72.1 126 (by decide) j).trans (F_50.1 126 (by decide) j))), (fun _ h0 => (mPX.ex ((hX_85 ()) h0)).e (by omega)), hxt_88⟩
  · refine lv_iload_n hx hb dX12_worded_11 rfl (lv_at hl 0 rfl) ?_
    refine lv_bipush (v := iv 26) hx hb dX12_worded_12 rfl ?_
    refine xb_icmp_ne (tgt := 51) hx hb (by unfold ir; omega) (by unfold ir; omega) dX12_worded_14 (by decide) (fun c_14 => ?_) (fun c_14 => ?_)
    · refine lv_iload_n hx hb dX12_worded_51 rfl (lv_at hl 0 rfl) ?_
      refine lv_bipush (v := iv 24) hx hb dX12_worded_52 rfl ?_
      refine xb_icmp_ne (tgt := 75) hx hb (by unfold ir; omega) (by unfold ir; omega) dX12_worded_54 (by decide) (fun c_54 => ?_) (fun c_54 => ?_)
      · refine lv_iload_n hx hb dX12_worded_75 rfl (lv_at hl 0 rfl) ?_
        refine lv_bipush (v := iv 25) hx hb dX12_worded_76 rfl ?_
        refine xb_icmp_ne (tgt := 99) hx hb (by unfold ir; omega) (by unfold ir; omega) dX12_worded_78 (by decide) (fun c_78 => ?_) (fun c_78 => ?_)
        · refine lv_iload_n hx hb dX12_worded_99 rfl (lv_at hl 0 rfl) ?_
          refine lv_bipush (v := iv 28) hx hb dX12_worded_100 rfl ?_
          refine xb_icmp_ne (tgt := 136) hx hb (by unfold ir; omega) (by unfold ir; omega) dX12_worded_102 (by decide) (fun c_102 => ?_) (fun c_102 => ?_)
          · refine lv_iload_n hx hb dX12_worded_136 rfl (lv_at hl 0 rfl) ?_
            refine lv_bipush (v := iv 27) hx hb dX12_worded_137 rfl ?_
            refine xb_icmp_ne (tgt := 182) hx hb (by unfold ir; omega) (by unfold ir; omega) dX12_worded_139 (by decide) (fun c_139 => ?_) (fun c_139 => ?_)
            · refine lv_iload_n hx hb dX12_worded_182 rfl (lv_at hl 0 rfl) ?_
              refine lv_bipush (v := iv 29) hx hb dX12_worded_183 rfl ?_
              refine xb_icmp_lt (tgt := 215) hx hb (by unfold ir; omega) (by unfold ir; omega) dX12_worded_185 (by decide) (fun c_185 => ?_) (fun c_185 => ?_)
              · refine lv_aload_n hx hb dX12_worded_215 rfl (lv_at hl 1 rfl) ?_
                refine lv_aload_n hx hb dX12_worded_216 rfl (lv_at hl 1 rfl) ?_
                refine xa_geti G fd_X12 (a := 111) (x := μ.1 111 9) 9 rfl (by decide) rfl (wm 7 158 rfl rfl) ⟨rfl, rfl, rfl⟩ dX12_worded_217 rfl rfl ?_
                have hr_93 : -2147483648 ≤ μ.1 111 9 ∧ μ.1 111 9 ≤ 2147483647 := by have h9 := G.hr (a := 111) (k := 9) rfl; exact h9
                refine xc_vV G (b := 111) (rest := []) (As := [.int (iv (μ.1 111 9))]) (c_X12_wrong ω l μ (μ.1 111 9) (by unfold ir; omega) (by omega)) (wm 9 22 rfl rfl) (wm 9 24 rfl rfl) (wm 0 123 rfl rfl) rfl rfl (by decide) rfl (wm 1 18 rfl rfl) (wm 9 25 rfl rfl) (by decide) hR ⟨nfr hF (by decide), nlo hLo (by decide)⟩ (n := 1) rfl rfl (Nat.le_of_ble_eq_true rfl) hl.1 dX12_worded_220 (fun μ94 ρ d0 H locs hp G => ?_)
                obtain ⟨F_95, hp_96, hp_97⟩ := hp
                have hw_98 := wr_r (μ := μ94)
                have e_99 : μ94.1 111 22 = μ.1 111 22 := (hp_96 22 (by decide))
                have e_100 : μ94.1 111 9 = μ.1 111 9 := (hp_96 9 (by decide))
                have e_101 : μ94.1 111 29 = μ.1 111 29 := (hp_96 29 (by decide))
                have e_102 : μ94.1 111 39 = μ.1 111 39 := (hp_96 39 (by decide))
                have e_103 : μ94.1 111 29 = μ.1 111 29 := (hp_96 29 (by decide))
                have e_105 : μ94.1 111 29 = μ.1 111 29 := (hp_96 29 (by decide))
                have hX_104 : ∀ _ : Unit, bd μ94 = 0 → mPX μ μ94 tt 0 1 (11 * (9 - nn μ) - 3) [] := fun _ h0 => (hX_1 () (by have e9 : bd μ = bd μ := rfl; have e8 : bd μ94 = bd μ94 := rfl; omega)).qm (q0m.fr (K := [111]) (Fr.tr Fr.rf F_95 (by decide)) (by decide) (by decide) (by decide) (hp_96 22 (by decide)) (by omega))
                have hPM_106 : PM μ94 := hPM.wg (hp_96 4 (by decide)) (hp_96 6 (by decide)) (hp_96 7 (by decide)) (hp_96 8 (by decide)) (hp_96 9 (by decide)) (hp_96 11 (by decide)) (hp_96 12 (by decide)) ((((hp_96 14 (by decide)).trans htt.symm)).trans (htt.symm).symm) (by omega) (hp_96 29 (by decide)) (fun j => (F_95.1 123 (by decide) j))
                have e_107 : μ94.1 111 29 = μ.1 111 29 := (hp_96 29 (by decide))
                have hxt_108 : mEXT μ μ94 := (q0m.fr (K := [111]) (Fr.tr Fr.rf F_95 (by decide)) (by decide) (by decide) (by decide) (hp_96 22 (by decide)) (by omega)).1
                have e_109 : μ94.1 111 22 = μ.1 111 22 := (hp_96 22 (by decide))
                have e_110 : μ94.1 111 22 = μ.1 111 22 := (hp_96 22 (by decide))
                have e_111 : μ94.1 111 9 = μ.1 111 9 := (hp_96 9 (by decide))
                have e_112 : μ94.1 111 9 = μ.1 111 9 := (hp_96 9 (by decide))
                have e_113 : μ94.1 111 29 = μ.1 111 29 := (hp_96 29 (by decide))
                have e_114 : μ94.1 111 39 = μ.1 111 39 := (hp_96 39 (by decide))
                exact xr_v G hret hlk dX12_worded_223 ⟨(Fr.tr Fr.rf F_95 (by decide)), (fun j hj => (hp_96 j (fun h9 => hj ((by decide : ∀ x ∈ ([15] : List Int), x ∈ ([6, 8, 9, 10, 11, 12, 13, 15, 16, 17, 18, 22, 29, 39] : List Int)) j h9)))), hPM_106, (by omega), (by omega), (by omega), (by omega), (by omega), (by omega), (fun j hj => (F_95.1 126 (by decide) j)), (fun _ h0 => (mPX.ex ((hX_104 ()) h0)).e (by omega)), hxt_108⟩
              · refine lv_aload_n hx hb dX12_worded_188 rfl (lv_at hl 1 rfl) ?_
                refine xc_vV G (b := 111) (rest := []) (As := []) (c_X12_next ω l μ  hPM (by omega) (by omega)) (wm 9 0 rfl rfl) (wm 9 2 rfl rfl) (wm 0 119 rfl rfl) rfl rfl (by decide) rfl (wm 1 18 rfl rfl) (wm 9 3 rfl rfl) (by decide) hR ⟨nfr hF (by decide), nlo hLo (by decide)⟩ (n := 0) rfl rfl (Nat.le_of_ble_eq_true rfl) hl.1 dX12_worded_189 (fun μ115 ρ d0 H locs hp G => ?_)
                obtain ⟨F_116, hp_117, hp_118, hp_119, hp_120, hp_121⟩ := hp
                have hpl_122 := hp_118.pl
                have hw_123 := wr_r (μ := μ115)
                refine lv_aload_n hx hb dX12_worded_192 rfl (lv_at hl 1 rfl) ?_
                refine lv_bipush (v := iv 46) hx hb dX12_worded_193 rfl ?_
                have e_124 : μ115.1 111 29 = μ.1 111 29 := (hp_117 29 (by decide))
                have e_126 : μ115.1 111 29 = μ.1 111 29 := (hp_117 29 (by decide))
                have hX_125 : ∀ _ : Unit, bd μ115 = 0 → mPX μ μ115 tt 0 1 (11 * (9 - nn μ) - 3) [] := fun _ h0 => (hX_1 () (by have e9 : bd μ = bd μ := rfl; have e8 : bd μ115 = bd μ115 := rfl; omega)).qm (q0m.fr (K := [111]) (Fr.tr Fr.rf F_116 (by decide)) (by decide) (by decide) (by decide) (hp_117 22 (by decide)) (by omega))
                refine xc_vV G (b := 111) (rest := []) (As := [.int (iv 46)]) (c_X12_wantsSign ω l μ115 46 (by unfold ir; omega) hp_118 (by omega)) (wm 9 114 rfl rfl) (wm 9 116 rfl rfl) (wm 0 141 rfl rfl) rfl rfl (by decide) rfl (wm 1 18 rfl rfl) (wm 9 117 rfl rfl) (by decide) hR ⟨nfr hF (by decide), nlo hLo (by decide)⟩ (n := 1) rfl rfl (Nat.le_of_ble_eq_true rfl) hl.1 dX12_worded_195 (fun μ127 ρ d0 H locs hp G => ?_)
                obtain ⟨F_128, hp_129, hp_130, hp_131, hp_132, hp_133, hp_134⟩ := hp
                have hpl_135 := hp_130.pl
                have hw_136 := wr_r (μ := μ127)
                refine lv_aload_n hx hb dX12_worded_198 rfl (lv_at hl 1 rfl) ?_
                have e_137 : μ127.1 111 29 = μ.1 111 29 := ((hp_129 29 (by decide)).trans (hp_117 29 (by decide)))
                have e_139 : μ127.1 111 29 = μ.1 111 29 := ((hp_129 29 (by decide)).trans (hp_117 29 (by decide)))
                have hX_138 : ∀ _ : Unit, bd μ127 = 0 → mPX μ μ127 tt 0 1 (11 * (9 - nn μ) - 3) [] := fun _ h0 => (hX_125 () (by have e9 : bd μ115 = bd μ115 := rfl; have e8 : bd μ127 = bd μ127 := rfl; omega)).qm (q0m.fr (K := [111]) (Fr.tr Fr.rf F_128 (by decide)) (by decide) (by decide) (by decide) ((((hp_129 22 (by decide)).trans (hp_117 22 (by decide)))).trans ((hp_117 22 (by decide))).symm) (by omega))
                refine xc_lV G (b := 111) (rest := []) (As := []) (c_X12_takesName ω l μ127  hp_130 (by omega)) (wm 9 70 rfl rfl) (wm 9 72 rfl rfl) (wm 0 130 rfl rfl) rfl rfl (by decide) rfl (wm 1 18 rfl rfl) (wm 9 73 rfl rfl) (by decide) hR ⟨nfr hF (by decide), nlo hLo (by decide)⟩ (n := 0) rfl rfl (Nat.le_of_ble_eq_true rfl) hl.1 dX12_worded_199 (fun r_141 μ140 ρ d0 H locs hr_r_141 hp G => ?_)
                obtain ⟨F_142, hp_143, hp_144, hp_145, hp_146, hp_147, hp_148⟩ := hp
                have hpl_149 := hp_144.pl
                have hw_150 := wr_r (μ := μ140)
                refine lv_lstore_n (lv' := [(2, .long (jv r_141)), (1, .int (iv (μ.1 111 11))), (0, .ref (oP ω 111))]) hx hb dX12_worded_202 rfl hl (by decide) rfl (fun ls hl => ?_)
                refine lv_aload_n hx hb dX12_worded_203 rfl (lv_at hl 2 rfl) ?_
                refine lv_iload_n hx hb dX12_worded_204 rfl (lv_at hl 1 rfl) ?_
                refine lv_bipush (v := iv 29) hx hb dX12_worded_205 rfl ?_
                refine xb_isub hx hb dX12_worded_207 ?_
                refine lv_lload_n hx hb dX12_worded_208 rfl (lv_at hl 0 rfl) ?_
                have e_151 : μ140.1 111 29 = μ.1 111 29 := ((hp_143 29 (by decide)).trans ((hp_129 29 (by decide)).trans (hp_117 29 (by decide))))
                have e_153 : μ140.1 111 29 = μ.1 111 29 := ((hp_143 29 (by decide)).trans ((hp_129 29 (by decide)).trans (hp_117 29 (by decide))))
                have hX_152 : ∀ _ : Unit, bd μ140 = 0 → mPX μ μ140 tt 0 1 (11 * (9 - nn μ) - 3) [] := fun _ h0 => (hX_138 () (by have e9 : bd μ127 = bd μ127 := rfl; have e8 : bd μ140 = bd μ140 := rfl; omega)).qm (q0m.fr (K := [111]) (Fr.tr Fr.rf F_142 (by decide)) (by decide) (by decide) (by decide) ((((hp_143 22 (by decide)).trans ((hp_129 22 (by decide)).trans (hp_117 22 (by decide))))).trans (((hp_129 22 (by decide)).trans (hp_117 22 (by decide)))).symm) (by omega))
                have e_154 : μ140.1 111 29 = μ.1 111 29 := ((hp_143 29 (by decide)).trans ((hp_129 29 (by decide)).trans (hp_117 29 (by decide))))
                have e_155 : μ140.1 111 29 = μ.1 111 29 := ((hp_143 29 (by decide)).trans ((hp_129 29 (by decide)).trans (hp_117 29 (by decide))))
                have hxt_156 : mEXT μ μ140 := (q0m.fr (K := [111]) (Fr.tr (Fr.tr (Fr.tr Fr.rf F_116 (by decide)) F_128 (by decide)) F_142 (by decide)) (by decide) (by decide) (by decide) ((hp_143 22 (by decide)).trans ((hp_129 22 (by decide)).trans (hp_117 22 (by decide)))) (by omega)).1
                have e_157 : μ140.1 111 14 = tt := ((hp_143 14 (by decide)).trans ((hp_129 14 (by decide)).trans ((hp_117 14 (by decide)).trans htt.symm)))
                have e_158 : μ140.1 111 22 = μ.1 111 22 := ((hp_143 22 (by decide)).trans ((hp_129 22 (by decide)).trans (hp_117 22 (by decide))))
                have e_159 : μ140.1 111 22 = μ.1 111 22 := ((hp_143 22 (by decide)).trans ((hp_129 22 (by decide)).trans (hp_117 22 (by decide))))
                have e_160 : μ140.1 111 39 = μ.1 111 39 := ((hp_143 39 (by decide)).trans ((hp_129 39 (by decide)).trans (hp_117 39 (by decide))))
                have e_161 : μ140.1 111 39 = μ.1 111 39 := ((hp_143 39 (by decide)).trans ((hp_129 39 (by decide)).trans (hp_117 39 (by decide))))
                have e_162 : μ140.1 111 22 = μ.1 111 22 := ((hp_143 22 (by decide)).trans ((hp_129 22 (by decide)).trans (hp_117 22 (by decide))))
                have e_163 : μ140.1 111 31 = μ.1 111 31 := ((hp_143 31 (by decide)).trans ((hp_129 31 (by decide)).trans (hp_117 31 (by decide))))
                have e_164 : μ140.1 111 31 = μ.1 111 31 := ((hp_143 31 (by decide)).trans ((hp_129 31 (by decide)).trans (hp_117 31 (by decide))))
                have e_165 : μ140.1 111 22 = μ.1 111 22 := ((hp_143 22 (by decide)).trans ((hp_129 22 (by decide)).trans (hp_117 22 (by decide))))
                have e_166 : μ140.1 111 22 = μ.1 111 22 := ((hp_143 22 (by decide)).trans ((hp_129 22 (by decide)).trans (hp_117 22 (by decide))))
                have e_167 : μ140.1 111 29 = μ.1 111 29 := ((hp_143 29 (by decide)).trans ((hp_129 29 (by decide)).trans (hp_117 29 (by decide))))
                have e_168 : μ140.1 111 39 = μ.1 111 39 := ((hp_143 39 (by decide)).trans ((hp_129 39 (by decide)).trans (hp_117 39 (by decide))))
                refine xc_vV G (b := 111) (rest := []) (As := [.int (iv ((μ.1 111 11) - 29)), .long (jv r_141)]) (c_X12_call ω l μ140 ((μ.1 111 11) - 29) r_141 F Lo Fu Lu kf tt (by unfold ir; omega) hr_r_141 (by omega) hF hLo hFu hLu hE hU hp_144 (by omega) (by omega) (by omega) (by omega) (by omega) (by omega) (fun _ h0 => ((hX_152 ()) h0).h1.1) (by omega)) (wm 9 179 rfl rfl) (wm 9 181 rfl rfl) (wm 0 157 rfl rfl) rfl rfl (by decide) rfl (wm 1 18 rfl rfl) (wm 9 182 rfl rfl) (by decide) hR ⟨sfr (F := F) (a := 2) (by decide), slo (L := Lo) (m := 7) (a := 44) (by decide)⟩ (n := 2) rfl rfl (Nat.le_of_ble_eq_true rfl) hl.1 dX12_worded_209 (fun μ169 ρ d0 H locs hp G => ?_)
                obtain ⟨F_170, hp_171, hp_172, hp_173, hp_174, hp_175, hp_176, hp_177, hp_178, hp_179, hp_180, hp_181⟩ := hp
                have hpl_182 := hp_172.pl
                have hw_183 := wr_r (μ := μ169)
                have hxt_184 : mEXT μ μ169 := hxt_156.tr hp_181
                have hX_185 : ∀ _ : Unit, bd μ169 = 0 → mPX μ μ169 tt 1 1 (11 * (9 - nn μ) - 3) [] := fun _ h0 => (((hX_152 ()) (by have e9 : bd μ140 = bd μ140 := rfl; have e8 : bd μ169 = bd μ169 := rfl; omega)).app (hp_180 () h0) (by omega)).ee (by omega)
                refine lv_goto (tgt := 223) hx hb dX12_worded_212 (by decide) ?_
                exact xr_v G hret hlk dX12_worded_223 ⟨(Fr.tr (Fr.tr (Fr.tr (Fr.tr Fr.rf F_116 (by decide)) F_128 (by decide)) F_142 (by decide)) F_170 (by decide)), (fun j hj => ((hp_171 j (fun h9 => hj ((by decide : ∀ x ∈ ([6, 8, 9, 10, 11, 12, 13, 15, 16, 17, 18, 22, 29, 39] : List Int), x ∈ ([6, 8, 9, 10, 11, 12, 13, 15, 16, 17, 18, 22, 29, 39] : List Int)) j h9))).trans ((hp_143 j (fun h9 => hj ((by decide : ∀ x ∈ ([6, 8, 9, 10, 11, 12, 13, 15] : List Int), x ∈ ([6, 8, 9, 10, 11, 12, 13, 15, 16, 17, 18, 22, 29, 39] : List Int)) j h9))).trans ((hp_129 j (fun h9 => hj ((by decide : ∀ x ∈ ([6, 8, 9, 10, 11, 12, 13, 15] : List Int), x ∈ ([6, 8, 9, 10, 11, 12, 13, 15, 16, 17, 18, 22, 29, 39] : List Int)) j h9))).trans (hp_117 j (fun h9 => hj ((by decide : ∀ x ∈ ([6, 8, 9, 10, 11, 12, 13, 15] : List Int), x ∈ ([6, 8, 9, 10, 11, 12, 13, 15, 16, 17, 18, 22, 29, 39] : List Int)) j h9))))))), hp_172, (by omega), (by omega), (by omega), (by omega), (by omega), (by omega), (fun j hj => ((hp_179 j (by omega)).trans ((F_142.1 126 (by decide) j).trans ((F_128.1 126 (by decide) j).trans (F_116.1 126 (by decide) j))))), (fun _ h0 => (mPX.ex ((hX_185 ()) h0)).e (by omega)), hxt_184⟩
            · refine lv_aload_n hx hb dX12_worded_142 rfl (lv_at hl 1 rfl) ?_
              refine xa_geti G fd_X12 (a := 111) (x := tt) 14 rfl (by decide) rfl (wm 7 163 rfl rfl) ⟨rfl, rfl, rfl⟩ dX12_worded_143 rfl htt.symm ?_
              have hr_186 : -2147483648 ≤ tt ∧ tt ≤ 2147483647 := by have h9 := G.hr (a := 111) (k := 14) rfl; rw [show μ.1 111 14 = tt from htt.symm] at h9; exact h9
              refine lv_iconst (v := iv 2) hx hb dX12_worded_146 rfl ?_
              refine xb_icmp_ne (tgt := 182) hx hb (by unfold ir; omega) (by unfold ir; omega) dX12_worded_147 (by decide) (fun c_147 => ?_) (fun c_147 => ?_)
              · refine lv_iload_n hx hb dX12_worded_182 rfl (lv_at hl 0 rfl) ?_
                refine lv_bipush (v := iv 29) hx hb dX12_worded_183 rfl ?_
                refine xb_icmp_lt (tgt := 215) hx hb (by unfold ir; omega) (by unfold ir; omega) dX12_worded_185 (by decide) (fun c_185 => ?_) (fun c_185 => ?_)
                · refine lv_aload_n hx hb dX12_worded_215 rfl (lv_at hl 1 rfl) ?_
                  refine lv_aload_n hx hb dX12_worded_216 rfl (lv_at hl 1 rfl) ?_
                  refine xa_geti G fd_X12 (a := 111) (x := μ.1 111 9) 9 rfl (by decide) rfl (wm 7 158 rfl rfl) ⟨rfl, rfl, rfl⟩ dX12_worded_217 rfl rfl ?_
                  have hr_187 : -2147483648 ≤ μ.1 111 9 ∧ μ.1 111 9 ≤ 2147483647 := by have h9 := G.hr (a := 111) (k := 9) rfl; exact h9
                  refine xc_vV G (b := 111) (rest := []) (As := [.int (iv (μ.1 111 9))]) (c_X12_wrong ω l μ (μ.1 111 9) (by unfold ir; omega) (by omega)) (wm 9 22 rfl rfl) (wm 9 24 rfl rfl) (wm 0 123 rfl rfl) rfl rfl (by decide) rfl (wm 1 18 rfl rfl) (wm 9 25 rfl rfl) (by decide) hR ⟨nfr hF (by decide), nlo hLo (by decide)⟩ (n := 1) rfl rfl (Nat.le_of_ble_eq_true rfl) hl.1 dX12_worded_220 (fun μ188 ρ d0 H locs hp G => ?_)
                  obtain ⟨F_189, hp_190, hp_191⟩ := hp
                  have hw_192 := wr_r (μ := μ188)
                  have e_193 : μ188.1 111 22 = μ.1 111 22 := (hp_190 22 (by decide))
                  have e_194 : μ188.1 111 9 = μ.1 111 9 := (hp_190 9 (by decide))
                  have e_195 : μ188.1 111 29 = μ.1 111 29 := (hp_190 29 (by decide))
                  have e_196 : μ188.1 111 39 = μ.1 111 39 := (hp_190 39 (by decide))
                  have e_197 : μ188.1 111 29 = μ.1 111 29 := (hp_190 29 (by decide))
                  have e_199 : μ188.1 111 29 = μ.1 111 29 := (hp_190 29 (by decide))
                  have hX_198 : ∀ _ : Unit, bd μ188 = 0 → mPX μ μ188 tt 0 1 (11 * (9 - nn μ) - 3) [] := fun _ h0 => (hX_1 () (by have e9 : bd μ = bd μ := rfl; have e8 : bd μ188 = bd μ188 := rfl; omega)).qm (q0m.fr (K := [111]) (Fr.tr Fr.rf F_189 (by decide)) (by decide) (by decide) (by decide) (hp_190 22 (by decide)) (by omega))
                  have hPM_200 : PM μ188 := hPM.wg (hp_190 4 (by decide)) (hp_190 6 (by decide)) (hp_190 7 (by decide)) (hp_190 8 (by decide)) (hp_190 9 (by decide)) (hp_190 11 (by decide)) (hp_190 12 (by decide)) ((((hp_190 14 (by decide)).trans htt.symm)).trans (htt.symm).symm) (by omega) (hp_190 29 (by decide)) (fun j => (F_189.1 123 (by decide) j))
                  have e_201 : μ188.1 111 29 = μ.1 111 29 := (hp_190 29 (by decide))
                  have hxt_202 : mEXT μ μ188 := (q0m.fr (K := [111]) (Fr.tr Fr.rf F_189 (by decide)) (by decide) (by decide) (by decide) (hp_190 22 (by decide)) (by omega)).1
                  have e_203 : μ188.1 111 22 = μ.1 111 22 := (hp_190 22 (by decide))
                  have e_204 : μ188.1 111 22 = μ.1 111 22 := (hp_190 22 (by decide))
                  have e_205 : μ188.1 111 9 = μ.1 111 9 := (hp_190 9 (by decide))
                  have e_206 : μ188.1 111 9 = μ.1 111 9 := (hp_190 9 (by decide))
                  have e_207 : μ188.1 111 29 = μ.1 111 29 := (hp_190 29 (by decide))
                  have e_208 : μ188.1 111 39 = μ.1 111 39 := (hp_190 39 (by decide))
                  exact xr_v G hret hlk dX12_worded_223 ⟨(Fr.tr Fr.rf F_189 (by decide)), (fun j hj => (hp_190 j (fun h9 => hj ((by decide : ∀ x ∈ ([15] : List Int), x ∈ ([6, 8, 9, 10, 11, 12, 13, 15, 16, 17, 18, 22, 29, 39] : List Int)) j h9)))), hPM_200, (by omega), (by omega), (by omega), (by omega), (by omega), (by omega), (fun j hj => (F_189.1 126 (by decide) j)), (fun _ h0 => (mPX.ex ((hX_198 ()) h0)).e (by omega)), hxt_202⟩
                · refine lv_aload_n hx hb dX12_worded_188 rfl (lv_at hl 1 rfl) ?_
                  refine xc_vV G (b := 111) (rest := []) (As := []) (c_X12_next ω l μ  hPM (by omega) (by omega)) (wm 9 0 rfl rfl) (wm 9 2 rfl rfl) (wm 0 119 rfl rfl) rfl rfl (by decide) rfl (wm 1 18 rfl rfl) (wm 9 3 rfl rfl) (by decide) hR ⟨nfr hF (by decide), nlo hLo (by decide)⟩ (n := 0) rfl rfl (Nat.le_of_ble_eq_true rfl) hl.1 dX12_worded_189 (fun μ209 ρ d0 H locs hp G => ?_)
                  obtain ⟨F_210, hp_211, hp_212, hp_213, hp_214, hp_215⟩ := hp
                  have hpl_216 := hp_212.pl
                  have hw_217 := wr_r (μ := μ209)
                  refine lv_aload_n hx hb dX12_worded_192 rfl (lv_at hl 1 rfl) ?_
                  refine lv_bipush (v := iv 46) hx hb dX12_worded_193 rfl ?_
                  have e_218 : μ209.1 111 29 = μ.1 111 29 := (hp_211 29 (by decide))
                  have e_220 : μ209.1 111 29 = μ.1 111 29 := (hp_211 29 (by decide))
                  have hX_219 : ∀ _ : Unit, bd μ209 = 0 → mPX μ μ209 tt 0 1 (11 * (9 - nn μ) - 3) [] := fun _ h0 => (hX_1 () (by have e9 : bd μ = bd μ := rfl; have e8 : bd μ209 = bd μ209 := rfl; omega)).qm (q0m.fr (K := [111]) (Fr.tr Fr.rf F_210 (by decide)) (by decide) (by decide) (by decide) (hp_211 22 (by decide)) (by omega))
                  refine xc_vV G (b := 111) (rest := []) (As := [.int (iv 46)]) (c_X12_wantsSign ω l μ209 46 (by unfold ir; omega) hp_212 (by omega)) (wm 9 114 rfl rfl) (wm 9 116 rfl rfl) (wm 0 141 rfl rfl) rfl rfl (by decide) rfl (wm 1 18 rfl rfl) (wm 9 117 rfl rfl) (by decide) hR ⟨nfr hF (by decide), nlo hLo (by decide)⟩ (n := 1) rfl rfl (Nat.le_of_ble_eq_true rfl) hl.1 dX12_worded_195 (fun μ221 ρ d0 H locs hp G => ?_)
                  obtain ⟨F_222, hp_223, hp_224, hp_225, hp_226, hp_227, hp_228⟩ := hp
                  have hpl_229 := hp_224.pl
                  have hw_230 := wr_r (μ := μ221)
                  refine lv_aload_n hx hb dX12_worded_198 rfl (lv_at hl 1 rfl) ?_
                  have e_231 : μ221.1 111 29 = μ.1 111 29 := ((hp_223 29 (by decide)).trans (hp_211 29 (by decide)))
                  have e_233 : μ221.1 111 29 = μ.1 111 29 := ((hp_223 29 (by decide)).trans (hp_211 29 (by decide)))
                  have hX_232 : ∀ _ : Unit, bd μ221 = 0 → mPX μ μ221 tt 0 1 (11 * (9 - nn μ) - 3) [] := fun _ h0 => (hX_219 () (by have e9 : bd μ209 = bd μ209 := rfl; have e8 : bd μ221 = bd μ221 := rfl; omega)).qm (q0m.fr (K := [111]) (Fr.tr Fr.rf F_222 (by decide)) (by decide) (by decide) (by decide) ((((hp_223 22 (by decide)).trans (hp_211 22 (by decide)))).trans ((hp_211 22 (by decide))).symm) (by omega))
                  refine xc_lV G (b := 111) (rest := []) (As := []) (c_X12_takesName ω l μ221  hp_224 (by omega)) (wm 9 70 rfl rfl) (wm 9 72 rfl rfl) (wm 0 130 rfl rfl) rfl rfl (by decide) rfl (wm 1 18 rfl rfl) (wm 9 73 rfl rfl) (by decide) hR ⟨nfr hF (by decide), nlo hLo (by decide)⟩ (n := 0) rfl rfl (Nat.le_of_ble_eq_true rfl) hl.1 dX12_worded_199 (fun r_235 μ234 ρ d0 H locs hr_r_235 hp G => ?_)
                  obtain ⟨F_236, hp_237, hp_238, hp_239, hp_240, hp_241, hp_242⟩ := hp
                  have hpl_243 := hp_238.pl
                  have hw_244 := wr_r (μ := μ234)
                  refine lv_lstore_n (lv' := [(2, .long (jv r_235)), (1, .int (iv (μ.1 111 11))), (0, .ref (oP ω 111))]) hx hb dX12_worded_202 rfl hl (by decide) rfl (fun ls hl => ?_)
                  refine lv_aload_n hx hb dX12_worded_203 rfl (lv_at hl 2 rfl) ?_
                  refine lv_iload_n hx hb dX12_worded_204 rfl (lv_at hl 1 rfl) ?_
                  refine lv_bipush (v := iv 29) hx hb dX12_worded_205 rfl ?_
                  refine xb_isub hx hb dX12_worded_207 ?_
                  refine lv_lload_n hx hb dX12_worded_208 rfl (lv_at hl 0 rfl) ?_
                  have e_245 : μ234.1 111 29 = μ.1 111 29 := ((hp_237 29 (by decide)).trans ((hp_223 29 (by decide)).trans (hp_211 29 (by decide))))
                  have e_247 : μ234.1 111 29 = μ.1 111 29 := ((hp_237 29 (by decide)).trans ((hp_223 29 (by decide)).trans (hp_211 29 (by decide))))
                  have hX_246 : ∀ _ : Unit, bd μ234 = 0 → mPX μ μ234 tt 0 1 (11 * (9 - nn μ) - 3) [] := fun _ h0 => (hX_232 () (by have e9 : bd μ221 = bd μ221 := rfl; have e8 : bd μ234 = bd μ234 := rfl; omega)).qm (q0m.fr (K := [111]) (Fr.tr Fr.rf F_236 (by decide)) (by decide) (by decide) (by decide) ((((hp_237 22 (by decide)).trans ((hp_223 22 (by decide)).trans (hp_211 22 (by decide))))).trans (((hp_223 22 (by decide)).trans (hp_211 22 (by decide)))).symm) (by omega))
                  have e_248 : μ234.1 111 29 = μ.1 111 29 := ((hp_237 29 (by decide)).trans ((hp_223 29 (by decide)).trans (hp_211 29 (by decide))))
                  have e_249 : μ234.1 111 29 = μ.1 111 29 := ((hp_237 29 (by decide)).trans ((hp_223 29 (by decide)).trans (hp_211 29 (by decide))))
                  have hxt_250 : mEXT μ μ234 := (q0m.fr (K := [111]) (Fr.tr (Fr.tr (Fr.tr Fr.rf F_210 (by decide)) F_222 (by decide)) F_236 (by decide)) (by decide) (by decide) (by decide) ((hp_237 22 (by decide)).trans ((hp_223 22 (by decide)).trans (hp_211 22 (by decide)))) (by omega)).1
                  have e_251 : μ234.1 111 14 = tt := ((hp_237 14 (by decide)).trans ((hp_223 14 (by decide)).trans ((hp_211 14 (by decide)).trans htt.symm)))
                  have e_252 : μ234.1 111 22 = μ.1 111 22 := ((hp_237 22 (by decide)).trans ((hp_223 22 (by decide)).trans (hp_211 22 (by decide))))
                  have e_253 : μ234.1 111 22 = μ.1 111 22 := ((hp_237 22 (by decide)).trans ((hp_223 22 (by decide)).trans (hp_211 22 (by decide))))
                  have e_254 : μ234.1 111 39 = μ.1 111 39 := ((hp_237 39 (by decide)).trans ((hp_223 39 (by decide)).trans (hp_211 39 (by decide))))
                  have e_255 : μ234.1 111 39 = μ.1 111 39 := ((hp_237 39 (by decide)).trans ((hp_223 39 (by decide)).trans (hp_211 39 (by decide))))
                  have e_256 : μ234.1 111 22 = μ.1 111 22 := ((hp_237 22 (by decide)).trans ((hp_223 22 (by decide)).trans (hp_211 22 (by decide))))
                  have e_257 : μ234.1 111 31 = μ.1 111 31 := ((hp_237 31 (by decide)).trans ((hp_223 31 (by decide)).trans (hp_211 31 (by decide))))
                  have e_258 : μ234.1 111 31 = μ.1 111 31 := ((hp_237 31 (by decide)).trans ((hp_223 31 (by decide)).trans (hp_211 31 (by decide))))
                  have e_259 : μ234.1 111 22 = μ.1 111 22 := ((hp_237 22 (by decide)).trans ((hp_223 22 (by decide)).trans (hp_211 22 (by decide))))
                  have e_260 : μ234.1 111 22 = μ.1 111 22 := ((hp_237 22 (by decide)).trans ((hp_223 22 (by decide)).trans (hp_211 22 (by decide))))
                  have e_261 : μ234.1 111 29 = μ.1 111 29 := ((hp_237 29 (by decide)).trans ((hp_223 29 (by decide)).trans (hp_211 29 (by decide))))
                  have e_262 : μ234.1 111 39 = μ.1 111 39 := ((hp_237 39 (by decide)).trans ((hp_223 39 (by decide)).trans (hp_211 39 (by decide))))
                  refine xc_vV G (b := 111) (rest := []) (As := [.int (iv ((μ.1 111 11) - 29)), .long (jv r_235)]) (c_X12_call ω l μ234 ((μ.1 111 11) - 29) r_235 F Lo Fu Lu kf tt (by unfold ir; omega) hr_r_235 (by omega) hF hLo hFu hLu hE hU hp_238 (by omega) (by omega) (by omega) (by omega) (by omega) (by omega) (fun _ h0 => ((hX_246 ()) h0).h1.1) (by omega)) (wm 9 179 rfl rfl) (wm 9 181 rfl rfl) (wm 0 157 rfl rfl) rfl rfl (by decide) rfl (wm 1 18 rfl rfl) (wm 9 182 rfl rfl) (by decide) hR ⟨sfr (F := F) (a := 2) (by decide), slo (L := Lo) (m := 7) (a := 44) (by decide)⟩ (n := 2) rfl rfl (Nat.le_of_ble_eq_true rfl) hl.1 dX12_worded_209 (fun μ263 ρ d0 H locs hp G => ?_)
                  obtain ⟨F_264, hp_265, hp_266, hp_267, hp_268, hp_269, hp_270, hp_271, hp_272, hp_273, hp_274, hp_275⟩ := hp
                  have hpl_276 := hp_266.pl
                  have hw_277 := wr_r (μ := μ263)
                  have hxt_278 : mEXT μ μ263 := hxt_250.tr hp_275
                  have hX_279 : ∀ _ : Unit, bd μ263 = 0 → mPX μ μ263 tt 1 1 (11 * (9 - nn μ) - 3) [] := fun _ h0 => (((hX_246 ()) (by have e9 : bd μ234 = bd μ234 := rfl; have e8 : bd μ263 = bd μ263 := rfl; omega)).app (hp_274 () h0) (by omega)).ee (by omega)
                  refine lv_goto (tgt := 223) hx hb dX12_worded_212 (by decide) ?_
                  exact xr_v G hret hlk dX12_worded_223 ⟨(Fr.tr (Fr.tr (Fr.tr (Fr.tr Fr.rf F_210 (by decide)) F_222 (by decide)) F_236 (by decide)) F_264 (by decide)), (fun j hj => ((hp_265 j (fun h9 => hj ((by decide : ∀ x ∈ ([6, 8, 9, 10, 11, 12, 13, 15, 16, 17, 18, 22, 29, 39] : List Int), x ∈ ([6, 8, 9, 10, 11, 12, 13, 15, 16, 17, 18, 22, 29, 39] : List Int)) j h9))).trans ((hp_237 j (fun h9 => hj ((by decide : ∀ x ∈ ([6, 8, 9, 10, 11, 12, 13, 15] : List Int), x ∈ ([6, 8, 9, 10, 11, 12, 13, 15, 16, 17, 18, 22, 29, 39] : List Int)) j h9))).trans ((hp_223 j (fun h9 => hj ((by decide : ∀ x ∈ ([6, 8, 9, 10, 11, 12, 13, 15] : List Int), x ∈ ([6, 8, 9, 10, 11, 12, 13, 15, 16, 17, 18, 22, 29, 39] : List Int)) j h9))).trans (hp_211 j (fun h9 => hj ((by decide : ∀ x ∈ ([6, 8, 9, 10, 11, 12, 13, 15] : List Int), x ∈ ([6, 8, 9, 10, 11, 12, 13, 15, 16, 17, 18, 22, 29, 39] : List Int)) j h9))))))), hp_266, (by omega), (by omega), (by omega), (by omega), (by omega), (by omega), (fun j hj => ((hp_273 j (by omega)).trans ((F_236.1 126 (by decide) j).trans ((F_222.1 126 (by decide) j).trans (F_210.1 126 (by decide) j))))), (fun _ h0 => (mPX.ex ((hX_279 ()) h0)).e (by omega)), hxt_278⟩
              · refine lv_aload_n hx hb dX12_worded_150 rfl (lv_at hl 1 rfl) ?_
                refine xc_vV G (b := 111) (rest := []) (As := []) (c_X12_next ω l μ  hPM (by omega) (by omega)) (wm 9 0 rfl rfl) (wm 9 2 rfl rfl) (wm 0 119 rfl rfl) rfl rfl (by decide) rfl (wm 1 18 rfl rfl) (wm 9 3 rfl rfl) (by decide) hR ⟨nfr hF (by decide), nlo hLo (by decide)⟩ (n := 0) rfl rfl (Nat.le_of_ble_eq_true rfl) hl.1 dX12_worded_151 (fun μ280 ρ d0 H locs hp G => ?_)
                obtain ⟨F_281, hp_282, hp_283, hp_284, hp_285, hp_286⟩ := hp
                have hpl_287 := hp_283.pl
                have hw_288 := wr_r (μ := μ280)
                refine lv_aload_n hx hb dX12_worded_154 rfl (lv_at hl 1 rfl) ?_
                refine lv_bipush (v := iv 40) hx hb dX12_worded_155 rfl ?_
                have e_289 : μ280.1 111 29 = μ.1 111 29 := (hp_282 29 (by decide))
                have e_291 : μ280.1 111 29 = μ.1 111 29 := (hp_282 29 (by decide))
                have hX_290 : ∀ _ : Unit, bd μ280 = 0 → mPX μ μ280 tt 0 1 (11 * (9 - nn μ) - 3) [] := fun _ h0 => (hX_1 () (by have e9 : bd μ = bd μ := rfl; have e8 : bd μ280 = bd μ280 := rfl; omega)).qm (q0m.fr (K := [111]) (Fr.tr Fr.rf F_281 (by decide)) (by decide) (by decide) (by decide) (hp_282 22 (by decide)) (by omega))
                refine xc_vV G (b := 111) (rest := []) (As := [.int (iv 40)]) (c_X12_opensWith ω l μ280 40 (by unfold ir; omega) hp_283 (by omega) (by omega)) (wm 9 86 rfl rfl) (wm 9 88 rfl rfl) (wm 0 134 rfl rfl) rfl rfl (by decide) rfl (wm 1 18 rfl rfl) (wm 9 89 rfl rfl) (by decide) hR ⟨nfr hF (by decide), nlo hLo (by decide)⟩ (n := 1) rfl rfl (Nat.le_of_ble_eq_true rfl) hl.1 dX12_worded_157 (fun μ292 ρ d0 H locs hp G => ?_)
                obtain ⟨F_293, hp_294, hp_295, hp_296, hp_297, hp_298, hp_299⟩ := hp
                have hpl_300 := hp_295.pl
                have hw_301 := wr_r (μ := μ292)
                refine lv_aload_n hx hb dX12_worded_160 rfl (lv_at hl 1 rfl) ?_
                have e_302 : μ292.1 111 29 = μ.1 111 29 := ((hp_294 29 (by decide)).trans (hp_282 29 (by decide)))
                have e_304 : μ292.1 111 29 = μ.1 111 29 := ((hp_294 29 (by decide)).trans (hp_282 29 (by decide)))
                have hX_303 : ∀ _ : Unit, bd μ292 = 0 → mPX μ μ292 tt 0 1 (11 * (9 - nn μ) - 3) [] := fun _ h0 => (hX_290 () (by have e9 : bd μ280 = bd μ280 := rfl; have e8 : bd μ292 = bd μ292 := rfl; omega)).qm (q0m.fr (K := [111]) (Fr.tr Fr.rf F_293 (by decide)) (by decide) (by decide) (by decide) ((((hp_294 22 (by decide)).trans (hp_282 22 (by decide)))).trans ((hp_282 22 (by decide))).symm) (by omega))
                have e_305 : μ292.1 111 29 = μ.1 111 29 := ((hp_294 29 (by decide)).trans (hp_282 29 (by decide)))
                have e_306 : μ292.1 111 29 = μ.1 111 29 := ((hp_294 29 (by decide)).trans (hp_282 29 (by decide)))
                have hxt_307 : mEXT μ μ292 := (q0m.fr (K := [111]) (Fr.tr (Fr.tr Fr.rf F_281 (by decide)) F_293 (by decide)) (by decide) (by decide) (by decide) ((hp_294 22 (by decide)).trans (hp_282 22 (by decide))) (by omega)).1
                have e_308 : μ292.1 111 14 = tt := ((hp_294 14 (by decide)).trans ((hp_282 14 (by decide)).trans htt.symm))
                have e_309 : μ292.1 111 22 = μ.1 111 22 := ((hp_294 22 (by decide)).trans (hp_282 22 (by decide)))
                have e_310 : μ292.1 111 22 = μ.1 111 22 := ((hp_294 22 (by decide)).trans (hp_282 22 (by decide)))
                have e_311 : μ292.1 111 39 = μ.1 111 39 := ((hp_294 39 (by decide)).trans (hp_282 39 (by decide)))
                have e_312 : μ292.1 111 39 = μ.1 111 39 := ((hp_294 39 (by decide)).trans (hp_282 39 (by decide)))
                have e_313 : μ292.1 111 22 = μ.1 111 22 := ((hp_294 22 (by decide)).trans (hp_282 22 (by decide)))
                have e_314 : μ292.1 111 31 = μ.1 111 31 := ((hp_294 31 (by decide)).trans (hp_282 31 (by decide)))
                have e_315 : μ292.1 111 31 = μ.1 111 31 := ((hp_294 31 (by decide)).trans (hp_282 31 (by decide)))
                have e_316 : μ292.1 111 22 = μ.1 111 22 := ((hp_294 22 (by decide)).trans (hp_282 22 (by decide)))
                have e_317 : μ292.1 111 22 = μ.1 111 22 := ((hp_294 22 (by decide)).trans (hp_282 22 (by decide)))
                have e_318 : μ292.1 111 29 = μ.1 111 29 := ((hp_294 29 (by decide)).trans (hp_282 29 (by decide)))
                have e_319 : μ292.1 111 39 = μ.1 111 39 := ((hp_294 39 (by decide)).trans (hp_282 39 (by decide)))
                refine xc_vV G (b := 111) (rest := []) (As := []) (((fun (_ : Om) (_ : Launch) => hE)) ω l μ292 tt (by omega) hp_295 (by omega) (by omega) (by omega) (by omega) (by omega) (by omega) (fun _ h0 => ((hX_303 ()) h0).h1.1)) (wm 9 139 rfl rfl) (wm 9 141 rfl rfl) (wm 0 147 rfl rfl) rfl rfl (by decide) rfl (wm 1 18 rfl rfl) (wm 9 142 rfl rfl) (by decide) hR ⟨sfr (F := F) (a := 0) (by decide), slo (L := Lo) (m := 1) (a := 0) (by decide)⟩ (n := 0) rfl rfl (Nat.le_of_ble_eq_true rfl) hl.1 dX12_worded_161 (fun μ320 ρ d0 H locs hp G => ?_)
                obtain ⟨F_321, hp_322, hp_323, hp_324, hp_325, hp_326, hp_327, hp_328, hp_329, hp_330, hp_331, hp_332⟩ := hp
                have hpl_333 := hp_323.pl
                have hw_334 := wr_r (μ := μ320)
                have hxt_335 : mEXT μ μ320 := hxt_307.tr hp_332
                have hX_336 : ∀ _ : Unit, bd μ320 = 0 → mPX μ μ320 tt 1 1 (11 * (9 - nn μ) - 3) [] := fun _ h0 => (((hX_303 ()) (by have e9 : bd μ292 = bd μ292 := rfl; have e8 : bd μ320 = bd μ320 := rfl; omega)).app (hp_331 () h0) (by omega)).ee (by omega)
                refine lv_aload_n hx hb dX12_worded_164 rfl (lv_at hl 1 rfl) ?_
                refine lv_bipush (v := iv 41) hx hb dX12_worded_165 rfl ?_
                refine xc_vV G (b := 111) (rest := []) (As := [.int (iv 41)]) (c_X12_closesWith ω l μ320 41 (by unfold ir; omega) hp_323 (by omega) (by omega)) (wm 9 110 rfl rfl) (wm 9 112 rfl rfl) (wm 0 140 rfl rfl) rfl rfl (by decide) rfl (wm 1 18 rfl rfl) (wm 9 113 rfl rfl) (by decide) hR ⟨nfr hF (by decide), nlo hLo (by decide)⟩ (n := 1) rfl rfl (Nat.le_of_ble_eq_true rfl) hl.1 dX12_worded_167 (fun μ337 ρ d0 H locs hp G => ?_)
                obtain ⟨F_338, hp_339, hp_340, hp_341, hp_342, hp_343, hp_344⟩ := hp
                have hpl_345 := hp_340.pl
                have hw_346 := wr_r (μ := μ337)
                refine lv_aload_n hx hb dX12_worded_170 rfl (lv_at hl 1 rfl) ?_
                refine lv_bipush (v := iv 30) hx hb dX12_worded_171 rfl ?_
                refine lv_lconst (v := jv 0) hx hb dX12_worded_173 rfl ?_
                refine lv_iconst (v := iv 0) hx hb dX12_worded_174 rfl ?_
                have e_347 : μ337.1 111 29 = μ320.1 111 29 := (hp_339 29 (by decide))
                have e_349 : μ337.1 111 29 = μ320.1 111 29 := (hp_339 29 (by decide))
                have hX_348 : ∀ _ : Unit, bd μ337 = 0 → mPX μ μ337 tt 1 1 (11 * (9 - nn μ) - 3) [] := fun _ h0 => (hX_336 () (by have e9 : bd μ320 = bd μ320 := rfl; have e8 : bd μ337 = bd μ337 := rfl; omega)).qm (q0m.fr (K := [111]) (Fr.tr Fr.rf F_338 (by decide)) (by decide) (by decide) (by decide) (hp_339 22 (by decide)) (by omega))
                have e_350 : μ337.1 111 29 = μ320.1 111 29 := (hp_339 29 (by decide))
                have e_351 : μ337.1 111 29 = μ320.1 111 29 := (hp_339 29 (by decide))
                have hxt_352 : mEXT μ μ337 := hxt_335.tr (q0m.fr (K := [111]) (Fr.tr Fr.rf F_338 (by decide)) (by decide) (by decide) (by decide) (hp_339 22 (by decide)) (by omega)).1
                have e_353 : μ337.1 111 22 = μ320.1 111 22 := (hp_339 22 (by decide))
                have e_354 : μ337.1 111 22 = μ320.1 111 22 := (hp_339 22 (by decide))
                have e_355 : μ337.1 111 22 = μ320.1 111 22 := (hp_339 22 (by decide))
                have e_356 : μ337.1 111 22 = μ320.1 111 22 := (hp_339 22 (by decide))
                refine xc_iV G (b := 111) (rest := []) (As := [.int (iv 30), .long (jv 0), .int (iv 0)]) (c_X12_emit ω l μ337 30 0 0 (by unfold ir; omega) (by unfold jr; omega) (by unfold ir; omega) (by omega)) (wm 9 126 rfl rfl) (wm 9 128 rfl rfl) (wm 0 144 rfl rfl) rfl rfl (by decide) rfl (wm 1 18 rfl rfl) (wm 9 129 rfl rfl) (by decide) hR ⟨nfr hF (by decide), nlo hLo (by decide)⟩ (n := 3) rfl rfl (Nat.le_of_ble_eq_true rfl) hl.1 dX12_worded_175 (fun r_358 μ357 ρ d0 H locs hr_r_358 hp G => ?_)
                have hr_r_358 : -2147483648 ≤ r_358 ∧ r_358 ≤ 2147483647 := hr_r_358
                obtain ⟨F_359, hp_360, hp_361, hp_362, hp_363⟩ := hp
                have hxt_364 : mEXT μ μ357 := hxt_352.tr hp_361.1
                have e_365 : wr μ357 = wr μ337 := (wr_cg (hp_360 15 (by decide)))
                have e_366 : bd μ357 = bd μ337 := (bd_cg (hp_360 15 (by decide)) (hp_360 16 (by decide)))
                have e_367 : nn μ357 = nn μ337 := (nn_cg (hp_360 15 (by decide)) (hp_360 18 (by decide)))
                have e_369 : μ357.1 111 29 = μ320.1 111 29 := ((hp_360 29 (by decide)).trans (hp_339 29 (by decide)))
                have hX_368 : ∀ _ : Unit, bd μ357 = 0 → mPX μ μ357 tt 1 1 (11 * (9 - nn μ) - 3) [] := fun _ h0 => ((((hX_348 ()) (by have e9 : bd μ337 = bd μ337 := rfl; have e8 : bd μ357 = bd μ337 := (bd_cg (hp_360 15 (by decide)) (hp_360 16 (by decide))); omega))).app (mAD.ex (t := tt) (e := 0) hp_361 ((hX_348 ()) (by have e9 : bd μ337 = bd μ337 := rfl; have e8 : bd μ357 = bd μ337 := (bd_cg (hp_360 15 (by decide)) (hp_360 16 (by decide))); omega)).h1.1 (by unfold mpl; omega) rfl (by have h9 := ((hX_348 ()) (by have e9 : bd μ337 = bd μ337 := rfl; have e8 : bd μ357 = bd μ337 := (bd_cg (hp_360 15 (by decide)) (hp_360 16 (by decide))); omega)).h1; omega) ⟨fun q => absurd q (by decide), fun q => absurd q (by decide), fun _ => by have h9 := ((hX_348 ()) (by have e9 : bd μ337 = bd μ337 := rfl; have e8 : bd μ357 = bd μ337 := (bd_cg (hp_360 15 (by decide)) (hp_360 16 (by decide))); omega)).h1; rw [(hp_361.1.fo (t := tt) _ (Int.le_refl _)).1]; omega, fun q => absurd q (by decide), fun q => absurd q (by decide), fun q => absurd q (by decide), fun q => absurd q (by decide), fun q => absurd q (by decide), fun q => absurd q (by decide), fun q => absurd q (by decide), fun q => absurd q (by decide), fun q => absurd q (by decide), fun q => absurd q (by decide), fun q => absurd q (by decide), fun q => absurd q (by decide), fun q => absurd q (by decide), fun q => absurd q (by decide), fun q => absurd q (by decide), fun q => absurd q (by decide), fun q => absurd q (by decide), fun q => absurd q (by decide), fun q => absurd q (by decide), ⟨by decide, by decide⟩⟩) (by have h9 := ((hX_348 ()) (by have e9 : bd μ337 = bd μ337 := rfl; have e8 : bd μ357 = bd μ337 := (bd_cg (hp_360 15 (by decide)) (hp_360 16 (by decide))); omega)).h1; omega)).ee (by omega)
                refine lv_pop hx hb dX12_worded_178 rfl ?_
                refine lv_goto (tgt := 223) hx hb dX12_worded_179 (by decide) ?_
                have e_370 : μ357.1 111 9 = μ337.1 111 9 := (hp_360 9 (by decide))
                have e_371 : μ357.1 111 29 = μ320.1 111 29 := ((hp_360 29 (by decide)).trans (hp_339 29 (by decide)))
                have e_372 : μ357.1 111 39 = μ320.1 111 39 := ((hp_360 39 (by decide)).trans (hp_339 39 (by decide)))
                have e_373 : wr μ357 = wr μ337 := (wr_cg (hp_360 15 (by decide)))
                have e_374 : bd μ357 = bd μ337 := (bd_cg (hp_360 15 (by decide)) (hp_360 16 (by decide)))
                have e_375 : nn μ357 = nn μ337 := (nn_cg (hp_360 15 (by decide)) (hp_360 18 (by decide)))
                have hPM_376 : PM μ357 := hp_340.cg ((((hp_360 4 (by decide)).trans ((hp_339 4 (by decide)).trans ((hp_322 4 (by decide)).trans ((hp_294 4 (by decide)).trans (hp_282 4 (by decide))))))).trans (((hp_339 4 (by decide)).trans ((hp_322 4 (by decide)).trans ((hp_294 4 (by decide)).trans (hp_282 4 (by decide)))))).symm) (hp_360 6 (by decide)) ((((hp_360 7 (by decide)).trans ((hp_339 7 (by decide)).trans ((hp_322 7 (by decide)).trans ((hp_294 7 (by decide)).trans (hp_282 7 (by decide))))))).trans (((hp_339 7 (by decide)).trans ((hp_322 7 (by decide)).trans ((hp_294 7 (by decide)).trans (hp_282 7 (by decide)))))).symm) (hp_360 8 (by decide)) (hp_360 9 (by decide)) (hp_360 11 (by decide)) (hp_360 12 (by decide)) ((((hp_360 14 (by decide)).trans ((hp_339 14 (by decide)).trans ((hp_322 14 (by decide)).trans ((hp_294 14 (by decide)).trans ((hp_282 14 (by decide)).trans htt.symm)))))).trans (((hp_339 14 (by decide)).trans ((hp_322 14 (by decide)).trans ((hp_294 14 (by decide)).trans ((hp_282 14 (by decide)).trans htt.symm))))).symm) (hp_360 15 (by decide)) ((((hp_360 29 (by decide)).trans (hp_339 29 (by decide)))).trans ((hp_339 29 (by decide))).symm) (fun j => (F_359.1 123 (by decide) j))
                have e_377 : μ357.1 111 9 = μ337.1 111 9 := (hp_360 9 (by decide))
                have e_378 : wr μ357 = wr μ337 := (wr_cg (hp_360 15 (by decide)))
                have e_379 : μ357.1 111 9 = μ337.1 111 9 := (hp_360 9 (by decide))
                have e_380 : μ357.1 111 29 = μ320.1 111 29 := ((hp_360 29 (by decide)).trans (hp_339 29 (by decide)))
                have e_381 : wr μ357 = wr μ337 := (wr_cg (hp_360 15 (by decide)))
                have e_382 : bd μ357 = bd μ337 := (bd_cg (hp_360 15 (by decide)) (hp_360 16 (by decide)))
                have e_383 : wr μ357 = wr μ337 := (wr_cg (hp_360 15 (by decide)))
                have e_384 : nn μ357 = nn μ337 := (nn_cg (hp_360 15 (by decide)) (hp_360 18 (by decide)))
                have e_385 : μ357.1 111 39 = μ320.1 111 39 := ((hp_360 39 (by decide)).trans (hp_339 39 (by decide)))
                exact xr_v G hret hlk dX12_worded_223 ⟨(Fr.tr (Fr.tr (Fr.tr (Fr.tr (Fr.tr Fr.rf F_281 (by decide)) F_293 (by decide)) F_321 (by decide)) F_338 (by decide)) F_359 (by decide)), (fun j hj => ((hp_360 j (fun h9 => hj ((by decide : ∀ x ∈ ([22] : List Int), x ∈ ([6, 8, 9, 10, 11, 12, 13, 15, 16, 17, 18, 22, 29, 39] : List Int)) j h9))).trans ((hp_339 j (fun h9 => hj ((by decide : ∀ x ∈ ([6, 8, 9, 10, 11, 12, 13, 15, 18] : List Int), x ∈ ([6, 8, 9, 10, 11, 12, 13, 15, 16, 17, 18, 22, 29, 39] : List Int)) j h9))).trans ((hp_322 j (fun h9 => hj ((by decide : ∀ x ∈ ([6, 8, 9, 10, 11, 12, 13, 15, 16, 17, 18, 22, 29, 39] : List Int), x ∈ ([6, 8, 9, 10, 11, 12, 13, 15, 16, 17, 18, 22, 29, 39] : List Int)) j h9))).trans ((hp_294 j (fun h9 => hj ((by decide : ∀ x ∈ ([6, 8, 9, 10, 11, 12, 13, 15, 18] : List Int), x ∈ ([6, 8, 9, 10, 11, 12, 13, 15, 16, 17, 18, 22, 29, 39] : List Int)) j h9))).trans (hp_282 j (fun h9 => hj ((by decide : ∀ x ∈ ([6, 8, 9, 10, 11, 12, 13, 15] : List Int), x ∈ ([6, 8, 9, 10, 11, 12, 13, 15, 16, 17, 18, 22, 29, 39] : List Int)) j h9)))))))), hPM_376, (by omega), (by omega), (by omega), (by omega), (by omega), (by omega), (fun j hj => ((F_359.1 126 (by decide) j).trans ((F_338.1 126 (by decide) j).trans ((hp_330 j (by omega)).trans ((F_293.1 126 (by decide) j).trans (F_281.1 126 (by decide) j)))))), (fun _ h0 => (mPX.ex ((hX_368 ()) h0)).e (by omega)), hxt_364⟩
          · refine lv_aload_n hx hb dX12_worded_105 rfl (lv_at hl 1 rfl) ?_
            refine xa_geti G fd_X12 (a := 111) (x := tt) 14 rfl (by decide) rfl (wm 7 163 rfl rfl) ⟨rfl, rfl, rfl⟩ dX12_worded_106 rfl htt.symm ?_
            have hr_386 : -2147483648 ≤ tt ∧ tt ≤ 2147483647 := by have h9 := G.hr (a := 111) (k := 14) rfl; rw [show μ.1 111 14 = tt from htt.symm] at h9; exact h9
            refine lv_iconst (v := iv 2) hx hb dX12_worded_109 rfl ?_
            refine xb_icmp_ne (tgt := 136) hx hb (by unfold ir; omega) (by unfold ir; omega) dX12_worded_110 (by decide) (fun c_110 => ?_) (fun c_110 => ?_)
            · refine lv_iload_n hx hb dX12_worded_136 rfl (lv_at hl 0 rfl) ?_
              refine lv_bipush (v := iv 27) hx hb dX12_worded_137 rfl ?_
              refine xb_icmp_ne (tgt := 182) hx hb (by unfold ir; omega) (by unfold ir; omega) dX12_worded_139 (by decide) (fun c_139 => ?_) (fun c_139 => ?_)
              · refine lv_iload_n hx hb dX12_worded_182 rfl (lv_at hl 0 rfl) ?_
                refine lv_bipush (v := iv 29) hx hb dX12_worded_183 rfl ?_
                refine xb_icmp_lt (tgt := 215) hx hb (by unfold ir; omega) (by unfold ir; omega) dX12_worded_185 (by decide) (fun c_185 => ?_) (fun c_185 => ?_)
                · refine lv_aload_n hx hb dX12_worded_215 rfl (lv_at hl 1 rfl) ?_
                  refine lv_aload_n hx hb dX12_worded_216 rfl (lv_at hl 1 rfl) ?_
                  refine xa_geti G fd_X12 (a := 111) (x := μ.1 111 9) 9 rfl (by decide) rfl (wm 7 158 rfl rfl) ⟨rfl, rfl, rfl⟩ dX12_worded_217 rfl rfl ?_
                  have hr_387 : -2147483648 ≤ μ.1 111 9 ∧ μ.1 111 9 ≤ 2147483647 := by have h9 := G.hr (a := 111) (k := 9) rfl; exact h9
                  refine xc_vV G (b := 111) (rest := []) (As := [.int (iv (μ.1 111 9))]) (c_X12_wrong ω l μ (μ.1 111 9) (by unfold ir; omega) (by omega)) (wm 9 22 rfl rfl) (wm 9 24 rfl rfl) (wm 0 123 rfl rfl) rfl rfl (by decide) rfl (wm 1 18 rfl rfl) (wm 9 25 rfl rfl) (by decide) hR ⟨nfr hF (by decide), nlo hLo (by decide)⟩ (n := 1) rfl rfl (Nat.le_of_ble_eq_true rfl) hl.1 dX12_worded_220 (fun μ388 ρ d0 H locs hp G => ?_)
                  obtain ⟨F_389, hp_390, hp_391⟩ := hp
                  have hw_392 := wr_r (μ := μ388)
                  have e_393 : μ388.1 111 22 = μ.1 111 22 := (hp_390 22 (by decide))
                  have e_394 : μ388.1 111 9 = μ.1 111 9 := (hp_390 9 (by decide))
                  have e_395 : μ388.1 111 29 = μ.1 111 29 := (hp_390 29 (by decide))
                  have e_396 : μ388.1 111 39 = μ.1 111 39 := (hp_390 39 (by decide))
                  have e_397 : μ388.1 111 29 = μ.1 111 29 := (hp_390 29 (by decide))
                  have e_399 : μ388.1 111 29 = μ.1 111 29 := (hp_390 29 (by decide))
                  have hX_398 : ∀ _ : Unit, bd μ388 = 0 → mPX μ μ388 tt 0 1 (11 * (9 - nn μ) - 3) [] := fun _ h0 => (hX_1 () (by have e9 : bd μ = bd μ := rfl; have e8 : bd μ388 = bd μ388 := rfl; omega)).qm (q0m.fr (K := [111]) (Fr.tr Fr.rf F_389 (by decide)) (by decide) (by decide) (by decide) (hp_390 22 (by decide)) (by omega))
                  have hPM_400 : PM μ388 := hPM.wg (hp_390 4 (by decide)) (hp_390 6 (by decide)) (hp_390 7 (by decide)) (hp_390 8 (by decide)) (hp_390 9 (by decide)) (hp_390 11 (by decide)) (hp_390 12 (by decide)) ((((hp_390 14 (by decide)).trans htt.symm)).trans (htt.symm).symm) (by omega) (hp_390 29 (by decide)) (fun j => (F_389.1 123 (by decide) j))
                  have e_401 : μ388.1 111 29 = μ.1 111 29 := (hp_390 29 (by decide))
                  have hxt_402 : mEXT μ μ388 := (q0m.fr (K := [111]) (Fr.tr Fr.rf F_389 (by decide)) (by decide) (by decide) (by decide) (hp_390 22 (by decide)) (by omega)).1
                  have e_403 : μ388.1 111 22 = μ.1 111 22 := (hp_390 22 (by decide))
                  have e_404 : μ388.1 111 22 = μ.1 111 22 := (hp_390 22 (by decide))
                  have e_405 : μ388.1 111 9 = μ.1 111 9 := (hp_390 9 (by decide))
                  have e_406 : μ388.1 111 9 = μ.1 111 9 := (hp_390 9 (by decide))
                  have e_407 : μ388.1 111 29 = μ.1 111 29 := (hp_390 29 (by decide))
                  have e_408 : μ388.1 111 39 = μ.1 111 39 := (hp_390 39 (by decide))
                  exact xr_v G hret hlk dX12_worded_223 ⟨(Fr.tr Fr.rf F_389 (by decide)), (fun j hj => (hp_390 j (fun h9 => hj ((by decide : ∀ x ∈ ([15] : List Int), x ∈ ([6, 8, 9, 10, 11, 12, 13, 15, 16, 17, 18, 22, 29, 39] : List Int)) j h9)))), hPM_400, (by omega), (by omega), (by omega), (by omega), (by omega), (by omega), (fun j hj => (F_389.1 126 (by decide) j)), (fun _ h0 => (mPX.ex ((hX_398 ()) h0)).e (by omega)), hxt_402⟩
                · refine lv_aload_n hx hb dX12_worded_188 rfl (lv_at hl 1 rfl) ?_
                  refine xc_vV G (b := 111) (rest := []) (As := []) (c_X12_next ω l μ  hPM (by omega) (by omega)) (wm 9 0 rfl rfl) (wm 9 2 rfl rfl) (wm 0 119 rfl rfl) rfl rfl (by decide) rfl (wm 1 18 rfl rfl) (wm 9 3 rfl rfl) (by decide) hR ⟨nfr hF (by decide), nlo hLo (by decide)⟩ (n := 0) rfl rfl (Nat.le_of_ble_eq_true rfl) hl.1 dX12_worded_189 (fun μ409 ρ d0 H locs hp G => ?_)
                  obtain ⟨F_410, hp_411, hp_412, hp_413, hp_414, hp_415⟩ := hp
                  have hpl_416 := hp_412.pl
                  have hw_417 := wr_r (μ := μ409)
                  refine lv_aload_n hx hb dX12_worded_192 rfl (lv_at hl 1 rfl) ?_
                  refine lv_bipush (v := iv 46) hx hb dX12_worded_193 rfl ?_
                  have e_418 : μ409.1 111 29 = μ.1 111 29 := (hp_411 29 (by decide))
                  have e_420 : μ409.1 111 29 = μ.1 111 29 := (hp_411 29 (by decide))
                  have hX_419 : ∀ _ : Unit, bd μ409 = 0 → mPX μ μ409 tt 0 1 (11 * (9 - nn μ) - 3) [] := fun _ h0 => (hX_1 () (by have e9 : bd μ = bd μ := rfl; have e8 : bd μ409 = bd μ409 := rfl; omega)).qm (q0m.fr (K := [111]) (Fr.tr Fr.rf F_410 (by decide)) (by decide) (by decide) (by decide) (hp_411 22 (by decide)) (by omega))
                  refine xc_vV G (b := 111) (rest := []) (As := [.int (iv 46)]) (c_X12_wantsSign ω l μ409 46 (by unfold ir; omega) hp_412 (by omega)) (wm 9 114 rfl rfl) (wm 9 116 rfl rfl) (wm 0 141 rfl rfl) rfl rfl (by decide) rfl (wm 1 18 rfl rfl) (wm 9 117 rfl rfl) (by decide) hR ⟨nfr hF (by decide), nlo hLo (by decide)⟩ (n := 1) rfl rfl (Nat.le_of_ble_eq_true rfl) hl.1 dX12_worded_195 (fun μ421 ρ d0 H locs hp G => ?_)
                  obtain ⟨F_422, hp_423, hp_424, hp_425, hp_426, hp_427, hp_428⟩ := hp
                  have hpl_429 := hp_424.pl
                  have hw_430 := wr_r (μ := μ421)
                  refine lv_aload_n hx hb dX12_worded_198 rfl (lv_at hl 1 rfl) ?_
                  have e_431 : μ421.1 111 29 = μ.1 111 29 := ((hp_423 29 (by decide)).trans (hp_411 29 (by decide)))
                  have e_433 : μ421.1 111 29 = μ.1 111 29 := ((hp_423 29 (by decide)).trans (hp_411 29 (by decide)))
                  have hX_432 : ∀ _ : Unit, bd μ421 = 0 → mPX μ μ421 tt 0 1 (11 * (9 - nn μ) - 3) [] := fun _ h0 => (hX_419 () (by have e9 : bd μ409 = bd μ409 := rfl; have e8 : bd μ421 = bd μ421 := rfl; omega)).qm (q0m.fr (K := [111]) (Fr.tr Fr.rf F_422 (by decide)) (by decide) (by decide) (by decide) ((((hp_423 22 (by decide)).trans (hp_411 22 (by decide)))).trans ((hp_411 22 (by decide))).symm) (by omega))
                  refine xc_lV G (b := 111) (rest := []) (As := []) (c_X12_takesName ω l μ421  hp_424 (by omega)) (wm 9 70 rfl rfl) (wm 9 72 rfl rfl) (wm 0 130 rfl rfl) rfl rfl (by decide) rfl (wm 1 18 rfl rfl) (wm 9 73 rfl rfl) (by decide) hR ⟨nfr hF (by decide), nlo hLo (by decide)⟩ (n := 0) rfl rfl (Nat.le_of_ble_eq_true rfl) hl.1 dX12_worded_199 (fun r_435 μ434 ρ d0 H locs hr_r_435 hp G => ?_)
                  obtain ⟨F_436, hp_437, hp_438, hp_439, hp_440, hp_441, hp_442⟩ := hp
                  have hpl_443 := hp_438.pl
                  have hw_444 := wr_r (μ := μ434)
                  refine lv_lstore_n (lv' := [(2, .long (jv r_435)), (1, .int (iv (μ.1 111 11))), (0, .ref (oP ω 111))]) hx hb dX12_worded_202 rfl hl (by decide) rfl (fun ls hl => ?_)
                  refine lv_aload_n hx hb dX12_worded_203 rfl (lv_at hl 2 rfl) ?_
                  refine lv_iload_n hx hb dX12_worded_204 rfl (lv_at hl 1 rfl) ?_
                  refine lv_bipush (v := iv 29) hx hb dX12_worded_205 rfl ?_
                  refine xb_isub hx hb dX12_worded_207 ?_
                  refine lv_lload_n hx hb dX12_worded_208 rfl (lv_at hl 0 rfl) ?_
                  have e_445 : μ434.1 111 29 = μ.1 111 29 := ((hp_437 29 (by decide)).trans ((hp_423 29 (by decide)).trans (hp_411 29 (by decide))))
                  have e_447 : μ434.1 111 29 = μ.1 111 29 := ((hp_437 29 (by decide)).trans ((hp_423 29 (by decide)).trans (hp_411 29 (by decide))))
                  have hX_446 : ∀ _ : Unit, bd μ434 = 0 → mPX μ μ434 tt 0 1 (11 * (9 - nn μ) - 3) [] := fun _ h0 => (hX_432 () (by have e9 : bd μ421 = bd μ421 := rfl; have e8 : bd μ434 = bd μ434 := rfl; omega)).qm (q0m.fr (K := [111]) (Fr.tr Fr.rf F_436 (by decide)) (by decide) (by decide) (by decide) ((((hp_437 22 (by decide)).trans ((hp_423 22 (by decide)).trans (hp_411 22 (by decide))))).trans (((hp_423 22 (by decide)).trans (hp_411 22 (by decide)))).symm) (by omega))
                  have e_448 : μ434.1 111 29 = μ.1 111 29 := ((hp_437 29 (by decide)).trans ((hp_423 29 (by decide)).trans (hp_411 29 (by decide))))
                  have e_449 : μ434.1 111 29 = μ.1 111 29 := ((hp_437 29 (by decide)).trans ((hp_423 29 (by decide)).trans (hp_411 29 (by decide))))
                  have hxt_450 : mEXT μ μ434 := (q0m.fr (K := [111]) (Fr.tr (Fr.tr (Fr.tr Fr.rf F_410 (by decide)) F_422 (by decide)) F_436 (by decide)) (by decide) (by decide) (by decide) ((hp_437 22 (by decide)).trans ((hp_423 22 (by decide)).trans (hp_411 22 (by decide)))) (by omega)).1
                  have e_451 : μ434.1 111 14 = tt := ((hp_437 14 (by decide)).trans ((hp_423 14 (by decide)).trans ((hp_411 14 (by decide)).trans htt.symm)))
                  have e_452 : μ434.1 111 22 = μ.1 111 22 := ((hp_437 22 (by decide)).trans ((hp_423 22 (by decide)).trans (hp_411 22 (by decide))))
                  have e_453 : μ434.1 111 22 = μ.1 111 22 := ((hp_437 22 (by decide)).trans ((hp_423 22 (by decide)).trans (hp_411 22 (by decide))))
                  have e_454 : μ434.1 111 39 = μ.1 111 39 := ((hp_437 39 (by decide)).trans ((hp_423 39 (by decide)).trans (hp_411 39 (by decide))))
                  have e_455 : μ434.1 111 39 = μ.1 111 39 := ((hp_437 39 (by decide)).trans ((hp_423 39 (by decide)).trans (hp_411 39 (by decide))))
                  have e_456 : μ434.1 111 22 = μ.1 111 22 := ((hp_437 22 (by decide)).trans ((hp_423 22 (by decide)).trans (hp_411 22 (by decide))))
                  have e_457 : μ434.1 111 31 = μ.1 111 31 := ((hp_437 31 (by decide)).trans ((hp_423 31 (by decide)).trans (hp_411 31 (by decide))))
                  have e_458 : μ434.1 111 31 = μ.1 111 31 := ((hp_437 31 (by decide)).trans ((hp_423 31 (by decide)).trans (hp_411 31 (by decide))))
                  have e_459 : μ434.1 111 22 = μ.1 111 22 := ((hp_437 22 (by decide)).trans ((hp_423 22 (by decide)).trans (hp_411 22 (by decide))))
                  have e_460 : μ434.1 111 22 = μ.1 111 22 := ((hp_437 22 (by decide)).trans ((hp_423 22 (by decide)).trans (hp_411 22 (by decide))))
                  have e_461 : μ434.1 111 29 = μ.1 111 29 := ((hp_437 29 (by decide)).trans ((hp_423 29 (by decide)).trans (hp_411 29 (by decide))))
                  have e_462 : μ434.1 111 39 = μ.1 111 39 := ((hp_437 39 (by decide)).trans ((hp_423 39 (by decide)).trans (hp_411 39 (by decide))))
                  refine xc_vV G (b := 111) (rest := []) (As := [.int (iv ((μ.1 111 11) - 29)), .long (jv r_435)]) (c_X12_call ω l μ434 ((μ.1 111 11) - 29) r_435 F Lo Fu Lu kf tt (by unfold ir; omega) hr_r_435 (by omega) hF hLo hFu hLu hE hU hp_438 (by omega) (by omega) (by omega) (by omega) (by omega) (by omega) (fun _ h0 => ((hX_446 ()) h0).h1.1) (by omega)) (wm 9 179 rfl rfl) (wm 9 181 rfl rfl) (wm 0 157 rfl rfl) rfl rfl (by decide) rfl (wm 1 18 rfl rfl) (wm 9 182 rfl rfl) (by decide) hR ⟨sfr (F := F) (a := 2) (by decide), slo (L := Lo) (m := 7) (a := 44) (by decide)⟩ (n := 2) rfl rfl (Nat.le_of_ble_eq_true rfl) hl.1 dX12_worded_209 (fun μ463 ρ d0 H locs hp G => ?_)
                  obtain ⟨F_464, hp_465, hp_466, hp_467, hp_468, hp_469, hp_470, hp_471, hp_472, hp_473, hp_474, hp_475⟩ := hp
                  have hpl_476 := hp_466.pl
                  have hw_477 := wr_r (μ := μ463)
                  have hxt_478 : mEXT μ μ463 := hxt_450.tr hp_475
                  have hX_479 : ∀ _ : Unit, bd μ463 = 0 → mPX μ μ463 tt 1 1 (11 * (9 - nn μ) - 3) [] := fun _ h0 => (((hX_446 ()) (by have e9 : bd μ434 = bd μ434 := rfl; have e8 : bd μ463 = bd μ463 := rfl; omega)).app (hp_474 () h0) (by omega)).ee (by omega)
                  refine lv_goto (tgt := 223) hx hb dX12_worded_212 (by decide) ?_
                  exact xr_v G hret hlk dX12_worded_223 ⟨(Fr.tr (Fr.tr (Fr.tr (Fr.tr Fr.rf F_410 (by decide)) F_422 (by decide)) F_436 (by decide)) F_464 (by decide)), (fun j hj => ((hp_465 j (fun h9 => hj ((by decide : ∀ x ∈ ([6, 8, 9, 10, 11, 12, 13, 15, 16, 17, 18, 22, 29, 39] : List Int), x ∈ ([6, 8, 9, 10, 11, 12, 13, 15, 16, 17, 18, 22, 29, 39] : List Int)) j h9))).trans ((hp_437 j (fun h9 => hj ((by decide : ∀ x ∈ ([6, 8, 9, 10, 11, 12, 13, 15] : List Int), x ∈ ([6, 8, 9, 10, 11, 12, 13, 15, 16, 17, 18, 22, 29, 39] : List Int)) j h9))).trans ((hp_423 j (fun h9 => hj ((by decide : ∀ x ∈ ([6, 8, 9, 10, 11, 12, 13, 15] : List Int), x ∈ ([6, 8, 9, 10, 11, 12, 13, 15, 16, 17, 18, 22, 29, 39] : List Int)) j h9))).trans (hp_411 j (fun h9 => hj ((by decide : ∀ x ∈ ([6, 8, 9, 10, 11, 12, 13, 15] : List Int), x ∈ ([6, 8, 9, 10, 11, 12, 13, 15, 16, 17, 18, 22, 29, 39] : List Int)) j h9))))))), hp_466, (by omega), (by omega), (by omega), (by omega), (by omega), (by omega), (fun j hj => ((hp_473 j (by omega)).trans ((F_436.1 126 (by decide) j).trans ((F_422.1 126 (by decide) j).trans (F_410.1 126 (by decide) j))))), (fun _ h0 => (mPX.ex ((hX_479 ()) h0)).e (by omega)), hxt_478⟩
              · refine lv_aload_n hx hb dX12_worded_142 rfl (lv_at hl 1 rfl) ?_
                refine xa_geti G fd_X12 (a := 111) (x := tt) 14 rfl (by decide) rfl (wm 7 163 rfl rfl) ⟨rfl, rfl, rfl⟩ dX12_worded_143 rfl htt.symm ?_
                refine lv_iconst (v := iv 2) hx hb dX12_worded_146 rfl ?_
                refine xb_icmp_ne (tgt := 182) hx hb (by unfold ir; omega) (by unfold ir; omega) dX12_worded_147 (by decide) (fun c_147 => ?_) (fun c_147 => ?_)
                · refine lv_iload_n hx hb dX12_worded_182 rfl (lv_at hl 0 rfl) ?_
                  refine lv_bipush (v := iv 29) hx hb dX12_worded_183 rfl ?_
                  refine xb_icmp_lt (tgt := 215) hx hb (by unfold ir; omega) (by unfold ir; omega) dX12_worded_185 (by decide) (fun c_185 => ?_) (fun c_185 => ?_)
                  · refine lv_aload_n hx hb dX12_worded_215 rfl (lv_at hl 1 rfl) ?_
                    refine lv_aload_n hx hb dX12_worded_216 rfl (lv_at hl 1 rfl) ?_
                    refine xa_geti G fd_X12 (a := 111) (x := μ.1 111 9) 9 rfl (by decide) rfl (wm 7 158 rfl rfl) ⟨rfl, rfl, rfl⟩ dX12_worded_217 rfl rfl ?_
                    have hr_480 : -2147483648 ≤ μ.1 111 9 ∧ μ.1 111 9 ≤ 2147483647 := by have h9 := G.hr (a := 111) (k := 9) rfl; exact h9
                    refine xc_vV G (b := 111) (rest := []) (As := [.int (iv (μ.1 111 9))]) (c_X12_wrong ω l μ (μ.1 111 9) (by unfold ir; omega) (by omega)) (wm 9 22 rfl rfl) (wm 9 24 rfl rfl) (wm 0 123 rfl rfl) rfl rfl (by decide) rfl (wm 1 18 rfl rfl) (wm 9 25 rfl rfl) (by decide) hR ⟨nfr hF (by decide), nlo hLo (by decide)⟩ (n := 1) rfl rfl (Nat.le_of_ble_eq_true rfl) hl.1 dX12_worded_220 (fun μ481 ρ d0 H locs hp G => ?_)
                    obtain ⟨F_482, hp_483, hp_484⟩ := hp
                    have hw_485 := wr_r (μ := μ481)
                    have e_486 : μ481.1 111 22 = μ.1 111 22 := (hp_483 22 (by decide))
                    have e_487 : μ481.1 111 9 = μ.1 111 9 := (hp_483 9 (by decide))
                    have e_488 : μ481.1 111 29 = μ.1 111 29 := (hp_483 29 (by decide))
                    have e_489 : μ481.1 111 39 = μ.1 111 39 := (hp_483 39 (by decide))
                    have e_490 : μ481.1 111 29 = μ.1 111 29 := (hp_483 29 (by decide))
                    have e_492 : μ481.1 111 29 = μ.1 111 29 := (hp_483 29 (by decide))
                    have hX_491 : ∀ _ : Unit, bd μ481 = 0 → mPX μ μ481 tt 0 1 (11 * (9 - nn μ) - 3) [] := fun _ h0 => (hX_1 () (by have e9 : bd μ = bd μ := rfl; have e8 : bd μ481 = bd μ481 := rfl; omega)).qm (q0m.fr (K := [111]) (Fr.tr Fr.rf F_482 (by decide)) (by decide) (by decide) (by decide) (hp_483 22 (by decide)) (by omega))
                    have hPM_493 : PM μ481 := hPM.wg (hp_483 4 (by decide)) (hp_483 6 (by decide)) (hp_483 7 (by decide)) (hp_483 8 (by decide)) (hp_483 9 (by decide)) (hp_483 11 (by decide)) (hp_483 12 (by decide)) ((((hp_483 14 (by decide)).trans htt.symm)).trans (htt.symm).symm) (by omega) (hp_483 29 (by decide)) (fun j => (F_482.1 123 (by decide) j))
                    have e_494 : μ481.1 111 29 = μ.1 111 29 := (hp_483 29 (by decide))
                    have hxt_495 : mEXT μ μ481 := (q0m.fr (K := [111]) (Fr.tr Fr.rf F_482 (by decide)) (by decide) (by decide) (by decide) (hp_483 22 (by decide)) (by omega)).1
                    have e_496 : μ481.1 111 22 = μ.1 111 22 := (hp_483 22 (by decide))
                    have e_497 : μ481.1 111 22 = μ.1 111 22 := (hp_483 22 (by decide))
                    have e_498 : μ481.1 111 9 = μ.1 111 9 := (hp_483 9 (by decide))
                    have e_499 : μ481.1 111 9 = μ.1 111 9 := (hp_483 9 (by decide))
                    have e_500 : μ481.1 111 29 = μ.1 111 29 := (hp_483 29 (by decide))
                    have e_501 : μ481.1 111 39 = μ.1 111 39 := (hp_483 39 (by decide))
                    exact xr_v G hret hlk dX12_worded_223 ⟨(Fr.tr Fr.rf F_482 (by decide)), (fun j hj => (hp_483 j (fun h9 => hj ((by decide : ∀ x ∈ ([15] : List Int), x ∈ ([6, 8, 9, 10, 11, 12, 13, 15, 16, 17, 18, 22, 29, 39] : List Int)) j h9)))), hPM_493, (by omega), (by omega), (by omega), (by omega), (by omega), (by omega), (fun j hj => (F_482.1 126 (by decide) j)), (fun _ h0 => (mPX.ex ((hX_491 ()) h0)).e (by omega)), hxt_495⟩
                  · refine lv_aload_n hx hb dX12_worded_188 rfl (lv_at hl 1 rfl) ?_
                    refine xc_vV G (b := 111) (rest := []) (As := []) (c_X12_next ω l μ  hPM (by omega) (by omega)) (wm 9 0 rfl rfl) (wm 9 2 rfl rfl) (wm 0 119 rfl rfl) rfl rfl (by decide) rfl (wm 1 18 rfl rfl) (wm 9 3 rfl rfl) (by decide) hR ⟨nfr hF (by decide), nlo hLo (by decide)⟩ (n := 0) rfl rfl (Nat.le_of_ble_eq_true rfl) hl.1 dX12_worded_189 (fun μ502 ρ d0 H locs hp G => ?_)
                    obtain ⟨F_503, hp_504, hp_505, hp_506, hp_507, hp_508⟩ := hp
                    have hpl_509 := hp_505.pl
                    have hw_510 := wr_r (μ := μ502)
                    refine lv_aload_n hx hb dX12_worded_192 rfl (lv_at hl 1 rfl) ?_
                    refine lv_bipush (v := iv 46) hx hb dX12_worded_193 rfl ?_
                    have e_511 : μ502.1 111 29 = μ.1 111 29 := (hp_504 29 (by decide))
                    have e_513 : μ502.1 111 29 = μ.1 111 29 := (hp_504 29 (by decide))
                    have hX_512 : ∀ _ : Unit, bd μ502 = 0 → mPX μ μ502 tt 0 1 (11 * (9 - nn μ) - 3) [] := fun _ h0 => (hX_1 () (by have e9 : bd μ = bd μ := rfl; have e8 : bd μ502 = bd μ502 := rfl; omega)).qm (q0m.fr (K := [111]) (Fr.tr Fr.rf F_503 (by decide)) (by decide) (by decide) (by decide) (hp_504 22 (by decide)) (by omega))
                    refine xc_vV G (b := 111) (rest := []) (As := [.int (iv 46)]) (c_X12_wantsSign ω l μ502 46 (by unfold ir; omega) hp_505 (by omega)) (wm 9 114 rfl rfl) (wm 9 116 rfl rfl) (wm 0 141 rfl rfl) rfl rfl (by decide) rfl (wm 1 18 rfl rfl) (wm 9 117 rfl rfl) (by decide) hR ⟨nfr hF (by decide), nlo hLo (by decide)⟩ (n := 1) rfl rfl (Nat.le_of_ble_eq_true rfl) hl.1 dX12_worded_195 (fun μ514 ρ d0 H locs hp G => ?_)
                    obtain ⟨F_515, hp_516, hp_517, hp_518, hp_519, hp_520, hp_521⟩ := hp
                    have hpl_522 := hp_517.pl
                    have hw_523 := wr_r (μ := μ514)
                    refine lv_aload_n hx hb dX12_worded_198 rfl (lv_at hl 1 rfl) ?_
                    have e_524 : μ514.1 111 29 = μ.1 111 29 := ((hp_516 29 (by decide)).trans (hp_504 29 (by decide)))
                    have e_526 : μ514.1 111 29 = μ.1 111 29 := ((hp_516 29 (by decide)).trans (hp_504 29 (by decide)))
                    have hX_525 : ∀ _ : Unit, bd μ514 = 0 → mPX μ μ514 tt 0 1 (11 * (9 - nn μ) - 3) [] := fun _ h0 => (hX_512 () (by have e9 : bd μ502 = bd μ502 := rfl; have e8 : bd μ514 = bd μ514 := rfl; omega)).qm (q0m.fr (K := [111]) (Fr.tr Fr.rf F_515 (by decide)) (by decide) (by decide) (by decide) ((((hp_516 22 (by decide)).trans (hp_504 22 (by decide)))).trans ((hp_504 22 (by decide))).symm) (by omega))
                    refine xc_lV G (b := 111) (rest := []) (As := []) (c_X12_takesName ω l μ514  hp_517 (by omega)) (wm 9 70 rfl rfl) (wm 9 72 rfl rfl) (wm 0 130 rfl rfl) rfl rfl (by decide) rfl (wm 1 18 rfl rfl) (wm 9 73 rfl rfl) (by decide) hR ⟨nfr hF (by decide), nlo hLo (by decide)⟩ (n := 0) rfl rfl (Nat.le_of_ble_eq_true rfl) hl.1 dX12_worded_199 (fun r_528 μ527 ρ d0 H locs hr_r_528 hp G => ?_)
                    obtain ⟨F_529, hp_530, hp_531, hp_532, hp_533, hp_534, hp_535⟩ := hp
                    have hpl_536 := hp_531.pl
                    have hw_537 := wr_r (μ := μ527)
                    refine lv_lstore_n (lv' := [(2, .long (jv r_528)), (1, .int (iv (μ.1 111 11))), (0, .ref (oP ω 111))]) hx hb dX12_worded_202 rfl hl (by decide) rfl (fun ls hl => ?_)
                    refine lv_aload_n hx hb dX12_worded_203 rfl (lv_at hl 2 rfl) ?_
                    refine lv_iload_n hx hb dX12_worded_204 rfl (lv_at hl 1 rfl) ?_
                    refine lv_bipush (v := iv 29) hx hb dX12_worded_205 rfl ?_
                    refine xb_isub hx hb dX12_worded_207 ?_
                    refine lv_lload_n hx hb dX12_worded_208 rfl (lv_at hl 0 rfl) ?_
                    have e_538 : μ527.1 111 29 = μ.1 111 29 := ((hp_530 29 (by decide)).trans ((hp_516 29 (by decide)).trans (hp_504 29 (by decide))))
                    have e_540 : μ527.1 111 29 = μ.1 111 29 := ((hp_530 29 (by decide)).trans ((hp_516 29 (by decide)).trans (hp_504 29 (by decide))))
                    have hX_539 : ∀ _ : Unit, bd μ527 = 0 → mPX μ μ527 tt 0 1 (11 * (9 - nn μ) - 3) [] := fun _ h0 => (hX_525 () (by have e9 : bd μ514 = bd μ514 := rfl; have e8 : bd μ527 = bd μ527 := rfl; omega)).qm (q0m.fr (K := [111]) (Fr.tr Fr.rf F_529 (by decide)) (by decide) (by decide) (by decide) ((((hp_530 22 (by decide)).trans ((hp_516 22 (by decide)).trans (hp_504 22 (by decide))))).trans (((hp_516 22 (by decide)).trans (hp_504 22 (by decide)))).symm) (by omega))
                    have e_541 : μ527.1 111 29 = μ.1 111 29 := ((hp_530 29 (by decide)).trans ((hp_516 29 (by decide)).trans (hp_504 29 (by decide))))
                    have e_542 : μ527.1 111 29 = μ.1 111 29 := ((hp_530 29 (by decide)).trans ((hp_516 29 (by decide)).trans (hp_504 29 (by decide))))
                    have hxt_543 : mEXT μ μ527 := (q0m.fr (K := [111]) (Fr.tr (Fr.tr (Fr.tr Fr.rf F_503 (by decide)) F_515 (by decide)) F_529 (by decide)) (by decide) (by decide) (by decide) ((hp_530 22 (by decide)).trans ((hp_516 22 (by decide)).trans (hp_504 22 (by decide)))) (by omega)).1
                    have e_544 : μ527.1 111 14 = tt := ((hp_530 14 (by decide)).trans ((hp_516 14 (by decide)).trans ((hp_504 14 (by decide)).trans htt.symm)))
                    have e_545 : μ527.1 111 22 = μ.1 111 22 := ((hp_530 22 (by decide)).trans ((hp_516 22 (by decide)).trans (hp_504 22 (by decide))))
                    have e_546 : μ527.1 111 22 = μ.1 111 22 := ((hp_530 22 (by decide)).trans ((hp_516 22 (by decide)).trans (hp_504 22 (by decide))))
                    have e_547 : μ527.1 111 39 = μ.1 111 39 := ((hp_530 39 (by decide)).trans ((hp_516 39 (by decide)).trans (hp_504 39 (by decide))))
                    have e_548 : μ527.1 111 39 = μ.1 111 39 := ((hp_530 39 (by decide)).trans ((hp_516 39 (by decide)).trans (hp_504 39 (by decide))))
                    have e_549 : μ527.1 111 22 = μ.1 111 22 := ((hp_530 22 (by decide)).trans ((hp_516 22 (by decide)).trans (hp_504 22 (by decide))))
                    have e_550 : μ527.1 111 31 = μ.1 111 31 := ((hp_530 31 (by decide)).trans ((hp_516 31 (by decide)).trans (hp_504 31 (by decide))))
                    have e_551 : μ527.1 111 31 = μ.1 111 31 := ((hp_530 31 (by decide)).trans ((hp_516 31 (by decide)).trans (hp_504 31 (by decide))))
                    have e_552 : μ527.1 111 22 = μ.1 111 22 := ((hp_530 22 (by decide)).trans ((hp_516 22 (by decide)).trans (hp_504 22 (by decide))))
                    have e_553 : μ527.1 111 22 = μ.1 111 22 := ((hp_530 22 (by decide)).trans ((hp_516 22 (by decide)).trans (hp_504 22 (by decide))))
                    have e_554 : μ527.1 111 29 = μ.1 111 29 := ((hp_530 29 (by decide)).trans ((hp_516 29 (by decide)).trans (hp_504 29 (by decide))))
                    have e_555 : μ527.1 111 39 = μ.1 111 39 := ((hp_530 39 (by decide)).trans ((hp_516 39 (by decide)).trans (hp_504 39 (by decide))))
                    refine xc_vV G (b := 111) (rest := []) (As := [.int (iv ((μ.1 111 11) - 29)), .long (jv r_528)]) (c_X12_call ω l μ527 ((μ.1 111 11) - 29) r_528 F Lo Fu Lu kf tt (by unfold ir; omega) hr_r_528 (by omega) hF hLo hFu hLu hE hU hp_531 (by omega) (by omega) (by omega) (by omega) (by omega) (by omega) (fun _ h0 => ((hX_539 ()) h0).h1.1) (by omega)) (wm 9 179 rfl rfl) (wm 9 181 rfl rfl) (wm 0 157 rfl rfl) rfl rfl (by decide) rfl (wm 1 18 rfl rfl) (wm 9 182 rfl rfl) (by decide) hR ⟨sfr (F := F) (a := 2) (by decide), slo (L := Lo) (m := 7) (a := 44) (by decide)⟩ (n := 2) rfl rfl (Nat.le_of_ble_eq_true rfl) hl.1 dX12_worded_209 (fun μ556 ρ d0 H locs hp G => ?_)
                    obtain ⟨F_557, hp_558, hp_559, hp_560, hp_561, hp_562, hp_563, hp_564, hp_565, hp_566, hp_567, hp_568⟩ := hp
                    have hpl_569 := hp_559.pl
                    have hw_570 := wr_r (μ := μ556)
                    have hxt_571 : mEXT μ μ556 := hxt_543.tr hp_568
                    have hX_572 : ∀ _ : Unit, bd μ556 = 0 → mPX μ μ556 tt 1 1 (11 * (9 - nn μ) - 3) [] := fun _ h0 => (((hX_539 ()) (by have e9 : bd μ527 = bd μ527 := rfl; have e8 : bd μ556 = bd μ556 := rfl; omega)).app (hp_567 () h0) (by omega)).ee (by omega)
                    refine lv_goto (tgt := 223) hx hb dX12_worded_212 (by decide) ?_
                    exact xr_v G hret hlk dX12_worded_223 ⟨(Fr.tr (Fr.tr (Fr.tr (Fr.tr Fr.rf F_503 (by decide)) F_515 (by decide)) F_529 (by decide)) F_557 (by decide)), (fun j hj => ((hp_558 j (fun h9 => hj ((by decide : ∀ x ∈ ([6, 8, 9, 10, 11, 12, 13, 15, 16, 17, 18, 22, 29, 39] : List Int), x ∈ ([6, 8, 9, 10, 11, 12, 13, 15, 16, 17, 18, 22, 29, 39] : List Int)) j h9))).trans ((hp_530 j (fun h9 => hj ((by decide : ∀ x ∈ ([6, 8, 9, 10, 11, 12, 13, 15] : List Int), x ∈ ([6, 8, 9, 10, 11, 12, 13, 15, 16, 17, 18, 22, 29, 39] : List Int)) j h9))).trans ((hp_516 j (fun h9 => hj ((by decide : ∀ x ∈ ([6, 8, 9, 10, 11, 12, 13, 15] : List Int), x ∈ ([6, 8, 9, 10, 11, 12, 13, 15, 16, 17, 18, 22, 29, 39] : List Int)) j h9))).trans (hp_504 j (fun h9 => hj ((by decide : ∀ x ∈ ([6, 8, 9, 10, 11, 12, 13, 15] : List Int), x ∈ ([6, 8, 9, 10, 11, 12, 13, 15, 16, 17, 18, 22, 29, 39] : List Int)) j h9))))))), hp_559, (by omega), (by omega), (by omega), (by omega), (by omega), (by omega), (fun j hj => ((hp_566 j (by omega)).trans ((F_529.1 126 (by decide) j).trans ((F_515.1 126 (by decide) j).trans (F_503.1 126 (by decide) j))))), (fun _ h0 => (mPX.ex ((hX_572 ()) h0)).e (by omega)), hxt_571⟩
                · refine lv_aload_n hx hb dX12_worded_150 rfl (lv_at hl 1 rfl) ?_
                  refine xc_vV G (b := 111) (rest := []) (As := []) (c_X12_next ω l μ  hPM (by omega) (by omega)) (wm 9 0 rfl rfl) (wm 9 2 rfl rfl) (wm 0 119 rfl rfl) rfl rfl (by decide) rfl (wm 1 18 rfl rfl) (wm 9 3 rfl rfl) (by decide) hR ⟨nfr hF (by decide), nlo hLo (by decide)⟩ (n := 0) rfl rfl (Nat.le_of_ble_eq_true rfl) hl.1 dX12_worded_151 (fun μ573 ρ d0 H locs hp G => ?_)
                  obtain ⟨F_574, hp_575, hp_576, hp_577, hp_578, hp_579⟩ := hp
                  have hpl_580 := hp_576.pl
                  have hw_581 := wr_r (μ := μ573)
                  refine lv_aload_n hx hb dX12_worded_154 rfl (lv_at hl 1 rfl) ?_
                  refine lv_bipush (v := iv 40) hx hb dX12_worded_155 rfl ?_
                  have e_582 : μ573.1 111 29 = μ.1 111 29 := (hp_575 29 (by decide))
                  have e_584 : μ573.1 111 29 = μ.1 111 29 := (hp_575 29 (by decide))
                  have hX_583 : ∀ _ : Unit, bd μ573 = 0 → mPX μ μ573 tt 0 1 (11 * (9 - nn μ) - 3) [] := fun _ h0 => (hX_1 () (by have e9 : bd μ = bd μ := rfl; have e8 : bd μ573 = bd μ573 := rfl; omega)).qm (q0m.fr (K := [111]) (Fr.tr Fr.rf F_574 (by decide)) (by decide) (by decide) (by decide) (hp_575 22 (by decide)) (by omega))
                  refine xc_vV G (b := 111) (rest := []) (As := [.int (iv 40)]) (c_X12_opensWith ω l μ573 40 (by unfold ir; omega) hp_576 (by omega) (by omega)) (wm 9 86 rfl rfl) (wm 9 88 rfl rfl) (wm 0 134 rfl rfl) rfl rfl (by decide) rfl (wm 1 18 rfl rfl) (wm 9 89 rfl rfl) (by decide) hR ⟨nfr hF (by decide), nlo hLo (by decide)⟩ (n := 1) rfl rfl (Nat.le_of_ble_eq_true rfl) hl.1 dX12_worded_157 (fun μ585 ρ d0 H locs hp G => ?_)
                  obtain ⟨F_586, hp_587, hp_588, hp_589, hp_590, hp_591, hp_592⟩ := hp
                  have hpl_593 := hp_588.pl
                  have hw_594 := wr_r (μ := μ585)
                  refine lv_aload_n hx hb dX12_worded_160 rfl (lv_at hl 1 rfl) ?_
                  have e_595 : μ585.1 111 29 = μ.1 111 29 := ((hp_587 29 (by decide)).trans (hp_575 29 (by decide)))
                  have e_597 : μ585.1 111 29 = μ.1 111 29 := ((hp_587 29 (by decide)).trans (hp_575 29 (by decide)))
                  have hX_596 : ∀ _ : Unit, bd μ585 = 0 → mPX μ μ585 tt 0 1 (11 * (9 - nn μ) - 3) [] := fun _ h0 => (hX_583 () (by have e9 : bd μ573 = bd μ573 := rfl; have e8 : bd μ585 = bd μ585 := rfl; omega)).qm (q0m.fr (K := [111]) (Fr.tr Fr.rf F_586 (by decide)) (by decide) (by decide) (by decide) ((((hp_587 22 (by decide)).trans (hp_575 22 (by decide)))).trans ((hp_575 22 (by decide))).symm) (by omega))
                  have e_598 : μ585.1 111 29 = μ.1 111 29 := ((hp_587 29 (by decide)).trans (hp_575 29 (by decide)))
                  have e_599 : μ585.1 111 29 = μ.1 111 29 := ((hp_587 29 (by decide)).trans (hp_575 29 (by decide)))
                  have hxt_600 : mEXT μ μ585 := (q0m.fr (K := [111]) (Fr.tr (Fr.tr Fr.rf F_574 (by decide)) F_586 (by decide)) (by decide) (by decide) (by decide) ((hp_587 22 (by decide)).trans (hp_575 22 (by decide))) (by omega)).1
                  have e_601 : μ585.1 111 14 = tt := ((hp_587 14 (by decide)).trans ((hp_575 14 (by decide)).trans htt.symm))
                  have e_602 : μ585.1 111 22 = μ.1 111 22 := ((hp_587 22 (by decide)).trans (hp_575 22 (by decide)))
                  have e_603 : μ585.1 111 22 = μ.1 111 22 := ((hp_587 22 (by decide)).trans (hp_575 22 (by decide)))
                  have e_604 : μ585.1 111 39 = μ.1 111 39 := ((hp_587 39 (by decide)).trans (hp_575 39 (by decide)))
                  have e_605 : μ585.1 111 39 = μ.1 111 39 := ((hp_587 39 (by decide)).trans (hp_575 39 (by decide)))
                  have e_606 : μ585.1 111 22 = μ.1 111 22 := ((hp_587 22 (by decide)).trans (hp_575 22 (by decide)))
                  have e_607 : μ585.1 111 31 = μ.1 111 31 := ((hp_587 31 (by decide)).trans (hp_575 31 (by decide)))
                  have e_608 : μ585.1 111 31 = μ.1 111 31 := ((hp_587 31 (by decide)).trans (hp_575 31 (by decide)))
                  have e_609 : μ585.1 111 22 = μ.1 111 22 := ((hp_587 22 (by decide)).trans (hp_575 22 (by decide)))
                  have e_610 : μ585.1 111 22 = μ.1 111 22 := ((hp_587 22 (by decide)).trans (hp_575 22 (by decide)))
                  have e_611 : μ585.1 111 29 = μ.1 111 29 := ((hp_587 29 (by decide)).trans (hp_575 29 (by decide)))
                  have e_612 : μ585.1 111 39 = μ.1 111 39 := ((hp_587 39 (by decide)).trans (hp_575 39 (by decide)))
                  refine xc_vV G (b := 111) (rest := []) (As := []) (((fun (_ : Om) (_ : Launch) => hE)) ω l μ585 tt (by omega) hp_588 (by omega) (by omega) (by omega) (by omega) (by omega) (by omega) (fun _ h0 => ((hX_596 ()) h0).h1.1)) (wm 9 139 rfl rfl) (wm 9 141 rfl rfl) (wm 0 147 rfl rfl) rfl rfl (by decide) rfl (wm 1 18 rfl rfl) (wm 9 142 rfl rfl) (by decide) hR ⟨sfr (F := F) (a := 0) (by decide), slo (L := Lo) (m := 1) (a := 0) (by decide)⟩ (n := 0) rfl rfl (Nat.le_of_ble_eq_true rfl) hl.1 dX12_worded_161 (fun μ613 ρ d0 H locs hp G => ?_)
                  obtain ⟨F_614, hp_615, hp_616, hp_617, hp_618, hp_619, hp_620, hp_621, hp_622, hp_623, hp_624, hp_625⟩ := hp
                  have hpl_626 := hp_616.pl
                  have hw_627 := wr_r (μ := μ613)
                  have hxt_628 : mEXT μ μ613 := hxt_600.tr hp_625
                  have hX_629 : ∀ _ : Unit, bd μ613 = 0 → mPX μ μ613 tt 1 1 (11 * (9 - nn μ) - 3) [] := fun _ h0 => (((hX_596 ()) (by have e9 : bd μ585 = bd μ585 := rfl; have e8 : bd μ613 = bd μ613 := rfl; omega)).app (hp_624 () h0) (by omega)).ee (by omega)
                  refine lv_aload_n hx hb dX12_worded_164 rfl (lv_at hl 1 rfl) ?_
                  refine lv_bipush (v := iv 41) hx hb dX12_worded_165 rfl ?_
                  refine xc_vV G (b := 111) (rest := []) (As := [.int (iv 41)]) (c_X12_closesWith ω l μ613 41 (by unfold ir; omega) hp_616 (by omega) (by omega)) (wm 9 110 rfl rfl) (wm 9 112 rfl rfl) (wm 0 140 rfl rfl) rfl rfl (by decide) rfl (wm 1 18 rfl rfl) (wm 9 113 rfl rfl) (by decide) hR ⟨nfr hF (by decide), nlo hLo (by decide)⟩ (n := 1) rfl rfl (Nat.le_of_ble_eq_true rfl) hl.1 dX12_worded_167 (fun μ630 ρ d0 H locs hp G => ?_)
                  obtain ⟨F_631, hp_632, hp_633, hp_634, hp_635, hp_636, hp_637⟩ := hp
                  have hpl_638 := hp_633.pl
                  have hw_639 := wr_r (μ := μ630)
                  refine lv_aload_n hx hb dX12_worded_170 rfl (lv_at hl 1 rfl) ?_
                  refine lv_bipush (v := iv 30) hx hb dX12_worded_171 rfl ?_
                  refine lv_lconst (v := jv 0) hx hb dX12_worded_173 rfl ?_
                  refine lv_iconst (v := iv 0) hx hb dX12_worded_174 rfl ?_
                  have e_640 : μ630.1 111 29 = μ613.1 111 29 := (hp_632 29 (by decide))
                  have e_642 : μ630.1 111 29 = μ613.1 111 29 := (hp_632 29 (by decide))
                  have hX_641 : ∀ _ : Unit, bd μ630 = 0 → mPX μ μ630 tt 1 1 (11 * (9 - nn μ) - 3) [] := fun _ h0 => (hX_629 () (by have e9 : bd μ613 = bd μ613 := rfl; have e8 : bd μ630 = bd μ630 := rfl; omega)).qm (q0m.fr (K := [111]) (Fr.tr Fr.rf F_631 (by decide)) (by decide) (by decide) (by decide) (hp_632 22 (by decide)) (by omega))
                  have e_643 : μ630.1 111 29 = μ613.1 111 29 := (hp_632 29 (by decide))
                  have e_644 : μ630.1 111 29 = μ613.1 111 29 := (hp_632 29 (by decide))
                  have hxt_645 : mEXT μ μ630 := hxt_628.tr (q0m.fr (K := [111]) (Fr.tr Fr.rf F_631 (by decide)) (by decide) (by decide) (by decide) (hp_632 22 (by decide)) (by omega)).1
                  have e_646 : μ630.1 111 22 = μ613.1 111 22 := (hp_632 22 (by decide))
                  have e_647 : μ630.1 111 22 = μ613.1 111 22 := (hp_632 22 (by decide))
                  have e_648 : μ630.1 111 22 = μ613.1 111 22 := (hp_632 22 (by decide))
                  have e_649 : μ630.1 111 22 = μ613.1 111 22 := (hp_632 22 (by decide))
                  refine xc_iV G (b := 111) (rest := []) (As := [.int (iv 30), .long (jv 0), .int (iv 0)]) (c_X12_emit ω l μ630 30 0 0 (by unfold ir; omega) (by unfold jr; omega) (by unfold ir; omega) (by omega)) (wm 9 126 rfl rfl) (wm 9 128 rfl rfl) (wm 0 144 rfl rfl) rfl rfl (by decide) rfl (wm 1 18 rfl rfl) (wm 9 129 rfl rfl) (by decide) hR ⟨nfr hF (by decide), nlo hLo (by decide)⟩ (n := 3) rfl rfl (Nat.le_of_ble_eq_true rfl) hl.1 dX12_worded_175 (fun r_651 μ650 ρ d0 H locs hr_r_651 hp G => ?_)
                  have hr_r_651 : -2147483648 ≤ r_651 ∧ r_651 ≤ 2147483647 := hr_r_651
                  obtain ⟨F_652, hp_653, hp_654, hp_655, hp_656⟩ := hp
                  have hxt_657 : mEXT μ μ650 := hxt_645.tr hp_654.1
                  have e_658 : wr μ650 = wr μ630 := (wr_cg (hp_653 15 (by decide)))
                  have e_659 : bd μ650 = bd μ630 := (bd_cg (hp_653 15 (by decide)) (hp_653 16 (by decide)))
                  have e_660 : nn μ650 = nn μ630 := (nn_cg (hp_653 15 (by decide)) (hp_653 18 (by decide)))
                  have e_662 : μ650.1 111 29 = μ613.1 111 29 := ((hp_653 29 (by decide)).trans (hp_632 29 (by decide)))
                  have hX_661 : ∀ _ : Unit, bd μ650 = 0 → mPX μ μ650 tt 1 1 (11 * (9 - nn μ) - 3) [] := fun _ h0 => ((((hX_641 ()) (by have e9 : bd μ630 = bd μ630 := rfl; have e8 : bd μ650 = bd μ630 := (bd_cg (hp_653 15 (by decide)) (hp_653 16 (by decide))); omega))).app (mAD.ex (t := tt) (e := 0) hp_654 ((hX_641 ()) (by have e9 : bd μ630 = bd μ630 := rfl; have e8 : bd μ650 = bd μ630 := (bd_cg (hp_653 15 (by decide)) (hp_653 16 (by decide))); omega)).h1.1 (by unfold mpl; omega) rfl (by have h9 := ((hX_641 ()) (by have e9 : bd μ630 = bd μ630 := rfl; have e8 : bd μ650 = bd μ630 := (bd_cg (hp_653 15 (by decide)) (hp_653 16 (by decide))); omega)).h1; omega) ⟨fun q => absurd q (by decide), fun q => absurd q (by decide), fun _ => by have h9 := ((hX_641 ()) (by have e9 : bd μ630 = bd μ630 := rfl; have e8 : bd μ650 = bd μ630 := (bd_cg (hp_653 15 (by decide)) (hp_653 16 (by decide))); omega)).h1; rw [(hp_654.1.fo (t := tt) _ (Int.le_refl _)).1]; omega, fun q => absurd q (by decide), fun q => absurd q (by decide), fun q => absurd q (by decide), fun q => absurd q (by decide), fun q => absurd q (by decide), fun q => absurd q (by decide), fun q => absurd q (by decide), fun q => absurd q (by decide), fun q => absurd q (by decide), fun q => absurd q (by decide), fun q => absurd q (by decide), fun q => absurd q (by decide), fun q => absurd q (by decide), fun q => absurd q (by decide), fun q => absurd q (by decide), fun q => absurd q (by decide), fun q => absurd q (by decide), fun q => absurd q (by decide), fun q => absurd q (by decide), ⟨by decide, by decide⟩⟩) (by have h9 := ((hX_641 ()) (by have e9 : bd μ630 = bd μ630 := rfl; have e8 : bd μ650 = bd μ630 := (bd_cg (hp_653 15 (by decide)) (hp_653 16 (by decide))); omega)).h1; omega)).ee (by omega)
                  refine lv_pop hx hb dX12_worded_178 rfl ?_
                  refine lv_goto (tgt := 223) hx hb dX12_worded_179 (by decide) ?_
                  have e_663 : μ650.1 111 9 = μ630.1 111 9 := (hp_653 9 (by decide))
                  have e_664 : μ650.1 111 29 = μ613.1 111 29 := ((hp_653 29 (by decide)).trans (hp_632 29 (by decide)))
                  have e_665 : μ650.1 111 39 = μ613.1 111 39 := ((hp_653 39 (by decide)).trans (hp_632 39 (by decide)))
                  have e_666 : wr μ650 = wr μ630 := (wr_cg (hp_653 15 (by decide)))
                  have e_667 : bd μ650 = bd μ630 := (bd_cg (hp_653 15 (by decide)) (hp_653 16 (by decide)))
                  have e_668 : nn μ650 = nn μ630 := (nn_cg (hp_653 15 (by decide)) (hp_653 18 (by decide)))
                  have hPM_669 : PM μ650 := hp_633.cg ((((hp_653 4 (by decide)).trans ((hp_632 4 (by decide)).trans ((hp_615 4 (by decide)).trans ((hp_587 4 (by decide)).trans (hp_575 4 (by decide))))))).trans (((hp_632 4 (by decide)).trans ((hp_615 4 (by decide)).trans ((hp_587 4 (by decide)).trans (hp_575 4 (by decide)))))).symm) (hp_653 6 (by decide)) ((((hp_653 7 (by decide)).trans ((hp_632 7 (by decide)).trans ((hp_615 7 (by decide)).trans ((hp_587 7 (by decide)).trans (hp_575 7 (by decide))))))).trans (((hp_632 7 (by decide)).trans ((hp_615 7 (by decide)).trans ((hp_587 7 (by decide)).trans (hp_575 7 (by decide)))))).symm) (hp_653 8 (by decide)) (hp_653 9 (by decide)) (hp_653 11 (by decide)) (hp_653 12 (by decide)) ((((hp_653 14 (by decide)).trans ((hp_632 14 (by decide)).trans ((hp_615 14 (by decide)).trans ((hp_587 14 (by decide)).trans ((hp_575 14 (by decide)).trans htt.symm)))))).trans (((hp_632 14 (by decide)).trans ((hp_615 14 (by decide)).trans ((hp_587 14 (by decide)).trans ((hp_575 14 (by decide)).trans htt.symm))))).symm) (hp_653 15 (by decide)) ((((hp_653 29 (by decide)).trans (hp_632 29 (by decide)))).trans ((hp_632 29 (by decide))).symm) (fun j => (F_652.1 123 (by decide) j))
                  have e_670 : μ650.1 111 9 = μ630.1 111 9 := (hp_653 9 (by decide))
                  have e_671 : wr μ650 = wr μ630 := (wr_cg (hp_653 15 (by decide)))
                  have e_672 : μ650.1 111 9 = μ630.1 111 9 := (hp_653 9 (by decide))
                  have e_673 : μ650.1 111 29 = μ613.1 111 29 := ((hp_653 29 (by decide)).trans (hp_632 29 (by decide)))
                  have e_674 : wr μ650 = wr μ630 := (wr_cg (hp_653 15 (by decide)))
                  have e_675 : bd μ650 = bd μ630 := (bd_cg (hp_653 15 (by decide)) (hp_653 16 (by decide)))
                  have e_676 : wr μ650 = wr μ630 := (wr_cg (hp_653 15 (by decide)))
                  have e_677 : nn μ650 = nn μ630 := (nn_cg (hp_653 15 (by decide)) (hp_653 18 (by decide)))
                  have e_678 : μ650.1 111 39 = μ613.1 111 39 := ((hp_653 39 (by decide)).trans (hp_632 39 (by decide)))
                  exact xr_v G hret hlk dX12_worded_223 ⟨(Fr.tr (Fr.tr (Fr.tr (Fr.tr (Fr.tr Fr.rf F_574 (by decide)) F_586 (by decide)) F_614 (by decide)) F_631 (by decide)) F_652 (by decide)), (fun j hj => ((hp_653 j (fun h9 => hj ((by decide : ∀ x ∈ ([22] : List Int), x ∈ ([6, 8, 9, 10, 11, 12, 13, 15, 16, 17, 18, 22, 29, 39] : List Int)) j h9))).trans ((hp_632 j (fun h9 => hj ((by decide : ∀ x ∈ ([6, 8, 9, 10, 11, 12, 13, 15, 18] : List Int), x ∈ ([6, 8, 9, 10, 11, 12, 13, 15, 16, 17, 18, 22, 29, 39] : List Int)) j h9))).trans ((hp_615 j (fun h9 => hj ((by decide : ∀ x ∈ ([6, 8, 9, 10, 11, 12, 13, 15, 16, 17, 18, 22, 29, 39] : List Int), x ∈ ([6, 8, 9, 10, 11, 12, 13, 15, 16, 17, 18, 22, 29, 39] : List Int)) j h9))).trans ((hp_587 j (fun h9 => hj ((by decide : ∀ x ∈ ([6, 8, 9, 10, 11, 12, 13, 15, 18] : List Int), x ∈ ([6, 8, 9, 10, 11, 12, 13, 15, 16, 17, 18, 22, 29, 39] : List Int)) j h9))).trans (hp_575 j (fun h9 => hj ((by decide : ∀ x ∈ ([6, 8, 9, 10, 11, 12, 13, 15] : List Int), x ∈ ([6, 8, 9, 10, 11, 12, 13, 15, 16, 17, 18, 22, 29, 39] : List Int)) j h9)))))))), hPM_669, (by omega), (by omega), (by omega), (by omega), (by omega), (by omega), (fun j hj => ((F_652.1 126 (by decide) j).trans ((F_631.1 126 (by decide) j).trans ((hp_623 j (by omega)).trans ((F_586.1 126 (by decide) j).trans (F_574.1 126 (by decide) j)))))), (fun _ h0 => (mPX.ex ((hX_661 ()) h0)).e (by omega)), hxt_657⟩
            · refine lv_aload_n hx hb dX12_worded_113 rfl (lv_at hl 1 rfl) ?_
              refine xc_vV G (b := 111) (rest := []) (As := []) (c_X12_next ω l μ  hPM (by omega) (by omega)) (wm 9 0 rfl rfl) (wm 9 2 rfl rfl) (wm 0 119 rfl rfl) rfl rfl (by decide) rfl (wm 1 18 rfl rfl) (wm 9 3 rfl rfl) (by decide) hR ⟨nfr hF (by decide), nlo hLo (by decide)⟩ (n := 0) rfl rfl (Nat.le_of_ble_eq_true rfl) hl.1 dX12_worded_114 (fun μ679 ρ d0 H locs hp G => ?_)
              obtain ⟨F_680, hp_681, hp_682, hp_683, hp_684, hp_685⟩ := hp
              have hpl_686 := hp_682.pl
              have hw_687 := wr_r (μ := μ679)
              refine lv_aload_n hx hb dX12_worded_117 rfl (lv_at hl 1 rfl) ?_
              have e_688 : μ679.1 111 29 = μ.1 111 29 := (hp_681 29 (by decide))
              have e_690 : μ679.1 111 29 = μ.1 111 29 := (hp_681 29 (by decide))
              have hX_689 : ∀ _ : Unit, bd μ679 = 0 → mPX μ μ679 tt 0 1 (11 * (9 - nn μ) - 3) [] := fun _ h0 => (hX_1 () (by have e9 : bd μ = bd μ := rfl; have e8 : bd μ679 = bd μ679 := rfl; omega)).qm (q0m.fr (K := [111]) (Fr.tr Fr.rf F_680 (by decide)) (by decide) (by decide) (by decide) (hp_681 22 (by decide)) (by omega))
              have e_691 : μ679.1 111 29 = μ.1 111 29 := (hp_681 29 (by decide))
              refine xc_iV G (b := 111) (rest := []) (As := []) (c_X12_takesKind ω l μ679  hp_682 (by omega)) (wm 9 203 rfl rfl) (wm 9 205 rfl rfl) (wm 0 163 rfl rfl) rfl rfl (by decide) rfl (wm 1 18 rfl rfl) (wm 9 206 rfl rfl) (by decide) hR ⟨nfr hF (by decide), nlo hLo (by decide)⟩ (n := 0) rfl rfl (Nat.le_of_ble_eq_true rfl) hl.1 dX12_worded_118 (fun r_693 μ692 ρ d0 H locs hr_r_693 hp G => ?_)
              have hr_r_693 : -2147483648 ≤ r_693 ∧ r_693 ≤ 2147483647 := hr_r_693
              obtain ⟨F_694, hp_695, hp_696, hp_697, hp_698, hp_699, hp_700, hp_701, hp_702⟩ := hp
              have hpl_703 := hp_696.pl
              have hw_704 := wr_r (μ := μ692)
              refine lv_istore_n (lv' := [(2, .int (iv r_693)), (1, .int (iv (μ.1 111 11))), (0, .ref (oP ω 111))]) hx hb dX12_worded_121 rfl hl (by decide) rfl (fun ls hl => ?_)
              refine lv_aload_n hx hb dX12_worded_122 rfl (lv_at hl 2 rfl) ?_
              refine lv_bipush (v := iv 29) hx hb dX12_worded_123 rfl ?_
              refine lv_bipush (v := iv 40) hx hb dX12_worded_125 rfl ?_
              refine lv_bipush (v := iv 41) hx hb dX12_worded_127 rfl ?_
              refine lv_iload_n hx hb dX12_worded_129 rfl (lv_at hl 0 rfl) ?_
              have hX_705 : ∀ _ : Unit, bd μ692 = 0 → mPX μ μ692 tt 0 1 (11 * (9 - nn μ) - 3) [] := fun _ h0 => (hX_689 () (by have e9 : bd μ679 = bd μ679 := rfl; have e8 : bd μ692 = bd μ692 := rfl; omega)).qm (q0m.fr (K := [111, 113, 123]) (Fr.tr Fr.rf F_694 (by decide)) (by decide) (by decide) (by decide) ((((hp_695 22 (by decide)).trans (hp_681 22 (by decide)))).trans ((hp_681 22 (by decide))).symm) (by omega))
              have hxt_706 : mEXT μ μ692 := (q0m.fr (K := [111, 113, 123]) (Fr.tr (Fr.tr Fr.rf F_680 (by decide)) F_694 (by decide)) (by decide) (by decide) (by decide) ((hp_695 22 (by decide)).trans (hp_681 22 (by decide))) (by omega)).1
              have e_707 : μ692.1 111 14 = tt := ((hp_695 14 (by decide)).trans ((hp_681 14 (by decide)).trans htt.symm))
              have e_708 : μ692.1 111 22 = μ.1 111 22 := ((hp_695 22 (by decide)).trans (hp_681 22 (by decide)))
              have e_709 : μ692.1 111 22 = μ.1 111 22 := ((hp_695 22 (by decide)).trans (hp_681 22 (by decide)))
              have e_710 : μ692.1 111 39 = μ.1 111 39 := ((hp_695 39 (by decide)).trans (hp_681 39 (by decide)))
              have e_711 : μ692.1 111 39 = μ.1 111 39 := ((hp_695 39 (by decide)).trans (hp_681 39 (by decide)))
              have e_712 : μ692.1 111 22 = μ.1 111 22 := ((hp_695 22 (by decide)).trans (hp_681 22 (by decide)))
              have e_713 : μ692.1 111 31 = μ.1 111 31 := ((hp_695 31 (by decide)).trans (hp_681 31 (by decide)))
              have e_714 : μ692.1 111 31 = μ.1 111 31 := ((hp_695 31 (by decide)).trans (hp_681 31 (by decide)))
              have e_715 : μ692.1 111 22 = μ.1 111 22 := ((hp_695 22 (by decide)).trans (hp_681 22 (by decide)))
              have e_716 : μ692.1 111 22 = μ.1 111 22 := ((hp_695 22 (by decide)).trans (hp_681 22 (by decide)))
              have e_717 : μ692.1 111 39 = μ.1 111 39 := ((hp_695 39 (by decide)).trans (hp_681 39 (by decide)))
              refine xc_vV G (b := 111) (rest := []) (As := [.int (iv 29), .int (iv 40), .int (iv 41), .int (iv r_693)]) (c_X12_ofPart ω l μ692 29 40 41 r_693 F Lo Fu Lu kf tt (by unfold ir; omega) (by unfold ir; omega) (by unfold ir; omega) (by unfold ir; omega) (by omega) hF hLo hFu hLu hE hU hp_696 (by omega) (by omega) (by omega) (by omega) (by omega) (by omega) (fun _ h0 => ((hX_705 ()) h0).h1.1) (by omega) (by omega)) (wm 9 199 rfl rfl) (wm 9 201 rfl rfl) (wm 0 162 rfl rfl) rfl rfl (by decide) rfl (wm 1 18 rfl rfl) (wm 9 202 rfl rfl) (by decide) hR ⟨sfr (F := F) (a := 1) (by decide), slo (L := Lo) (m := 6) (a := 20) (by decide)⟩ (n := 4) rfl rfl (Nat.le_of_ble_eq_true rfl) hl.1 dX12_worded_130 (fun μ718 ρ d0 H locs hp G => ?_)
              obtain ⟨F_719, hp_720, hp_721, hp_722, hp_723, hp_724, hp_725, hp_726, hp_727, hp_728, hp_729, hp_730⟩ := hp
              have hpl_731 := hp_721.pl
              have hw_732 := wr_r (μ := μ718)
              have hxt_733 : mEXT μ μ718 := hxt_706.tr hp_730
              have hX_734 : ∀ _ : Unit, bd μ718 = 0 → mPX μ μ718 tt 1 1 (11 * (9 - nn μ) - 3) [] := fun _ h0 => (((hX_705 ()) (by have e9 : bd μ692 = bd μ692 := rfl; have e8 : bd μ718 = bd μ718 := rfl; omega)).app (hp_729 () h0) (by omega)).ee (by omega)
              refine lv_goto (tgt := 223) hx hb dX12_worded_133 (by decide) ?_
              exact xr_v G hret hlk dX12_worded_223 ⟨(Fr.tr (Fr.tr (Fr.tr Fr.rf F_680 (by decide)) F_694 (by decide)) F_719 (by decide)), (fun j hj => ((hp_720 j (fun h9 => hj ((by decide : ∀ x ∈ ([6, 8, 9, 10, 11, 12, 13, 15, 16, 17, 18, 22, 29, 39] : List Int), x ∈ ([6, 8, 9, 10, 11, 12, 13, 15, 16, 17, 18, 22, 29, 39] : List Int)) j h9))).trans ((hp_695 j (fun h9 => hj ((by decide : ∀ x ∈ ([6, 8, 9, 10, 11, 12, 13, 15, 16, 29] : List Int), x ∈ ([6, 8, 9, 10, 11, 12, 13, 15, 16, 17, 18, 22, 29, 39] : List Int)) j h9))).trans (hp_681 j (fun h9 => hj ((by decide : ∀ x ∈ ([6, 8, 9, 10, 11, 12, 13, 15] : List Int), x ∈ ([6, 8, 9, 10, 11, 12, 13, 15, 16, 17, 18, 22, 29, 39] : List Int)) j h9)))))), hp_721, (by omega), (by omega), (by omega), (by omega), (by omega), (by omega), (fun j hj => ((hp_728 j (by omega)).trans ((F_694.1 126 (by decide) j).trans (F_680.1 126 (by decide) j)))), (fun _ h0 => (mPX.ex ((hX_734 ()) h0)).e (by omega)), hxt_733⟩
        · refine lv_aload_n hx hb dX12_worded_81 rfl (lv_at hl 1 rfl) ?_
          refine xc_vV G (b := 111) (rest := []) (As := []) (c_X12_next ω l μ  hPM (by omega) (by omega)) (wm 9 0 rfl rfl) (wm 9 2 rfl rfl) (wm 0 119 rfl rfl) rfl rfl (by decide) rfl (wm 1 18 rfl rfl) (wm 9 3 rfl rfl) (by decide) hR ⟨nfr hF (by decide), nlo hLo (by decide)⟩ (n := 0) rfl rfl (Nat.le_of_ble_eq_true rfl) hl.1 dX12_worded_82 (fun μ735 ρ d0 H locs hp G => ?_)
          obtain ⟨F_736, hp_737, hp_738, hp_739, hp_740, hp_741⟩ := hp
          have hpl_742 := hp_738.pl
          have hw_743 := wr_r (μ := μ735)
          refine lv_aload_n hx hb dX12_worded_85 rfl (lv_at hl 1 rfl) ?_
          refine lv_bipush (v := iv 23) hx hb dX12_worded_86 rfl ?_
          refine lv_bipush (v := iv 40) hx hb dX12_worded_88 rfl ?_
          refine lv_bipush (v := iv 41) hx hb dX12_worded_90 rfl ?_
          refine lv_iconst (v := iv 0) hx hb dX12_worded_92 rfl ?_
          have e_744 : μ735.1 111 29 = μ.1 111 29 := (hp_737 29 (by decide))
          have e_746 : μ735.1 111 29 = μ.1 111 29 := (hp_737 29 (by decide))
          have hX_745 : ∀ _ : Unit, bd μ735 = 0 → mPX μ μ735 tt 0 1 (11 * (9 - nn μ) - 3) [] := fun _ h0 => (hX_1 () (by have e9 : bd μ = bd μ := rfl; have e8 : bd μ735 = bd μ735 := rfl; omega)).qm (q0m.fr (K := [111]) (Fr.tr Fr.rf F_736 (by decide)) (by decide) (by decide) (by decide) (hp_737 22 (by decide)) (by omega))
          have e_747 : μ735.1 111 29 = μ.1 111 29 := (hp_737 29 (by decide))
          have e_748 : μ735.1 111 29 = μ.1 111 29 := (hp_737 29 (by decide))
          have hxt_749 : mEXT μ μ735 := (q0m.fr (K := [111]) (Fr.tr Fr.rf F_736 (by decide)) (by decide) (by decide) (by decide) (hp_737 22 (by decide)) (by omega)).1
          have e_750 : μ735.1 111 14 = tt := ((hp_737 14 (by decide)).trans htt.symm)
          have e_751 : μ735.1 111 22 = μ.1 111 22 := (hp_737 22 (by decide))
          have e_752 : μ735.1 111 22 = μ.1 111 22 := (hp_737 22 (by decide))
          have e_753 : μ735.1 111 39 = μ.1 111 39 := (hp_737 39 (by decide))
          have e_754 : μ735.1 111 39 = μ.1 111 39 := (hp_737 39 (by decide))
          have e_755 : μ735.1 111 22 = μ.1 111 22 := (hp_737 22 (by decide))
          have e_756 : μ735.1 111 31 = μ.1 111 31 := (hp_737 31 (by decide))
          have e_757 : μ735.1 111 31 = μ.1 111 31 := (hp_737 31 (by decide))
          have e_758 : μ735.1 111 22 = μ.1 111 22 := (hp_737 22 (by decide))
          have e_759 : μ735.1 111 22 = μ.1 111 22 := (hp_737 22 (by decide))
          have e_760 : μ735.1 111 29 = μ.1 111 29 := (hp_737 29 (by decide))
          have e_761 : μ735.1 111 39 = μ.1 111 39 := (hp_737 39 (by decide))
          refine xc_vV G (b := 111) (rest := []) (As := [.int (iv 23), .int (iv 40), .int (iv 41), .int (iv 0)]) (c_X12_ofPart ω l μ735 23 40 41 0 F Lo Fu Lu kf tt (by unfold ir; omega) (by unfold ir; omega) (by unfold ir; omega) (by unfold ir; omega) (by omega) hF hLo hFu hLu hE hU hp_738 (by omega) (by omega) (by omega) (by omega) (by omega) (by omega) (fun _ h0 => ((hX_745 ()) h0).h1.1) (by omega) (by omega)) (wm 9 199 rfl rfl) (wm 9 201 rfl rfl) (wm 0 162 rfl rfl) rfl rfl (by decide) rfl (wm 1 18 rfl rfl) (wm 9 202 rfl rfl) (by decide) hR ⟨sfr (F := F) (a := 1) (by decide), slo (L := Lo) (m := 6) (a := 20) (by decide)⟩ (n := 4) rfl rfl (Nat.le_of_ble_eq_true rfl) hl.1 dX12_worded_93 (fun μ762 ρ d0 H locs hp G => ?_)
          obtain ⟨F_763, hp_764, hp_765, hp_766, hp_767, hp_768, hp_769, hp_770, hp_771, hp_772, hp_773, hp_774⟩ := hp
          have hpl_775 := hp_765.pl
          have hw_776 := wr_r (μ := μ762)
          have hxt_777 : mEXT μ μ762 := hxt_749.tr hp_774
          have hX_778 : ∀ _ : Unit, bd μ762 = 0 → mPX μ μ762 tt 1 1 (11 * (9 - nn μ) - 3) [] := fun _ h0 => (((hX_745 ()) (by have e9 : bd μ735 = bd μ735 := rfl; have e8 : bd μ762 = bd μ762 := rfl; omega)).app (hp_773 () h0) (by omega)).ee (by omega)
          refine lv_goto (tgt := 223) hx hb dX12_worded_96 (by decide) ?_
          exact xr_v G hret hlk dX12_worded_223 ⟨(Fr.tr (Fr.tr Fr.rf F_736 (by decide)) F_763 (by decide)), (fun j hj => ((hp_764 j (fun h9 => hj ((by decide : ∀ x ∈ ([6, 8, 9, 10, 11, 12, 13, 15, 16, 17, 18, 22, 29, 39] : List Int), x ∈ ([6, 8, 9, 10, 11, 12, 13, 15, 16, 17, 18, 22, 29, 39] : List Int)) j h9))).trans (hp_737 j (fun h9 => hj ((by decide : ∀ x ∈ ([6, 8, 9, 10, 11, 12, 13, 15] : List Int), x ∈ ([6, 8, 9, 10, 11, 12, 13, 15, 16, 17, 18, 22, 29, 39] : List Int)) j h9))))), hp_765, (by omega), (by omega), (by omega), (by omega), (by omega), (by omega), (fun j hj => ((hp_772 j (by omega)).trans (F_736.1 126 (by decide) j))), (fun _ h0 => (mPX.ex ((hX_778 ()) h0)).e (by omega)), hxt_777⟩
      · refine lv_aload_n hx hb dX12_worded_57 rfl (lv_at hl 1 rfl) ?_
        refine xc_vV G (b := 111) (rest := []) (As := []) (c_X12_next ω l μ  hPM (by omega) (by omega)) (wm 9 0 rfl rfl) (wm 9 2 rfl rfl) (wm 0 119 rfl rfl) rfl rfl (by decide) rfl (wm 1 18 rfl rfl) (wm 9 3 rfl rfl) (by decide) hR ⟨nfr hF (by decide), nlo hLo (by decide)⟩ (n := 0) rfl rfl (Nat.le_of_ble_eq_true rfl) hl.1 dX12_worded_58 (fun μ779 ρ d0 H locs hp G => ?_)
        obtain ⟨F_780, hp_781, hp_782, hp_783, hp_784, hp_785⟩ := hp
        have hpl_786 := hp_782.pl
        have hw_787 := wr_r (μ := μ779)
        refine lv_aload_n hx hb dX12_worded_61 rfl (lv_at hl 1 rfl) ?_
        refine lv_bipush (v := iv 22) hx hb dX12_worded_62 rfl ?_
        refine lv_bipush (v := iv 91) hx hb dX12_worded_64 rfl ?_
        refine lv_bipush (v := iv 93) hx hb dX12_worded_66 rfl ?_
        refine lv_iconst (v := iv 0) hx hb dX12_worded_68 rfl ?_
        have e_788 : μ779.1 111 29 = μ.1 111 29 := (hp_781 29 (by decide))
        have e_790 : μ779.1 111 29 = μ.1 111 29 := (hp_781 29 (by decide))
        have hX_789 : ∀ _ : Unit, bd μ779 = 0 → mPX μ μ779 tt 0 1 (11 * (9 - nn μ) - 3) [] := fun _ h0 => (hX_1 () (by have e9 : bd μ = bd μ := rfl; have e8 : bd μ779 = bd μ779 := rfl; omega)).qm (q0m.fr (K := [111]) (Fr.tr Fr.rf F_780 (by decide)) (by decide) (by decide) (by decide) (hp_781 22 (by decide)) (by omega))
        have e_791 : μ779.1 111 29 = μ.1 111 29 := (hp_781 29 (by decide))
        have e_792 : μ779.1 111 29 = μ.1 111 29 := (hp_781 29 (by decide))
        have hxt_793 : mEXT μ μ779 := (q0m.fr (K := [111]) (Fr.tr Fr.rf F_780 (by decide)) (by decide) (by decide) (by decide) (hp_781 22 (by decide)) (by omega)).1
        have e_794 : μ779.1 111 14 = tt := ((hp_781 14 (by decide)).trans htt.symm)
        have e_795 : μ779.1 111 22 = μ.1 111 22 := (hp_781 22 (by decide))
        have e_796 : μ779.1 111 22 = μ.1 111 22 := (hp_781 22 (by decide))
        have e_797 : μ779.1 111 39 = μ.1 111 39 := (hp_781 39 (by decide))
        have e_798 : μ779.1 111 39 = μ.1 111 39 := (hp_781 39 (by decide))
        have e_799 : μ779.1 111 22 = μ.1 111 22 := (hp_781 22 (by decide))
        have e_800 : μ779.1 111 31 = μ.1 111 31 := (hp_781 31 (by decide))
        have e_801 : μ779.1 111 31 = μ.1 111 31 := (hp_781 31 (by decide))
        have e_802 : μ779.1 111 22 = μ.1 111 22 := (hp_781 22 (by decide))
        have e_803 : μ779.1 111 22 = μ.1 111 22 := (hp_781 22 (by decide))
        have e_804 : μ779.1 111 29 = μ.1 111 29 := (hp_781 29 (by decide))
        have e_805 : μ779.1 111 39 = μ.1 111 39 := (hp_781 39 (by decide))
        refine xc_vV G (b := 111) (rest := []) (As := [.int (iv 22), .int (iv 91), .int (iv 93), .int (iv 0)]) (c_X12_ofPart ω l μ779 22 91 93 0 F Lo Fu Lu kf tt (by unfold ir; omega) (by unfold ir; omega) (by unfold ir; omega) (by unfold ir; omega) (by omega) hF hLo hFu hLu hE hU hp_782 (by omega) (by omega) (by omega) (by omega) (by omega) (by omega) (fun _ h0 => ((hX_789 ()) h0).h1.1) (by omega) (by omega)) (wm 9 199 rfl rfl) (wm 9 201 rfl rfl) (wm 0 162 rfl rfl) rfl rfl (by decide) rfl (wm 1 18 rfl rfl) (wm 9 202 rfl rfl) (by decide) hR ⟨sfr (F := F) (a := 1) (by decide), slo (L := Lo) (m := 6) (a := 20) (by decide)⟩ (n := 4) rfl rfl (Nat.le_of_ble_eq_true rfl) hl.1 dX12_worded_69 (fun μ806 ρ d0 H locs hp G => ?_)
        obtain ⟨F_807, hp_808, hp_809, hp_810, hp_811, hp_812, hp_813, hp_814, hp_815, hp_816, hp_817, hp_818⟩ := hp
        have hpl_819 := hp_809.pl
        have hw_820 := wr_r (μ := μ806)
        have hxt_821 : mEXT μ μ806 := hxt_793.tr hp_818
        have hX_822 : ∀ _ : Unit, bd μ806 = 0 → mPX μ μ806 tt 1 1 (11 * (9 - nn μ) - 3) [] := fun _ h0 => (((hX_789 ()) (by have e9 : bd μ779 = bd μ779 := rfl; have e8 : bd μ806 = bd μ806 := rfl; omega)).app (hp_817 () h0) (by omega)).ee (by omega)
        refine lv_goto (tgt := 223) hx hb dX12_worded_72 (by decide) ?_
        exact xr_v G hret hlk dX12_worded_223 ⟨(Fr.tr (Fr.tr Fr.rf F_780 (by decide)) F_807 (by decide)), (fun j hj => ((hp_808 j (fun h9 => hj ((by decide : ∀ x ∈ ([6, 8, 9, 10, 11, 12, 13, 15, 16, 17, 18, 22, 29, 39] : List Int), x ∈ ([6, 8, 9, 10, 11, 12, 13, 15, 16, 17, 18, 22, 29, 39] : List Int)) j h9))).trans (hp_781 j (fun h9 => hj ((by decide : ∀ x ∈ ([6, 8, 9, 10, 11, 12, 13, 15] : List Int), x ∈ ([6, 8, 9, 10, 11, 12, 13, 15, 16, 17, 18, 22, 29, 39] : List Int)) j h9))))), hp_809, (by omega), (by omega), (by omega), (by omega), (by omega), (by omega), (fun j hj => ((hp_816 j (by omega)).trans (F_780.1 126 (by decide) j))), (fun _ h0 => (mPX.ex ((hX_822 ()) h0)).e (by omega)), hxt_821⟩
    · refine lv_aload_n hx hb dX12_worded_17 rfl (lv_at hl 1 rfl) ?_
      refine xa_geti G fd_X12 (a := 111) (x := tt) 14 rfl (by decide) rfl (wm 7 163 rfl rfl) ⟨rfl, rfl, rfl⟩ dX12_worded_18 rfl htt.symm ?_
      have hr_823 : -2147483648 ≤ tt ∧ tt ≤ 2147483647 := by have h9 := G.hr (a := 111) (k := 14) rfl; rw [show μ.1 111 14 = tt from htt.symm] at h9; exact h9
      refine lv_iconst (v := iv 1) hx hb dX12_worded_21 rfl ?_
      refine xb_icmp_ne (tgt := 51) hx hb (by unfold ir; omega) (by unfold ir; omega) dX12_worded_22 (by decide) (fun c_22 => ?_) (fun c_22 => ?_)
      · refine lv_iload_n hx hb dX12_worded_51 rfl (lv_at hl 0 rfl) ?_
        refine lv_bipush (v := iv 24) hx hb dX12_worded_52 rfl ?_
        refine xb_icmp_ne (tgt := 75) hx hb (by unfold ir; omega) (by unfold ir; omega) dX12_worded_54 (by decide) (fun c_54 => ?_) (fun c_54 => ?_)
        · refine lv_iload_n hx hb dX12_worded_75 rfl (lv_at hl 0 rfl) ?_
          refine lv_bipush (v := iv 25) hx hb dX12_worded_76 rfl ?_
          refine xb_icmp_ne (tgt := 99) hx hb (by unfold ir; omega) (by unfold ir; omega) dX12_worded_78 (by decide) (fun c_78 => ?_) (fun c_78 => ?_)
          · refine lv_iload_n hx hb dX12_worded_99 rfl (lv_at hl 0 rfl) ?_
            refine lv_bipush (v := iv 28) hx hb dX12_worded_100 rfl ?_
            refine xb_icmp_ne (tgt := 136) hx hb (by unfold ir; omega) (by unfold ir; omega) dX12_worded_102 (by decide) (fun c_102 => ?_) (fun c_102 => ?_)
            · refine lv_iload_n hx hb dX12_worded_136 rfl (lv_at hl 0 rfl) ?_
              refine lv_bipush (v := iv 27) hx hb dX12_worded_137 rfl ?_
              refine xb_icmp_ne (tgt := 182) hx hb (by unfold ir; omega) (by unfold ir; omega) dX12_worded_139 (by decide) (fun c_139 => ?_) (fun c_139 => ?_)
              · refine lv_iload_n hx hb dX12_worded_182 rfl (lv_at hl 0 rfl) ?_
                refine lv_bipush (v := iv 29) hx hb dX12_worded_183 rfl ?_
                refine xb_icmp_lt (tgt := 215) hx hb (by unfold ir; omega) (by unfold ir; omega) dX12_worded_185 (by decide) (fun c_185 => ?_) (fun c_185 => ?_)
                · refine lv_aload_n hx hb dX12_worded_215 rfl (lv_at hl 1 rfl) ?_
                  refine lv_aload_n hx hb dX12_worded_216 rfl (lv_at hl 1 rfl) ?_
                  refine xa_geti G fd_X12 (a := 111) (x := μ.1 111 9) 9 rfl (by decide) rfl (wm 7 158 rfl rfl) ⟨rfl, rfl, rfl⟩ dX12_worded_217 rfl rfl ?_
                  have hr_824 : -2147483648 ≤ μ.1 111 9 ∧ μ.1 111 9 ≤ 2147483647 := by have h9 := G.hr (a := 111) (k := 9) rfl; exact h9
                  refine xc_vV G (b := 111) (rest := []) (As := [.int (iv (μ.1 111 9))]) (c_X12_wrong ω l μ (μ.1 111 9) (by unfold ir; omega) (by omega)) (wm 9 22 rfl rfl) (wm 9 24 rfl rfl) (wm 0 123 rfl rfl) rfl rfl (by decide) rfl (wm 1 18 rfl rfl) (wm 9 25 rfl rfl) (by decide) hR ⟨nfr hF (by decide), nlo hLo (by decide)⟩ (n := 1) rfl rfl (Nat.le_of_ble_eq_true rfl) hl.1 dX12_worded_220 (fun μ825 ρ d0 H locs hp G => ?_)
                  obtain ⟨F_826, hp_827, hp_828⟩ := hp
                  have hw_829 := wr_r (μ := μ825)
                  have e_830 : μ825.1 111 22 = μ.1 111 22 := (hp_827 22 (by decide))
                  have e_831 : μ825.1 111 9 = μ.1 111 9 := (hp_827 9 (by decide))
                  have e_832 : μ825.1 111 29 = μ.1 111 29 := (hp_827 29 (by decide))
                  have e_833 : μ825.1 111 39 = μ.1 111 39 := (hp_827 39 (by decide))
                  have e_834 : μ825.1 111 29 = μ.1 111 29 := (hp_827 29 (by decide))
                  have e_836 : μ825.1 111 29 = μ.1 111 29 := (hp_827 29 (by decide))
                  have hX_835 : ∀ _ : Unit, bd μ825 = 0 → mPX μ μ825 tt 0 1 (11 * (9 - nn μ) - 3) [] := fun _ h0 => (hX_1 () (by have e9 : bd μ = bd μ := rfl; have e8 : bd μ825 = bd μ825 := rfl; omega)).qm (q0m.fr (K := [111]) (Fr.tr Fr.rf F_826 (by decide)) (by decide) (by decide) (by decide) (hp_827 22 (by decide)) (by omega))
                  have hPM_837 : PM μ825 := hPM.wg (hp_827 4 (by decide)) (hp_827 6 (by decide)) (hp_827 7 (by decide)) (hp_827 8 (by decide)) (hp_827 9 (by decide)) (hp_827 11 (by decide)) (hp_827 12 (by decide)) ((((hp_827 14 (by decide)).trans htt.symm)).trans (htt.symm).symm) (by omega) (hp_827 29 (by decide)) (fun j => (F_826.1 123 (by decide) j))
                  have e_838 : μ825.1 111 29 = μ.1 111 29 := (hp_827 29 (by decide))
                  have hxt_839 : mEXT μ μ825 := (q0m.fr (K := [111]) (Fr.tr Fr.rf F_826 (by decide)) (by decide) (by decide) (by decide) (hp_827 22 (by decide)) (by omega)).1
                  have e_840 : μ825.1 111 22 = μ.1 111 22 := (hp_827 22 (by decide))
                  have e_841 : μ825.1 111 22 = μ.1 111 22 := (hp_827 22 (by decide))
                  have e_842 : μ825.1 111 9 = μ.1 111 9 := (hp_827 9 (by decide))
                  have e_843 : μ825.1 111 9 = μ.1 111 9 := (hp_827 9 (by decide))
                  have e_844 : μ825.1 111 29 = μ.1 111 29 := (hp_827 29 (by decide))
                  have e_845 : μ825.1 111 39 = μ.1 111 39 := (hp_827 39 (by decide))
                  exact xr_v G hret hlk dX12_worded_223 ⟨(Fr.tr Fr.rf F_826 (by decide)), (fun j hj => (hp_827 j (fun h9 => hj ((by decide : ∀ x ∈ ([15] : List Int), x ∈ ([6, 8, 9, 10, 11, 12, 13, 15, 16, 17, 18, 22, 29, 39] : List Int)) j h9)))), hPM_837, (by omega), (by omega), (by omega), (by omega), (by omega), (by omega), (fun j hj => (F_826.1 126 (by decide) j)), (fun _ h0 => (mPX.ex ((hX_835 ()) h0)).e (by omega)), hxt_839⟩
                · refine lv_aload_n hx hb dX12_worded_188 rfl (lv_at hl 1 rfl) ?_
                  refine xc_vV G (b := 111) (rest := []) (As := []) (c_X12_next ω l μ  hPM (by omega) (by omega)) (wm 9 0 rfl rfl) (wm 9 2 rfl rfl) (wm 0 119 rfl rfl) rfl rfl (by decide) rfl (wm 1 18 rfl rfl) (wm 9 3 rfl rfl) (by decide) hR ⟨nfr hF (by decide), nlo hLo (by decide)⟩ (n := 0) rfl rfl (Nat.le_of_ble_eq_true rfl) hl.1 dX12_worded_189 (fun μ846 ρ d0 H locs hp G => ?_)
                  obtain ⟨F_847, hp_848, hp_849, hp_850, hp_851, hp_852⟩ := hp
                  have hpl_853 := hp_849.pl
                  have hw_854 := wr_r (μ := μ846)
                  refine lv_aload_n hx hb dX12_worded_192 rfl (lv_at hl 1 rfl) ?_
                  refine lv_bipush (v := iv 46) hx hb dX12_worded_193 rfl ?_
                  have e_855 : μ846.1 111 29 = μ.1 111 29 := (hp_848 29 (by decide))
                  have e_857 : μ846.1 111 29 = μ.1 111 29 := (hp_848 29 (by decide))
                  have hX_856 : ∀ _ : Unit, bd μ846 = 0 → mPX μ μ846 tt 0 1 (11 * (9 - nn μ) - 3) [] := fun _ h0 => (hX_1 () (by have e9 : bd μ = bd μ := rfl; have e8 : bd μ846 = bd μ846 := rfl; omega)).qm (q0m.fr (K := [111]) (Fr.tr Fr.rf F_847 (by decide)) (by decide) (by decide) (by decide) (hp_848 22 (by decide)) (by omega))
                  refine xc_vV G (b := 111) (rest := []) (As := [.int (iv 46)]) (c_X12_wantsSign ω l μ846 46 (by unfold ir; omega) hp_849 (by omega)) (wm 9 114 rfl rfl) (wm 9 116 rfl rfl) (wm 0 141 rfl rfl) rfl rfl (by decide) rfl (wm 1 18 rfl rfl) (wm 9 117 rfl rfl) (by decide) hR ⟨nfr hF (by decide), nlo hLo (by decide)⟩ (n := 1) rfl rfl (Nat.le_of_ble_eq_true rfl) hl.1 dX12_worded_195 (fun μ858 ρ d0 H locs hp G => ?_)
                  obtain ⟨F_859, hp_860, hp_861, hp_862, hp_863, hp_864, hp_865⟩ := hp
                  have hpl_866 := hp_861.pl
                  have hw_867 := wr_r (μ := μ858)
                  refine lv_aload_n hx hb dX12_worded_198 rfl (lv_at hl 1 rfl) ?_
                  have e_868 : μ858.1 111 29 = μ.1 111 29 := ((hp_860 29 (by decide)).trans (hp_848 29 (by decide)))
                  have e_870 : μ858.1 111 29 = μ.1 111 29 := ((hp_860 29 (by decide)).trans (hp_848 29 (by decide)))
                  have hX_869 : ∀ _ : Unit, bd μ858 = 0 → mPX μ μ858 tt 0 1 (11 * (9 - nn μ) - 3) [] := fun _ h0 => (hX_856 () (by have e9 : bd μ846 = bd μ846 := rfl; have e8 : bd μ858 = bd μ858 := rfl; omega)).qm (q0m.fr (K := [111]) (Fr.tr Fr.rf F_859 (by decide)) (by decide) (by decide) (by decide) ((((hp_860 22 (by decide)).trans (hp_848 22 (by decide)))).trans ((hp_848 22 (by decide))).symm) (by omega))
                  refine xc_lV G (b := 111) (rest := []) (As := []) (c_X12_takesName ω l μ858  hp_861 (by omega)) (wm 9 70 rfl rfl) (wm 9 72 rfl rfl) (wm 0 130 rfl rfl) rfl rfl (by decide) rfl (wm 1 18 rfl rfl) (wm 9 73 rfl rfl) (by decide) hR ⟨nfr hF (by decide), nlo hLo (by decide)⟩ (n := 0) rfl rfl (Nat.le_of_ble_eq_true rfl) hl.1 dX12_worded_199 (fun r_872 μ871 ρ d0 H locs hr_r_872 hp G => ?_)
                  obtain ⟨F_873, hp_874, hp_875, hp_876, hp_877, hp_878, hp_879⟩ := hp
                  have hpl_880 := hp_875.pl
                  have hw_881 := wr_r (μ := μ871)
                  refine lv_lstore_n (lv' := [(2, .long (jv r_872)), (1, .int (iv (μ.1 111 11))), (0, .ref (oP ω 111))]) hx hb dX12_worded_202 rfl hl (by decide) rfl (fun ls hl => ?_)
                  refine lv_aload_n hx hb dX12_worded_203 rfl (lv_at hl 2 rfl) ?_
                  refine lv_iload_n hx hb dX12_worded_204 rfl (lv_at hl 1 rfl) ?_
                  refine lv_bipush (v := iv 29) hx hb dX12_worded_205 rfl ?_
                  refine xb_isub hx hb dX12_worded_207 ?_
                  refine lv_lload_n hx hb dX12_worded_208 rfl (lv_at hl 0 rfl) ?_
                  have e_882 : μ871.1 111 29 = μ.1 111 29 := ((hp_874 29 (by decide)).trans ((hp_860 29 (by decide)).trans (hp_848 29 (by decide))))
                  have e_884 : μ871.1 111 29 = μ.1 111 29 := ((hp_874 29 (by decide)).trans ((hp_860 29 (by decide)).trans (hp_848 29 (by decide))))
                  have hX_883 : ∀ _ : Unit, bd μ871 = 0 → mPX μ μ871 tt 0 1 (11 * (9 - nn μ) - 3) [] := fun _ h0 => (hX_869 () (by have e9 : bd μ858 = bd μ858 := rfl; have e8 : bd μ871 = bd μ871 := rfl; omega)).qm (q0m.fr (K := [111]) (Fr.tr Fr.rf F_873 (by decide)) (by decide) (by decide) (by decide) ((((hp_874 22 (by decide)).trans ((hp_860 22 (by decide)).trans (hp_848 22 (by decide))))).trans (((hp_860 22 (by decide)).trans (hp_848 22 (by decide)))).symm) (by omega))
                  have e_885 : μ871.1 111 29 = μ.1 111 29 := ((hp_874 29 (by decide)).trans ((hp_860 29 (by decide)).trans (hp_848 29 (by decide))))
                  have e_886 : μ871.1 111 29 = μ.1 111 29 := ((hp_874 29 (by decide)).trans ((hp_860 29 (by decide)).trans (hp_848 29 (by decide))))
                  have hxt_887 : mEXT μ μ871 := (q0m.fr (K := [111]) (Fr.tr (Fr.tr (Fr.tr Fr.rf F_847 (by decide)) F_859 (by decide)) F_873 (by decide)) (by decide) (by decide) (by decide) ((hp_874 22 (by decide)).trans ((hp_860 22 (by decide)).trans (hp_848 22 (by decide)))) (by omega)).1
                  have e_888 : μ871.1 111 14 = tt := ((hp_874 14 (by decide)).trans ((hp_860 14 (by decide)).trans ((hp_848 14 (by decide)).trans htt.symm)))
                  have e_889 : μ871.1 111 22 = μ.1 111 22 := ((hp_874 22 (by decide)).trans ((hp_860 22 (by decide)).trans (hp_848 22 (by decide))))
                  have e_890 : μ871.1 111 22 = μ.1 111 22 := ((hp_874 22 (by decide)).trans ((hp_860 22 (by decide)).trans (hp_848 22 (by decide))))
                  have e_891 : μ871.1 111 39 = μ.1 111 39 := ((hp_874 39 (by decide)).trans ((hp_860 39 (by decide)).trans (hp_848 39 (by decide))))
                  have e_892 : μ871.1 111 39 = μ.1 111 39 := ((hp_874 39 (by decide)).trans ((hp_860 39 (by decide)).trans (hp_848 39 (by decide))))
                  have e_893 : μ871.1 111 22 = μ.1 111 22 := ((hp_874 22 (by decide)).trans ((hp_860 22 (by decide)).trans (hp_848 22 (by decide))))
                  have e_894 : μ871.1 111 31 = μ.1 111 31 := ((hp_874 31 (by decide)).trans ((hp_860 31 (by decide)).trans (hp_848 31 (by decide))))
                  have e_895 : μ871.1 111 31 = μ.1 111 31 := ((hp_874 31 (by decide)).trans ((hp_860 31 (by decide)).trans (hp_848 31 (by decide))))
                  have e_896 : μ871.1 111 22 = μ.1 111 22 := ((hp_874 22 (by decide)).trans ((hp_860 22 (by decide)).trans (hp_848 22 (by decide))))
                  have e_897 : μ871.1 111 22 = μ.1 111 22 := ((hp_874 22 (by decide)).trans ((hp_860 22 (by decide)).trans (hp_848 22 (by decide))))
                  have e_898 : μ871.1 111 29 = μ.1 111 29 := ((hp_874 29 (by decide)).trans ((hp_860 29 (by decide)).trans (hp_848 29 (by decide))))
                  have e_899 : μ871.1 111 39 = μ.1 111 39 := ((hp_874 39 (by decide)).trans ((hp_860 39 (by decide)).trans (hp_848 39 (by decide))))
                  refine xc_vV G (b := 111) (rest := []) (As := [.int (iv ((μ.1 111 11) - 29)), .long (jv r_872)]) (c_X12_call ω l μ871 ((μ.1 111 11) - 29) r_872 F Lo Fu Lu kf tt (by unfold ir; omega) hr_r_872 (by omega) hF hLo hFu hLu hE hU hp_875 (by omega) (by omega) (by omega) (by omega) (by omega) (by omega) (fun _ h0 => ((hX_883 ()) h0).h1.1) (by omega)) (wm 9 179 rfl rfl) (wm 9 181 rfl rfl) (wm 0 157 rfl rfl) rfl rfl (by decide) rfl (wm 1 18 rfl rfl) (wm 9 182 rfl rfl) (by decide) hR ⟨sfr (F := F) (a := 2) (by decide), slo (L := Lo) (m := 7) (a := 44) (by decide)⟩ (n := 2) rfl rfl (Nat.le_of_ble_eq_true rfl) hl.1 dX12_worded_209 (fun μ900 ρ d0 H locs hp G => ?_)
                  obtain ⟨F_901, hp_902, hp_903, hp_904, hp_905, hp_906, hp_907, hp_908, hp_909, hp_910, hp_911, hp_912⟩ := hp
                  have hpl_913 := hp_903.pl
                  have hw_914 := wr_r (μ := μ900)
                  have hxt_915 : mEXT μ μ900 := hxt_887.tr hp_912
                  have hX_916 : ∀ _ : Unit, bd μ900 = 0 → mPX μ μ900 tt 1 1 (11 * (9 - nn μ) - 3) [] := fun _ h0 => (((hX_883 ()) (by have e9 : bd μ871 = bd μ871 := rfl; have e8 : bd μ900 = bd μ900 := rfl; omega)).app (hp_911 () h0) (by omega)).ee (by omega)
                  refine lv_goto (tgt := 223) hx hb dX12_worded_212 (by decide) ?_
                  exact xr_v G hret hlk dX12_worded_223 ⟨(Fr.tr (Fr.tr (Fr.tr (Fr.tr Fr.rf F_847 (by decide)) F_859 (by decide)) F_873 (by decide)) F_901 (by decide)), (fun j hj => ((hp_902 j (fun h9 => hj ((by decide : ∀ x ∈ ([6, 8, 9, 10, 11, 12, 13, 15, 16, 17, 18, 22, 29, 39] : List Int), x ∈ ([6, 8, 9, 10, 11, 12, 13, 15, 16, 17, 18, 22, 29, 39] : List Int)) j h9))).trans ((hp_874 j (fun h9 => hj ((by decide : ∀ x ∈ ([6, 8, 9, 10, 11, 12, 13, 15] : List Int), x ∈ ([6, 8, 9, 10, 11, 12, 13, 15, 16, 17, 18, 22, 29, 39] : List Int)) j h9))).trans ((hp_860 j (fun h9 => hj ((by decide : ∀ x ∈ ([6, 8, 9, 10, 11, 12, 13, 15] : List Int), x ∈ ([6, 8, 9, 10, 11, 12, 13, 15, 16, 17, 18, 22, 29, 39] : List Int)) j h9))).trans (hp_848 j (fun h9 => hj ((by decide : ∀ x ∈ ([6, 8, 9, 10, 11, 12, 13, 15] : List Int), x ∈ ([6, 8, 9, 10, 11, 12, 13, 15, 16, 17, 18, 22, 29, 39] : List Int)) j h9))))))), hp_903, (by omega), (by omega), (by omega), (by omega), (by omega), (by omega), (fun j hj => ((hp_910 j (by omega)).trans ((F_873.1 126 (by decide) j).trans ((F_859.1 126 (by decide) j).trans (F_847.1 126 (by decide) j))))), (fun _ h0 => (mPX.ex ((hX_916 ()) h0)).e (by omega)), hxt_915⟩
              · refine lv_aload_n hx hb dX12_worded_142 rfl (lv_at hl 1 rfl) ?_
                refine xa_geti G fd_X12 (a := 111) (x := tt) 14 rfl (by decide) rfl (wm 7 163 rfl rfl) ⟨rfl, rfl, rfl⟩ dX12_worded_143 rfl htt.symm ?_
                refine lv_iconst (v := iv 2) hx hb dX12_worded_146 rfl ?_
                refine xb_icmp_ne (tgt := 182) hx hb (by unfold ir; omega) (by unfold ir; omega) dX12_worded_147 (by decide) (fun c_147 => ?_) (fun c_147 => ?_)
                · refine lv_iload_n hx hb dX12_worded_182 rfl (lv_at hl 0 rfl) ?_
                  refine lv_bipush (v := iv 29) hx hb dX12_worded_183 rfl ?_
                  refine xb_icmp_lt (tgt := 215) hx hb (by unfold ir; omega) (by unfold ir; omega) dX12_worded_185 (by decide) (fun c_185 => ?_) (fun c_185 => ?_)
                  · refine lv_aload_n hx hb dX12_worded_215 rfl (lv_at hl 1 rfl) ?_
                    refine lv_aload_n hx hb dX12_worded_216 rfl (lv_at hl 1 rfl) ?_
                    refine xa_geti G fd_X12 (a := 111) (x := μ.1 111 9) 9 rfl (by decide) rfl (wm 7 158 rfl rfl) ⟨rfl, rfl, rfl⟩ dX12_worded_217 rfl rfl ?_
                    have hr_917 : -2147483648 ≤ μ.1 111 9 ∧ μ.1 111 9 ≤ 2147483647 := by have h9 := G.hr (a := 111) (k := 9) rfl; exact h9
                    refine xc_vV G (b := 111) (rest := []) (As := [.int (iv (μ.1 111 9))]) (c_X12_wrong ω l μ (μ.1 111 9) (by unfold ir; omega) (by omega)) (wm 9 22 rfl rfl) (wm 9 24 rfl rfl) (wm 0 123 rfl rfl) rfl rfl (by decide) rfl (wm 1 18 rfl rfl) (wm 9 25 rfl rfl) (by decide) hR ⟨nfr hF (by decide), nlo hLo (by decide)⟩ (n := 1) rfl rfl (Nat.le_of_ble_eq_true rfl) hl.1 dX12_worded_220 (fun μ918 ρ d0 H locs hp G => ?_)
                    obtain ⟨F_919, hp_920, hp_921⟩ := hp
                    have hw_922 := wr_r (μ := μ918)
                    have e_923 : μ918.1 111 22 = μ.1 111 22 := (hp_920 22 (by decide))
                    have e_924 : μ918.1 111 9 = μ.1 111 9 := (hp_920 9 (by decide))
                    have e_925 : μ918.1 111 29 = μ.1 111 29 := (hp_920 29 (by decide))
                    have e_926 : μ918.1 111 39 = μ.1 111 39 := (hp_920 39 (by decide))
                    have e_927 : μ918.1 111 29 = μ.1 111 29 := (hp_920 29 (by decide))
                    have e_929 : μ918.1 111 29 = μ.1 111 29 := (hp_920 29 (by decide))
                    have hX_928 : ∀ _ : Unit, bd μ918 = 0 → mPX μ μ918 tt 0 1 (11 * (9 - nn μ) - 3) [] := fun _ h0 => (hX_1 () (by have e9 : bd μ = bd μ := rfl; have e8 : bd μ918 = bd μ918 := rfl; omega)).qm (q0m.fr (K := [111]) (Fr.tr Fr.rf F_919 (by decide)) (by decide) (by decide) (by decide) (hp_920 22 (by decide)) (by omega))
                    have hPM_930 : PM μ918 := hPM.wg (hp_920 4 (by decide)) (hp_920 6 (by decide)) (hp_920 7 (by decide)) (hp_920 8 (by decide)) (hp_920 9 (by decide)) (hp_920 11 (by decide)) (hp_920 12 (by decide)) ((((hp_920 14 (by decide)).trans htt.symm)).trans (htt.symm).symm) (by omega) (hp_920 29 (by decide)) (fun j => (F_919.1 123 (by decide) j))
                    have e_931 : μ918.1 111 29 = μ.1 111 29 := (hp_920 29 (by decide))
                    have hxt_932 : mEXT μ μ918 := (q0m.fr (K := [111]) (Fr.tr Fr.rf F_919 (by decide)) (by decide) (by decide) (by decide) (hp_920 22 (by decide)) (by omega)).1
                    have e_933 : μ918.1 111 22 = μ.1 111 22 := (hp_920 22 (by decide))
                    have e_934 : μ918.1 111 22 = μ.1 111 22 := (hp_920 22 (by decide))
                    have e_935 : μ918.1 111 9 = μ.1 111 9 := (hp_920 9 (by decide))
                    have e_936 : μ918.1 111 9 = μ.1 111 9 := (hp_920 9 (by decide))
                    have e_937 : μ918.1 111 29 = μ.1 111 29 := (hp_920 29 (by decide))
                    have e_938 : μ918.1 111 39 = μ.1 111 39 := (hp_920 39 (by decide))
                    exact xr_v G hret hlk dX12_worded_223 ⟨(Fr.tr Fr.rf F_919 (by decide)), (fun j hj => (hp_920 j (fun h9 => hj ((by decide : ∀ x ∈ ([15] : List Int), x ∈ ([6, 8, 9, 10, 11, 12, 13, 15, 16, 17, 18, 22, 29, 39] : List Int)) j h9)))), hPM_930, (by omega), (by omega), (by omega), (by omega), (by omega), (by omega), (fun j hj => (F_919.1 126 (by decide) j)), (fun _ h0 => (mPX.ex ((hX_928 ()) h0)).e (by omega)), hxt_932⟩
                  · refine lv_aload_n hx hb dX12_worded_188 rfl (lv_at hl 1 rfl) ?_
                    refine xc_vV G (b := 111) (rest := []) (As := []) (c_X12_next ω l μ  hPM (by omega) (by omega)) (wm 9 0 rfl rfl) (wm 9 2 rfl rfl) (wm 0 119 rfl rfl) rfl rfl (by decide) rfl (wm 1 18 rfl rfl) (wm 9 3 rfl rfl) (by decide) hR ⟨nfr hF (by decide), nlo hLo (by decide)⟩ (n := 0) rfl rfl (Nat.le_of_ble_eq_true rfl) hl.1 dX12_worded_189 (fun μ939 ρ d0 H locs hp G => ?_)
                    obtain ⟨F_940, hp_941, hp_942, hp_943, hp_944, hp_945⟩ := hp
                    have hpl_946 := hp_942.pl
                    have hw_947 := wr_r (μ := μ939)
                    refine lv_aload_n hx hb dX12_worded_192 rfl (lv_at hl 1 rfl) ?_
                    refine lv_bipush (v := iv 46) hx hb dX12_worded_193 rfl ?_
                    have e_948 : μ939.1 111 29 = μ.1 111 29 := (hp_941 29 (by decide))
                    have e_950 : μ939.1 111 29 = μ.1 111 29 := (hp_941 29 (by decide))
                    have hX_949 : ∀ _ : Unit, bd μ939 = 0 → mPX μ μ939 tt 0 1 (11 * (9 - nn μ) - 3) [] := fun _ h0 => (hX_1 () (by have e9 : bd μ = bd μ := rfl; have e8 : bd μ939 = bd μ939 := rfl; omega)).qm (q0m.fr (K := [111]) (Fr.tr Fr.rf F_940 (by decide)) (by decide) (by decide) (by decide) (hp_941 22 (by decide)) (by omega))
                    refine xc_vV G (b := 111) (rest := []) (As := [.int (iv 46)]) (c_X12_wantsSign ω l μ939 46 (by unfold ir; omega) hp_942 (by omega)) (wm 9 114 rfl rfl) (wm 9 116 rfl rfl) (wm 0 141 rfl rfl) rfl rfl (by decide) rfl (wm 1 18 rfl rfl) (wm 9 117 rfl rfl) (by decide) hR ⟨nfr hF (by decide), nlo hLo (by decide)⟩ (n := 1) rfl rfl (Nat.le_of_ble_eq_true rfl) hl.1 dX12_worded_195 (fun μ951 ρ d0 H locs hp G => ?_)
                    obtain ⟨F_952, hp_953, hp_954, hp_955, hp_956, hp_957, hp_958⟩ := hp
                    have hpl_959 := hp_954.pl
                    have hw_960 := wr_r (μ := μ951)
                    refine lv_aload_n hx hb dX12_worded_198 rfl (lv_at hl 1 rfl) ?_
                    have e_961 : μ951.1 111 29 = μ.1 111 29 := ((hp_953 29 (by decide)).trans (hp_941 29 (by decide)))
                    have e_963 : μ951.1 111 29 = μ.1 111 29 := ((hp_953 29 (by decide)).trans (hp_941 29 (by decide)))
                    have hX_962 : ∀ _ : Unit, bd μ951 = 0 → mPX μ μ951 tt 0 1 (11 * (9 - nn μ) - 3) [] := fun _ h0 => (hX_949 () (by have e9 : bd μ939 = bd μ939 := rfl; have e8 : bd μ951 = bd μ951 := rfl; omega)).qm (q0m.fr (K := [111]) (Fr.tr Fr.rf F_952 (by decide)) (by decide) (by decide) (by decide) ((((hp_953 22 (by decide)).trans (hp_941 22 (by decide)))).trans ((hp_941 22 (by decide))).symm) (by omega))
                    refine xc_lV G (b := 111) (rest := []) (As := []) (c_X12_takesName ω l μ951  hp_954 (by omega)) (wm 9 70 rfl rfl) (wm 9 72 rfl rfl) (wm 0 130 rfl rfl) rfl rfl (by decide) rfl (wm 1 18 rfl rfl) (wm 9 73 rfl rfl) (by decide) hR ⟨nfr hF (by decide), nlo hLo (by decide)⟩ (n := 0) rfl rfl (Nat.le_of_ble_eq_true rfl) hl.1 dX12_worded_199 (fun r_965 μ964 ρ d0 H locs hr_r_965 hp G => ?_)
                    obtain ⟨F_966, hp_967, hp_968, hp_969, hp_970, hp_971, hp_972⟩ := hp
                    have hpl_973 := hp_968.pl
                    have hw_974 := wr_r (μ := μ964)
                    refine lv_lstore_n (lv' := [(2, .long (jv r_965)), (1, .int (iv (μ.1 111 11))), (0, .ref (oP ω 111))]) hx hb dX12_worded_202 rfl hl (by decide) rfl (fun ls hl => ?_)
                    refine lv_aload_n hx hb dX12_worded_203 rfl (lv_at hl 2 rfl) ?_
                    refine lv_iload_n hx hb dX12_worded_204 rfl (lv_at hl 1 rfl) ?_
                    refine lv_bipush (v := iv 29) hx hb dX12_worded_205 rfl ?_
                    refine xb_isub hx hb dX12_worded_207 ?_
                    refine lv_lload_n hx hb dX12_worded_208 rfl (lv_at hl 0 rfl) ?_
                    have e_975 : μ964.1 111 29 = μ.1 111 29 := ((hp_967 29 (by decide)).trans ((hp_953 29 (by decide)).trans (hp_941 29 (by decide))))
                    have e_977 : μ964.1 111 29 = μ.1 111 29 := ((hp_967 29 (by decide)).trans ((hp_953 29 (by decide)).trans (hp_941 29 (by decide))))
                    have hX_976 : ∀ _ : Unit, bd μ964 = 0 → mPX μ μ964 tt 0 1 (11 * (9 - nn μ) - 3) [] := fun _ h0 => (hX_962 () (by have e9 : bd μ951 = bd μ951 := rfl; have e8 : bd μ964 = bd μ964 := rfl; omega)).qm (q0m.fr (K := [111]) (Fr.tr Fr.rf F_966 (by decide)) (by decide) (by decide) (by decide) ((((hp_967 22 (by decide)).trans ((hp_953 22 (by decide)).trans (hp_941 22 (by decide))))).trans (((hp_953 22 (by decide)).trans (hp_941 22 (by decide)))).symm) (by omega))
                    have e_978 : μ964.1 111 29 = μ.1 111 29 := ((hp_967 29 (by decide)).trans ((hp_953 29 (by decide)).trans (hp_941 29 (by decide))))
                    have e_979 : μ964.1 111 29 = μ.1 111 29 := ((hp_967 29 (by decide)).trans ((hp_953 29 (by decide)).trans (hp_941 29 (by decide))))
                    have hxt_980 : mEXT μ μ964 := (q0m.fr (K := [111]) (Fr.tr (Fr.tr (Fr.tr Fr.rf F_940 (by decide)) F_952 (by decide)) F_966 (by decide)) (by decide) (by decide) (by decide) ((hp_967 22 (by decide)).trans ((hp_953 22 (by decide)).trans (hp_941 22 (by decide)))) (by omega)).1
                    have e_981 : μ964.1 111 14 = tt := ((hp_967 14 (by decide)).trans ((hp_953 14 (by decide)).trans ((hp_941 14 (by decide)).trans htt.symm)))
                    have e_982 : μ964.1 111 22 = μ.1 111 22 := ((hp_967 22 (by decide)).trans ((hp_953 22 (by decide)).trans (hp_941 22 (by decide))))
                    have e_983 : μ964.1 111 22 = μ.1 111 22 := ((hp_967 22 (by decide)).trans ((hp_953 22 (by decide)).trans (hp_941 22 (by decide))))
                    have e_984 : μ964.1 111 39 = μ.1 111 39 := ((hp_967 39 (by decide)).trans ((hp_953 39 (by decide)).trans (hp_941 39 (by decide))))
                    have e_985 : μ964.1 111 39 = μ.1 111 39 := ((hp_967 39 (by decide)).trans ((hp_953 39 (by decide)).trans (hp_941 39 (by decide))))
                    have e_986 : μ964.1 111 22 = μ.1 111 22 := ((hp_967 22 (by decide)).trans ((hp_953 22 (by decide)).trans (hp_941 22 (by decide))))
                    have e_987 : μ964.1 111 31 = μ.1 111 31 := ((hp_967 31 (by decide)).trans ((hp_953 31 (by decide)).trans (hp_941 31 (by decide))))
                    have e_988 : μ964.1 111 31 = μ.1 111 31 := ((hp_967 31 (by decide)).trans ((hp_953 31 (by decide)).trans (hp_941 31 (by decide))))
                    have e_989 : μ964.1 111 22 = μ.1 111 22 := ((hp_967 22 (by decide)).trans ((hp_953 22 (by decide)).trans (hp_941 22 (by decide))))
                    have e_990 : μ964.1 111 22 = μ.1 111 22 := ((hp_967 22 (by decide)).trans ((hp_953 22 (by decide)).trans (hp_941 22 (by decide))))
                    have e_991 : μ964.1 111 29 = μ.1 111 29 := ((hp_967 29 (by decide)).trans ((hp_953 29 (by decide)).trans (hp_941 29 (by decide))))
                    have e_992 : μ964.1 111 39 = μ.1 111 39 := ((hp_967 39 (by decide)).trans ((hp_953 39 (by decide)).trans (hp_941 39 (by decide))))
                    refine xc_vV G (b := 111) (rest := []) (As := [.int (iv ((μ.1 111 11) - 29)), .long (jv r_965)]) (c_X12_call ω l μ964 ((μ.1 111 11) - 29) r_965 F Lo Fu Lu kf tt (by unfold ir; omega) hr_r_965 (by omega) hF hLo hFu hLu hE hU hp_968 (by omega) (by omega) (by omega) (by omega) (by omega) (by omega) (fun _ h0 => ((hX_976 ()) h0).h1.1) (by omega)) (wm 9 179 rfl rfl) (wm 9 181 rfl rfl) (wm 0 157 rfl rfl) rfl rfl (by decide) rfl (wm 1 18 rfl rfl) (wm 9 182 rfl rfl) (by decide) hR ⟨sfr (F := F) (a := 2) (by decide), slo (L := Lo) (m := 7) (a := 44) (by decide)⟩ (n := 2) rfl rfl (Nat.le_of_ble_eq_true rfl) hl.1 dX12_worded_209 (fun μ993 ρ d0 H locs hp G => ?_)
                    obtain ⟨F_994, hp_995, hp_996, hp_997, hp_998, hp_999, hp_1000, hp_1001, hp_1002, hp_1003, hp_1004, hp_1005⟩ := hp
                    have hpl_1006 := hp_996.pl
                    have hw_1007 := wr_r (μ := μ993)
                    have hxt_1008 : mEXT μ μ993 := hxt_980.tr hp_1005
                    have hX_1009 : ∀ _ : Unit, bd μ993 = 0 → mPX μ μ993 tt 1 1 (11 * (9 - nn μ) - 3) [] := fun _ h0 => (((hX_976 ()) (by have e9 : bd μ964 = bd μ964 := rfl; have e8 : bd μ993 = bd μ993 := rfl; omega)).app (hp_1004 () h0) (by omega)).ee (by omega)
                    refine lv_goto (tgt := 223) hx hb dX12_worded_212 (by decide) ?_
                    exact xr_v G hret hlk dX12_worded_223 ⟨(Fr.tr (Fr.tr (Fr.tr (Fr.tr Fr.rf F_940 (by decide)) F_952 (by decide)) F_966 (by decide)) F_994 (by decide)), (fun j hj => ((hp_995 j (fun h9 => hj ((by decide : ∀ x ∈ ([6, 8, 9, 10, 11, 12, 13, 15, 16, 17, 18, 22, 29, 39] : List Int), x ∈ ([6, 8, 9, 10, 11, 12, 13, 15, 16, 17, 18, 22, 29, 39] : List Int)) j h9))).trans ((hp_967 j (fun h9 => hj ((by decide : ∀ x ∈ ([6, 8, 9, 10, 11, 12, 13, 15] : List Int), x ∈ ([6, 8, 9, 10, 11, 12, 13, 15, 16, 17, 18, 22, 29, 39] : List Int)) j h9))).trans ((hp_953 j (fun h9 => hj ((by decide : ∀ x ∈ ([6, 8, 9, 10, 11, 12, 13, 15] : List Int), x ∈ ([6, 8, 9, 10, 11, 12, 13, 15, 16, 17, 18, 22, 29, 39] : List Int)) j h9))).trans (hp_941 j (fun h9 => hj ((by decide : ∀ x ∈ ([6, 8, 9, 10, 11, 12, 13, 15] : List Int), x ∈ ([6, 8, 9, 10, 11, 12, 13, 15, 16, 17, 18, 22, 29, 39] : List Int)) j h9))))))), hp_996, (by omega), (by omega), (by omega), (by omega), (by omega), (by omega), (fun j hj => ((hp_1003 j (by omega)).trans ((F_966.1 126 (by decide) j).trans ((F_952.1 126 (by decide) j).trans (F_940.1 126 (by decide) j))))), (fun _ h0 => (mPX.ex ((hX_1009 ()) h0)).e (by omega)), hxt_1008⟩
                · refine lv_aload_n hx hb dX12_worded_150 rfl (lv_at hl 1 rfl) ?_
                  refine xc_vV G (b := 111) (rest := []) (As := []) (c_X12_next ω l μ  hPM (by omega) (by omega)) (wm 9 0 rfl rfl) (wm 9 2 rfl rfl) (wm 0 119 rfl rfl) rfl rfl (by decide) rfl (wm 1 18 rfl rfl) (wm 9 3 rfl rfl) (by decide) hR ⟨nfr hF (by decide), nlo hLo (by decide)⟩ (n := 0) rfl rfl (Nat.le_of_ble_eq_true rfl) hl.1 dX12_worded_151 (fun μ1010 ρ d0 H locs hp G => ?_)
                  obtain ⟨F_1011, hp_1012, hp_1013, hp_1014, hp_1015, hp_1016⟩ := hp
                  have hpl_1017 := hp_1013.pl
                  have hw_1018 := wr_r (μ := μ1010)
                  refine lv_aload_n hx hb dX12_worded_154 rfl (lv_at hl 1 rfl) ?_
                  refine lv_bipush (v := iv 40) hx hb dX12_worded_155 rfl ?_
                  have e_1019 : μ1010.1 111 29 = μ.1 111 29 := (hp_1012 29 (by decide))
                  have e_1021 : μ1010.1 111 29 = μ.1 111 29 := (hp_1012 29 (by decide))
                  have hX_1020 : ∀ _ : Unit, bd μ1010 = 0 → mPX μ μ1010 tt 0 1 (11 * (9 - nn μ) - 3) [] := fun _ h0 => (hX_1 () (by have e9 : bd μ = bd μ := rfl; have e8 : bd μ1010 = bd μ1010 := rfl; omega)).qm (q0m.fr (K := [111]) (Fr.tr Fr.rf F_1011 (by decide)) (by decide) (by decide) (by decide) (hp_1012 22 (by decide)) (by omega))
                  refine xc_vV G (b := 111) (rest := []) (As := [.int (iv 40)]) (c_X12_opensWith ω l μ1010 40 (by unfold ir; omega) hp_1013 (by omega) (by omega)) (wm 9 86 rfl rfl) (wm 9 88 rfl rfl) (wm 0 134 rfl rfl) rfl rfl (by decide) rfl (wm 1 18 rfl rfl) (wm 9 89 rfl rfl) (by decide) hR ⟨nfr hF (by decide), nlo hLo (by decide)⟩ (n := 1) rfl rfl (Nat.le_of_ble_eq_true rfl) hl.1 dX12_worded_157 (fun μ1022 ρ d0 H locs hp G => ?_)
                  obtain ⟨F_1023, hp_1024, hp_1025, hp_1026, hp_1027, hp_1028, hp_1029⟩ := hp
                  have hpl_1030 := hp_1025.pl
                  have hw_1031 := wr_r (μ := μ1022)
                  refine lv_aload_n hx hb dX12_worded_160 rfl (lv_at hl 1 rfl) ?_
                  have e_1032 : μ1022.1 111 29 = μ.1 111 29 := ((hp_1024 29 (by decide)).trans (hp_1012 29 (by decide)))
                  have e_1034 : μ1022.1 111 29 = μ.1 111 29 := ((hp_1024 29 (by decide)).trans (hp_1012 29 (by decide)))
                  have hX_1033 : ∀ _ : Unit, bd μ1022 = 0 → mPX μ μ1022 tt 0 1 (11 * (9 - nn μ) - 3) [] := fun _ h0 => (hX_1020 () (by have e9 : bd μ1010 = bd μ1010 := rfl; have e8 : bd μ1022 = bd μ1022 := rfl; omega)).qm (q0m.fr (K := [111]) (Fr.tr Fr.rf F_1023 (by decide)) (by decide) (by decide) (by decide) ((((hp_1024 22 (by decide)).trans (hp_1012 22 (by decide)))).trans ((hp_1012 22 (by decide))).symm) (by omega))
                  have e_1035 : μ1022.1 111 29 = μ.1 111 29 := ((hp_1024 29 (by decide)).trans (hp_1012 29 (by decide)))
                  have e_1036 : μ1022.1 111 29 = μ.1 111 29 := ((hp_1024 29 (by decide)).trans (hp_1012 29 (by decide)))
                  have hxt_1037 : mEXT μ μ1022 := (q0m.fr (K := [111]) (Fr.tr (Fr.tr Fr.rf F_1011 (by decide)) F_1023 (by decide)) (by decide) (by decide) (by decide) ((hp_1024 22 (by decide)).trans (hp_1012 22 (by decide))) (by omega)).1
                  have e_1038 : μ1022.1 111 14 = tt := ((hp_1024 14 (by decide)).trans ((hp_1012 14 (by decide)).trans htt.symm))
                  have e_1039 : μ1022.1 111 22 = μ.1 111 22 := ((hp_1024 22 (by decide)).trans (hp_1012 22 (by decide)))
                  have e_1040 : μ1022.1 111 22 = μ.1 111 22 := ((hp_1024 22 (by decide)).trans (hp_1012 22 (by decide)))
                  have e_1041 : μ1022.1 111 39 = μ.1 111 39 := ((hp_1024 39 (by decide)).trans (hp_1012 39 (by decide)))
                  have e_1042 : μ1022.1 111 39 = μ.1 111 39 := ((hp_1024 39 (by decide)).trans (hp_1012 39 (by decide)))
                  have e_1043 : μ1022.1 111 22 = μ.1 111 22 := ((hp_1024 22 (by decide)).trans (hp_1012 22 (by decide)))
                  have e_1044 : μ1022.1 111 31 = μ.1 111 31 := ((hp_1024 31 (by decide)).trans (hp_1012 31 (by decide)))
                  have e_1045 : μ1022.1 111 31 = μ.1 111 31 := ((hp_1024 31 (by decide)).trans (hp_1012 31 (by decide)))
                  have e_1046 : μ1022.1 111 22 = μ.1 111 22 := ((hp_1024 22 (by decide)).trans (hp_1012 22 (by decide)))
                  have e_1047 : μ1022.1 111 22 = μ.1 111 22 := ((hp_1024 22 (by decide)).trans (hp_1012 22 (by decide)))
                  have e_1048 : μ1022.1 111 29 = μ.1 111 29 := ((hp_1024 29 (by decide)).trans (hp_1012 29 (by decide)))
                  have e_1049 : μ1022.1 111 39 = μ.1 111 39 := ((hp_1024 39 (by decide)).trans (hp_1012 39 (by decide)))
                  refine xc_vV G (b := 111) (rest := []) (As := []) (((fun (_ : Om) (_ : Launch) => hE)) ω l μ1022 tt (by omega) hp_1025 (by omega) (by omega) (by omega) (by omega) (by omega) (by omega) (fun _ h0 => ((hX_1033 ()) h0).h1.1)) (wm 9 139 rfl rfl) (wm 9 141 rfl rfl) (wm 0 147 rfl rfl) rfl rfl (by decide) rfl (wm 1 18 rfl rfl) (wm 9 142 rfl rfl) (by decide) hR ⟨sfr (F := F) (a := 0) (by decide), slo (L := Lo) (m := 1) (a := 0) (by decide)⟩ (n := 0) rfl rfl (Nat.le_of_ble_eq_true rfl) hl.1 dX12_worded_161 (fun μ1050 ρ d0 H locs hp G => ?_)
                  obtain ⟨F_1051, hp_1052, hp_1053, hp_1054, hp_1055, hp_1056, hp_1057, hp_1058, hp_1059, hp_1060, hp_1061, hp_1062⟩ := hp
                  have hpl_1063 := hp_1053.pl
                  have hw_1064 := wr_r (μ := μ1050)
                  have hxt_1065 : mEXT μ μ1050 := hxt_1037.tr hp_1062
                  have hX_1066 : ∀ _ : Unit, bd μ1050 = 0 → mPX μ μ1050 tt 1 1 (11 * (9 - nn μ) - 3) [] := fun _ h0 => (((hX_1033 ()) (by have e9 : bd μ1022 = bd μ1022 := rfl; have e8 : bd μ1050 = bd μ1050 := rfl; omega)).app (hp_1061 () h0) (by omega)).ee (by omega)
                  refine lv_aload_n hx hb dX12_worded_164 rfl (lv_at hl 1 rfl) ?_
                  refine lv_bipush (v := iv 41) hx hb dX12_worded_165 rfl ?_
                  refine xc_vV G (b := 111) (rest := []) (As := [.int (iv 41)]) (c_X12_closesWith ω l μ1050 41 (by unfold ir; omega) hp_1053 (by omega) (by omega)) (wm 9 110 rfl rfl) (wm 9 112 rfl rfl) (wm 0 140 rfl rfl) rfl rfl (by decide) rfl (wm 1 18 rfl rfl) (wm 9 113 rfl rfl) (by decide) hR ⟨nfr hF (by decide), nlo hLo (by decide)⟩ (n := 1) rfl rfl (Nat.le_of_ble_eq_true rfl) hl.1 dX12_worded_167 (fun μ1067 ρ d0 H locs hp G => ?_)
                  obtain ⟨F_1068, hp_1069, hp_1070, hp_1071, hp_1072, hp_1073, hp_1074⟩ := hp
                  have hpl_1075 := hp_1070.pl
                  have hw_1076 := wr_r (μ := μ1067)
                  refine lv_aload_n hx hb dX12_worded_170 rfl (lv_at hl 1 rfl) ?_
                  refine lv_bipush (v := iv 30) hx hb dX12_worded_171 rfl ?_
                  refine lv_lconst (v := jv 0) hx hb dX12_worded_173 rfl ?_
                  refine lv_iconst (v := iv 0) hx hb dX12_worded_174 rfl ?_
                  have e_1077 : μ1067.1 111 29 = μ1050.1 111 29 := (hp_1069 29 (by decide))
                  have e_1079 : μ1067.1 111 29 = μ1050.1 111 29 := (hp_1069 29 (by decide))
                  have hX_1078 : ∀ _ : Unit, bd μ1067 = 0 → mPX μ μ1067 tt 1 1 (11 * (9 - nn μ) - 3) [] := fun _ h0 => (hX_1066 () (by have e9 : bd μ1050 = bd μ1050 := rfl; have e8 : bd μ1067 = bd μ1067 := rfl; omega)).qm (q0m.fr (K := [111]) (Fr.tr Fr.rf F_1068 (by decide)) (by decide) (by decide) (by decide) (hp_1069 22 (by decide)) (by omega))
                  have e_1080 : μ1067.1 111 29 = μ1050.1 111 29 := (hp_1069 29 (by decide))
                  have e_1081 : μ1067.1 111 29 = μ1050.1 111 29 := (hp_1069 29 (by decide))
                  have hxt_1082 : mEXT μ μ1067 := hxt_1065.tr (q0m.fr (K := [111]) (Fr.tr Fr.rf F_1068 (by decide)) (by decide) (by decide) (by decide) (hp_1069 22 (by decide)) (by omega)).1
                  have e_1083 : μ1067.1 111 22 = μ1050.1 111 22 := (hp_1069 22 (by decide))
                  have e_1084 : μ1067.1 111 22 = μ1050.1 111 22 := (hp_1069 22 (by decide))
                  have e_1085 : μ1067.1 111 22 = μ1050.1 111 22 := (hp_1069 22 (by decide))
                  have e_1086 : μ1067.1 111 22 = μ1050.1 111 22 := (hp_1069 22 (by decide))
                  refine xc_iV G (b := 111) (rest := []) (As := [.int (iv 30), .long (jv 0), .int (iv 0)]) (c_X12_emit ω l μ1067 30 0 0 (by unfold ir; omega) (by unfold jr; omega) (by unfold ir; omega) (by omega)) (wm 9 126 rfl rfl) (wm 9 128 rfl rfl) (wm 0 144 rfl rfl) rfl rfl (by decide) rfl (wm 1 18 rfl rfl) (wm 9 129 rfl rfl) (by decide) hR ⟨nfr hF (by decide), nlo hLo (by decide)⟩ (n := 3) rfl rfl (Nat.le_of_ble_eq_true rfl) hl.1 dX12_worded_175 (fun r_1088 μ1087 ρ d0 H locs hr_r_1088 hp G => ?_)
                  have hr_r_1088 : -2147483648 ≤ r_1088 ∧ r_1088 ≤ 2147483647 := hr_r_1088
                  obtain ⟨F_1089, hp_1090, hp_1091, hp_1092, hp_1093⟩ := hp
                  have hxt_1094 : mEXT μ μ1087 := hxt_1082.tr hp_1091.1
                  have e_1095 : wr μ1087 = wr μ1067 := (wr_cg (hp_1090 15 (by decide)))
                  have e_1096 : bd μ1087 = bd μ1067 := (bd_cg (hp_1090 15 (by decide)) (hp_1090 16 (by decide)))
                  have e_1097 : nn μ1087 = nn μ1067 := (nn_cg (hp_1090 15 (by decide)) (hp_1090 18 (by decide)))
                  have e_1099 : μ1087.1 111 29 = μ1050.1 111 29 := ((hp_1090 29 (by decide)).trans (hp_1069 29 (by decide)))
                  have hX_1098 : ∀ _ : Unit, bd μ1087 = 0 → mPX μ μ1087 tt 1 1 (11 * (9 - nn μ) - 3) [] := fun _ h0 => ((((hX_1078 ()) (by have e9 : bd μ1067 = bd μ1067 := rfl; have e8 : bd μ1087 = bd μ1067 := (bd_cg (hp_1090 15 (by decide)) (hp_1090 16 (by decide))); omega))).app (mAD.ex (t := tt) (e := 0) hp_1091 ((hX_1078 ()) (by have e9 : bd μ1067 = bd μ1067 := rfl; have e8 : bd μ1087 = bd μ1067 := (bd_cg (hp_1090 15 (by decide)) (hp_1090 16 (by decide))); omega)).h1.1 (by unfold mpl; omega) rfl (by have h9 := ((hX_1078 ()) (by have e9 : bd μ1067 = bd μ1067 := rfl; have e8 : bd μ1087 = bd μ1067 := (bd_cg (hp_1090 15 (by decide)) (hp_1090 16 (by decide))); omega)).h1; omega) ⟨fun q => absurd q (by decide), fun q => absurd q (by decide), fun _ => by have h9 := ((hX_1078 ()) (by have e9 : bd μ1067 = bd μ1067 := rfl; have e8 : bd μ1087 = bd μ1067 := (bd_cg (hp_1090 15 (by decide)) (hp_1090 16 (by decide))); omega)).h1; rw [(hp_1091.1.fo (t := tt) _ (Int.le_refl _)).1]; omega, fun q => absurd q (by decide), fun q => absurd q (by decide), fun q => absurd q (by decide), fun q => absurd q (by decide), fun q => absurd q (by decide), fun q => absurd q (by decide), fun q => absurd q (by decide), fun q => absurd q (by decide), fun q => absurd q (by decide), fun q => absurd q (by decide), fun q => absurd q (by decide), fun q => absurd q (by decide), fun q => absurd q (by decide), fun q => absurd q (by decide), fun q => absurd q (by decide), fun q => absurd q (by decide), fun q => absurd q (by decide), fun q => absurd q (by decide), fun q => absurd q (by decide), ⟨by decide, by decide⟩⟩) (by have h9 := ((hX_1078 ()) (by have e9 : bd μ1067 = bd μ1067 := rfl; have e8 : bd μ1087 = bd μ1067 := (bd_cg (hp_1090 15 (by decide)) (hp_1090 16 (by decide))); omega)).h1; omega)).ee (by omega)
                  refine lv_pop hx hb dX12_worded_178 rfl ?_
                  refine lv_goto (tgt := 223) hx hb dX12_worded_179 (by decide) ?_
                  have e_1100 : μ1087.1 111 9 = μ1067.1 111 9 := (hp_1090 9 (by decide))
                  have e_1101 : μ1087.1 111 29 = μ1050.1 111 29 := ((hp_1090 29 (by decide)).trans (hp_1069 29 (by decide)))
                  have e_1102 : μ1087.1 111 39 = μ1050.1 111 39 := ((hp_1090 39 (by decide)).trans (hp_1069 39 (by decide)))
                  have e_1103 : wr μ1087 = wr μ1067 := (wr_cg (hp_1090 15 (by decide)))
                  have e_1104 : bd μ1087 = bd μ1067 := (bd_cg (hp_1090 15 (by decide)) (hp_1090 16 (by decide)))
                  have e_1105 : nn μ1087 = nn μ1067 := (nn_cg (hp_1090 15 (by decide)) (hp_1090 18 (by decide)))
                  have hPM_1106 : PM μ1087 := hp_1070.cg ((((hp_1090 4 (by decide)).trans ((hp_1069 4 (by decide)).trans ((hp_1052 4 (by decide)).trans ((hp_1024 4 (by decide)).trans (hp_1012 4 (by decide))))))).trans (((hp_1069 4 (by decide)).trans ((hp_1052 4 (by decide)).trans ((hp_1024 4 (by decide)).trans (hp_1012 4 (by decide)))))).symm) (hp_1090 6 (by decide)) ((((hp_1090 7 (by decide)).trans ((hp_1069 7 (by decide)).trans ((hp_1052 7 (by decide)).trans ((hp_1024 7 (by decide)).trans (hp_1012 7 (by decide))))))).trans (((hp_1069 7 (by decide)).trans ((hp_1052 7 (by decide)).trans ((hp_1024 7 (by decide)).trans (hp_1012 7 (by decide)))))).symm) (hp_1090 8 (by decide)) (hp_1090 9 (by decide)) (hp_1090 11 (by decide)) (hp_1090 12 (by decide)) ((((hp_1090 14 (by decide)).trans ((hp_1069 14 (by decide)).trans ((hp_1052 14 (by decide)).trans ((hp_1024 14 (by decide)).trans ((hp_1012 14 (by decide)).trans htt.symm)))))).trans (((hp_1069 14 (by decide)).trans ((hp_1052 14 (by decide)).trans ((hp_1024 14 (by decide)).trans ((hp_1012 14 (by decide)).trans htt.symm))))).symm) (hp_1090 15 (by decide)) ((((hp_1090 29 (by decide)).trans (hp_1069 29 (by decide)))).trans ((hp_1069 29 (by decide))).symm) (fun j => (F_1089.1 123 (by decide) j))
                  have e_1107 : μ1087.1 111 9 = μ1067.1 111 9 := (hp_1090 9 (by decide))
                  have e_1108 : wr μ1087 = wr μ1067 := (wr_cg (hp_1090 15 (by decide)))
                  have e_1109 : μ1087.1 111 9 = μ1067.1 111 9 := (hp_1090 9 (by decide))
                  have e_1110 : μ1087.1 111 29 = μ1050.1 111 29 := ((hp_1090 29 (by decide)).trans (hp_1069 29 (by decide)))
                  have e_1111 : wr μ1087 = wr μ1067 := (wr_cg (hp_1090 15 (by decide)))
                  have e_1112 : bd μ1087 = bd μ1067 := (bd_cg (hp_1090 15 (by decide)) (hp_1090 16 (by decide)))
                  have e_1113 : wr μ1087 = wr μ1067 := (wr_cg (hp_1090 15 (by decide)))
                  have e_1114 : nn μ1087 = nn μ1067 := (nn_cg (hp_1090 15 (by decide)) (hp_1090 18 (by decide)))
                  have e_1115 : μ1087.1 111 39 = μ1050.1 111 39 := ((hp_1090 39 (by decide)).trans (hp_1069 39 (by decide)))
                  exact xr_v G hret hlk dX12_worded_223 ⟨(Fr.tr (Fr.tr (Fr.tr (Fr.tr (Fr.tr Fr.rf F_1011 (by decide)) F_1023 (by decide)) F_1051 (by decide)) F_1068 (by decide)) F_1089 (by decide)), (fun j hj => ((hp_1090 j (fun h9 => hj ((by decide : ∀ x ∈ ([22] : List Int), x ∈ ([6, 8, 9, 10, 11, 12, 13, 15, 16, 17, 18, 22, 29, 39] : List Int)) j h9))).trans ((hp_1069 j (fun h9 => hj ((by decide : ∀ x ∈ ([6, 8, 9, 10, 11, 12, 13, 15, 18] : List Int), x ∈ ([6, 8, 9, 10, 11, 12, 13, 15, 16, 17, 18, 22, 29, 39] : List Int)) j h9))).trans ((hp_1052 j (fun h9 => hj ((by decide : ∀ x ∈ ([6, 8, 9, 10, 11, 12, 13, 15, 16, 17, 18, 22, 29, 39] : List Int), x ∈ ([6, 8, 9, 10, 11, 12, 13, 15, 16, 17, 18, 22, 29, 39] : List Int)) j h9))).trans ((hp_1024 j (fun h9 => hj ((by decide : ∀ x ∈ ([6, 8, 9, 10, 11, 12, 13, 15, 18] : List Int), x ∈ ([6, 8, 9, 10, 11, 12, 13, 15, 16, 17, 18, 22, 29, 39] : List Int)) j h9))).trans (hp_1012 j (fun h9 => hj ((by decide : ∀ x ∈ ([6, 8, 9, 10, 11, 12, 13, 15] : List Int), x ∈ ([6, 8, 9, 10, 11, 12, 13, 15, 16, 17, 18, 22, 29, 39] : List Int)) j h9)))))))), hPM_1106, (by omega), (by omega), (by omega), (by omega), (by omega), (by omega), (fun j hj => ((F_1089.1 126 (by decide) j).trans ((F_1068.1 126 (by decide) j).trans ((hp_1060 j (by omega)).trans ((F_1023.1 126 (by decide) j).trans (F_1011.1 126 (by decide) j)))))), (fun _ h0 => (mPX.ex ((hX_1098 ()) h0)).e (by omega)), hxt_1094⟩
            · refine lv_aload_n hx hb dX12_worded_105 rfl (lv_at hl 1 rfl) ?_
              refine xa_geti G fd_X12 (a := 111) (x := tt) 14 rfl (by decide) rfl (wm 7 163 rfl rfl) ⟨rfl, rfl, rfl⟩ dX12_worded_106 rfl htt.symm ?_
              refine lv_iconst (v := iv 2) hx hb dX12_worded_109 rfl ?_
              refine xb_icmp_ne (tgt := 136) hx hb (by unfold ir; omega) (by unfold ir; omega) dX12_worded_110 (by decide) (fun c_110 => ?_) (fun c_110 => ?_)
              · refine lv_iload_n hx hb dX12_worded_136 rfl (lv_at hl 0 rfl) ?_
                refine lv_bipush (v := iv 27) hx hb dX12_worded_137 rfl ?_
                refine xb_icmp_ne (tgt := 182) hx hb (by unfold ir; omega) (by unfold ir; omega) dX12_worded_139 (by decide) (fun c_139 => ?_) (fun c_139 => ?_)
                · refine lv_iload_n hx hb dX12_worded_182 rfl (lv_at hl 0 rfl) ?_
                  refine lv_bipush (v := iv 29) hx hb dX12_worded_183 rfl ?_
                  refine xb_icmp_lt (tgt := 215) hx hb (by unfold ir; omega) (by unfold ir; omega) dX12_worded_185 (by decide) (fun c_185 => ?_) (fun c_185 => ?_)
                  · refine lv_aload_n hx hb dX12_worded_215 rfl (lv_at hl 1 rfl) ?_
                    refine lv_aload_n hx hb dX12_worded_216 rfl (lv_at hl 1 rfl) ?_
                    refine xa_geti G fd_X12 (a := 111) (x := μ.1 111 9) 9 rfl (by decide) rfl (wm 7 158 rfl rfl) ⟨rfl, rfl, rfl⟩ dX12_worded_217 rfl rfl ?_
                    have hr_1116 : -2147483648 ≤ μ.1 111 9 ∧ μ.1 111 9 ≤ 2147483647 := by have h9 := G.hr (a := 111) (k := 9) rfl; exact h9
                    refine xc_vV G (b := 111) (rest := []) (As := [.int (iv (μ.1 111 9))]) (c_X12_wrong ω l μ (μ.1 111 9) (by unfold ir; omega) (by omega)) (wm 9 22 rfl rfl) (wm 9 24 rfl rfl) (wm 0 123 rfl rfl) rfl rfl (by decide) rfl (wm 1 18 rfl rfl) (wm 9 25 rfl rfl) (by decide) hR ⟨nfr hF (by decide), nlo hLo (by decide)⟩ (n := 1) rfl rfl (Nat.le_of_ble_eq_true rfl) hl.1 dX12_worded_220 (fun μ1117 ρ d0 H locs hp G => ?_)
                    obtain ⟨F_1118, hp_1119, hp_1120⟩ := hp
                    have hw_1121 := wr_r (μ := μ1117)
                    have e_1122 : μ1117.1 111 22 = μ.1 111 22 := (hp_1119 22 (by decide))
                    have e_1123 : μ1117.1 111 9 = μ.1 111 9 := (hp_1119 9 (by decide))
                    have e_1124 : μ1117.1 111 29 = μ.1 111 29 := (hp_1119 29 (by decide))
                    have e_1125 : μ1117.1 111 39 = μ.1 111 39 := (hp_1119 39 (by decide))
                    have e_1126 : μ1117.1 111 29 = μ.1 111 29 := (hp_1119 29 (by decide))
                    have e_1128 : μ1117.1 111 29 = μ.1 111 29 := (hp_1119 29 (by decide))
                    have hX_1127 : ∀ _ : Unit, bd μ1117 = 0 → mPX μ μ1117 tt 0 1 (11 * (9 - nn μ) - 3) [] := fun _ h0 => (hX_1 () (by have e9 : bd μ = bd μ := rfl; have e8 : bd μ1117 = bd μ1117 := rfl; omega)).qm (q0m.fr (K := [111]) (Fr.tr Fr.rf F_1118 (by decide)) (by decide) (by decide) (by decide) (hp_1119 22 (by decide)) (by omega))
                    have hPM_1129 : PM μ1117 := hPM.wg (hp_1119 4 (by decide)) (hp_1119 6 (by decide)) (hp_1119 7 (by decide)) (hp_1119 8 (by decide)) (hp_1119 9 (by decide)) (hp_1119 11 (by decide)) (hp_1119 12 (by decide)) ((((hp_1119 14 (by decide)).trans htt.symm)).trans (htt.symm).symm) (by omega) (hp_1119 29 (by decide)) (fun j => (F_1118.1 123 (by decide) j))
                    have e_1130 : μ1117.1 111 29 = μ.1 111 29 := (hp_1119 29 (by decide))
                    have hxt_1131 : mEXT μ μ1117 := (q0m.fr (K := [111]) (Fr.tr Fr.rf F_1118 (by decide)) (by decide) (by decide) (by decide) (hp_1119 22 (by decide)) (by omega)).1
                    have e_1132 : μ1117.1 111 22 = μ.1 111 22 := (hp_1119 22 (by decide))
                    have e_1133 : μ1117.1 111 22 = μ.1 111 22 := (hp_1119 22 (by decide))
                    have e_1134 : μ1117.1 111 9 = μ.1 111 9 := (hp_1119 9 (by decide))
                    have e_1135 : μ1117.1 111 9 = μ.1 111 9 := (hp_1119 9 (by decide))
                    have e_1136 : μ1117.1 111 29 = μ.1 111 29 := (hp_1119 29 (by decide))
                    have e_1137 : μ1117.1 111 39 = μ.1 111 39 := (hp_1119 39 (by decide))
                    exact xr_v G hret hlk dX12_worded_223 ⟨(Fr.tr Fr.rf F_1118 (by decide)), (fun j hj => (hp_1119 j (fun h9 => hj ((by decide : ∀ x ∈ ([15] : List Int), x ∈ ([6, 8, 9, 10, 11, 12, 13, 15, 16, 17, 18, 22, 29, 39] : List Int)) j h9)))), hPM_1129, (by omega), (by omega), (by omega), (by omega), (by omega), (by omega), (fun j hj => (F_1118.1 126 (by decide) j)), (fun _ h0 => (mPX.ex ((hX_1127 ()) h0)).e (by omega)), hxt_1131⟩
                  · refine lv_aload_n hx hb dX12_worded_188 rfl (lv_at hl 1 rfl) ?_
                    refine xc_vV G (b := 111) (rest := []) (As := []) (c_X12_next ω l μ  hPM (by omega) (by omega)) (wm 9 0 rfl rfl) (wm 9 2 rfl rfl) (wm 0 119 rfl rfl) rfl rfl (by decide) rfl (wm 1 18 rfl rfl) (wm 9 3 rfl rfl) (by decide) hR ⟨nfr hF (by decide), nlo hLo (by decide)⟩ (n := 0) rfl rfl (Nat.le_of_ble_eq_true rfl) hl.1 dX12_worded_189 (fun μ1138 ρ d0 H locs hp G => ?_)
                    obtain ⟨F_1139, hp_1140, hp_1141, hp_1142, hp_1143, hp_1144⟩ := hp
                    have hpl_1145 := hp_1141.pl
                    have hw_1146 := wr_r (μ := μ1138)
                    refine lv_aload_n hx hb dX12_worded_192 rfl (lv_at hl 1 rfl) ?_
                    refine lv_bipush (v := iv 46) hx hb dX12_worded_193 rfl ?_
                    have e_1147 : μ1138.1 111 29 = μ.1 111 29 := (hp_1140 29 (by decide))
                    have e_1149 : μ1138.1 111 29 = μ.1 111 29 := (hp_1140 29 (by decide))
                    have hX_1148 : ∀ _ : Unit, bd μ1138 = 0 → mPX μ μ1138 tt 0 1 (11 * (9 - nn μ) - 3) [] := fun _ h0 => (hX_1 () (by have e9 : bd μ = bd μ := rfl; have e8 : bd μ1138 = bd μ1138 := rfl; omega)).qm (q0m.fr (K := [111]) (Fr.tr Fr.rf F_1139 (by decide)) (by decide) (by decide) (by decide) (hp_1140 22 (by decide)) (by omega))
                    refine xc_vV G (b := 111) (rest := []) (As := [.int (iv 46)]) (c_X12_wantsSign ω l μ1138 46 (by unfold ir; omega) hp_1141 (by omega)) (wm 9 114 rfl rfl) (wm 9 116 rfl rfl) (wm 0 141 rfl rfl) rfl rfl (by decide) rfl (wm 1 18 rfl rfl) (wm 9 117 rfl rfl) (by decide) hR ⟨nfr hF (by decide), nlo hLo (by decide)⟩ (n := 1) rfl rfl (Nat.le_of_ble_eq_true rfl) hl.1 dX12_worded_195 (fun μ1150 ρ d0 H locs hp G => ?_)
                    obtain ⟨F_1151, hp_1152, hp_1153, hp_1154, hp_1155, hp_1156, hp_1157⟩ := hp
                    have hpl_1158 := hp_1153.pl
                    have hw_1159 := wr_r (μ := μ1150)
                    refine lv_aload_n hx hb dX12_worded_198 rfl (lv_at hl 1 rfl) ?_
                    have e_1160 : μ1150.1 111 29 = μ.1 111 29 := ((hp_1152 29 (by decide)).trans (hp_1140 29 (by decide)))
                    have e_1162 : μ1150.1 111 29 = μ.1 111 29 := ((hp_1152 29 (by decide)).trans (hp_1140 29 (by decide)))
                    have hX_1161 : ∀ _ : Unit, bd μ1150 = 0 → mPX μ μ1150 tt 0 1 (11 * (9 - nn μ) - 3) [] := fun _ h0 => (hX_1148 () (by have e9 : bd μ1138 = bd μ1138 := rfl; have e8 : bd μ1150 = bd μ1150 := rfl; omega)).qm (q0m.fr (K := [111]) (Fr.tr Fr.rf F_1151 (by decide)) (by decide) (by decide) (by decide) ((((hp_1152 22 (by decide)).trans (hp_1140 22 (by decide)))).trans ((hp_1140 22 (by decide))).symm) (by omega))
                    refine xc_lV G (b := 111) (rest := []) (As := []) (c_X12_takesName ω l μ1150  hp_1153 (by omega)) (wm 9 70 rfl rfl) (wm 9 72 rfl rfl) (wm 0 130 rfl rfl) rfl rfl (by decide) rfl (wm 1 18 rfl rfl) (wm 9 73 rfl rfl) (by decide) hR ⟨nfr hF (by decide), nlo hLo (by decide)⟩ (n := 0) rfl rfl (Nat.le_of_ble_eq_true rfl) hl.1 dX12_worded_199 (fun r_1164 μ1163 ρ d0 H locs hr_r_1164 hp G => ?_)
                    obtain ⟨F_1165, hp_1166, hp_1167, hp_1168, hp_1169, hp_1170, hp_1171⟩ := hp
                    have hpl_1172 := hp_1167.pl
                    have hw_1173 := wr_r (μ := μ1163)
                    refine lv_lstore_n (lv' := [(2, .long (jv r_1164)), (1, .int (iv (μ.1 111 11))), (0, .ref (oP ω 111))]) hx hb dX12_worded_202 rfl hl (by decide) rfl (fun ls hl => ?_)
                    refine lv_aload_n hx hb dX12_worded_203 rfl (lv_at hl 2 rfl) ?_
                    refine lv_iload_n hx hb dX12_worded_204 rfl (lv_at hl 1 rfl) ?_
                    refine lv_bipush (v := iv 29) hx hb dX12_worded_205 rfl ?_
                    refine xb_isub hx hb dX12_worded_207 ?_
                    refine lv_lload_n hx hb dX12_worded_208 rfl (lv_at hl 0 rfl) ?_
                    have e_1174 : μ1163.1 111 29 = μ.1 111 29 := ((hp_1166 29 (by decide)).trans ((hp_1152 29 (by decide)).trans (hp_1140 29 (by decide))))
                    have e_1176 : μ1163.1 111 29 = μ.1 111 29 := ((hp_1166 29 (by decide)).trans ((hp_1152 29 (by decide)).trans (hp_1140 29 (by decide))))
                    have hX_1175 : ∀ _ : Unit, bd μ1163 = 0 → mPX μ μ1163 tt 0 1 (11 * (9 - nn μ) - 3) [] := fun _ h0 => (hX_1161 () (by have e9 : bd μ1150 = bd μ1150 := rfl; have e8 : bd μ1163 = bd μ1163 := rfl; omega)).qm (q0m.fr (K := [111]) (Fr.tr Fr.rf F_1165 (by decide)) (by decide) (by decide) (by decide) ((((hp_1166 22 (by decide)).trans ((hp_1152 22 (by decide)).trans (hp_1140 22 (by decide))))).trans (((hp_1152 22 (by decide)).trans (hp_1140 22 (by decide)))).symm) (by omega))
                    have e_1177 : μ1163.1 111 29 = μ.1 111 29 := ((hp_1166 29 (by decide)).trans ((hp_1152 29 (by decide)).trans (hp_1140 29 (by decide))))
                    have e_1178 : μ1163.1 111 29 = μ.1 111 29 := ((hp_1166 29 (by decide)).trans ((hp_1152 29 (by decide)).trans (hp_1140 29 (by decide))))
                    have hxt_1179 : mEXT μ μ1163 := (q0m.fr (K := [111]) (Fr.tr (Fr.tr (Fr.tr Fr.rf F_1139 (by decide)) F_1151 (by decide)) F_1165 (by decide)) (by decide) (by decide) (by decide) ((hp_1166 22 (by decide)).trans ((hp_1152 22 (by decide)).trans (hp_1140 22 (by decide)))) (by omega)).1
                    have e_1180 : μ1163.1 111 14 = tt := ((hp_1166 14 (by decide)).trans ((hp_1152 14 (by decide)).trans ((hp_1140 14 (by decide)).trans htt.symm)))
                    have e_1181 : μ1163.1 111 22 = μ.1 111 22 := ((hp_1166 22 (by decide)).trans ((hp_1152 22 (by decide)).trans (hp_1140 22 (by decide))))
                    have e_1182 : μ1163.1 111 22 = μ.1 111 22 := ((hp_1166 22 (by decide)).trans ((hp_1152 22 (by decide)).trans (hp_1140 22 (by decide))))
                    have e_1183 : μ1163.1 111 39 = μ.1 111 39 := ((hp_1166 39 (by decide)).trans ((hp_1152 39 (by decide)).trans (hp_1140 39 (by decide))))
                    have e_1184 : μ1163.1 111 39 = μ.1 111 39 := ((hp_1166 39 (by decide)).trans ((hp_1152 39 (by decide)).trans (hp_1140 39 (by decide))))
                    have e_1185 : μ1163.1 111 22 = μ.1 111 22 := ((hp_1166 22 (by decide)).trans ((hp_1152 22 (by decide)).trans (hp_1140 22 (by decide))))
                    have e_1186 : μ1163.1 111 31 = μ.1 111 31 := ((hp_1166 31 (by decide)).trans ((hp_1152 31 (by decide)).trans (hp_1140 31 (by decide))))
                    have e_1187 : μ1163.1 111 31 = μ.1 111 31 := ((hp_1166 31 (by decide)).trans ((hp_1152 31 (by decide)).trans (hp_1140 31 (by decide))))
                    have e_1188 : μ1163.1 111 22 = μ.1 111 22 := ((hp_1166 22 (by decide)).trans ((hp_1152 22 (by decide)).trans (hp_1140 22 (by decide))))
                    have e_1189 : μ1163.1 111 22 = μ.1 111 22 := ((hp_1166 22 (by decide)).trans ((hp_1152 22 (by decide)).trans (hp_1140 22 (by decide))))
                    have e_1190 : μ1163.1 111 29 = μ.1 111 29 := ((hp_1166 29 (by decide)).trans ((hp_1152 29 (by decide)).trans (hp_1140 29 (by decide))))
                    have e_1191 : μ1163.1 111 39 = μ.1 111 39 := ((hp_1166 39 (by decide)).trans ((hp_1152 39 (by decide)).trans (hp_1140 39 (by decide))))
                    refine xc_vV G (b := 111) (rest := []) (As := [.int (iv ((μ.1 111 11) - 29)), .long (jv r_1164)]) (c_X12_call ω l μ1163 ((μ.1 111 11) - 29) r_1164 F Lo Fu Lu kf tt (by unfold ir; omega) hr_r_1164 (by omega) hF hLo hFu hLu hE hU hp_1167 (by omega) (by omega) (by omega) (by omega) (by omega) (by omega) (fun _ h0 => ((hX_1175 ()) h0).h1.1) (by omega)) (wm 9 179 rfl rfl) (wm 9 181 rfl rfl) (wm 0 157 rfl rfl) rfl rfl (by decide) rfl (wm 1 18 rfl rfl) (wm 9 182 rfl rfl) (by decide) hR ⟨sfr (F := F) (a := 2) (by decide), slo (L := Lo) (m := 7) (a := 44) (by decide)⟩ (n := 2) rfl rfl (Nat.le_of_ble_eq_true rfl) hl.1 dX12_worded_209 (fun μ1192 ρ d0 H locs hp G => ?_)
                    obtain ⟨F_1193, hp_1194, hp_1195, hp_1196, hp_1197, hp_1198, hp_1199, hp_1200, hp_1201, hp_1202, hp_1203, hp_1204⟩ := hp
                    have hpl_1205 := hp_1195.pl
                    have hw_1206 := wr_r (μ := μ1192)
                    have hxt_1207 : mEXT μ μ1192 := hxt_1179.tr hp_1204
                    have hX_1208 : ∀ _ : Unit, bd μ1192 = 0 → mPX μ μ1192 tt 1 1 (11 * (9 - nn μ) - 3) [] := fun _ h0 => (((hX_1175 ()) (by have e9 : bd μ1163 = bd μ1163 := rfl; have e8 : bd μ1192 = bd μ1192 := rfl; omega)).app (hp_1203 () h0) (by omega)).ee (by omega)
                    refine lv_goto (tgt := 223) hx hb dX12_worded_212 (by decide) ?_
                    exact xr_v G hret hlk dX12_worded_223 ⟨(Fr.tr (Fr.tr (Fr.tr (Fr.tr Fr.rf F_1139 (by decide)) F_1151 (by decide)) F_1165 (by decide)) F_1193 (by decide)), (fun j hj => ((hp_1194 j (fun h9 => hj ((by decide : ∀ x ∈ ([6, 8, 9, 10, 11, 12, 13, 15, 16, 17, 18, 22, 29, 39] : List Int), x ∈ ([6, 8, 9, 10, 11, 12, 13, 15, 16, 17, 18, 22, 29, 39] : List Int)) j h9))).trans ((hp_1166 j (fun h9 => hj ((by decide : ∀ x ∈ ([6, 8, 9, 10, 11, 12, 13, 15] : List Int), x ∈ ([6, 8, 9, 10, 11, 12, 13, 15, 16, 17, 18, 22, 29, 39] : List Int)) j h9))).trans ((hp_1152 j (fun h9 => hj ((by decide : ∀ x ∈ ([6, 8, 9, 10, 11, 12, 13, 15] : List Int), x ∈ ([6, 8, 9, 10, 11, 12, 13, 15, 16, 17, 18, 22, 29, 39] : List Int)) j h9))).trans (hp_1140 j (fun h9 => hj ((by decide : ∀ x ∈ ([6, 8, 9, 10, 11, 12, 13, 15] : List Int), x ∈ ([6, 8, 9, 10, 11, 12, 13, 15, 16, 17, 18, 22, 29, 39] : List Int)) j h9))))))), hp_1195, (by omega), (by omega), (by omega), (by omega), (by omega), (by omega), (fun j hj => ((hp_1202 j (by omega)).trans ((F_1165.1 126 (by decide) j).trans ((F_1151.1 126 (by decide) j).trans (F_1139.1 126 (by decide) j))))), (fun _ h0 => (mPX.ex ((hX_1208 ()) h0)).e (by omega)), hxt_1207⟩
                · refine lv_aload_n hx hb dX12_worded_142 rfl (lv_at hl 1 rfl) ?_
                  refine xa_geti G fd_X12 (a := 111) (x := tt) 14 rfl (by decide) rfl (wm 7 163 rfl rfl) ⟨rfl, rfl, rfl⟩ dX12_worded_143 rfl htt.symm ?_
                  refine lv_iconst (v := iv 2) hx hb dX12_worded_146 rfl ?_
                  refine xb_icmp_ne (tgt := 182) hx hb (by unfold ir; omega) (by unfold ir; omega) dX12_worded_147 (by decide) (fun c_147 => ?_) (fun c_147 => ?_)
                  · refine lv_iload_n hx hb dX12_worded_182 rfl (lv_at hl 0 rfl) ?_
                    refine lv_bipush (v := iv 29) hx hb dX12_worded_183 rfl ?_
                    refine xb_icmp_lt (tgt := 215) hx hb (by unfold ir; omega) (by unfold ir; omega) dX12_worded_185 (by decide) (fun c_185 => ?_) (fun c_185 => ?_)
                    · refine lv_aload_n hx hb dX12_worded_215 rfl (lv_at hl 1 rfl) ?_
                      refine lv_aload_n hx hb dX12_worded_216 rfl (lv_at hl 1 rfl) ?_
                      refine xa_geti G fd_X12 (a := 111) (x := μ.1 111 9) 9 rfl (by decide) rfl (wm 7 158 rfl rfl) ⟨rfl, rfl, rfl⟩ dX12_worded_217 rfl rfl ?_
                      have hr_1209 : -2147483648 ≤ μ.1 111 9 ∧ μ.1 111 9 ≤ 2147483647 := by have h9 := G.hr (a := 111) (k := 9) rfl; exact h9
                      refine xc_vV G (b := 111) (rest := []) (As := [.int (iv (μ.1 111 9))]) (c_X12_wrong ω l μ (μ.1 111 9) (by unfold ir; omega) (by omega)) (wm 9 22 rfl rfl) (wm 9 24 rfl rfl) (wm 0 123 rfl rfl) rfl rfl (by decide) rfl (wm 1 18 rfl rfl) (wm 9 25 rfl rfl) (by decide) hR ⟨nfr hF (by decide), nlo hLo (by decide)⟩ (n := 1) rfl rfl (Nat.le_of_ble_eq_true rfl) hl.1 dX12_worded_220 (fun μ1210 ρ d0 H locs hp G => ?_)
                      obtain ⟨F_1211, hp_1212, hp_1213⟩ := hp
                      have hw_1214 := wr_r (μ := μ1210)
                      have e_1215 : μ1210.1 111 22 = μ.1 111 22 := (hp_1212 22 (by decide))
                      have e_1216 : μ1210.1 111 9 = μ.1 111 9 := (hp_1212 9 (by decide))
                      have e_1217 : μ1210.1 111 29 = μ.1 111 29 := (hp_1212 29 (by decide))
                      have e_1218 : μ1210.1 111 39 = μ.1 111 39 := (hp_1212 39 (by decide))
                      have e_1219 : μ1210.1 111 29 = μ.1 111 29 := (hp_1212 29 (by decide))
                      have e_1221 : μ1210.1 111 29 = μ.1 111 29 := (hp_1212 29 (by decide))
                      have hX_1220 : ∀ _ : Unit, bd μ1210 = 0 → mPX μ μ1210 tt 0 1 (11 * (9 - nn μ) - 3) [] := fun _ h0 => (hX_1 () (by have e9 : bd μ = bd μ := rfl; have e8 : bd μ1210 = bd μ1210 := rfl; omega)).qm (q0m.fr (K := [111]) (Fr.tr Fr.rf F_1211 (by decide)) (by decide) (by decide) (by decide) (hp_1212 22 (by decide)) (by omega))
                      have hPM_1222 : PM μ1210 := hPM.wg (hp_1212 4 (by decide)) (hp_1212 6 (by decide)) (hp_1212 7 (by decide)) (hp_1212 8 (by decide)) (hp_1212 9 (by decide)) (hp_1212 11 (by decide)) (hp_1212 12 (by decide)) ((((hp_1212 14 (by decide)).trans htt.symm)).trans (htt.symm).symm) (by omega) (hp_1212 29 (by decide)) (fun j => (F_1211.1 123 (by decide) j))
                      have e_1223 : μ1210.1 111 29 = μ.1 111 29 := (hp_1212 29 (by decide))
                      have hxt_1224 : mEXT μ μ1210 := (q0m.fr (K := [111]) (Fr.tr Fr.rf F_1211 (by decide)) (by decide) (by decide) (by decide) (hp_1212 22 (by decide)) (by omega)).1
                      have e_1225 : μ1210.1 111 22 = μ.1 111 22 := (hp_1212 22 (by decide))
                      have e_1226 : μ1210.1 111 22 = μ.1 111 22 := (hp_1212 22 (by decide))
                      have e_1227 : μ1210.1 111 9 = μ.1 111 9 := (hp_1212 9 (by decide))
                      have e_1228 : μ1210.1 111 9 = μ.1 111 9 := (hp_1212 9 (by decide))
                      have e_1229 : μ1210.1 111 29 = μ.1 111 29 := (hp_1212 29 (by decide))
                      have e_1230 : μ1210.1 111 39 = μ.1 111 39 := (hp_1212 39 (by decide))
                      exact xr_v G hret hlk dX12_worded_223 ⟨(Fr.tr Fr.rf F_1211 (by decide)), (fun j hj => (hp_1212 j (fun h9 => hj ((by decide : ∀ x ∈ ([15] : List Int), x ∈ ([6, 8, 9, 10, 11, 12, 13, 15, 16, 17, 18, 22, 29, 39] : List Int)) j h9)))), hPM_1222, (by omega), (by omega), (by omega), (by omega), (by omega), (by omega), (fun j hj => (F_1211.1 126 (by decide) j)), (fun _ h0 => (mPX.ex ((hX_1220 ()) h0)).e (by omega)), hxt_1224⟩
                    · refine lv_aload_n hx hb dX12_worded_188 rfl (lv_at hl 1 rfl) ?_
                      refine xc_vV G (b := 111) (rest := []) (As := []) (c_X12_next ω l μ  hPM (by omega) (by omega)) (wm 9 0 rfl rfl) (wm 9 2 rfl rfl) (wm 0 119 rfl rfl) rfl rfl (by decide) rfl (wm 1 18 rfl rfl) (wm 9 3 rfl rfl) (by decide) hR ⟨nfr hF (by decide), nlo hLo (by decide)⟩ (n := 0) rfl rfl (Nat.le_of_ble_eq_true rfl) hl.1 dX12_worded_189 (fun μ1231 ρ d0 H locs hp G => ?_)
                      obtain ⟨F_1232, hp_1233, hp_1234, hp_1235, hp_1236, hp_1237⟩ := hp
                      have hpl_1238 := hp_1234.pl
                      have hw_1239 := wr_r (μ := μ1231)
                      refine lv_aload_n hx hb dX12_worded_192 rfl (lv_at hl 1 rfl) ?_
                      refine lv_bipush (v := iv 46) hx hb dX12_worded_193 rfl ?_
                      have e_1240 : μ1231.1 111 29 = μ.1 111 29 := (hp_1233 29 (by decide))
                      have e_1242 : μ1231.1 111 29 = μ.1 111 29 := (hp_1233 29 (by decide))
                      have hX_1241 : ∀ _ : Unit, bd μ1231 = 0 → mPX μ μ1231 tt 0 1 (11 * (9 - nn μ) - 3) [] := fun _ h0 => (hX_1 () (by have e9 : bd μ = bd μ := rfl; have e8 : bd μ1231 = bd μ1231 := rfl; omega)).qm (q0m.fr (K := [111]) (Fr.tr Fr.rf F_1232 (by decide)) (by decide) (by decide) (by decide) (hp_1233 22 (by decide)) (by omega))
                      refine xc_vV G (b := 111) (rest := []) (As := [.int (iv 46)]) (c_X12_wantsSign ω l μ1231 46 (by unfold ir; omega) hp_1234 (by omega)) (wm 9 114 rfl rfl) (wm 9 116 rfl rfl) (wm 0 141 rfl rfl) rfl rfl (by decide) rfl (wm 1 18 rfl rfl) (wm 9 117 rfl rfl) (by decide) hR ⟨nfr hF (by decide), nlo hLo (by decide)⟩ (n := 1) rfl rfl (Nat.le_of_ble_eq_true rfl) hl.1 dX12_worded_195 (fun μ1243 ρ d0 H locs hp G => ?_)
                      obtain ⟨F_1244, hp_1245, hp_1246, hp_1247, hp_1248, hp_1249, hp_1250⟩ := hp
                      have hpl_1251 := hp_1246.pl
                      have hw_1252 := wr_r (μ := μ1243)
                      refine lv_aload_n hx hb dX12_worded_198 rfl (lv_at hl 1 rfl) ?_
                      have e_1253 : μ1243.1 111 29 = μ.1 111 29 := ((hp_1245 29 (by decide)).trans (hp_1233 29 (by decide)))
                      have e_1255 : μ1243.1 111 29 = μ.1 111 29 := ((hp_1245 29 (by decide)).trans (hp_1233 29 (by decide)))
                      have hX_1254 : ∀ _ : Unit, bd μ1243 = 0 → mPX μ μ1243 tt 0 1 (11 * (9 - nn μ) - 3) [] := fun _ h0 => (hX_1241 () (by have e9 : bd μ1231 = bd μ1231 := rfl; have e8 : bd μ1243 = bd μ1243 := rfl; omega)).qm (q0m.fr (K := [111]) (Fr.tr Fr.rf F_1244 (by decide)) (by decide) (by decide) (by decide) ((((hp_1245 22 (by decide)).trans (hp_1233 22 (by decide)))).trans ((hp_1233 22 (by decide))).symm) (by omega))
                      refine xc_lV G (b := 111) (rest := []) (As := []) (c_X12_takesName ω l μ1243  hp_1246 (by omega)) (wm 9 70 rfl rfl) (wm 9 72 rfl rfl) (wm 0 130 rfl rfl) rfl rfl (by decide) rfl (wm 1 18 rfl rfl) (wm 9 73 rfl rfl) (by decide) hR ⟨nfr hF (by decide), nlo hLo (by decide)⟩ (n := 0) rfl rfl (Nat.le_of_ble_eq_true rfl) hl.1 dX12_worded_199 (fun r_1257 μ1256 ρ d0 H locs hr_r_1257 hp G => ?_)
                      obtain ⟨F_1258, hp_1259, hp_1260, hp_1261, hp_1262, hp_1263, hp_1264⟩ := hp
                      have hpl_1265 := hp_1260.pl
                      have hw_1266 := wr_r (μ := μ1256)
                      refine lv_lstore_n (lv' := [(2, .long (jv r_1257)), (1, .int (iv (μ.1 111 11))), (0, .ref (oP ω 111))]) hx hb dX12_worded_202 rfl hl (by decide) rfl (fun ls hl => ?_)
                      refine lv_aload_n hx hb dX12_worded_203 rfl (lv_at hl 2 rfl) ?_
                      refine lv_iload_n hx hb dX12_worded_204 rfl (lv_at hl 1 rfl) ?_
                      refine lv_bipush (v := iv 29) hx hb dX12_worded_205 rfl ?_
                      refine xb_isub hx hb dX12_worded_207 ?_
                      refine lv_lload_n hx hb dX12_worded_208 rfl (lv_at hl 0 rfl) ?_
                      have e_1267 : μ1256.1 111 29 = μ.1 111 29 := ((hp_1259 29 (by decide)).trans ((hp_1245 29 (by decide)).trans (hp_1233 29 (by decide))))
                      have e_1269 : μ1256.1 111 29 = μ.1 111 29 := ((hp_1259 29 (by decide)).trans ((hp_1245 29 (by decide)).trans (hp_1233 29 (by decide))))
                      have hX_1268 : ∀ _ : Unit, bd μ1256 = 0 → mPX μ μ1256 tt 0 1 (11 * (9 - nn μ) - 3) [] := fun _ h0 => (hX_1254 () (by have e9 : bd μ1243 = bd μ1243 := rfl; have e8 : bd μ1256 = bd μ1256 := rfl; omega)).qm (q0m.fr (K := [111]) (Fr.tr Fr.rf F_1258 (by decide)) (by decide) (by decide) (by decide) ((((hp_1259 22 (by decide)).trans ((hp_1245 22 (by decide)).trans (hp_1233 22 (by decide))))).trans (((hp_1245 22 (by decide)).trans (hp_1233 22 (by decide)))).symm) (by omega))
                      have e_1270 : μ1256.1 111 29 = μ.1 111 29 := ((hp_1259 29 (by decide)).trans ((hp_1245 29 (by decide)).trans (hp_1233 29 (by decide))))
                      have e_1271 : μ1256.1 111 29 = μ.1 111 29 := ((hp_1259 29 (by decide)).trans ((hp_1245 29 (by decide)).trans (hp_1233 29 (by decide))))
                      have hxt_1272 : mEXT μ μ1256 := (q0m.fr (K := [111]) (Fr.tr (Fr.tr (Fr.tr Fr.rf F_1232 (by decide)) F_1244 (by decide)) F_1258 (by decide)) (by decide) (by decide) (by decide) ((hp_1259 22 (by decide)).trans ((hp_1245 22 (by decide)).trans (hp_1233 22 (by decide)))) (by omega)).1
                      have e_1273 : μ1256.1 111 14 = tt := ((hp_1259 14 (by decide)).trans ((hp_1245 14 (by decide)).trans ((hp_1233 14 (by decide)).trans htt.symm)))
                      have e_1274 : μ1256.1 111 22 = μ.1 111 22 := ((hp_1259 22 (by decide)).trans ((hp_1245 22 (by decide)).trans (hp_1233 22 (by decide))))
                      have e_1275 : μ1256.1 111 22 = μ.1 111 22 := ((hp_1259 22 (by decide)).trans ((hp_1245 22 (by decide)).trans (hp_1233 22 (by decide))))
                      have e_1276 : μ1256.1 111 39 = μ.1 111 39 := ((hp_1259 39 (by decide)).trans ((hp_1245 39 (by decide)).trans (hp_1233 39 (by decide))))
                      have e_1277 : μ1256.1 111 39 = μ.1 111 39 := ((hp_1259 39 (by decide)).trans ((hp_1245 39 (by decide)).trans (hp_1233 39 (by decide))))
                      have e_1278 : μ1256.1 111 22 = μ.1 111 22 := ((hp_1259 22 (by decide)).trans ((hp_1245 22 (by decide)).trans (hp_1233 22 (by decide))))
                      have e_1279 : μ1256.1 111 31 = μ.1 111 31 := ((hp_1259 31 (by decide)).trans ((hp_1245 31 (by decide)).trans (hp_1233 31 (by decide))))
                      have e_1280 : μ1256.1 111 31 = μ.1 111 31 := ((hp_1259 31 (by decide)).trans ((hp_1245 31 (by decide)).trans (hp_1233 31 (by decide))))
                      have e_1281 : μ1256.1 111 22 = μ.1 111 22 := ((hp_1259 22 (by decide)).trans ((hp_1245 22 (by decide)).trans (hp_1233 22 (by decide))))
                      have e_1282 : μ1256.1 111 22 = μ.1 111 22 := ((hp_1259 22 (by decide)).trans ((hp_1245 22 (by decide)).trans (hp_1233 22 (by decide))))
                      have e_1283 : μ1256.1 111 29 = μ.1 111 29 := ((hp_1259 29 (by decide)).trans ((hp_1245 29 (by decide)).trans (hp_1233 29 (by decide))))
                      have e_1284 : μ1256.1 111 39 = μ.1 111 39 := ((hp_1259 39 (by decide)).trans ((hp_1245 39 (by decide)).trans (hp_1233 39 (by decide))))
                      refine xc_vV G (b := 111) (rest := []) (As := [.int (iv ((μ.1 111 11) - 29)), .long (jv r_1257)]) (c_X12_call ω l μ1256 ((μ.1 111 11) - 29) r_1257 F Lo Fu Lu kf tt (by unfold ir; omega) hr_r_1257 (by omega) hF hLo hFu hLu hE hU hp_1260 (by omega) (by omega) (by omega) (by omega) (by omega) (by omega) (fun _ h0 => ((hX_1268 ()) h0).h1.1) (by omega)) (wm 9 179 rfl rfl) (wm 9 181 rfl rfl) (wm 0 157 rfl rfl) rfl rfl (by decide) rfl (wm 1 18 rfl rfl) (wm 9 182 rfl rfl) (by decide) hR ⟨sfr (F := F) (a := 2) (by decide), slo (L := Lo) (m := 7) (a := 44) (by decide)⟩ (n := 2) rfl rfl (Nat.le_of_ble_eq_true rfl) hl.1 dX12_worded_209 (fun μ1285 ρ d0 H locs hp G => ?_)
                      obtain ⟨F_1286, hp_1287, hp_1288, hp_1289, hp_1290, hp_1291, hp_1292, hp_1293, hp_1294, hp_1295, hp_1296, hp_1297⟩ := hp
                      have hpl_1298 := hp_1288.pl
                      have hw_1299 := wr_r (μ := μ1285)
                      have hxt_1300 : mEXT μ μ1285 := hxt_1272.tr hp_1297
                      have hX_1301 : ∀ _ : Unit, bd μ1285 = 0 → mPX μ μ1285 tt 1 1 (11 * (9 - nn μ) - 3) [] := fun _ h0 => (((hX_1268 ()) (by have e9 : bd μ1256 = bd μ1256 := rfl; have e8 : bd μ1285 = bd μ1285 := rfl; omega)).app (hp_1296 () h0) (by omega)).ee (by omega)
                      refine lv_goto (tgt := 223) hx hb dX12_worded_212 (by decide) ?_
                      exact xr_v G hret hlk dX12_worded_223 ⟨(Fr.tr (Fr.tr (Fr.tr (Fr.tr Fr.rf F_1232 (by decide)) F_1244 (by decide)) F_1258 (by decide)) F_1286 (by decide)), (fun j hj => ((hp_1287 j (fun h9 => hj ((by decide : ∀ x ∈ ([6, 8, 9, 10, 11, 12, 13, 15, 16, 17, 18, 22, 29, 39] : List Int), x ∈ ([6, 8, 9, 10, 11, 12, 13, 15, 16, 17, 18, 22, 29, 39] : List Int)) j h9))).trans ((hp_1259 j (fun h9 => hj ((by decide : ∀ x ∈ ([6, 8, 9, 10, 11, 12, 13, 15] : List Int), x ∈ ([6, 8, 9, 10, 11, 12, 13, 15, 16, 17, 18, 22, 29, 39] : List Int)) j h9))).trans ((hp_1245 j (fun h9 => hj ((by decide : ∀ x ∈ ([6, 8, 9, 10, 11, 12, 13, 15] : List Int), x ∈ ([6, 8, 9, 10, 11, 12, 13, 15, 16, 17, 18, 22, 29, 39] : List Int)) j h9))).trans (hp_1233 j (fun h9 => hj ((by decide : ∀ x ∈ ([6, 8, 9, 10, 11, 12, 13, 15] : List Int), x ∈ ([6, 8, 9, 10, 11, 12, 13, 15, 16, 17, 18, 22, 29, 39] : List Int)) j h9))))))), hp_1288, (by omega), (by omega), (by omega), (by omega), (by omega), (by omega), (fun j hj => ((hp_1295 j (by omega)).trans ((F_1258.1 126 (by decide) j).trans ((F_1244.1 126 (by decide) j).trans (F_1232.1 126 (by decide) j))))), (fun _ h0 => (mPX.ex ((hX_1301 ()) h0)).e (by omega)), hxt_1300⟩
                  · refine lv_aload_n hx hb dX12_worded_150 rfl (lv_at hl 1 rfl) ?_
                    refine xc_vV G (b := 111) (rest := []) (As := []) (c_X12_next ω l μ  hPM (by omega) (by omega)) (wm 9 0 rfl rfl) (wm 9 2 rfl rfl) (wm 0 119 rfl rfl) rfl rfl (by decide) rfl (wm 1 18 rfl rfl) (wm 9 3 rfl rfl) (by decide) hR ⟨nfr hF (by decide), nlo hLo (by decide)⟩ (n := 0) rfl rfl (Nat.le_of_ble_eq_true rfl) hl.1 dX12_worded_151 (fun μ1302 ρ d0 H locs hp G => ?_)
                    obtain ⟨F_1303, hp_1304, hp_1305, hp_1306, hp_1307, hp_1308⟩ := hp
                    have hpl_1309 := hp_1305.pl
                    have hw_1310 := wr_r (μ := μ1302)
                    refine lv_aload_n hx hb dX12_worded_154 rfl (lv_at hl 1 rfl) ?_
                    refine lv_bipush (v := iv 40) hx hb dX12_worded_155 rfl ?_
                    have e_1311 : μ1302.1 111 29 = μ.1 111 29 := (hp_1304 29 (by decide))
                    have e_1313 : μ1302.1 111 29 = μ.1 111 29 := (hp_1304 29 (by decide))
                    have hX_1312 : ∀ _ : Unit, bd μ1302 = 0 → mPX μ μ1302 tt 0 1 (11 * (9 - nn μ) - 3) [] := fun _ h0 => (hX_1 () (by have e9 : bd μ = bd μ := rfl; have e8 : bd μ1302 = bd μ1302 := rfl; omega)).qm (q0m.fr (K := [111]) (Fr.tr Fr.rf F_1303 (by decide)) (by decide) (by decide) (by decide) (hp_1304 22 (by decide)) (by omega))
                    refine xc_vV G (b := 111) (rest := []) (As := [.int (iv 40)]) (c_X12_opensWith ω l μ1302 40 (by unfold ir; omega) hp_1305 (by omega) (by omega)) (wm 9 86 rfl rfl) (wm 9 88 rfl rfl) (wm 0 134 rfl rfl) rfl rfl (by decide) rfl (wm 1 18 rfl rfl) (wm 9 89 rfl rfl) (by decide) hR ⟨nfr hF (by decide), nlo hLo (by decide)⟩ (n := 1) rfl rfl (Nat.le_of_ble_eq_true rfl) hl.1 dX12_worded_157 (fun μ1314 ρ d0 H locs hp G => ?_)
                    obtain ⟨F_1315, hp_1316, hp_1317, hp_1318, hp_1319, hp_1320, hp_1321⟩ := hp
                    have hpl_1322 := hp_1317.pl
                    have hw_1323 := wr_r (μ := μ1314)
                    refine lv_aload_n hx hb dX12_worded_160 rfl (lv_at hl 1 rfl) ?_
                    have e_1324 : μ1314.1 111 29 = μ.1 111 29 := ((hp_1316 29 (by decide)).trans (hp_1304 29 (by decide)))
                    have e_1326 : μ1314.1 111 29 = μ.1 111 29 := ((hp_1316 29 (by decide)).trans (hp_1304 29 (by decide)))
                    have hX_1325 : ∀ _ : Unit, bd μ1314 = 0 → mPX μ μ1314 tt 0 1 (11 * (9 - nn μ) - 3) [] := fun _ h0 => (hX_1312 () (by have e9 : bd μ1302 = bd μ1302 := rfl; have e8 : bd μ1314 = bd μ1314 := rfl; omega)).qm (q0m.fr (K := [111]) (Fr.tr Fr.rf F_1315 (by decide)) (by decide) (by decide) (by decide) ((((hp_1316 22 (by decide)).trans (hp_1304 22 (by decide)))).trans ((hp_1304 22 (by decide))).symm) (by omega))
                    have e_1327 : μ1314.1 111 29 = μ.1 111 29 := ((hp_1316 29 (by decide)).trans (hp_1304 29 (by decide)))
                    have e_1328 : μ1314.1 111 29 = μ.1 111 29 := ((hp_1316 29 (by decide)).trans (hp_1304 29 (by decide)))
                    have hxt_1329 : mEXT μ μ1314 := (q0m.fr (K := [111]) (Fr.tr (Fr.tr Fr.rf F_1303 (by decide)) F_1315 (by decide)) (by decide) (by decide) (by decide) ((hp_1316 22 (by decide)).trans (hp_1304 22 (by decide))) (by omega)).1
                    have e_1330 : μ1314.1 111 14 = tt := ((hp_1316 14 (by decide)).trans ((hp_1304 14 (by decide)).trans htt.symm))
                    have e_1331 : μ1314.1 111 22 = μ.1 111 22 := ((hp_1316 22 (by decide)).trans (hp_1304 22 (by decide)))
                    have e_1332 : μ1314.1 111 22 = μ.1 111 22 := ((hp_1316 22 (by decide)).trans (hp_1304 22 (by decide)))
                    have e_1333 : μ1314.1 111 39 = μ.1 111 39 := ((hp_1316 39 (by decide)).trans (hp_1304 39 (by decide)))
                    have e_1334 : μ1314.1 111 39 = μ.1 111 39 := ((hp_1316 39 (by decide)).trans (hp_1304 39 (by decide)))
                    have e_1335 : μ1314.1 111 22 = μ.1 111 22 := ((hp_1316 22 (by decide)).trans (hp_1304 22 (by decide)))
                    have e_1336 : μ1314.1 111 31 = μ.1 111 31 := ((hp_1316 31 (by decide)).trans (hp_1304 31 (by decide)))
                    have e_1337 : μ1314.1 111 31 = μ.1 111 31 := ((hp_1316 31 (by decide)).trans (hp_1304 31 (by decide)))
                    have e_1338 : μ1314.1 111 22 = μ.1 111 22 := ((hp_1316 22 (by decide)).trans (hp_1304 22 (by decide)))
                    have e_1339 : μ1314.1 111 22 = μ.1 111 22 := ((hp_1316 22 (by decide)).trans (hp_1304 22 (by decide)))
                    have e_1340 : μ1314.1 111 29 = μ.1 111 29 := ((hp_1316 29 (by decide)).trans (hp_1304 29 (by decide)))
                    have e_1341 : μ1314.1 111 39 = μ.1 111 39 := ((hp_1316 39 (by decide)).trans (hp_1304 39 (by decide)))
                    refine xc_vV G (b := 111) (rest := []) (As := []) (((fun (_ : Om) (_ : Launch) => hE)) ω l μ1314 tt (by omega) hp_1317 (by omega) (by omega) (by omega) (by omega) (by omega) (by omega) (fun _ h0 => ((hX_1325 ()) h0).h1.1)) (wm 9 139 rfl rfl) (wm 9 141 rfl rfl) (wm 0 147 rfl rfl) rfl rfl (by decide) rfl (wm 1 18 rfl rfl) (wm 9 142 rfl rfl) (by decide) hR ⟨sfr (F := F) (a := 0) (by decide), slo (L := Lo) (m := 1) (a := 0) (by decide)⟩ (n := 0) rfl rfl (Nat.le_of_ble_eq_true rfl) hl.1 dX12_worded_161 (fun μ1342 ρ d0 H locs hp G => ?_)
                    obtain ⟨F_1343, hp_1344, hp_1345, hp_1346, hp_1347, hp_1348, hp_1349, hp_1350, hp_1351, hp_1352, hp_1353, hp_1354⟩ := hp
                    have hpl_1355 := hp_1345.pl
                    have hw_1356 := wr_r (μ := μ1342)
                    have hxt_1357 : mEXT μ μ1342 := hxt_1329.tr hp_1354
                    have hX_1358 : ∀ _ : Unit, bd μ1342 = 0 → mPX μ μ1342 tt 1 1 (11 * (9 - nn μ) - 3) [] := fun _ h0 => (((hX_1325 ()) (by have e9 : bd μ1314 = bd μ1314 := rfl; have e8 : bd μ1342 = bd μ1342 := rfl; omega)).app (hp_1353 () h0) (by omega)).ee (by omega)
                    refine lv_aload_n hx hb dX12_worded_164 rfl (lv_at hl 1 rfl) ?_
                    refine lv_bipush (v := iv 41) hx hb dX12_worded_165 rfl ?_
                    refine xc_vV G (b := 111) (rest := []) (As := [.int (iv 41)]) (c_X12_closesWith ω l μ1342 41 (by unfold ir; omega) hp_1345 (by omega) (by omega)) (wm 9 110 rfl rfl) (wm 9 112 rfl rfl) (wm 0 140 rfl rfl) rfl rfl (by decide) rfl (wm 1 18 rfl rfl) (wm 9 113 rfl rfl) (by decide) hR ⟨nfr hF (by decide), nlo hLo (by decide)⟩ (n := 1) rfl rfl (Nat.le_of_ble_eq_true rfl) hl.1 dX12_worded_167 (fun μ1359 ρ d0 H locs hp G => ?_)
                    obtain ⟨F_1360, hp_1361, hp_1362, hp_1363, hp_1364, hp_1365, hp_1366⟩ := hp
                    have hpl_1367 := hp_1362.pl
                    have hw_1368 := wr_r (μ := μ1359)
                    refine lv_aload_n hx hb dX12_worded_170 rfl (lv_at hl 1 rfl) ?_
                    refine lv_bipush (v := iv 30) hx hb dX12_worded_171 rfl ?_
                    refine lv_lconst (v := jv 0) hx hb dX12_worded_173 rfl ?_
                    refine lv_iconst (v := iv 0) hx hb dX12_worded_174 rfl ?_
                    have e_1369 : μ1359.1 111 29 = μ1342.1 111 29 := (hp_1361 29 (by decide))
                    have e_1371 : μ1359.1 111 29 = μ1342.1 111 29 := (hp_1361 29 (by decide))
                    have hX_1370 : ∀ _ : Unit, bd μ1359 = 0 → mPX μ μ1359 tt 1 1 (11 * (9 - nn μ) - 3) [] := fun _ h0 => (hX_1358 () (by have e9 : bd μ1342 = bd μ1342 := rfl; have e8 : bd μ1359 = bd μ1359 := rfl; omega)).qm (q0m.fr (K := [111]) (Fr.tr Fr.rf F_1360 (by decide)) (by decide) (by decide) (by decide) (hp_1361 22 (by decide)) (by omega))
                    have e_1372 : μ1359.1 111 29 = μ1342.1 111 29 := (hp_1361 29 (by decide))
                    have e_1373 : μ1359.1 111 29 = μ1342.1 111 29 := (hp_1361 29 (by decide))
                    have hxt_1374 : mEXT μ μ1359 := hxt_1357.tr (q0m.fr (K := [111]) (Fr.tr Fr.rf F_1360 (by decide)) (by decide) (by decide) (by decide) (hp_1361 22 (by decide)) (by omega)).1
                    have e_1375 : μ1359.1 111 22 = μ1342.1 111 22 := (hp_1361 22 (by decide))
                    have e_1376 : μ1359.1 111 22 = μ1342.1 111 22 := (hp_1361 22 (by decide))
                    have e_1377 : μ1359.1 111 22 = μ1342.1 111 22 := (hp_1361 22 (by decide))
                    have e_1378 : μ1359.1 111 22 = μ1342.1 111 22 := (hp_1361 22 (by decide))
                    refine xc_iV G (b := 111) (rest := []) (As := [.int (iv 30), .long (jv 0), .int (iv 0)]) (c_X12_emit ω l μ1359 30 0 0 (by unfold ir; omega) (by unfold jr; omega) (by unfold ir; omega) (by omega)) (wm 9 126 rfl rfl) (wm 9 128 rfl rfl) (wm 0 144 rfl rfl) rfl rfl (by decide) rfl (wm 1 18 rfl rfl) (wm 9 129 rfl rfl) (by decide) hR ⟨nfr hF (by decide), nlo hLo (by decide)⟩ (n := 3) rfl rfl (Nat.le_of_ble_eq_true rfl) hl.1 dX12_worded_175 (fun r_1380 μ1379 ρ d0 H locs hr_r_1380 hp G => ?_)
                    have hr_r_1380 : -2147483648 ≤ r_1380 ∧ r_1380 ≤ 2147483647 := hr_r_1380
                    obtain ⟨F_1381, hp_1382, hp_1383, hp_1384, hp_1385⟩ := hp
                    have hxt_1386 : mEXT μ μ1379 := hxt_1374.tr hp_1383.1
                    have e_1387 : wr μ1379 = wr μ1359 := (wr_cg (hp_1382 15 (by decide)))
                    have e_1388 : bd μ1379 = bd μ1359 := (bd_cg (hp_1382 15 (by decide)) (hp_1382 16 (by decide)))
                    have e_1389 : nn μ1379 = nn μ1359 := (nn_cg (hp_1382 15 (by decide)) (hp_1382 18 (by decide)))
                    have e_1391 : μ1379.1 111 29 = μ1342.1 111 29 := ((hp_1382 29 (by decide)).trans (hp_1361 29 (by decide)))
                    have hX_1390 : ∀ _ : Unit, bd μ1379 = 0 → mPX μ μ1379 tt 1 1 (11 * (9 - nn μ) - 3) [] := fun _ h0 => ((((hX_1370 ()) (by have e9 : bd μ1359 = bd μ1359 := rfl; have e8 : bd μ1379 = bd μ1359 := (bd_cg (hp_1382 15 (by decide)) (hp_1382 16 (by decide))); omega))).app (mAD.ex (t := tt) (e := 0) hp_1383 ((hX_1370 ()) (by have e9 : bd μ1359 = bd μ1359 := rfl; have e8 : bd μ1379 = bd μ1359 := (bd_cg (hp_1382 15 (by decide)) (hp_1382 16 (by decide))); omega)).h1.1 (by unfold mpl; omega) rfl (by have h9 := ((hX_1370 ()) (by have e9 : bd μ1359 = bd μ1359 := rfl; have e8 : bd μ1379 = bd μ1359 := (bd_cg (hp_1382 15 (by decide)) (hp_1382 16 (by decide))); omega)).h1; omega) ⟨fun q => absurd q (by decide), fun q => absurd q (by decide), fun _ => by have h9 := ((hX_1370 ()) (by have e9 : bd μ1359 = bd μ1359 := rfl; have e8 : bd μ1379 = bd μ1359 := (bd_cg (hp_1382 15 (by decide)) (hp_1382 16 (by decide))); omega)).h1; rw [(hp_1383.1.fo (t := tt) _ (Int.le_refl _)).1]; omega, fun q => absurd q (by decide), fun q => absurd q (by decide), fun q => absurd q (by decide), fun q => absurd q (by decide), fun q => absurd q (by decide), fun q => absurd q (by decide), fun q => absurd q (by decide), fun q => absurd q (by decide), fun q => absurd q (by decide), fun q => absurd q (by decide), fun q => absurd q (by decide), fun q => absurd q (by decide), fun q => absurd q (by decide), fun q => absurd q (by decide), fun q => absurd q (by decide), fun q => absurd q (by decide), fun q => absurd q (by decide), fun q => absurd q (by decide), fun q => absurd q (by decide), ⟨by decide, by decide⟩⟩) (by have h9 := ((hX_1370 ()) (by have e9 : bd μ1359 = bd μ1359 := rfl; have e8 : bd μ1379 = bd μ1359 := (bd_cg (hp_1382 15 (by decide)) (hp_1382 16 (by decide))); omega)).h1; omega)).ee (by omega)
                    refine lv_pop hx hb dX12_worded_178 rfl ?_
                    refine lv_goto (tgt := 223) hx hb dX12_worded_179 (by decide) ?_
                    have e_1392 : μ1379.1 111 9 = μ1359.1 111 9 := (hp_1382 9 (by decide))
                    have e_1393 : μ1379.1 111 29 = μ1342.1 111 29 := ((hp_1382 29 (by decide)).trans (hp_1361 29 (by decide)))
                    have e_1394 : μ1379.1 111 39 = μ1342.1 111 39 := ((hp_1382 39 (by decide)).trans (hp_1361 39 (by decide)))
                    have e_1395 : wr μ1379 = wr μ1359 := (wr_cg (hp_1382 15 (by decide)))
                    have e_1396 : bd μ1379 = bd μ1359 := (bd_cg (hp_1382 15 (by decide)) (hp_1382 16 (by decide)))
                    have e_1397 : nn μ1379 = nn μ1359 := (nn_cg (hp_1382 15 (by decide)) (hp_1382 18 (by decide)))
                    have hPM_1398 : PM μ1379 := hp_1362.cg ((((hp_1382 4 (by decide)).trans ((hp_1361 4 (by decide)).trans ((hp_1344 4 (by decide)).trans ((hp_1316 4 (by decide)).trans (hp_1304 4 (by decide))))))).trans (((hp_1361 4 (by decide)).trans ((hp_1344 4 (by decide)).trans ((hp_1316 4 (by decide)).trans (hp_1304 4 (by decide)))))).symm) (hp_1382 6 (by decide)) ((((hp_1382 7 (by decide)).trans ((hp_1361 7 (by decide)).trans ((hp_1344 7 (by decide)).trans ((hp_1316 7 (by decide)).trans (hp_1304 7 (by decide))))))).trans (((hp_1361 7 (by decide)).trans ((hp_1344 7 (by decide)).trans ((hp_1316 7 (by decide)).trans (hp_1304 7 (by decide)))))).symm) (hp_1382 8 (by decide)) (hp_1382 9 (by decide)) (hp_1382 11 (by decide)) (hp_1382 12 (by decide)) ((((hp_1382 14 (by decide)).trans ((hp_1361 14 (by decide)).trans ((hp_1344 14 (by decide)).trans ((hp_1316 14 (by decide)).trans ((hp_1304 14 (by decide)).trans htt.symm)))))).trans (((hp_1361 14 (by decide)).trans ((hp_1344 14 (by decide)).trans ((hp_1316 14 (by decide)).trans ((hp_1304 14 (by decide)).trans htt.symm))))).symm) (hp_1382 15 (by decide)) ((((hp_1382 29 (by decide)).trans (hp_1361 29 (by decide)))).trans ((hp_1361 29 (by decide))).symm) (fun j => (F_1381.1 123 (by decide) j))
                    have e_1399 : μ1379.1 111 9 = μ1359.1 111 9 := (hp_1382 9 (by decide))
                    have e_1400 : wr μ1379 = wr μ1359 := (wr_cg (hp_1382 15 (by decide)))
                    have e_1401 : μ1379.1 111 9 = μ1359.1 111 9 := (hp_1382 9 (by decide))
                    have e_1402 : μ1379.1 111 29 = μ1342.1 111 29 := ((hp_1382 29 (by decide)).trans (hp_1361 29 (by decide)))
                    have e_1403 : wr μ1379 = wr μ1359 := (wr_cg (hp_1382 15 (by decide)))
                    have e_1404 : bd μ1379 = bd μ1359 := (bd_cg (hp_1382 15 (by decide)) (hp_1382 16 (by decide)))
                    have e_1405 : wr μ1379 = wr μ1359 := (wr_cg (hp_1382 15 (by decide)))
                    have e_1406 : nn μ1379 = nn μ1359 := (nn_cg (hp_1382 15 (by decide)) (hp_1382 18 (by decide)))
                    have e_1407 : μ1379.1 111 39 = μ1342.1 111 39 := ((hp_1382 39 (by decide)).trans (hp_1361 39 (by decide)))
                    exact xr_v G hret hlk dX12_worded_223 ⟨(Fr.tr (Fr.tr (Fr.tr (Fr.tr (Fr.tr Fr.rf F_1303 (by decide)) F_1315 (by decide)) F_1343 (by decide)) F_1360 (by decide)) F_1381 (by decide)), (fun j hj => ((hp_1382 j (fun h9 => hj ((by decide : ∀ x ∈ ([22] : List Int), x ∈ ([6, 8, 9, 10, 11, 12, 13, 15, 16, 17, 18, 22, 29, 39] : List Int)) j h9))).trans ((hp_1361 j (fun h9 => hj ((by decide : ∀ x ∈ ([6, 8, 9, 10, 11, 12, 13, 15, 18] : List Int), x ∈ ([6, 8, 9, 10, 11, 12, 13, 15, 16, 17, 18, 22, 29, 39] : List Int)) j h9))).trans ((hp_1344 j (fun h9 => hj ((by decide : ∀ x ∈ ([6, 8, 9, 10, 11, 12, 13, 15, 16, 17, 18, 22, 29, 39] : List Int), x ∈ ([6, 8, 9, 10, 11, 12, 13, 15, 16, 17, 18, 22, 29, 39] : List Int)) j h9))).trans ((hp_1316 j (fun h9 => hj ((by decide : ∀ x ∈ ([6, 8, 9, 10, 11, 12, 13, 15, 18] : List Int), x ∈ ([6, 8, 9, 10, 11, 12, 13, 15, 16, 17, 18, 22, 29, 39] : List Int)) j h9))).trans (hp_1304 j (fun h9 => hj ((by decide : ∀ x ∈ ([6, 8, 9, 10, 11, 12, 13, 15] : List Int), x ∈ ([6, 8, 9, 10, 11, 12, 13, 15, 16, 17, 18, 22, 29, 39] : List Int)) j h9)))))))), hPM_1398, (by omega), (by omega), (by omega), (by omega), (by omega), (by omega), (fun j hj => ((F_1381.1 126 (by decide) j).trans ((F_1360.1 126 (by decide) j).trans ((hp_1352 j (by omega)).trans ((F_1315.1 126 (by decide) j).trans (F_1303.1 126 (by decide) j)))))), (fun _ h0 => (mPX.ex ((hX_1390 ()) h0)).e (by omega)), hxt_1386⟩
              · refine lv_aload_n hx hb dX12_worded_113 rfl (lv_at hl 1 rfl) ?_
                refine xc_vV G (b := 111) (rest := []) (As := []) (c_X12_next ω l μ  hPM (by omega) (by omega)) (wm 9 0 rfl rfl) (wm 9 2 rfl rfl) (wm 0 119 rfl rfl) rfl rfl (by decide) rfl (wm 1 18 rfl rfl) (wm 9 3 rfl rfl) (by decide) hR ⟨nfr hF (by decide), nlo hLo (by decide)⟩ (n := 0) rfl rfl (Nat.le_of_ble_eq_true rfl) hl.1 dX12_worded_114 (fun μ1408 ρ d0 H locs hp G => ?_)
                obtain ⟨F_1409, hp_1410, hp_1411, hp_1412, hp_1413, hp_1414⟩ := hp
                have hpl_1415 := hp_1411.pl
                have hw_1416 := wr_r (μ := μ1408)
                refine lv_aload_n hx hb dX12_worded_117 rfl (lv_at hl 1 rfl) ?_
                have e_1417 : μ1408.1 111 29 = μ.1 111 29 := (hp_1410 29 (by decide))
                have e_1419 : μ1408.1 111 29 = μ.1 111 29 := (hp_1410 29 (by decide))
                have hX_1418 : ∀ _ : Unit, bd μ1408 = 0 → mPX μ μ1408 tt 0 1 (11 * (9 - nn μ) - 3) [] := fun _ h0 => (hX_1 () (by have e9 : bd μ = bd μ := rfl; have e8 : bd μ1408 = bd μ1408 := rfl; omega)).qm (q0m.fr (K := [111]) (Fr.tr Fr.rf F_1409 (by decide)) (by decide) (by decide) (by decide) (hp_1410 22 (by decide)) (by omega))
                have e_1420 : μ1408.1 111 29 = μ.1 111 29 := (hp_1410 29 (by decide))
                refine xc_iV G (b := 111) (rest := []) (As := []) (c_X12_takesKind ω l μ1408  hp_1411 (by omega)) (wm 9 203 rfl rfl) (wm 9 205 rfl rfl) (wm 0 163 rfl rfl) rfl rfl (by decide) rfl (wm 1 18 rfl rfl) (wm 9 206 rfl rfl) (by decide) hR ⟨nfr hF (by decide), nlo hLo (by decide)⟩ (n := 0) rfl rfl (Nat.le_of_ble_eq_true rfl) hl.1 dX12_worded_118 (fun r_1422 μ1421 ρ d0 H locs hr_r_1422 hp G => ?_)
                have hr_r_1422 : -2147483648 ≤ r_1422 ∧ r_1422 ≤ 2147483647 := hr_r_1422
                obtain ⟨F_1423, hp_1424, hp_1425, hp_1426, hp_1427, hp_1428, hp_1429, hp_1430, hp_1431⟩ := hp
                have hpl_1432 := hp_1425.pl
                have hw_1433 := wr_r (μ := μ1421)
                refine lv_istore_n (lv' := [(2, .int (iv r_1422)), (1, .int (iv (μ.1 111 11))), (0, .ref (oP ω 111))]) hx hb dX12_worded_121 rfl hl (by decide) rfl (fun ls hl => ?_)
                refine lv_aload_n hx hb dX12_worded_122 rfl (lv_at hl 2 rfl) ?_
                refine lv_bipush (v := iv 29) hx hb dX12_worded_123 rfl ?_
                refine lv_bipush (v := iv 40) hx hb dX12_worded_125 rfl ?_
                refine lv_bipush (v := iv 41) hx hb dX12_worded_127 rfl ?_
                refine lv_iload_n hx hb dX12_worded_129 rfl (lv_at hl 0 rfl) ?_
                have hX_1434 : ∀ _ : Unit, bd μ1421 = 0 → mPX μ μ1421 tt 0 1 (11 * (9 - nn μ) - 3) [] := fun _ h0 => (hX_1418 () (by have e9 : bd μ1408 = bd μ1408 := rfl; have e8 : bd μ1421 = bd μ1421 := rfl; omega)).qm (q0m.fr (K := [111, 113, 123]) (Fr.tr Fr.rf F_1423 (by decide)) (by decide) (by decide) (by decide) ((((hp_1424 22 (by decide)).trans (hp_1410 22 (by decide)))).trans ((hp_1410 22 (by decide))).symm) (by omega))
                have hxt_1435 : mEXT μ μ1421 := (q0m.fr (K := [111, 113, 123]) (Fr.tr (Fr.tr Fr.rf F_1409 (by decide)) F_1423 (by decide)) (by decide) (by decide) (by decide) ((hp_1424 22 (by decide)).trans (hp_1410 22 (by decide))) (by omega)).1
                have e_1436 : μ1421.1 111 14 = tt := ((hp_1424 14 (by decide)).trans ((hp_1410 14 (by decide)).trans htt.symm))
                have e_1437 : μ1421.1 111 22 = μ.1 111 22 := ((hp_1424 22 (by decide)).trans (hp_1410 22 (by decide)))
                have e_1438 : μ1421.1 111 22 = μ.1 111 22 := ((hp_1424 22 (by decide)).trans (hp_1410 22 (by decide)))
                have e_1439 : μ1421.1 111 39 = μ.1 111 39 := ((hp_1424 39 (by decide)).trans (hp_1410 39 (by decide)))
                have e_1440 : μ1421.1 111 39 = μ.1 111 39 := ((hp_1424 39 (by decide)).trans (hp_1410 39 (by decide)))
                have e_1441 : μ1421.1 111 22 = μ.1 111 22 := ((hp_1424 22 (by decide)).trans (hp_1410 22 (by decide)))
                have e_1442 : μ1421.1 111 31 = μ.1 111 31 := ((hp_1424 31 (by decide)).trans (hp_1410 31 (by decide)))
                have e_1443 : μ1421.1 111 31 = μ.1 111 31 := ((hp_1424 31 (by decide)).trans (hp_1410 31 (by decide)))
                have e_1444 : μ1421.1 111 22 = μ.1 111 22 := ((hp_1424 22 (by decide)).trans (hp_1410 22 (by decide)))
                have e_1445 : μ1421.1 111 22 = μ.1 111 22 := ((hp_1424 22 (by decide)).trans (hp_1410 22 (by decide)))
                have e_1446 : μ1421.1 111 39 = μ.1 111 39 := ((hp_1424 39 (by decide)).trans (hp_1410 39 (by decide)))
                refine xc_vV G (b := 111) (rest := []) (As := [.int (iv 29), .int (iv 40), .int (iv 41), .int (iv r_1422)]) (c_X12_ofPart ω l μ1421 29 40 41 r_1422 F Lo Fu Lu kf tt (by unfold ir; omega) (by unfold ir; omega) (by unfold ir; omega) (by unfold ir; omega) (by omega) hF hLo hFu hLu hE hU hp_1425 (by omega) (by omega) (by omega) (by omega) (by omega) (by omega) (fun _ h0 => ((hX_1434 ()) h0).h1.1) (by omega) (by omega)) (wm 9 199 rfl rfl) (wm 9 201 rfl rfl) (wm 0 162 rfl rfl) rfl rfl (by decide) rfl (wm 1 18 rfl rfl) (wm 9 202 rfl rfl) (by decide) hR ⟨sfr (F := F) (a := 1) (by decide), slo (L := Lo) (m := 6) (a := 20) (by decide)⟩ (n := 4) rfl rfl (Nat.le_of_ble_eq_true rfl) hl.1 dX12_worded_130 (fun μ1447 ρ d0 H locs hp G => ?_)
                obtain ⟨F_1448, hp_1449, hp_1450, hp_1451, hp_1452, hp_1453, hp_1454, hp_1455, hp_1456, hp_1457, hp_1458, hp_1459⟩ := hp
                have hpl_1460 := hp_1450.pl
                have hw_1461 := wr_r (μ := μ1447)
                have hxt_1462 : mEXT μ μ1447 := hxt_1435.tr hp_1459
                have hX_1463 : ∀ _ : Unit, bd μ1447 = 0 → mPX μ μ1447 tt 1 1 (11 * (9 - nn μ) - 3) [] := fun _ h0 => (((hX_1434 ()) (by have e9 : bd μ1421 = bd μ1421 := rfl; have e8 : bd μ1447 = bd μ1447 := rfl; omega)).app (hp_1458 () h0) (by omega)).ee (by omega)
                refine lv_goto (tgt := 223) hx hb dX12_worded_133 (by decide) ?_
                exact xr_v G hret hlk dX12_worded_223 ⟨(Fr.tr (Fr.tr (Fr.tr Fr.rf F_1409 (by decide)) F_1423 (by decide)) F_1448 (by decide)), (fun j hj => ((hp_1449 j (fun h9 => hj ((by decide : ∀ x ∈ ([6, 8, 9, 10, 11, 12, 13, 15, 16, 17, 18, 22, 29, 39] : List Int), x ∈ ([6, 8, 9, 10, 11, 12, 13, 15, 16, 17, 18, 22, 29, 39] : List Int)) j h9))).trans ((hp_1424 j (fun h9 => hj ((by decide : ∀ x ∈ ([6, 8, 9, 10, 11, 12, 13, 15, 16, 29] : List Int), x ∈ ([6, 8, 9, 10, 11, 12, 13, 15, 16, 17, 18, 22, 29, 39] : List Int)) j h9))).trans (hp_1410 j (fun h9 => hj ((by decide : ∀ x ∈ ([6, 8, 9, 10, 11, 12, 13, 15] : List Int), x ∈ ([6, 8, 9, 10, 11, 12, 13, 15, 16, 17, 18, 22, 29, 39] : List Int)) j h9)))))), hp_1450, (by omega), (by omega), (by omega), (by omega), (by omega), (by omega), (fun j hj => ((hp_1457 j (by omega)).trans ((F_1423.1 126 (by decide) j).trans (F_1409.1 126 (by decide) j)))), (fun _ h0 => (mPX.ex ((hX_1463 ()) h0)).e (by omega)), hxt_1462⟩
          · refine lv_aload_n hx hb dX12_worded_81 rfl (lv_at hl 1 rfl) ?_
            refine xc_vV G (b := 111) (rest := []) (As := []) (c_X12_next ω l μ  hPM (by omega) (by omega)) (wm 9 0 rfl rfl) (wm 9 2 rfl rfl) (wm 0 119 rfl rfl) rfl rfl (by decide) rfl (wm 1 18 rfl rfl) (wm 9 3 rfl rfl) (by decide) hR ⟨nfr hF (by decide), nlo hLo (by decide)⟩ (n := 0) rfl rfl (Nat.le_of_ble_eq_true rfl) hl.1 dX12_worded_82 (fun μ1464 ρ d0 H locs hp G => ?_)
            obtain ⟨F_1465, hp_1466, hp_1467, hp_1468, hp_1469, hp_1470⟩ := hp
            have hpl_1471 := hp_1467.pl
            have hw_1472 := wr_r (μ := μ1464)
            refine lv_aload_n hx hb dX12_worded_85 rfl (lv_at hl 1 rfl) ?_
            refine lv_bipush (v := iv 23) hx hb dX12_worded_86 rfl ?_
            refine lv_bipush (v := iv 40) hx hb dX12_worded_88 rfl ?_
            refine lv_bipush (v := iv 41) hx hb dX12_worded_90 rfl ?_
            refine lv_iconst (v := iv 0) hx hb dX12_worded_92 rfl ?_
            have e_1473 : μ1464.1 111 29 = μ.1 111 29 := (hp_1466 29 (by decide))
            have e_1475 : μ1464.1 111 29 = μ.1 111 29 := (hp_1466 29 (by decide))
            have hX_1474 : ∀ _ : Unit, bd μ1464 = 0 → mPX μ μ1464 tt 0 1 (11 * (9 - nn μ) - 3) [] := fun _ h0 => (hX_1 () (by have e9 : bd μ = bd μ := rfl; have e8 : bd μ1464 = bd μ1464 := rfl; omega)).qm (q0m.fr (K := [111]) (Fr.tr Fr.rf F_1465 (by decide)) (by decide) (by decide) (by decide) (hp_1466 22 (by decide)) (by omega))
            have e_1476 : μ1464.1 111 29 = μ.1 111 29 := (hp_1466 29 (by decide))
            have e_1477 : μ1464.1 111 29 = μ.1 111 29 := (hp_1466 29 (by decide))
            have hxt_1478 : mEXT μ μ1464 := (q0m.fr (K := [111]) (Fr.tr Fr.rf F_1465 (by decide)) (by decide) (by decide) (by decide) (hp_1466 22 (by decide)) (by omega)).1
            have e_1479 : μ1464.1 111 14 = tt := ((hp_1466 14 (by decide)).trans htt.symm)
            have e_1480 : μ1464.1 111 22 = μ.1 111 22 := (hp_1466 22 (by decide))
            have e_1481 : μ1464.1 111 22 = μ.1 111 22 := (hp_1466 22 (by decide))
            have e_1482 : μ1464.1 111 39 = μ.1 111 39 := (hp_1466 39 (by decide))
            have e_1483 : μ1464.1 111 39 = μ.1 111 39 := (hp_1466 39 (by decide))
            have e_1484 : μ1464.1 111 22 = μ.1 111 22 := (hp_1466 22 (by decide))
            have e_1485 : μ1464.1 111 31 = μ.1 111 31 := (hp_1466 31 (by decide))
            have e_1486 : μ1464.1 111 31 = μ.1 111 31 := (hp_1466 31 (by decide))
            have e_1487 : μ1464.1 111 22 = μ.1 111 22 := (hp_1466 22 (by decide))
            have e_1488 : μ1464.1 111 22 = μ.1 111 22 := (hp_1466 22 (by decide))
            have e_1489 : μ1464.1 111 29 = μ.1 111 29 := (hp_1466 29 (by decide))
            have e_1490 : μ1464.1 111 39 = μ.1 111 39 := (hp_1466 39 (by decide))
            refine xc_vV G (b := 111) (rest := []) (As := [.int (iv 23), .int (iv 40), .int (iv 41), .int (iv 0)]) (c_X12_ofPart ω l μ1464 23 40 41 0 F Lo Fu Lu kf tt (by unfold ir; omega) (by unfold ir; omega) (by unfold ir; omega) (by unfold ir; omega) (by omega) hF hLo hFu hLu hE hU hp_1467 (by omega) (by omega) (by omega) (by omega) (by omega) (by omega) (fun _ h0 => ((hX_1474 ()) h0).h1.1) (by omega) (by omega)) (wm 9 199 rfl rfl) (wm 9 201 rfl rfl) (wm 0 162 rfl rfl) rfl rfl (by decide) rfl (wm 1 18 rfl rfl) (wm 9 202 rfl rfl) (by decide) hR ⟨sfr (F := F) (a := 1) (by decide), slo (L := Lo) (m := 6) (a := 20) (by decide)⟩ (n := 4) rfl rfl (Nat.le_of_ble_eq_true rfl) hl.1 dX12_worded_93 (fun μ1491 ρ d0 H locs hp G => ?_)
            obtain ⟨F_1492, hp_1493, hp_1494, hp_1495, hp_1496, hp_1497, hp_1498, hp_1499, hp_1500, hp_1501, hp_1502, hp_1503⟩ := hp
            have hpl_1504 := hp_1494.pl
            have hw_1505 := wr_r (μ := μ1491)
            have hxt_1506 : mEXT μ μ1491 := hxt_1478.tr hp_1503
            have hX_1507 : ∀ _ : Unit, bd μ1491 = 0 → mPX μ μ1491 tt 1 1 (11 * (9 - nn μ) - 3) [] := fun _ h0 => (((hX_1474 ()) (by have e9 : bd μ1464 = bd μ1464 := rfl; have e8 : bd μ1491 = bd μ1491 := rfl; omega)).app (hp_1502 () h0) (by omega)).ee (by omega)
            refine lv_goto (tgt := 223) hx hb dX12_worded_96 (by decide) ?_
            exact xr_v G hret hlk dX12_worded_223 ⟨(Fr.tr (Fr.tr Fr.rf F_1465 (by decide)) F_1492 (by decide)), (fun j hj => ((hp_1493 j (fun h9 => hj ((by decide : ∀ x ∈ ([6, 8, 9, 10, 11, 12, 13, 15, 16, 17, 18, 22, 29, 39] : List Int), x ∈ ([6, 8, 9, 10, 11, 12, 13, 15, 16, 17, 18, 22, 29, 39] : List Int)) j h9))).trans (hp_1466 j (fun h9 => hj ((by decide : ∀ x ∈ ([6, 8, 9, 10, 11, 12, 13, 15] : List Int), x ∈ ([6, 8, 9, 10, 11, 12, 13, 15, 16, 17, 18, 22, 29, 39] : List Int)) j h9))))), hp_1494, (by omega), (by omega), (by omega), (by omega), (by omega), (by omega), (fun j hj => ((hp_1501 j (by omega)).trans (F_1465.1 126 (by decide) j))), (fun _ h0 => (mPX.ex ((hX_1507 ()) h0)).e (by omega)), hxt_1506⟩
        · refine lv_aload_n hx hb dX12_worded_57 rfl (lv_at hl 1 rfl) ?_
          refine xc_vV G (b := 111) (rest := []) (As := []) (c_X12_next ω l μ  hPM (by omega) (by omega)) (wm 9 0 rfl rfl) (wm 9 2 rfl rfl) (wm 0 119 rfl rfl) rfl rfl (by decide) rfl (wm 1 18 rfl rfl) (wm 9 3 rfl rfl) (by decide) hR ⟨nfr hF (by decide), nlo hLo (by decide)⟩ (n := 0) rfl rfl (Nat.le_of_ble_eq_true rfl) hl.1 dX12_worded_58 (fun μ1508 ρ d0 H locs hp G => ?_)
          obtain ⟨F_1509, hp_1510, hp_1511, hp_1512, hp_1513, hp_1514⟩ := hp
          have hpl_1515 := hp_1511.pl
          have hw_1516 := wr_r (μ := μ1508)
          refine lv_aload_n hx hb dX12_worded_61 rfl (lv_at hl 1 rfl) ?_
          refine lv_bipush (v := iv 22) hx hb dX12_worded_62 rfl ?_
          refine lv_bipush (v := iv 91) hx hb dX12_worded_64 rfl ?_
          refine lv_bipush (v := iv 93) hx hb dX12_worded_66 rfl ?_
          refine lv_iconst (v := iv 0) hx hb dX12_worded_68 rfl ?_
          have e_1517 : μ1508.1 111 29 = μ.1 111 29 := (hp_1510 29 (by decide))
          have e_1519 : μ1508.1 111 29 = μ.1 111 29 := (hp_1510 29 (by decide))
          have hX_1518 : ∀ _ : Unit, bd μ1508 = 0 → mPX μ μ1508 tt 0 1 (11 * (9 - nn μ) - 3) [] := fun _ h0 => (hX_1 () (by have e9 : bd μ = bd μ := rfl; have e8 : bd μ1508 = bd μ1508 := rfl; omega)).qm (q0m.fr (K := [111]) (Fr.tr Fr.rf F_1509 (by decide)) (by decide) (by decide) (by decide) (hp_1510 22 (by decide)) (by omega))
          have e_1520 : μ1508.1 111 29 = μ.1 111 29 := (hp_1510 29 (by decide))
          have e_1521 : μ1508.1 111 29 = μ.1 111 29 := (hp_1510 29 (by decide))
          have hxt_1522 : mEXT μ μ1508 := (q0m.fr (K := [111]) (Fr.tr Fr.rf F_1509 (by decide)) (by decide) (by decide) (by decide) (hp_1510 22 (by decide)) (by omega)).1
          have e_1523 : μ1508.1 111 14 = tt := ((hp_1510 14 (by decide)).trans htt.symm)
          have e_1524 : μ1508.1 111 22 = μ.1 111 22 := (hp_1510 22 (by decide))
          have e_1525 : μ1508.1 111 22 = μ.1 111 22 := (hp_1510 22 (by decide))
          have e_1526 : μ1508.1 111 39 = μ.1 111 39 := (hp_1510 39 (by decide))
          have e_1527 : μ1508.1 111 39 = μ.1 111 39 := (hp_1510 39 (by decide))
          have e_1528 : μ1508.1 111 22 = μ.1 111 22 := (hp_1510 22 (by decide))
          have e_1529 : μ1508.1 111 31 = μ.1 111 31 := (hp_1510 31 (by decide))
          have e_1530 : μ1508.1 111 31 = μ.1 111 31 := (hp_1510 31 (by decide))
          have e_1531 : μ1508.1 111 22 = μ.1 111 22 := (hp_1510 22 (by decide))
          have e_1532 : μ1508.1 111 22 = μ.1 111 22 := (hp_1510 22 (by decide))
          have e_1533 : μ1508.1 111 29 = μ.1 111 29 := (hp_1510 29 (by decide))
          have e_1534 : μ1508.1 111 39 = μ.1 111 39 := (hp_1510 39 (by decide))
          refine xc_vV G (b := 111) (rest := []) (As := [.int (iv 22), .int (iv 91), .int (iv 93), .int (iv 0)]) (c_X12_ofPart ω l μ1508 22 91 93 0 F Lo Fu Lu kf tt (by unfold ir; omega) (by unfold ir; omega) (by unfold ir; omega) (by unfold ir; omega) (by omega) hF hLo hFu hLu hE hU hp_1511 (by omega) (by omega) (by omega) (by omega) (by omega) (by omega) (fun _ h0 => ((hX_1518 ()) h0).h1.1) (by omega) (by omega)) (wm 9 199 rfl rfl) (wm 9 201 rfl rfl) (wm 0 162 rfl rfl) rfl rfl (by decide) rfl (wm 1 18 rfl rfl) (wm 9 202 rfl rfl) (by decide) hR ⟨sfr (F := F) (a := 1) (by decide), slo (L := Lo) (m := 6) (a := 20) (by decide)⟩ (n := 4) rfl rfl (Nat.le_of_ble_eq_true rfl) hl.1 dX12_worded_69 (fun μ1535 ρ d0 H locs hp G => ?_)
          obtain ⟨F_1536, hp_1537, hp_1538, hp_1539, hp_1540, hp_1541, hp_1542, hp_1543, hp_1544, hp_1545, hp_1546, hp_1547⟩ := hp
          have hpl_1548 := hp_1538.pl
          have hw_1549 := wr_r (μ := μ1535)
          have hxt_1550 : mEXT μ μ1535 := hxt_1522.tr hp_1547
          have hX_1551 : ∀ _ : Unit, bd μ1535 = 0 → mPX μ μ1535 tt 1 1 (11 * (9 - nn μ) - 3) [] := fun _ h0 => (((hX_1518 ()) (by have e9 : bd μ1508 = bd μ1508 := rfl; have e8 : bd μ1535 = bd μ1535 := rfl; omega)).app (hp_1546 () h0) (by omega)).ee (by omega)
          refine lv_goto (tgt := 223) hx hb dX12_worded_72 (by decide) ?_
          exact xr_v G hret hlk dX12_worded_223 ⟨(Fr.tr (Fr.tr Fr.rf F_1509 (by decide)) F_1536 (by decide)), (fun j hj => ((hp_1537 j (fun h9 => hj ((by decide : ∀ x ∈ ([6, 8, 9, 10, 11, 12, 13, 15, 16, 17, 18, 22, 29, 39] : List Int), x ∈ ([6, 8, 9, 10, 11, 12, 13, 15, 16, 17, 18, 22, 29, 39] : List Int)) j h9))).trans (hp_1510 j (fun h9 => hj ((by decide : ∀ x ∈ ([6, 8, 9, 10, 11, 12, 13, 15] : List Int), x ∈ ([6, 8, 9, 10, 11, 12, 13, 15, 16, 17, 18, 22, 29, 39] : List Int)) j h9))))), hp_1538, (by omega), (by omega), (by omega), (by omega), (by omega), (by omega), (fun j hj => ((hp_1545 j (by omega)).trans (F_1509.1 126 (by decide) j))), (fun _ h0 => (mPX.ex ((hX_1551 ()) h0)).e (by omega)), hxt_1550⟩
      · refine lv_aload_n hx hb dX12_worded_25 rfl (lv_at hl 1 rfl) ?_
        refine lv_iload_n hx hb dX12_worded_26 rfl (lv_at hl 0 rfl) ?_
        refine lv_bipush (v := iv 23) hx hb dX12_worded_27 rfl ?_
        refine xb_icmp_ne (tgt := 36) hx hb (by unfold ir; omega) (by unfold ir; omega) dX12_worded_29 (by decide) (fun c_29 => ?_) (fun c_29 => ?_)
        · refine lv_bipush (v := iv 28) hx hb dX12_worded_36 rfl ?_
          refine lv_lconst (v := jv 0) hx hb dX12_worded_38 rfl ?_
          refine lv_iconst (v := iv 0) hx hb dX12_worded_39 rfl ?_
          refine xc_iV G (b := 111) (rest := []) (As := [.int (iv 28), .long (jv 0), .int (iv 0)]) (c_X12_emit ω l μ 28 0 0 (by unfold ir; omega) (by unfold jr; omega) (by unfold ir; omega) (by omega)) (wm 9 126 rfl rfl) (wm 9 128 rfl rfl) (wm 0 144 rfl rfl) rfl rfl (by decide) rfl (wm 1 18 rfl rfl) (wm 9 129 rfl rfl) (by decide) hR ⟨nfr hF (by decide), nlo hLo (by decide)⟩ (n := 3) rfl rfl (Nat.le_of_ble_eq_true rfl) hl.1 dX12_worded_40 (fun r_1553 μ1552 ρ d0 H locs hr_r_1553 hp G => ?_)
          have hr_r_1553 : -2147483648 ≤ r_1553 ∧ r_1553 ≤ 2147483647 := hr_r_1553
          obtain ⟨F_1554, hp_1555, hp_1556, hp_1557, hp_1558⟩ := hp
          have hxt_1559 : mEXT μ μ1552 := (mEXT.rf (μ := μ)).tr hp_1556.1
          have e_1560 : wr μ1552 = wr μ := (wr_cg (hp_1555 15 (by decide)))
          have e_1561 : bd μ1552 = bd μ := (bd_cg (hp_1555 15 (by decide)) (hp_1555 16 (by decide)))
          have e_1562 : nn μ1552 = nn μ := (nn_cg (hp_1555 15 (by decide)) (hp_1555 18 (by decide)))
          have e_1564 : μ1552.1 111 29 = μ.1 111 29 := (hp_1555 29 (by decide))
          have hX_1563 : ∀ _ : Unit, bd μ1552 = 0 → mPX μ μ1552 tt 1 1 (11 * (9 - nn μ) - 3) [] := fun _ h0 => (((hX_1 ()) (by have e9 : bd μ = bd μ := rfl; have e8 : bd μ1552 = bd μ := (bd_cg (hp_1555 15 (by decide)) (hp_1555 16 (by decide))); omega)).app (mAD.ex (t := tt) (e := 1) hp_1556 ((hX_1 ()) (by have e9 : bd μ = bd μ := rfl; have e8 : bd μ1552 = bd μ := (bd_cg (hp_1555 15 (by decide)) (hp_1555 16 (by decide))); omega)).h1.1 (by unfold mpl; omega) rfl (by have h9 := ((hX_1 ()) (by have e9 : bd μ = bd μ := rfl; have e8 : bd μ1552 = bd μ := (bd_cg (hp_1555 15 (by decide)) (hp_1555 16 (by decide))); omega)).h1; omega) ⟨fun q => absurd q (by decide), fun q => absurd q (by decide), fun q => absurd q (by decide), fun q => absurd q (by decide), fun q => absurd q (by decide), fun q => absurd q (by decide), fun q => absurd q (by decide), fun q => absurd q (by decide), fun q => absurd q (by decide), fun q => absurd q (by decide), fun q => absurd q (by decide), fun q => absurd q (by decide), fun q => absurd q (by decide), fun q => absurd q (by decide), fun q => absurd q (by decide), fun q => absurd q (by decide), fun q => absurd q (by decide), fun q => absurd q (by decide), fun q => absurd q (by decide), fun q => absurd q (by decide), fun q => absurd q (by decide), fun _ => by omega, ⟨by decide, by decide⟩⟩) (by have h9 := ((hX_1 ()) (by have e9 : bd μ = bd μ := rfl; have e8 : bd μ1552 = bd μ := (bd_cg (hp_1555 15 (by decide)) (hp_1555 16 (by decide))); omega)).h1; omega)).ee (by omega)
          refine lv_pop hx hb dX12_worded_43 rfl ?_
          refine lv_aload_n hx hb dX12_worded_44 rfl (lv_at hl 1 rfl) ?_
          have hPM_1565 : PM μ1552 := hPM.cg (hp_1555 4 (by decide)) (hp_1555 6 (by decide)) (hp_1555 7 (by decide)) (hp_1555 8 (by decide)) (hp_1555 9 (by decide)) (hp_1555 11 (by decide)) (hp_1555 12 (by decide)) ((((hp_1555 14 (by decide)).trans htt.symm)).trans (htt.symm).symm) (hp_1555 15 (by decide)) (hp_1555 29 (by decide)) (fun j => (F_1554.1 123 (by decide) j))
          have e_1566 : wr μ1552 = wr μ := (wr_cg (hp_1555 15 (by decide)))
          have e_1567 : nn μ1552 = nn μ := (nn_cg (hp_1555 15 (by decide)) (hp_1555 18 (by decide)))
          have e_1568 : μ1552.1 111 8 = μ.1 111 8 := (hp_1555 8 (by decide))
          have e_1569 : wr μ1552 = wr μ := (wr_cg (hp_1555 15 (by decide)))
          have e_1570 : μ1552.1 111 9 = μ.1 111 9 := (hp_1555 9 (by decide))
          have e_1571 : wr μ1552 = wr μ := (wr_cg (hp_1555 15 (by decide)))
          have e_1572 : wr μ1552 = wr μ := (wr_cg (hp_1555 15 (by decide)))
          have e_1573 : bd μ1552 = bd μ := (bd_cg (hp_1555 15 (by decide)) (hp_1555 16 (by decide)))
          have e_1574 : nn μ1552 = nn μ := (nn_cg (hp_1555 15 (by decide)) (hp_1555 18 (by decide)))
          refine xc_vV G (b := 111) (rest := []) (As := []) (c_X12_next ω l μ1552  hPM_1565 (by omega) (by omega)) (wm 9 0 rfl rfl) (wm 9 2 rfl rfl) (wm 0 119 rfl rfl) rfl rfl (by decide) rfl (wm 1 18 rfl rfl) (wm 9 3 rfl rfl) (by decide) hR ⟨nfr hF (by decide), nlo hLo (by decide)⟩ (n := 0) rfl rfl (Nat.le_of_ble_eq_true rfl) hl.1 dX12_worded_45 (fun μ1575 ρ d0 H locs hp G => ?_)
          obtain ⟨F_1576, hp_1577, hp_1578, hp_1579, hp_1580, hp_1581⟩ := hp
          have hpl_1582 := hp_1578.pl
          have hw_1583 := wr_r (μ := μ1552)
          have hw_1584 := wr_r (μ := μ1575)
          refine lv_goto (tgt := 223) hx hb dX12_worded_48 (by decide) ?_
          have e_1585 : μ1575.1 111 22 = μ1552.1 111 22 := (hp_1577 22 (by decide))
          have e_1586 : μ1575.1 111 29 = μ.1 111 29 := ((hp_1577 29 (by decide)).trans (hp_1555 29 (by decide)))
          have e_1587 : μ1575.1 111 39 = μ.1 111 39 := ((hp_1577 39 (by decide)).trans (hp_1555 39 (by decide)))
          have e_1588 : μ1575.1 111 29 = μ.1 111 29 := ((hp_1577 29 (by decide)).trans (hp_1555 29 (by decide)))
          have e_1590 : μ1575.1 111 29 = μ.1 111 29 := ((hp_1577 29 (by decide)).trans (hp_1555 29 (by decide)))
          have hX_1589 : ∀ _ : Unit, bd μ1575 = 0 → mPX μ μ1575 tt 1 1 (11 * (9 - nn μ) - 3) [] := fun _ h0 => (hX_1563 () (by have e9 : bd μ1552 = bd μ := (bd_cg (hp_1555 15 (by decide)) (hp_1555 16 (by decide))); have e8 : bd μ1575 = bd μ1575 := rfl; omega)).qm (q0m.fr (K := [111]) (Fr.tr Fr.rf F_1576 (by decide)) (by decide) (by decide) (by decide) (hp_1577 22 (by decide)) (by omega))
          have e_1591 : μ1575.1 111 29 = μ.1 111 29 := ((hp_1577 29 (by decide)).trans (hp_1555 29 (by decide)))
          have hxt_1592 : mEXT μ μ1575 := hxt_1559.tr (q0m.fr (K := [111]) (Fr.tr Fr.rf F_1576 (by decide)) (by decide) (by decide) (by decide) (hp_1577 22 (by decide)) (by omega)).1
          have e_1593 : μ1575.1 111 22 = μ1552.1 111 22 := (hp_1577 22 (by decide))
          have e_1594 : μ1575.1 111 22 = μ1552.1 111 22 := (hp_1577 22 (by decide))
          have e_1595 : μ1575.1 111 29 = μ.1 111 29 := ((hp_1577 29 (by decide)).trans (hp_1555 29 (by decide)))
          have e_1596 : μ1575.1 111 39 = μ.1 111 39 := ((hp_1577 39 (by decide)).trans (hp_1555 39 (by decide)))
          exact xr_v G hret hlk dX12_worded_223 ⟨(Fr.tr (Fr.tr Fr.rf F_1554 (by decide)) F_1576 (by decide)), (fun j hj => ((hp_1577 j (fun h9 => hj ((by decide : ∀ x ∈ ([6, 8, 9, 10, 11, 12, 13, 15] : List Int), x ∈ ([6, 8, 9, 10, 11, 12, 13, 15, 16, 17, 18, 22, 29, 39] : List Int)) j h9))).trans (hp_1555 j (fun h9 => hj ((by decide : ∀ x ∈ ([22] : List Int), x ∈ ([6, 8, 9, 10, 11, 12, 13, 15, 16, 17, 18, 22, 29, 39] : List Int)) j h9))))), hp_1578, (by omega), (by omega), (by omega), (by omega), (by omega), (by omega), (fun j hj => ((F_1576.1 126 (by decide) j).trans (F_1554.1 126 (by decide) j))), (fun _ h0 => (mPX.ex ((hX_1589 ()) h0)).e (by omega)), hxt_1592⟩
        · refine lv_iconst (v := iv 2) hx hb dX12_worded_32 rfl ?_
          refine lv_goto (tgt := 38) hx hb dX12_worded_33 (by decide) ?_
          refine lv_lconst (v := jv 0) hx hb dX12_worded_38 rfl ?_
          refine lv_iconst (v := iv 0) hx hb dX12_worded_39 rfl ?_
          refine xc_iV G (b := 111) (rest := []) (As := [.int (iv 2), .long (jv 0), .int (iv 0)]) (c_X12_emit ω l μ 2 0 0 (by unfold ir; omega) (by unfold jr; omega) (by unfold ir; omega) (by omega)) (wm 9 126 rfl rfl) (wm 9 128 rfl rfl) (wm 0 144 rfl rfl) rfl rfl (by decide) rfl (wm 1 18 rfl rfl) (wm 9 129 rfl rfl) (by decide) hR ⟨nfr hF (by decide), nlo hLo (by decide)⟩ (n := 3) rfl rfl (Nat.le_of_ble_eq_true rfl) hl.1 dX12_worded_40 (fun r_1598 μ1597 ρ d0 H locs hr_r_1598 hp G => ?_)
          have hr_r_1598 : -2147483648 ≤ r_1598 ∧ r_1598 ≤ 2147483647 := hr_r_1598
          obtain ⟨F_1599, hp_1600, hp_1601, hp_1602, hp_1603⟩ := hp
          have hxt_1604 : mEXT μ μ1597 := (mEXT.rf (μ := μ)).tr hp_1601.1
          have e_1605 : wr μ1597 = wr μ := (wr_cg (hp_1600 15 (by decide)))
          have e_1606 : bd μ1597 = bd μ := (bd_cg (hp_1600 15 (by decide)) (hp_1600 16 (by decide)))
          have e_1607 : nn μ1597 = nn μ := (nn_cg (hp_1600 15 (by decide)) (hp_1600 18 (by decide)))
          have e_1609 : μ1597.1 111 29 = μ.1 111 29 := (hp_1600 29 (by decide))
          have hX_1608 : ∀ _ : Unit, bd μ1597 = 0 → mPX μ μ1597 tt 1 1 (11 * (9 - nn μ) - 3) [] := fun _ h0 => (((hX_1 ()) (by have e9 : bd μ = bd μ := rfl; have e8 : bd μ1597 = bd μ := (bd_cg (hp_1600 15 (by decide)) (hp_1600 16 (by decide))); omega)).app (mAD.ex (t := tt) (e := 1) hp_1601 ((hX_1 ()) (by have e9 : bd μ = bd μ := rfl; have e8 : bd μ1597 = bd μ := (bd_cg (hp_1600 15 (by decide)) (hp_1600 16 (by decide))); omega)).h1.1 (by unfold mpl; omega) rfl (by have h9 := ((hX_1 ()) (by have e9 : bd μ = bd μ := rfl; have e8 : bd μ1597 = bd μ := (bd_cg (hp_1600 15 (by decide)) (hp_1600 16 (by decide))); omega)).h1; omega) ⟨fun q => absurd q (by decide), fun q => absurd q (by decide), fun q => absurd q (by decide), fun q => absurd q (by decide), fun q => absurd q (by decide), fun q => absurd q (by decide), fun q => absurd q (by decide), fun q => absurd q (by decide), fun q => absurd q (by decide), fun q => absurd q (by decide), fun q => absurd q (by decide), fun q => absurd q (by decide), fun q => absurd q (by decide), fun q => absurd q (by decide), fun q => absurd q (by decide), fun q => absurd q (by decide), fun q => absurd q (by decide), fun q => absurd q (by decide), fun q => absurd q (by decide), fun q => absurd q (by decide), fun q => absurd q (by decide), fun q => absurd q (by decide), ⟨by decide, by decide⟩⟩) (by have h9 := ((hX_1 ()) (by have e9 : bd μ = bd μ := rfl; have e8 : bd μ1597 = bd μ := (bd_cg (hp_1600 15 (by decide)) (hp_1600 16 (by decide))); omega)).h1; omega)).ee (by omega)
          refine lv_pop hx hb dX12_worded_43 rfl ?_
          refine lv_aload_n hx hb dX12_worded_44 rfl (lv_at hl 1 rfl) ?_
          have hPM_1610 : PM μ1597 := hPM.cg (hp_1600 4 (by decide)) (hp_1600 6 (by decide)) (hp_1600 7 (by decide)) (hp_1600 8 (by decide)) (hp_1600 9 (by decide)) (hp_1600 11 (by decide)) (hp_1600 12 (by decide)) ((((hp_1600 14 (by decide)).trans htt.symm)).trans (htt.symm).symm) (hp_1600 15 (by decide)) (hp_1600 29 (by decide)) (fun j => (F_1599.1 123 (by decide) j))
          have e_1611 : wr μ1597 = wr μ := (wr_cg (hp_1600 15 (by decide)))
          have e_1612 : nn μ1597 = nn μ := (nn_cg (hp_1600 15 (by decide)) (hp_1600 18 (by decide)))
          have e_1613 : μ1597.1 111 8 = μ.1 111 8 := (hp_1600 8 (by decide))
          have e_1614 : wr μ1597 = wr μ := (wr_cg (hp_1600 15 (by decide)))
          have e_1615 : μ1597.1 111 9 = μ.1 111 9 := (hp_1600 9 (by decide))
          have e_1616 : wr μ1597 = wr μ := (wr_cg (hp_1600 15 (by decide)))
          have e_1617 : wr μ1597 = wr μ := (wr_cg (hp_1600 15 (by decide)))
          have e_1618 : bd μ1597 = bd μ := (bd_cg (hp_1600 15 (by decide)) (hp_1600 16 (by decide)))
          have e_1619 : nn μ1597 = nn μ := (nn_cg (hp_1600 15 (by decide)) (hp_1600 18 (by decide)))
          refine xc_vV G (b := 111) (rest := []) (As := []) (c_X12_next ω l μ1597  hPM_1610 (by omega) (by omega)) (wm 9 0 rfl rfl) (wm 9 2 rfl rfl) (wm 0 119 rfl rfl) rfl rfl (by decide) rfl (wm 1 18 rfl rfl) (wm 9 3 rfl rfl) (by decide) hR ⟨nfr hF (by decide), nlo hLo (by decide)⟩ (n := 0) rfl rfl (Nat.le_of_ble_eq_true rfl) hl.1 dX12_worded_45 (fun μ1620 ρ d0 H locs hp G => ?_)
          obtain ⟨F_1621, hp_1622, hp_1623, hp_1624, hp_1625, hp_1626⟩ := hp
          have hpl_1627 := hp_1623.pl
          have hw_1628 := wr_r (μ := μ1597)
          have hw_1629 := wr_r (μ := μ1620)
          refine lv_goto (tgt := 223) hx hb dX12_worded_48 (by decide) ?_
          have e_1630 : μ1620.1 111 22 = μ1597.1 111 22 := (hp_1622 22 (by decide))
          have e_1631 : μ1620.1 111 29 = μ.1 111 29 := ((hp_1622 29 (by decide)).trans (hp_1600 29 (by decide)))
          have e_1632 : μ1620.1 111 39 = μ.1 111 39 := ((hp_1622 39 (by decide)).trans (hp_1600 39 (by decide)))
          have e_1633 : μ1620.1 111 29 = μ.1 111 29 := ((hp_1622 29 (by decide)).trans (hp_1600 29 (by decide)))
          have e_1635 : μ1620.1 111 29 = μ.1 111 29 := ((hp_1622 29 (by decide)).trans (hp_1600 29 (by decide)))
          have hX_1634 : ∀ _ : Unit, bd μ1620 = 0 → mPX μ μ1620 tt 1 1 (11 * (9 - nn μ) - 3) [] := fun _ h0 => (hX_1608 () (by have e9 : bd μ1597 = bd μ := (bd_cg (hp_1600 15 (by decide)) (hp_1600 16 (by decide))); have e8 : bd μ1620 = bd μ1620 := rfl; omega)).qm (q0m.fr (K := [111]) (Fr.tr Fr.rf F_1621 (by decide)) (by decide) (by decide) (by decide) (hp_1622 22 (by decide)) (by omega))
          have e_1636 : μ1620.1 111 29 = μ.1 111 29 := ((hp_1622 29 (by decide)).trans (hp_1600 29 (by decide)))
          have hxt_1637 : mEXT μ μ1620 := hxt_1604.tr (q0m.fr (K := [111]) (Fr.tr Fr.rf F_1621 (by decide)) (by decide) (by decide) (by decide) (hp_1622 22 (by decide)) (by omega)).1
          have e_1638 : μ1620.1 111 22 = μ1597.1 111 22 := (hp_1622 22 (by decide))
          have e_1639 : μ1620.1 111 22 = μ1597.1 111 22 := (hp_1622 22 (by decide))
          have e_1640 : μ1620.1 111 29 = μ.1 111 29 := ((hp_1622 29 (by decide)).trans (hp_1600 29 (by decide)))
          have e_1641 : μ1620.1 111 39 = μ.1 111 39 := ((hp_1622 39 (by decide)).trans (hp_1600 39 (by decide)))
          exact xr_v G hret hlk dX12_worded_223 ⟨(Fr.tr (Fr.tr Fr.rf F_1599 (by decide)) F_1621 (by decide)), (fun j hj => ((hp_1622 j (fun h9 => hj ((by decide : ∀ x ∈ ([6, 8, 9, 10, 11, 12, 13, 15] : List Int), x ∈ ([6, 8, 9, 10, 11, 12, 13, 15, 16, 17, 18, 22, 29, 39] : List Int)) j h9))).trans (hp_1600 j (fun h9 => hj ((by decide : ∀ x ∈ ([22] : List Int), x ∈ ([6, 8, 9, 10, 11, 12, 13, 15, 16, 17, 18, 22, 29, 39] : List Int)) j h9))))), hp_1623, (by omega), (by omega), (by omega), (by omega), (by omega), (by omega), (fun j hj => ((F_1621.1 126 (by decide) j).trans (F_1599.1 126 (by decide) j))), (fun _ h0 => (mPX.ex ((hX_1634 ()) h0)).e (by omega)), hxt_1637⟩

set_option maxHeartbeats 4000000 in
set_option maxRecDepth 100000 in
theorem c_X12_signed (ω : Om) (l : Launch) (μ : M3) (F : Nat) (Lo : Nat) (Fu : Nat) (Lu : Nat) (kf : Int) (tt : Int) (htt : tt = μ.1 111 14) (hF : 60 ≤ F) (hLo : 2000 ≤ Lo) (hFu : Fu ≤ F) (hLu : Lu ≤ Lo) (hE : ∀ (μ : M3) (tt : Int) (htt : tt = μ.1 111 14) (hPM : PM μ) (hnn : 0 ≤ nn μ ∧ nn μ ≤ 9 ∧ 9 * wr μ ≤ nn μ) (hn8 : nn μ ≤ 8 + wr μ) (hcd : 0 ≤ μ.1 111 22 ∧ μ.1 111 22 ≤ 2 * μ.1 111 9 + 200 + 40 * wr μ) (hW : 0 ≤ μ.1 111 39 ∧ μ.1 111 39 ≤ μ.1 111 22) (hsl : 0 ≤ μ.1 111 31 ∧ μ.1 111 31 ≤ 300) (hfu : 0 ≤ (kf - 1) ∧ 9 ≤ nn μ + (kf - 1)) (hH0 : ∀ _ : Unit, bd μ = 0 → mH0 μ), CtV ω l yX12_expr cX12_expr 1 (F + 0) (Lo + 0) [.ref (oP ω 111)] μ (fun (μ' : M3) => (Fr [111, 113, 115, 116, 117, 123, 126] μ μ') ∧ (∀ j, j ∉ ([6, 8, 9, 10, 11, 12, 13, 15, 16, 17, 18, 22, 29, 39] : List Int) → μ'.1 111 j = μ.1 111 j) ∧ (PM μ') ∧ (μ.1 111 22 ≤ μ'.1 111 22 ∧ μ'.1 111 22 ≤ μ.1 111 22 + 2 * (μ'.1 111 9 - μ.1 111 9) + (- 1 + 3 * wr μ' - 2 * wr μ)) ∧ (μ.1 111 9 ≤ μ'.1 111 9) ∧ (μ.1 111 29 ≤ μ'.1 111 29) ∧ (wr μ ≤ wr μ' ∧ bd μ ≤ bd μ') ∧ (nn μ ≤ nn μ' ∧ nn μ' ≤ nn μ + 9 * wr μ' ∧ nn μ' ≤ 9 ∧ 9 * wr μ' ≤ nn μ') ∧ (μ'.1 111 39 = μ.1 111 39) ∧ (∀ j, j < μ.1 111 39 → μ'.1 126 j = μ.1 126 j) ∧ (∀ _ : Unit, bd μ' = 0 → mEX μ μ' tt 1 0 (11 * (9 - nn μ))) ∧ (mEXT μ μ'))) (hU : ∀ (μ : M3) (tt : Int) (htt : tt = μ.1 111 14) (hPM : PM μ) (hnn : 0 ≤ nn μ ∧ nn μ ≤ 9 ∧ 9 * wr μ ≤ nn μ) (hn8 : nn μ ≤ 8 + wr μ) (hcd : 0 ≤ μ.1 111 22 ∧ μ.1 111 22 ≤ 2 * μ.1 111 9 + 200 + 40 * wr μ) (hW : 0 ≤ μ.1 111 39 ∧ μ.1 111 39 ≤ μ.1 111 22) (hsl : 0 ≤ μ.1 111 31 ∧ μ.1 111 31 ≤ 300) (hfu : 0 ≤ (kf - 1) ∧ 9 ≤ nn μ + (kf - 1)) (hH0 : ∀ _ : Unit, bd μ = 0 → mH0 μ), CtV ω l yX12_unary cX12_unary 6 (Fu + 0) (Lu + 0) [.ref (oP ω 111)] μ (fun (μ' : M3) => (Fr [111, 113, 115, 116, 117, 123, 126] μ μ') ∧ (∀ j, j ∉ ([6, 8, 9, 10, 11, 12, 13, 15, 16, 17, 18, 22, 29, 39] : List Int) → μ'.1 111 j = μ.1 111 j) ∧ (PM μ') ∧ (μ.1 111 22 ≤ μ'.1 111 22 ∧ μ'.1 111 22 ≤ μ.1 111 22 + 2 * (μ'.1 111 9 - μ.1 111 9) + (- 1 + 3 * wr μ' - 2 * wr μ)) ∧ (μ.1 111 9 ≤ μ'.1 111 9) ∧ (μ.1 111 29 ≤ μ'.1 111 29) ∧ (wr μ ≤ wr μ' ∧ bd μ ≤ bd μ') ∧ (nn μ ≤ nn μ' ∧ nn μ' ≤ nn μ + 9 * wr μ' ∧ nn μ' ≤ 9 ∧ 9 * wr μ' ≤ nn μ') ∧ (μ'.1 111 39 = μ.1 111 39) ∧ (∀ j, j < μ.1 111 39 → μ'.1 126 j = μ.1 126 j) ∧ (∀ _ : Unit, bd μ' = 0 → mEX μ μ' tt 1 0 (11 * (9 - nn μ) - 3)) ∧ (mEXT μ μ'))) (hPM : PM μ) (hnn : 0 ≤ nn μ ∧ nn μ ≤ 9 ∧ 9 * wr μ ≤ nn μ) (hn8 : nn μ ≤ 8 + wr μ) (hcd : 0 ≤ μ.1 111 22 ∧ μ.1 111 22 ≤ 2 * μ.1 111 9 + 200 + 40 * wr μ) (hW : 0 ≤ μ.1 111 39 ∧ μ.1 111 39 ≤ μ.1 111 22) (hsl : 0 ≤ μ.1 111 31 ∧ μ.1 111 31 ≤ 300) (hfu : 0 ≤ kf ∧ 9 ≤ nn μ + kf) (hH0 : ∀ _ : Unit, bd μ = 0 → mH0 μ) (hw0 : wr μ = 0) : CtV ω l yX12_signed cX12_signed 4 (F + 1) (Lo + 20) [.ref (oP ω 111)] μ (fun (μ' : M3) => (Fr [111, 113, 115, 116, 117, 123, 126] μ μ') ∧ (∀ j, j ∉ ([6, 8, 9, 10, 11, 12, 13, 15, 16, 17, 18, 22, 29, 39] : List Int) → μ'.1 111 j = μ.1 111 j) ∧ (PM μ') ∧ (μ.1 111 22 ≤ μ'.1 111 22 ∧ μ'.1 111 22 ≤ μ.1 111 22 + 2 * (μ'.1 111 9 - μ.1 111 9) + (- 1 + 3 * wr μ' - 2 * wr μ)) ∧ (μ.1 111 9 ≤ μ'.1 111 9) ∧ (μ.1 111 29 ≤ μ'.1 111 29) ∧ (wr μ ≤ wr μ' ∧ bd μ ≤ bd μ') ∧ (nn μ ≤ nn μ' ∧ nn μ' ≤ nn μ + 9 * wr μ' ∧ nn μ' ≤ 9 ∧ 9 * wr μ' ≤ nn μ') ∧ (μ'.1 111 39 = μ.1 111 39) ∧ (∀ j, j < μ.1 111 39 → μ'.1 126 j = μ.1 126 j) ∧ (∀ _ : Unit, bd μ' = 0 → mEX μ μ' tt 1 0 (11 * (9 - nn μ) - 3)) ∧ (mEXT μ μ')) := by
  refine CtV.go (by decide) (Nat.le_of_ble_eq_true rfl) (fun ρ p e s m below meth c R ls G hR hret hlk hl => ?_)
  have hx := G.1.1
  have hb := G.1.2.1
  have hl : lv_has ls 4 [(0, .ref (oP ω 111))] := hl
  generalize s.drawn = d0 at G ⊢
  have hw_0 := wr_r (μ := μ)
  have hpp_ := hPM.1.2.1
  have hpn_ := hPM.2.1
  have hpt_ := hPM.1.2.2.2.1
  have hpw_ := hPM.1.2.2.2.2.1
  have hpa_ := hPM.1.1
  have hX_1 : ∀ _ : Unit, bd μ = 0 → mPX μ μ tt 0 1 (11 * (9 - nn μ) - 3) [] := fun _ h0 => mPX.nil (hH0 () h0) (by omega)
  refine lv_aload_n hx hb dX12_signed_0 rfl (lv_at hl 0 rfl) ?_
  refine lv_bipush (v := iv 40) hx hb dX12_signed_1 rfl ?_
  refine xc_iV G (b := 111) (rest := []) (As := [.int (iv 40)]) (c_X12_isSign ω l μ 40 (by unfold ir; omega)) (wm 9 90 rfl rfl) (wm 9 92 rfl rfl) (wm 0 135 rfl rfl) rfl rfl (by decide) rfl (wm 1 18 rfl rfl) (wm 9 93 rfl rfl) (by decide) hR ⟨nfr hF (by decide), nlo hLo (by decide)⟩ (n := 1) rfl rfl (Nat.le_of_ble_eq_true rfl) hl.1 dX12_signed_3 (fun r_3 μ2 ρ d0 H locs hr_r_3 hp G => ?_)
  have hr_r_3 : -2147483648 ≤ r_3 ∧ r_3 ≤ 2147483647 := hr_r_3
  obtain ⟨hsm_4, hp_5⟩ := hp
  have hsm_4 := Eq.symm hsm_4
  subst hsm_4
  refine xb_if_eq (tgt := 26) hx hb (by unfold ir; omega) dX12_signed_6 (by decide) (fun c_6 => ?_) (fun c_6 => ?_)
  · refine lv_aload_n hx hb dX12_signed_26 rfl (lv_at hl 0 rfl) ?_
    refine lv_bipush (v := iv 38) hx hb dX12_signed_27 rfl ?_
    refine xc_iV G (b := 111) (rest := []) (As := [.int (iv 38)]) (c_X12_takesSign ω l μ 38 (by unfold ir; omega) hPM (by omega)) (wm 9 106 rfl rfl) (wm 9 108 rfl rfl) (wm 0 139 rfl rfl) rfl rfl (by decide) rfl (wm 1 18 rfl rfl) (wm 9 109 rfl rfl) (by decide) hR ⟨nfr hF (by decide), nlo hLo (by decide)⟩ (n := 1) rfl rfl (Nat.le_of_ble_eq_true rfl) hl.1 dX12_signed_29 (fun r_7 μ6 ρ d0 H locs hr_r_7 hp G => ?_)
    have hr_r_7 : -2147483648 ≤ r_7 ∧ r_7 ≤ 2147483647 := hr_r_7
    obtain ⟨F_8, hp_9, hp_10, hp_11, hp_12, hp_13, hp_14⟩ := hp
    have hpl_15 := hp_10.pl
    have hw_16 := wr_r (μ := μ6)
    refine xb_if_eq (tgt := 99) hx hb (by unfold ir; omega) dX12_signed_32 (by decide) (fun c_32 => ?_) (fun c_32 => ?_)
    · refine lv_aload_n hx hb dX12_signed_99 rfl (lv_at hl 0 rfl) ?_
      refine lv_aload_n hx hb dX12_signed_100 rfl (lv_at hl 0 rfl) ?_
      refine xa_geti G fd_X12 (a := 111) (x := μ6.1 111 9) 9 rfl (by decide) rfl (wm 7 158 rfl rfl) ⟨rfl, rfl, rfl⟩ dX12_signed_101 rfl rfl ?_
      have hr_17 : -2147483648 ≤ μ6.1 111 9 ∧ μ6.1 111 9 ≤ 2147483647 := by have h9 := G.hr (a := 111) (k := 9) rfl; exact h9
      have e_18 : μ6.1 111 29 = μ.1 111 29 := (hp_9 29 (by decide))
      have e_20 : μ6.1 111 29 = μ.1 111 29 := (hp_9 29 (by decide))
      have hX_19 : ∀ _ : Unit, bd μ6 = 0 → mPX μ μ6 tt 0 1 (11 * (9 - nn μ) - 3) [] := fun _ h0 => (hX_1 () (by have e9 : bd μ = bd μ := rfl; have e8 : bd μ6 = bd μ6 := rfl; omega)).qm (q0m.fr (K := [111]) (Fr.tr Fr.rf F_8 (by decide)) (by decide) (by decide) (by decide) (hp_9 22 (by decide)) (by omega))
      refine xc_vV G (b := 111) (rest := []) (As := [.int (iv (μ6.1 111 9))]) (c_X12_wrong ω l μ6 (μ6.1 111 9) (by unfold ir; omega) (by omega)) (wm 9 22 rfl rfl) (wm 9 24 rfl rfl) (wm 0 123 rfl rfl) rfl rfl (by decide) rfl (wm 1 18 rfl rfl) (wm 9 25 rfl rfl) (by decide) hR ⟨nfr hF (by decide), nlo hLo (by decide)⟩ (n := 1) rfl rfl (Nat.le_of_ble_eq_true rfl) hl.1 dX12_signed_104 (fun μ21 ρ d0 H locs hp G => ?_)
      obtain ⟨F_22, hp_23, hp_24⟩ := hp
      have hw_25 := wr_r (μ := μ21)
      have e_26 : μ21.1 111 22 = μ.1 111 22 := ((hp_23 22 (by decide)).trans (hp_9 22 (by decide)))
      have e_27 : μ21.1 111 9 = μ6.1 111 9 := (hp_23 9 (by decide))
      have e_28 : μ21.1 111 29 = μ.1 111 29 := ((hp_23 29 (by decide)).trans (hp_9 29 (by decide)))
      have e_29 : μ21.1 111 39 = μ.1 111 39 := ((hp_23 39 (by decide)).trans (hp_9 39 (by decide)))
      have e_30 : μ21.1 111 29 = μ.1 111 29 := ((hp_23 29 (by decide)).trans (hp_9 29 (by decide)))
      have e_32 : μ21.1 111 29 = μ.1 111 29 := ((hp_23 29 (by decide)).trans (hp_9 29 (by decide)))
      have hX_31 : ∀ _ : Unit, bd μ21 = 0 → mPX μ μ21 tt 0 1 (11 * (9 - nn μ) - 3) [] := fun _ h0 => (hX_19 () (by have e9 : bd μ6 = bd μ6 := rfl; have e8 : bd μ21 = bd μ21 := rfl; omega)).qm (q0m.fr (K := [111]) (Fr.tr Fr.rf F_22 (by decide)) (by decide) (by decide) (by decide) ((((hp_23 22 (by decide)).trans (hp_9 22 (by decide)))).trans ((hp_9 22 (by decide))).symm) (by omega))
      have hPM_33 : PM μ21 := hp_10.wg ((((hp_23 4 (by decide)).trans (hp_9 4 (by decide)))).trans ((hp_9 4 (by decide))).symm) (hp_23 6 (by decide)) ((((hp_23 7 (by decide)).trans (hp_9 7 (by decide)))).trans ((hp_9 7 (by decide))).symm) (hp_23 8 (by decide)) (hp_23 9 (by decide)) (hp_23 11 (by decide)) (hp_23 12 (by decide)) ((((hp_23 14 (by decide)).trans ((hp_9 14 (by decide)).trans htt.symm))).trans (((hp_9 14 (by decide)).trans htt.symm)).symm) (by omega) ((((hp_23 29 (by decide)).trans (hp_9 29 (by decide)))).trans ((hp_9 29 (by decide))).symm) (fun j => (F_22.1 123 (by decide) j))
      have e_34 : μ21.1 111 29 = μ.1 111 29 := ((hp_23 29 (by decide)).trans (hp_9 29 (by decide)))
      have hxt_35 : mEXT μ μ21 := (q0m.fr (K := [111]) (Fr.tr (Fr.tr Fr.rf F_8 (by decide)) F_22 (by decide)) (by decide) (by decide) (by decide) ((hp_23 22 (by decide)).trans (hp_9 22 (by decide))) (by omega)).1
      have e_36 : μ21.1 111 22 = μ.1 111 22 := ((hp_23 22 (by decide)).trans (hp_9 22 (by decide)))
      have e_37 : μ21.1 111 22 = μ.1 111 22 := ((hp_23 22 (by decide)).trans (hp_9 22 (by decide)))
      have e_38 : μ21.1 111 9 = μ6.1 111 9 := (hp_23 9 (by decide))
      have e_39 : μ21.1 111 9 = μ6.1 111 9 := (hp_23 9 (by decide))
      have e_40 : μ21.1 111 29 = μ.1 111 29 := ((hp_23 29 (by decide)).trans (hp_9 29 (by decide)))
      have e_41 : μ21.1 111 39 = μ.1 111 39 := ((hp_23 39 (by decide)).trans (hp_9 39 (by decide)))
      exact xr_v G hret hlk dX12_signed_107 ⟨(Fr.tr (Fr.tr Fr.rf F_8 (by decide)) F_22 (by decide)), (fun j hj => ((hp_23 j (fun h9 => hj ((by decide : ∀ x ∈ ([15] : List Int), x ∈ ([6, 8, 9, 10, 11, 12, 13, 15, 16, 17, 18, 22, 29, 39] : List Int)) j h9))).trans (hp_9 j (fun h9 => hj ((by decide : ∀ x ∈ ([6, 8, 9, 10, 11, 12, 13, 15] : List Int), x ∈ ([6, 8, 9, 10, 11, 12, 13, 15, 16, 17, 18, 22, 29, 39] : List Int)) j h9))))), hPM_33, (by omega), (by omega), (by omega), (by omega), (by omega), (by omega), (fun j hj => ((F_22.1 126 (by decide) j).trans (F_8.1 126 (by decide) j))), (fun _ h0 => (mPX.ex ((hX_31 ()) h0)).e (by omega)), hxt_35⟩
    · refine lv_aload_n hx hb dX12_signed_35 rfl (lv_at hl 0 rfl) ?_
      refine xa_geti G fd_X12 (a := 111) (x := tt) 14 rfl (by decide) rfl (wm 7 163 rfl rfl) ⟨rfl, rfl, rfl⟩ dX12_signed_36 rfl ((hp_9 14 (by decide)).trans htt.symm) ?_
      have hr_42 : -2147483648 ≤ tt ∧ tt ≤ 2147483647 := by have h9 := G.hr (a := 111) (k := 14) rfl; rw [show μ6.1 111 14 = tt from ((hp_9 14 (by decide)).trans htt.symm)] at h9; exact h9
      refine lv_istore_n (lv' := [(1, .int (iv tt)), (0, .ref (oP ω 111))]) hx hb dX12_signed_39 rfl hl (by decide) rfl (fun ls hl => ?_)
      refine lv_aload_n hx hb dX12_signed_40 rfl (lv_at hl 1 rfl) ?_
      have e_43 : μ6.1 111 29 = μ.1 111 29 := (hp_9 29 (by decide))
      have e_45 : μ6.1 111 29 = μ.1 111 29 := (hp_9 29 (by decide))
      have hX_44 : ∀ _ : Unit, bd μ6 = 0 → mPX μ μ6 tt 0 1 (11 * (9 - nn μ) - 3) [] := fun _ h0 => (hX_1 () (by have e9 : bd μ = bd μ := rfl; have e8 : bd μ6 = bd μ6 := rfl; omega)).qm (q0m.fr (K := [111]) (Fr.tr Fr.rf F_8 (by decide)) (by decide) (by decide) (by decide) (hp_9 22 (by decide)) (by omega))
      refine xc_iV G (b := 111) (rest := []) (As := []) (c_X12_isWrong ω l μ6  ) (wm 9 4 rfl rfl) (wm 9 6 rfl rfl) (wm 0 120 rfl rfl) rfl rfl (by decide) rfl (wm 1 18 rfl rfl) (wm 9 7 rfl rfl) (by decide) hR ⟨nfr hF (by decide), nlo hLo (by decide)⟩ (n := 0) rfl rfl (Nat.le_of_ble_eq_true rfl) hl.1 dX12_signed_41 (fun r_47 μ46 ρ d0 H locs hr_r_47 hp G => ?_)
      have hr_r_47 : -2147483648 ≤ r_47 ∧ r_47 ≤ 2147483647 := hr_r_47
      obtain ⟨hsm_48, hp_49⟩ := hp
      have hsm_48 := Eq.symm hsm_48
      subst hsm_48
      refine xb_if_ne (tgt := 82) hx hb (by unfold ir; omega) dX12_signed_44 (by decide) (fun c_44 => ?_) (fun c_44 => ?_)
      · refine lv_aload_n hx hb dX12_signed_82 rfl (lv_at hl 1 rfl) ?_
        refine xc_lV G (b := 111) (rest := []) (As := []) (c_X12_takesName ω l μ6  hp_10 (by omega)) (wm 9 70 rfl rfl) (wm 9 72 rfl rfl) (wm 0 130 rfl rfl) rfl rfl (by decide) rfl (wm 1 18 rfl rfl) (wm 9 73 rfl rfl) (by decide) hR ⟨nfr hF (by decide), nlo hLo (by decide)⟩ (n := 0) rfl rfl (Nat.le_of_ble_eq_true rfl) hl.1 dX12_signed_83 (fun r_51 μ50 ρ d0 H locs hr_r_51 hp G => ?_)
        obtain ⟨F_52, hp_53, hp_54, hp_55, hp_56, hp_57, hp_58⟩ := hp
        have hpl_59 := hp_54.pl
        have hw_60 := wr_r (μ := μ50)
        refine lv_lstore_n (lv' := [(2, .long (jv r_51)), (1, .int (iv tt)), (0, .ref (oP ω 111))]) hx hb dX12_signed_86 rfl hl (by decide) rfl (fun ls hl => ?_)
        refine lv_aload_n hx hb dX12_signed_87 rfl (lv_at hl 2 rfl) ?_
        refine lv_bipush (v := iv 27) hx hb dX12_signed_88 rfl ?_
        refine lv_lload_n hx hb dX12_signed_90 rfl (lv_at hl 0 rfl) ?_
        refine lv_iload_n hx hb dX12_signed_91 rfl (lv_at hl 1 rfl) ?_
        have e_61 : μ50.1 111 29 = μ.1 111 29 := ((hp_53 29 (by decide)).trans (hp_9 29 (by decide)))
        have e_63 : μ50.1 111 29 = μ.1 111 29 := ((hp_53 29 (by decide)).trans (hp_9 29 (by decide)))
        have hX_62 : ∀ _ : Unit, bd μ50 = 0 → mPX μ μ50 tt 0 1 (11 * (9 - nn μ) - 3) [] := fun _ h0 => (hX_44 () (by have e9 : bd μ6 = bd μ6 := rfl; have e8 : bd μ50 = bd μ50 := rfl; omega)).qm (q0m.fr (K := [111]) (Fr.tr Fr.rf F_52 (by decide)) (by decide) (by decide) (by decide) ((((hp_53 22 (by decide)).trans (hp_9 22 (by decide)))).trans ((hp_9 22 (by decide))).symm) (by omega))
        have e_64 : μ50.1 111 29 = μ.1 111 29 := ((hp_53 29 (by decide)).trans (hp_9 29 (by decide)))
        have e_65 : μ50.1 111 29 = μ.1 111 29 := ((hp_53 29 (by decide)).trans (hp_9 29 (by decide)))
        have hxt_66 : mEXT μ μ50 := (q0m.fr (K := [111]) (Fr.tr (Fr.tr Fr.rf F_8 (by decide)) F_52 (by decide)) (by decide) (by decide) (by decide) ((hp_53 22 (by decide)).trans (hp_9 22 (by decide))) (by omega)).1
        have e_67 : μ50.1 111 22 = μ.1 111 22 := ((hp_53 22 (by decide)).trans (hp_9 22 (by decide)))
        have e_68 : μ50.1 111 22 = μ.1 111 22 := ((hp_53 22 (by decide)).trans (hp_9 22 (by decide)))
        have e_69 : μ50.1 111 22 = μ.1 111 22 := ((hp_53 22 (by decide)).trans (hp_9 22 (by decide)))
        have e_70 : μ50.1 111 22 = μ.1 111 22 := ((hp_53 22 (by decide)).trans (hp_9 22 (by decide)))
        refine xc_iV G (b := 111) (rest := []) (As := [.int (iv 27), .long (jv r_51), .int (iv tt)]) (c_X12_emit ω l μ50 27 r_51 tt (by unfold ir; omega) hr_r_51 (by unfold ir; omega) (by omega)) (wm 9 126 rfl rfl) (wm 9 128 rfl rfl) (wm 0 144 rfl rfl) rfl rfl (by decide) rfl (wm 1 18 rfl rfl) (wm 9 129 rfl rfl) (by decide) hR ⟨nfr hF (by decide), nlo hLo (by decide)⟩ (n := 3) rfl rfl (Nat.le_of_ble_eq_true rfl) hl.1 dX12_signed_92 (fun r_72 μ71 ρ d0 H locs hr_r_72 hp G => ?_)
        have hr_r_72 : -2147483648 ≤ r_72 ∧ r_72 ≤ 2147483647 := hr_r_72
        obtain ⟨F_73, hp_74, hp_75, hp_76, hp_77⟩ := hp
        have hxt_78 : mEXT μ μ71 := hxt_66.tr hp_75.1
        have e_79 : wr μ71 = wr μ50 := (wr_cg (hp_74 15 (by decide)))
        have e_80 : bd μ71 = bd μ50 := (bd_cg (hp_74 15 (by decide)) (hp_74 16 (by decide)))
        have e_81 : nn μ71 = nn μ50 := (nn_cg (hp_74 15 (by decide)) (hp_74 18 (by decide)))
        have e_83 : μ71.1 111 29 = μ.1 111 29 := ((hp_74 29 (by decide)).trans ((hp_53 29 (by decide)).trans (hp_9 29 (by decide))))
        have hX_82 : ∀ _ : Unit, bd μ71 = 0 → mPX μ μ71 tt 1 1 (11 * (9 - nn μ) - 3) [] := fun _ h0 => (((hX_62 ()) (by have e9 : bd μ50 = bd μ50 := rfl; have e8 : bd μ71 = bd μ50 := (bd_cg (hp_74 15 (by decide)) (hp_74 16 (by decide))); omega)).app (mAD.ex (t := tt) (e := 1) hp_75 ((hX_62 ()) (by have e9 : bd μ50 = bd μ50 := rfl; have e8 : bd μ71 = bd μ50 := (bd_cg (hp_74 15 (by decide)) (hp_74 16 (by decide))); omega)).h1.1 (by unfold mpl; omega) rfl (by have h9 := ((hX_62 ()) (by have e9 : bd μ50 = bd μ50 := rfl; have e8 : bd μ71 = bd μ50 := (bd_cg (hp_74 15 (by decide)) (hp_74 16 (by decide))); omega)).h1; omega) ⟨fun q => absurd q (by decide), fun q => absurd q (by decide), fun q => absurd q (by decide), fun q => absurd q (by decide), fun q => absurd q (by decide), fun q => absurd q (by decide), fun q => absurd q (by decide), fun q => absurd q (by decide), fun q => absurd q (by decide), fun q => absurd q (by decide), fun q => absurd q (by decide), fun q => absurd q (by decide), fun q => absurd q (by decide), fun q => absurd q (by decide), fun q => absurd q (by decide), fun q => absurd q (by decide), fun q => absurd q (by decide), fun q => absurd q (by decide), fun _ => ⟨by omega, by omega⟩, fun q => absurd q (by decide), fun q => absurd q (by decide), fun q => absurd q (by decide), ⟨by decide, by decide⟩⟩) (by have h9 := ((hX_62 ()) (by have e9 : bd μ50 = bd μ50 := rfl; have e8 : bd μ71 = bd μ50 := (bd_cg (hp_74 15 (by decide)) (hp_74 16 (by decide))); omega)).h1; omega)).ee (by omega)
        refine lv_pop hx hb dX12_signed_95 rfl ?_
        refine lv_goto (tgt := 107) hx hb dX12_signed_96 (by decide) ?_
        have e_84 : μ71.1 111 9 = μ50.1 111 9 := (hp_74 9 (by decide))
        have e_85 : μ71.1 111 29 = μ.1 111 29 := ((hp_74 29 (by decide)).trans ((hp_53 29 (by decide)).trans (hp_9 29 (by decide))))
        have e_86 : μ71.1 111 39 = μ.1 111 39 := ((hp_74 39 (by decide)).trans ((hp_53 39 (by decide)).trans (hp_9 39 (by decide))))
        have e_87 : wr μ71 = wr μ50 := (wr_cg (hp_74 15 (by decide)))
        have e_88 : bd μ71 = bd μ50 := (bd_cg (hp_74 15 (by decide)) (hp_74 16 (by decide)))
        have e_89 : nn μ71 = nn μ50 := (nn_cg (hp_74 15 (by decide)) (hp_74 18 (by decide)))
        have hPM_90 : PM μ71 := hp_54.cg ((((hp_74 4 (by decide)).trans ((hp_53 4 (by decide)).trans (hp_9 4 (by decide))))).trans (((hp_53 4 (by decide)).trans (hp_9 4 (by decide)))).symm) (hp_74 6 (by decide)) ((((hp_74 7 (by decide)).trans ((hp_53 7 (by decide)).trans (hp_9 7 (by decide))))).trans (((hp_53 7 (by decide)).trans (hp_9 7 (by decide)))).symm) (hp_74 8 (by decide)) (hp_74 9 (by decide)) (hp_74 11 (by decide)) (hp_74 12 (by decide)) ((((hp_74 14 (by decide)).trans ((hp_53 14 (by decide)).trans ((hp_9 14 (by decide)).trans htt.symm)))).trans (((hp_53 14 (by decide)).trans ((hp_9 14 (by decide)).trans htt.symm))).symm) (hp_74 15 (by decide)) ((((hp_74 29 (by decide)).trans ((hp_53 29 (by decide)).trans (hp_9 29 (by decide))))).trans (((hp_53 29 (by decide)).trans (hp_9 29 (by decide)))).symm) (fun j => (F_73.1 123 (by decide) j))
        have e_91 : μ71.1 111 9 = μ50.1 111 9 := (hp_74 9 (by decide))
        have e_92 : wr μ71 = wr μ50 := (wr_cg (hp_74 15 (by decide)))
        have e_93 : μ71.1 111 9 = μ50.1 111 9 := (hp_74 9 (by decide))
        have e_94 : μ71.1 111 29 = μ.1 111 29 := ((hp_74 29 (by decide)).trans ((hp_53 29 (by decide)).trans (hp_9 29 (by decide))))
        have e_95 : wr μ71 = wr μ50 := (wr_cg (hp_74 15 (by decide)))
        have e_96 : bd μ71 = bd μ50 := (bd_cg (hp_74 15 (by decide)) (hp_74 16 (by decide)))
        have e_97 : wr μ71 = wr μ50 := (wr_cg (hp_74 15 (by decide)))
        have e_98 : nn μ71 = nn μ50 := (nn_cg (hp_74 15 (by decide)) (hp_74 18 (by decide)))
        have e_99 : μ71.1 111 39 = μ.1 111 39 := ((hp_74 39 (by decide)).trans ((hp_53 39 (by decide)).trans (hp_9 39 (by decide))))
        exact xr_v G hret hlk dX12_signed_107 ⟨(Fr.tr (Fr.tr (Fr.tr Fr.rf F_8 (by decide)) F_52 (by decide)) F_73 (by decide)), (fun j hj => ((hp_74 j (fun h9 => hj ((by decide : ∀ x ∈ ([22] : List Int), x ∈ ([6, 8, 9, 10, 11, 12, 13, 15, 16, 17, 18, 22, 29, 39] : List Int)) j h9))).trans ((hp_53 j (fun h9 => hj ((by decide : ∀ x ∈ ([6, 8, 9, 10, 11, 12, 13, 15] : List Int), x ∈ ([6, 8, 9, 10, 11, 12, 13, 15, 16, 17, 18, 22, 29, 39] : List Int)) j h9))).trans (hp_9 j (fun h9 => hj ((by decide : ∀ x ∈ ([6, 8, 9, 10, 11, 12, 13, 15] : List Int), x ∈ ([6, 8, 9, 10, 11, 12, 13, 15, 16, 17, 18, 22, 29, 39] : List Int)) j h9)))))), hPM_90, (by omega), (by omega), (by omega), (by omega), (by omega), (by omega), (fun j hj => ((F_73.1 126 (by decide) j).trans ((F_52.1 126 (by decide) j).trans (F_8.1 126 (by decide) j)))), (fun _ h0 => (mPX.ex ((hX_82 ()) h0)).e (by omega)), hxt_78⟩
      · refine lv_aload_n hx hb dX12_signed_47 rfl (lv_at hl 1 rfl) ?_
        refine xa_geti G fd_X12 (a := 111) (x := μ6.1 111 8) 8 rfl (by decide) rfl (wm 7 157 rfl rfl) ⟨rfl, rfl, rfl⟩ dX12_signed_48 rfl rfl ?_
        have hr_100 : -2147483648 ≤ μ6.1 111 8 ∧ μ6.1 111 8 ≤ 2147483647 := by have h9 := G.hr (a := 111) (k := 8) rfl; exact h9
        refine lv_iconst (v := iv 1) hx hb dX12_signed_51 rfl ?_
        refine xb_icmp_ne (tgt := 82) hx hb (by unfold ir; omega) (by unfold ir; omega) dX12_signed_52 (by decide) (fun c_52 => ?_) (fun c_52 => ?_)
        · refine lv_aload_n hx hb dX12_signed_82 rfl (lv_at hl 1 rfl) ?_
          refine xc_lV G (b := 111) (rest := []) (As := []) (c_X12_takesName ω l μ6  hp_10 (by omega)) (wm 9 70 rfl rfl) (wm 9 72 rfl rfl) (wm 0 130 rfl rfl) rfl rfl (by decide) rfl (wm 1 18 rfl rfl) (wm 9 73 rfl rfl) (by decide) hR ⟨nfr hF (by decide), nlo hLo (by decide)⟩ (n := 0) rfl rfl (Nat.le_of_ble_eq_true rfl) hl.1 dX12_signed_83 (fun r_102 μ101 ρ d0 H locs hr_r_102 hp G => ?_)
          obtain ⟨F_103, hp_104, hp_105, hp_106, hp_107, hp_108, hp_109⟩ := hp
          have hpl_110 := hp_105.pl
          have hw_111 := wr_r (μ := μ101)
          refine lv_lstore_n (lv' := [(2, .long (jv r_102)), (1, .int (iv tt)), (0, .ref (oP ω 111))]) hx hb dX12_signed_86 rfl hl (by decide) rfl (fun ls hl => ?_)
          refine lv_aload_n hx hb dX12_signed_87 rfl (lv_at hl 2 rfl) ?_
          refine lv_bipush (v := iv 27) hx hb dX12_signed_88 rfl ?_
          refine lv_lload_n hx hb dX12_signed_90 rfl (lv_at hl 0 rfl) ?_
          refine lv_iload_n hx hb dX12_signed_91 rfl (lv_at hl 1 rfl) ?_
          have e_112 : μ101.1 111 29 = μ.1 111 29 := ((hp_104 29 (by decide)).trans (hp_9 29 (by decide)))
          have e_114 : μ101.1 111 29 = μ.1 111 29 := ((hp_104 29 (by decide)).trans (hp_9 29 (by decide)))
          have hX_113 : ∀ _ : Unit, bd μ101 = 0 → mPX μ μ101 tt 0 1 (11 * (9 - nn μ) - 3) [] := fun _ h0 => (hX_44 () (by have e9 : bd μ6 = bd μ6 := rfl; have e8 : bd μ101 = bd μ101 := rfl; omega)).qm (q0m.fr (K := [111]) (Fr.tr Fr.rf F_103 (by decide)) (by decide) (by decide) (by decide) ((((hp_104 22 (by decide)).trans (hp_9 22 (by decide)))).trans ((hp_9 22 (by decide))).symm) (by omega))
          have e_115 : μ101.1 111 29 = μ.1 111 29 := ((hp_104 29 (by decide)).trans (hp_9 29 (by decide)))
          have e_116 : μ101.1 111 29 = μ.1 111 29 := ((hp_104 29 (by decide)).trans (hp_9 29 (by decide)))
          have hxt_117 : mEXT μ μ101 := (q0m.fr (K := [111]) (Fr.tr (Fr.tr Fr.rf F_8 (by decide)) F_103 (by decide)) (by decide) (by decide) (by decide) ((hp_104 22 (by decide)).trans (hp_9 22 (by decide))) (by omega)).1
          have e_118 : μ101.1 111 22 = μ.1 111 22 := ((hp_104 22 (by decide)).trans (hp_9 22 (by decide)))
          have e_119 : μ101.1 111 22 = μ.1 111 22 := ((hp_104 22 (by decide)).trans (hp_9 22 (by decide)))
          have e_120 : μ101.1 111 22 = μ.1 111 22 := ((hp_104 22 (by decide)).trans (hp_9 22 (by decide)))
          have e_121 : μ101.1 111 22 = μ.1 111 22 := ((hp_104 22 (by decide)).trans (hp_9 22 (by decide)))
          refine xc_iV G (b := 111) (rest := []) (As := [.int (iv 27), .long (jv r_102), .int (iv tt)]) (c_X12_emit ω l μ101 27 r_102 tt (by unfold ir; omega) hr_r_102 (by unfold ir; omega) (by omega)) (wm 9 126 rfl rfl) (wm 9 128 rfl rfl) (wm 0 144 rfl rfl) rfl rfl (by decide) rfl (wm 1 18 rfl rfl) (wm 9 129 rfl rfl) (by decide) hR ⟨nfr hF (by decide), nlo hLo (by decide)⟩ (n := 3) rfl rfl (Nat.le_of_ble_eq_true rfl) hl.1 dX12_signed_92 (fun r_123 μ122 ρ d0 H locs hr_r_123 hp G => ?_)
          have hr_r_123 : -2147483648 ≤ r_123 ∧ r_123 ≤ 2147483647 := hr_r_123
          obtain ⟨F_124, hp_125, hp_126, hp_127, hp_128⟩ := hp
          have hxt_129 : mEXT μ μ122 := hxt_117.tr hp_126.1
          have e_130 : wr μ122 = wr μ101 := (wr_cg (hp_125 15 (by decide)))
          have e_131 : bd μ122 = bd μ101 := (bd_cg (hp_125 15 (by decide)) (hp_125 16 (by decide)))
          have e_132 : nn μ122 = nn μ101 := (nn_cg (hp_125 15 (by decide)) (hp_125 18 (by decide)))
          have e_134 : μ122.1 111 29 = μ.1 111 29 := ((hp_125 29 (by decide)).trans ((hp_104 29 (by decide)).trans (hp_9 29 (by decide))))
          have hX_133 : ∀ _ : Unit, bd μ122 = 0 → mPX μ μ122 tt 1 1 (11 * (9 - nn μ) - 3) [] := fun _ h0 => (((hX_113 ()) (by have e9 : bd μ101 = bd μ101 := rfl; have e8 : bd μ122 = bd μ101 := (bd_cg (hp_125 15 (by decide)) (hp_125 16 (by decide))); omega)).app (mAD.ex (t := tt) (e := 1) hp_126 ((hX_113 ()) (by have e9 : bd μ101 = bd μ101 := rfl; have e8 : bd μ122 = bd μ101 := (bd_cg (hp_125 15 (by decide)) (hp_125 16 (by decide))); omega)).h1.1 (by unfold mpl; omega) rfl (by have h9 := ((hX_113 ()) (by have e9 : bd μ101 = bd μ101 := rfl; have e8 : bd μ122 = bd μ101 := (bd_cg (hp_125 15 (by decide)) (hp_125 16 (by decide))); omega)).h1; omega) ⟨fun q => absurd q (by decide), fun q => absurd q (by decide), fun q => absurd q (by decide), fun q => absurd q (by decide), fun q => absurd q (by decide), fun q => absurd q (by decide), fun q => absurd q (by decide), fun q => absurd q (by decide), fun q => absurd q (by decide), fun q => absurd q (by decide), fun q => absurd q (by decide), fun q => absurd q (by decide), fun q => absurd q (by decide), fun q => absurd q (by decide), fun q => absurd q (by decide), fun q => absurd q (by decide), fun q => absurd q (by decide), fun q => absurd q (by decide), fun _ => ⟨by omega, by omega⟩, fun q => absurd q (by decide), fun q => absurd q (by decide), fun q => absurd q (by decide), ⟨by decide, by decide⟩⟩) (by have h9 := ((hX_113 ()) (by have e9 : bd μ101 = bd μ101 := rfl; have e8 : bd μ122 = bd μ101 := (bd_cg (hp_125 15 (by decide)) (hp_125 16 (by decide))); omega)).h1; omega)).ee (by omega)
          refine lv_pop hx hb dX12_signed_95 rfl ?_
          refine lv_goto (tgt := 107) hx hb dX12_signed_96 (by decide) ?_
          have e_135 : μ122.1 111 9 = μ101.1 111 9 := (hp_125 9 (by decide))
          have e_136 : μ122.1 111 29 = μ.1 111 29 := ((hp_125 29 (by decide)).trans ((hp_104 29 (by decide)).trans (hp_9 29 (by decide))))
          have e_137 : μ122.1 111 39 = μ.1 111 39 := ((hp_125 39 (by decide)).trans ((hp_104 39 (by decide)).trans (hp_9 39 (by decide))))
          have e_138 : wr μ122 = wr μ101 := (wr_cg (hp_125 15 (by decide)))
          have e_139 : bd μ122 = bd μ101 := (bd_cg (hp_125 15 (by decide)) (hp_125 16 (by decide)))
          have e_140 : nn μ122 = nn μ101 := (nn_cg (hp_125 15 (by decide)) (hp_125 18 (by decide)))
          have hPM_141 : PM μ122 := hp_105.cg ((((hp_125 4 (by decide)).trans ((hp_104 4 (by decide)).trans (hp_9 4 (by decide))))).trans (((hp_104 4 (by decide)).trans (hp_9 4 (by decide)))).symm) (hp_125 6 (by decide)) ((((hp_125 7 (by decide)).trans ((hp_104 7 (by decide)).trans (hp_9 7 (by decide))))).trans (((hp_104 7 (by decide)).trans (hp_9 7 (by decide)))).symm) (hp_125 8 (by decide)) (hp_125 9 (by decide)) (hp_125 11 (by decide)) (hp_125 12 (by decide)) ((((hp_125 14 (by decide)).trans ((hp_104 14 (by decide)).trans ((hp_9 14 (by decide)).trans htt.symm)))).trans (((hp_104 14 (by decide)).trans ((hp_9 14 (by decide)).trans htt.symm))).symm) (hp_125 15 (by decide)) ((((hp_125 29 (by decide)).trans ((hp_104 29 (by decide)).trans (hp_9 29 (by decide))))).trans (((hp_104 29 (by decide)).trans (hp_9 29 (by decide)))).symm) (fun j => (F_124.1 123 (by decide) j))
          have e_142 : μ122.1 111 9 = μ101.1 111 9 := (hp_125 9 (by decide))
          have e_143 : wr μ122 = wr μ101 := (wr_cg (hp_125 15 (by decide)))
          have e_144 : μ122.1 111 9 = μ101.1 111 9 := (hp_125 9 (by decide))
          have e_145 : μ122.1 111 29 = μ.1 111 29 := ((hp_125 29 (by decide)).trans ((hp_104 29 (by decide)).trans (hp_9 29 (by decide))))
          have e_146 : wr μ122 = wr μ101 := (wr_cg (hp_125 15 (by decide)))
          have e_147 : bd μ122 = bd μ101 := (bd_cg (hp_125 15 (by decide)) (hp_125 16 (by decide)))
          have e_148 : wr μ122 = wr μ101 := (wr_cg (hp_125 15 (by decide)))
          have e_149 : nn μ122 = nn μ101 := (nn_cg (hp_125 15 (by decide)) (hp_125 18 (by decide)))
          have e_150 : μ122.1 111 39 = μ.1 111 39 := ((hp_125 39 (by decide)).trans ((hp_104 39 (by decide)).trans (hp_9 39 (by decide))))
          exact xr_v G hret hlk dX12_signed_107 ⟨(Fr.tr (Fr.tr (Fr.tr Fr.rf F_8 (by decide)) F_103 (by decide)) F_124 (by decide)), (fun j hj => ((hp_125 j (fun h9 => hj ((by decide : ∀ x ∈ ([22] : List Int), x ∈ ([6, 8, 9, 10, 11, 12, 13, 15, 16, 17, 18, 22, 29, 39] : List Int)) j h9))).trans ((hp_104 j (fun h9 => hj ((by decide : ∀ x ∈ ([6, 8, 9, 10, 11, 12, 13, 15] : List Int), x ∈ ([6, 8, 9, 10, 11, 12, 13, 15, 16, 17, 18, 22, 29, 39] : List Int)) j h9))).trans (hp_9 j (fun h9 => hj ((by decide : ∀ x ∈ ([6, 8, 9, 10, 11, 12, 13, 15] : List Int), x ∈ ([6, 8, 9, 10, 11, 12, 13, 15, 16, 17, 18, 22, 29, 39] : List Int)) j h9)))))), hPM_141, (by omega), (by omega), (by omega), (by omega), (by omega), (by omega), (fun j hj => ((F_124.1 126 (by decide) j).trans ((F_103.1 126 (by decide) j).trans (F_8.1 126 (by decide) j)))), (fun _ h0 => (mPX.ex ((hX_133 ()) h0)).e (by omega)), hxt_129⟩
        · refine lv_aload_n hx hb dX12_signed_55 rfl (lv_at hl 1 rfl) ?_
          refine xa_geti G fd_X12 (a := 111) (x := μ6.1 111 11) 11 rfl (by decide) rfl (wm 7 160 rfl rfl) ⟨rfl, rfl, rfl⟩ dX12_signed_56 rfl rfl ?_
          have hr_151 : -2147483648 ≤ μ6.1 111 11 ∧ μ6.1 111 11 ≤ 2147483647 := by have h9 := G.hr (a := 111) (k := 11) rfl; exact h9
          refine lv_bipush (v := iv 29) hx hb dX12_signed_59 rfl ?_
          refine xb_icmp_lt (tgt := 82) hx hb (by unfold ir; omega) (by unfold ir; omega) dX12_signed_61 (by decide) (fun c_61 => ?_) (fun c_61 => ?_)
          · refine lv_aload_n hx hb dX12_signed_82 rfl (lv_at hl 1 rfl) ?_
            refine xc_lV G (b := 111) (rest := []) (As := []) (c_X12_takesName ω l μ6  hp_10 (by omega)) (wm 9 70 rfl rfl) (wm 9 72 rfl rfl) (wm 0 130 rfl rfl) rfl rfl (by decide) rfl (wm 1 18 rfl rfl) (wm 9 73 rfl rfl) (by decide) hR ⟨nfr hF (by decide), nlo hLo (by decide)⟩ (n := 0) rfl rfl (Nat.le_of_ble_eq_true rfl) hl.1 dX12_signed_83 (fun r_153 μ152 ρ d0 H locs hr_r_153 hp G => ?_)
            obtain ⟨F_154, hp_155, hp_156, hp_157, hp_158, hp_159, hp_160⟩ := hp
            have hpl_161 := hp_156.pl
            have hw_162 := wr_r (μ := μ152)
            refine lv_lstore_n (lv' := [(2, .long (jv r_153)), (1, .int (iv tt)), (0, .ref (oP ω 111))]) hx hb dX12_signed_86 rfl hl (by decide) rfl (fun ls hl => ?_)
            refine lv_aload_n hx hb dX12_signed_87 rfl (lv_at hl 2 rfl) ?_
            refine lv_bipush (v := iv 27) hx hb dX12_signed_88 rfl ?_
            refine lv_lload_n hx hb dX12_signed_90 rfl (lv_at hl 0 rfl) ?_
            refine lv_iload_n hx hb dX12_signed_91 rfl (lv_at hl 1 rfl) ?_
            have e_163 : μ152.1 111 29 = μ.1 111 29 := ((hp_155 29 (by decide)).trans (hp_9 29 (by decide)))
            have e_165 : μ152.1 111 29 = μ.1 111 29 := ((hp_155 29 (by decide)).trans (hp_9 29 (by decide)))
            have hX_164 : ∀ _ : Unit, bd μ152 = 0 → mPX μ μ152 tt 0 1 (11 * (9 - nn μ) - 3) [] := fun _ h0 => (hX_44 () (by have e9 : bd μ6 = bd μ6 := rfl; have e8 : bd μ152 = bd μ152 := rfl; omega)).qm (q0m.fr (K := [111]) (Fr.tr Fr.rf F_154 (by decide)) (by decide) (by decide) (by decide) ((((hp_155 22 (by decide)).trans (hp_9 22 (by decide)))).trans ((hp_9 22 (by decide))).symm) (by omega))
            have e_166 : μ152.1 111 29 = μ.1 111 29 := ((hp_155 29 (by decide)).trans (hp_9 29 (by decide)))
            have e_167 : μ152.1 111 29 = μ.1 111 29 := ((hp_155 29 (by decide)).trans (hp_9 29 (by decide)))
            have hxt_168 : mEXT μ μ152 := (q0m.fr (K := [111]) (Fr.tr (Fr.tr Fr.rf F_8 (by decide)) F_154 (by decide)) (by decide) (by decide) (by decide) ((hp_155 22 (by decide)).trans (hp_9 22 (by decide))) (by omega)).1
            have e_169 : μ152.1 111 22 = μ.1 111 22 := ((hp_155 22 (by decide)).trans (hp_9 22 (by decide)))
            have e_170 : μ152.1 111 22 = μ.1 111 22 := ((hp_155 22 (by decide)).trans (hp_9 22 (by decide)))
            have e_171 : μ152.1 111 22 = μ.1 111 22 := ((hp_155 22 (by decide)).trans (hp_9 22 (by decide)))
            have e_172 : μ152.1 111 22 = μ.1 111 22 := ((hp_155 22 (by decide)).trans (hp_9 22 (by decide)))
            refine xc_iV G (b := 111) (rest := []) (As := [.int (iv 27), .long (jv r_153), .int (iv tt)]) (c_X12_emit ω l μ152 27 r_153 tt (by unfold ir; omega) hr_r_153 (by unfold ir; omega) (by omega)) (wm 9 126 rfl rfl) (wm 9 128 rfl rfl) (wm 0 144 rfl rfl) rfl rfl (by decide) rfl (wm 1 18 rfl rfl) (wm 9 129 rfl rfl) (by decide) hR ⟨nfr hF (by decide), nlo hLo (by decide)⟩ (n := 3) rfl rfl (Nat.le_of_ble_eq_true rfl) hl.1 dX12_signed_92 (fun r_174 μ173 ρ d0 H locs hr_r_174 hp G => ?_)
            have hr_r_174 : -2147483648 ≤ r_174 ∧ r_174 ≤ 2147483647 := hr_r_174
            obtain ⟨F_175, hp_176, hp_177, hp_178, hp_179⟩ := hp
            have hxt_180 : mEXT μ μ173 := hxt_168.tr hp_177.1
            have e_181 : wr μ173 = wr μ152 := (wr_cg (hp_176 15 (by decide)))
            have e_182 : bd μ173 = bd μ152 := (bd_cg (hp_176 15 (by decide)) (hp_176 16 (by decide)))
            have e_183 : nn μ173 = nn μ152 := (nn_cg (hp_176 15 (by decide)) (hp_176 18 (by decide)))
            have e_185 : μ173.1 111 29 = μ.1 111 29 := ((hp_176 29 (by decide)).trans ((hp_155 29 (by decide)).trans (hp_9 29 (by decide))))
            have hX_184 : ∀ _ : Unit, bd μ173 = 0 → mPX μ μ173 tt 1 1 (11 * (9 - nn μ) - 3) [] := fun _ h0 => (((hX_164 ()) (by have e9 : bd μ152 = bd μ152 := rfl; have e8 : bd μ173 = bd μ152 := (bd_cg (hp_176 15 (by decide)) (hp_176 16 (by decide))); omega)).app (mAD.ex (t := tt) (e := 1) hp_177 ((hX_164 ()) (by have e9 : bd μ152 = bd μ152 := rfl; have e8 : bd μ173 = bd μ152 := (bd_cg (hp_176 15 (by decide)) (hp_176 16 (by decide))); omega)).h1.1 (by unfold mpl; omega) rfl (by have h9 := ((hX_164 ()) (by have e9 : bd μ152 = bd μ152 := rfl; have e8 : bd μ173 = bd μ152 := (bd_cg (hp_176 15 (by decide)) (hp_176 16 (by decide))); omega)).h1; omega) ⟨fun q => absurd q (by decide), fun q => absurd q (by decide), fun q => absurd q (by decide), fun q => absurd q (by decide), fun q => absurd q (by decide), fun q => absurd q (by decide), fun q => absurd q (by decide), fun q => absurd q (by decide), fun q => absurd q (by decide), fun q => absurd q (by decide), fun q => absurd q (by decide), fun q => absurd q (by decide), fun q => absurd q (by decide), fun q => absurd q (by decide), fun q => absurd q (by decide), fun q => absurd q (by decide), fun q => absurd q (by decide), fun q => absurd q (by decide), fun _ => ⟨by omega, by omega⟩, fun q => absurd q (by decide), fun q => absurd q (by decide), fun q => absurd q (by decide), ⟨by decide, by decide⟩⟩) (by have h9 := ((hX_164 ()) (by have e9 : bd μ152 = bd μ152 := rfl; have e8 : bd μ173 = bd μ152 := (bd_cg (hp_176 15 (by decide)) (hp_176 16 (by decide))); omega)).h1; omega)).ee (by omega)
            refine lv_pop hx hb dX12_signed_95 rfl ?_
            refine lv_goto (tgt := 107) hx hb dX12_signed_96 (by decide) ?_
            have e_186 : μ173.1 111 9 = μ152.1 111 9 := (hp_176 9 (by decide))
            have e_187 : μ173.1 111 29 = μ.1 111 29 := ((hp_176 29 (by decide)).trans ((hp_155 29 (by decide)).trans (hp_9 29 (by decide))))
            have e_188 : μ173.1 111 39 = μ.1 111 39 := ((hp_176 39 (by decide)).trans ((hp_155 39 (by decide)).trans (hp_9 39 (by decide))))
            have e_189 : wr μ173 = wr μ152 := (wr_cg (hp_176 15 (by decide)))
            have e_190 : bd μ173 = bd μ152 := (bd_cg (hp_176 15 (by decide)) (hp_176 16 (by decide)))
            have e_191 : nn μ173 = nn μ152 := (nn_cg (hp_176 15 (by decide)) (hp_176 18 (by decide)))
            have hPM_192 : PM μ173 := hp_156.cg ((((hp_176 4 (by decide)).trans ((hp_155 4 (by decide)).trans (hp_9 4 (by decide))))).trans (((hp_155 4 (by decide)).trans (hp_9 4 (by decide)))).symm) (hp_176 6 (by decide)) ((((hp_176 7 (by decide)).trans ((hp_155 7 (by decide)).trans (hp_9 7 (by decide))))).trans (((hp_155 7 (by decide)).trans (hp_9 7 (by decide)))).symm) (hp_176 8 (by decide)) (hp_176 9 (by decide)) (hp_176 11 (by decide)) (hp_176 12 (by decide)) ((((hp_176 14 (by decide)).trans ((hp_155 14 (by decide)).trans ((hp_9 14 (by decide)).trans htt.symm)))).trans (((hp_155 14 (by decide)).trans ((hp_9 14 (by decide)).trans htt.symm))).symm) (hp_176 15 (by decide)) ((((hp_176 29 (by decide)).trans ((hp_155 29 (by decide)).trans (hp_9 29 (by decide))))).trans (((hp_155 29 (by decide)).trans (hp_9 29 (by decide)))).symm) (fun j => (F_175.1 123 (by decide) j))
            have e_193 : μ173.1 111 9 = μ152.1 111 9 := (hp_176 9 (by decide))
            have e_194 : wr μ173 = wr μ152 := (wr_cg (hp_176 15 (by decide)))
            have e_195 : μ173.1 111 9 = μ152.1 111 9 := (hp_176 9 (by decide))
            have e_196 : μ173.1 111 29 = μ.1 111 29 := ((hp_176 29 (by decide)).trans ((hp_155 29 (by decide)).trans (hp_9 29 (by decide))))
            have e_197 : wr μ173 = wr μ152 := (wr_cg (hp_176 15 (by decide)))
            have e_198 : bd μ173 = bd μ152 := (bd_cg (hp_176 15 (by decide)) (hp_176 16 (by decide)))
            have e_199 : wr μ173 = wr μ152 := (wr_cg (hp_176 15 (by decide)))
            have e_200 : nn μ173 = nn μ152 := (nn_cg (hp_176 15 (by decide)) (hp_176 18 (by decide)))
            have e_201 : μ173.1 111 39 = μ.1 111 39 := ((hp_176 39 (by decide)).trans ((hp_155 39 (by decide)).trans (hp_9 39 (by decide))))
            exact xr_v G hret hlk dX12_signed_107 ⟨(Fr.tr (Fr.tr (Fr.tr Fr.rf F_8 (by decide)) F_154 (by decide)) F_175 (by decide)), (fun j hj => ((hp_176 j (fun h9 => hj ((by decide : ∀ x ∈ ([22] : List Int), x ∈ ([6, 8, 9, 10, 11, 12, 13, 15, 16, 17, 18, 22, 29, 39] : List Int)) j h9))).trans ((hp_155 j (fun h9 => hj ((by decide : ∀ x ∈ ([6, 8, 9, 10, 11, 12, 13, 15] : List Int), x ∈ ([6, 8, 9, 10, 11, 12, 13, 15, 16, 17, 18, 22, 29, 39] : List Int)) j h9))).trans (hp_9 j (fun h9 => hj ((by decide : ∀ x ∈ ([6, 8, 9, 10, 11, 12, 13, 15] : List Int), x ∈ ([6, 8, 9, 10, 11, 12, 13, 15, 16, 17, 18, 22, 29, 39] : List Int)) j h9)))))), hPM_192, (by omega), (by omega), (by omega), (by omega), (by omega), (by omega), (fun j hj => ((F_175.1 126 (by decide) j).trans ((F_154.1 126 (by decide) j).trans (F_8.1 126 (by decide) j)))), (fun _ h0 => (mPX.ex ((hX_184 ()) h0)).e (by omega)), hxt_180⟩
          · have hwh_202 := hp_10.1.2.2.2.2.1
            refine lv_aload_n hx hb dX12_signed_64 rfl (lv_at hl 1 rfl) ?_
            refine xa_geti G fd_X12 (a := 111) (x := μ6.1 111 11) 11 rfl (by decide) rfl (wm 7 160 rfl rfl) ⟨rfl, rfl, rfl⟩ dX12_signed_65 rfl rfl ?_
            refine lv_bipush (v := iv 29) hx hb dX12_signed_68 rfl ?_
            refine xb_isub hx hb dX12_signed_70 ?_
            refine lv_istore_n (lv' := [(1, .int (iv ((μ6.1 111 11) - 29))), (0, .ref (oP ω 111))]) hx hb dX12_signed_71 rfl hl (by decide) rfl (fun ls hl => ?_)
            refine lv_aload_n hx hb dX12_signed_72 rfl (lv_at hl 1 rfl) ?_
            refine xc_vV G (b := 111) (rest := []) (As := []) (c_X12_next ω l μ6  hp_10 (by omega) (by omega)) (wm 9 0 rfl rfl) (wm 9 2 rfl rfl) (wm 0 119 rfl rfl) rfl rfl (by decide) rfl (wm 1 18 rfl rfl) (wm 9 3 rfl rfl) (by decide) hR ⟨nfr hF (by decide), nlo hLo (by decide)⟩ (n := 0) rfl rfl (Nat.le_of_ble_eq_true rfl) hl.1 dX12_signed_73 (fun μ203 ρ d0 H locs hp G => ?_)
            obtain ⟨F_204, hp_205, hp_206, hp_207, hp_208, hp_209⟩ := hp
            have hpl_210 := hp_206.pl
            have hw_211 := wr_r (μ := μ203)
            refine lv_aload_n hx hb dX12_signed_76 rfl (lv_at hl 1 rfl) ?_
            refine lv_bipush (v := iv 46) hx hb dX12_signed_77 rfl ?_
            have e_212 : μ203.1 111 29 = μ.1 111 29 := ((hp_205 29 (by decide)).trans (hp_9 29 (by decide)))
            have e_214 : μ203.1 111 29 = μ.1 111 29 := ((hp_205 29 (by decide)).trans (hp_9 29 (by decide)))
            have hX_213 : ∀ _ : Unit, bd μ203 = 0 → mPX μ μ203 tt 0 1 (11 * (9 - nn μ) - 3) [] := fun _ h0 => (hX_44 () (by have e9 : bd μ6 = bd μ6 := rfl; have e8 : bd μ203 = bd μ203 := rfl; omega)).qm (q0m.fr (K := [111]) (Fr.tr Fr.rf F_204 (by decide)) (by decide) (by decide) (by decide) ((((hp_205 22 (by decide)).trans (hp_9 22 (by decide)))).trans ((hp_9 22 (by decide))).symm) (by omega))
            refine xc_vV G (b := 111) (rest := []) (As := [.int (iv 46)]) (c_X12_wantsSign ω l μ203 46 (by unfold ir; omega) hp_206 (by omega)) (wm 9 114 rfl rfl) (wm 9 116 rfl rfl) (wm 0 141 rfl rfl) rfl rfl (by decide) rfl (wm 1 18 rfl rfl) (wm 9 117 rfl rfl) (by decide) hR ⟨nfr hF (by decide), nlo hLo (by decide)⟩ (n := 1) rfl rfl (Nat.le_of_ble_eq_true rfl) hl.1 dX12_signed_79 (fun μ215 ρ d0 H locs hp G => ?_)
            obtain ⟨F_216, hp_217, hp_218, hp_219, hp_220, hp_221, hp_222⟩ := hp
            have hpl_223 := hp_218.pl
            have hw_224 := wr_r (μ := μ215)
            refine lv_aload_n hx hb dX12_signed_82 rfl (lv_at hl 1 rfl) ?_
            have e_225 : μ215.1 111 29 = μ.1 111 29 := ((hp_217 29 (by decide)).trans ((hp_205 29 (by decide)).trans (hp_9 29 (by decide))))
            have e_227 : μ215.1 111 29 = μ.1 111 29 := ((hp_217 29 (by decide)).trans ((hp_205 29 (by decide)).trans (hp_9 29 (by decide))))
            have hX_226 : ∀ _ : Unit, bd μ215 = 0 → mPX μ μ215 tt 0 1 (11 * (9 - nn μ) - 3) [] := fun _ h0 => (hX_213 () (by have e9 : bd μ203 = bd μ203 := rfl; have e8 : bd μ215 = bd μ215 := rfl; omega)).qm (q0m.fr (K := [111]) (Fr.tr Fr.rf F_216 (by decide)) (by decide) (by decide) (by decide) ((((hp_217 22 (by decide)).trans ((hp_205 22 (by decide)).trans (hp_9 22 (by decide))))).trans (((hp_205 22 (by decide)).trans (hp_9 22 (by decide)))).symm) (by omega))
            refine xc_lV G (b := 111) (rest := []) (As := []) (c_X12_takesName ω l μ215  hp_218 (by omega)) (wm 9 70 rfl rfl) (wm 9 72 rfl rfl) (wm 0 130 rfl rfl) rfl rfl (by decide) rfl (wm 1 18 rfl rfl) (wm 9 73 rfl rfl) (by decide) hR ⟨nfr hF (by decide), nlo hLo (by decide)⟩ (n := 0) rfl rfl (Nat.le_of_ble_eq_true rfl) hl.1 dX12_signed_83 (fun r_229 μ228 ρ d0 H locs hr_r_229 hp G => ?_)
            obtain ⟨F_230, hp_231, hp_232, hp_233, hp_234, hp_235, hp_236⟩ := hp
            have hpl_237 := hp_232.pl
            have hw_238 := wr_r (μ := μ228)
            refine lv_lstore_n (lv' := [(2, .long (jv r_229)), (1, .int (iv ((μ6.1 111 11) - 29))), (0, .ref (oP ω 111))]) hx hb dX12_signed_86 rfl hl (by decide) rfl (fun ls hl => ?_)
            refine lv_aload_n hx hb dX12_signed_87 rfl (lv_at hl 2 rfl) ?_
            refine lv_bipush (v := iv 27) hx hb dX12_signed_88 rfl ?_
            refine lv_lload_n hx hb dX12_signed_90 rfl (lv_at hl 0 rfl) ?_
            refine lv_iload_n hx hb dX12_signed_91 rfl (lv_at hl 1 rfl) ?_
            have e_239 : μ228.1 111 29 = μ.1 111 29 := ((hp_231 29 (by decide)).trans ((hp_217 29 (by decide)).trans ((hp_205 29 (by decide)).trans (hp_9 29 (by decide)))))
            have e_241 : μ228.1 111 29 = μ.1 111 29 := ((hp_231 29 (by decide)).trans ((hp_217 29 (by decide)).trans ((hp_205 29 (by decide)).trans (hp_9 29 (by decide)))))
            have hX_240 : ∀ _ : Unit, bd μ228 = 0 → mPX μ μ228 tt 0 1 (11 * (9 - nn μ) - 3) [] := fun _ h0 => (hX_226 () (by have e9 : bd μ215 = bd μ215 := rfl; have e8 : bd μ228 = bd μ228 := rfl; omega)).qm (q0m.fr (K := [111]) (Fr.tr Fr.rf F_230 (by decide)) (by decide) (by decide) (by decide) ((((hp_231 22 (by decide)).trans ((hp_217 22 (by decide)).trans ((hp_205 22 (by decide)).trans (hp_9 22 (by decide)))))).trans (((hp_217 22 (by decide)).trans ((hp_205 22 (by decide)).trans (hp_9 22 (by decide))))).symm) (by omega))
            have e_242 : μ228.1 111 29 = μ.1 111 29 := ((hp_231 29 (by decide)).trans ((hp_217 29 (by decide)).trans ((hp_205 29 (by decide)).trans (hp_9 29 (by decide)))))
            have e_243 : μ228.1 111 29 = μ.1 111 29 := ((hp_231 29 (by decide)).trans ((hp_217 29 (by decide)).trans ((hp_205 29 (by decide)).trans (hp_9 29 (by decide)))))
            have hxt_244 : mEXT μ μ228 := (q0m.fr (K := [111]) (Fr.tr (Fr.tr (Fr.tr (Fr.tr Fr.rf F_8 (by decide)) F_204 (by decide)) F_216 (by decide)) F_230 (by decide)) (by decide) (by decide) (by decide) ((hp_231 22 (by decide)).trans ((hp_217 22 (by decide)).trans ((hp_205 22 (by decide)).trans (hp_9 22 (by decide))))) (by omega)).1
            have e_245 : μ228.1 111 22 = μ.1 111 22 := ((hp_231 22 (by decide)).trans ((hp_217 22 (by decide)).trans ((hp_205 22 (by decide)).trans (hp_9 22 (by decide)))))
            have e_246 : μ228.1 111 22 = μ.1 111 22 := ((hp_231 22 (by decide)).trans ((hp_217 22 (by decide)).trans ((hp_205 22 (by decide)).trans (hp_9 22 (by decide)))))
            have e_247 : μ228.1 111 22 = μ.1 111 22 := ((hp_231 22 (by decide)).trans ((hp_217 22 (by decide)).trans ((hp_205 22 (by decide)).trans (hp_9 22 (by decide)))))
            have e_248 : μ228.1 111 22 = μ.1 111 22 := ((hp_231 22 (by decide)).trans ((hp_217 22 (by decide)).trans ((hp_205 22 (by decide)).trans (hp_9 22 (by decide)))))
            refine xc_iV G (b := 111) (rest := []) (As := [.int (iv 27), .long (jv r_229), .int (iv ((μ6.1 111 11) - 29))]) (c_X12_emit ω l μ228 27 r_229 ((μ6.1 111 11) - 29) (by unfold ir; omega) hr_r_229 (by unfold ir; omega) (by omega)) (wm 9 126 rfl rfl) (wm 9 128 rfl rfl) (wm 0 144 rfl rfl) rfl rfl (by decide) rfl (wm 1 18 rfl rfl) (wm 9 129 rfl rfl) (by decide) hR ⟨nfr hF (by decide), nlo hLo (by decide)⟩ (n := 3) rfl rfl (Nat.le_of_ble_eq_true rfl) hl.1 dX12_signed_92 (fun r_250 μ249 ρ d0 H locs hr_r_250 hp G => ?_)
            have hr_r_250 : -2147483648 ≤ r_250 ∧ r_250 ≤ 2147483647 := hr_r_250
            obtain ⟨F_251, hp_252, hp_253, hp_254, hp_255⟩ := hp
            have hxt_256 : mEXT μ μ249 := hxt_244.tr hp_253.1
            have e_257 : wr μ249 = wr μ228 := (wr_cg (hp_252 15 (by decide)))
            have e_258 : bd μ249 = bd μ228 := (bd_cg (hp_252 15 (by decide)) (hp_252 16 (by decide)))
            have e_259 : nn μ249 = nn μ228 := (nn_cg (hp_252 15 (by decide)) (hp_252 18 (by decide)))
            have e_261 : μ249.1 111 29 = μ.1 111 29 := ((hp_252 29 (by decide)).trans ((hp_231 29 (by decide)).trans ((hp_217 29 (by decide)).trans ((hp_205 29 (by decide)).trans (hp_9 29 (by decide))))))
            have hX_260 : ∀ _ : Unit, bd μ249 = 0 → mPX μ μ249 tt 1 1 (11 * (9 - nn μ) - 3) [] := fun _ h0 => (((hX_240 ()) (by have e9 : bd μ228 = bd μ228 := rfl; have e8 : bd μ249 = bd μ228 := (bd_cg (hp_252 15 (by decide)) (hp_252 16 (by decide))); omega)).app (mAD.ex (t := tt) (e := 1) hp_253 ((hX_240 ()) (by have e9 : bd μ228 = bd μ228 := rfl; have e8 : bd μ249 = bd μ228 := (bd_cg (hp_252 15 (by decide)) (hp_252 16 (by decide))); omega)).h1.1 (by unfold mpl; omega) rfl (by have h9 := ((hX_240 ()) (by have e9 : bd μ228 = bd μ228 := rfl; have e8 : bd μ249 = bd μ228 := (bd_cg (hp_252 15 (by decide)) (hp_252 16 (by decide))); omega)).h1; omega) ⟨fun q => absurd q (by decide), fun q => absurd q (by decide), fun q => absurd q (by decide), fun q => absurd q (by decide), fun q => absurd q (by decide), fun q => absurd q (by decide), fun q => absurd q (by decide), fun q => absurd q (by decide), fun q => absurd q (by decide), fun q => absurd q (by decide), fun q => absurd q (by decide), fun q => absurd q (by decide), fun q => absurd q (by decide), fun q => absurd q (by decide), fun q => absurd q (by decide), fun q => absurd q (by decide), fun q => absurd q (by decide), fun q => absurd q (by decide), fun _ => ⟨by omega, by omega⟩, fun q => absurd q (by decide), fun q => absurd q (by decide), fun q => absurd q (by decide), ⟨by decide, by decide⟩⟩) (by have h9 := ((hX_240 ()) (by have e9 : bd μ228 = bd μ228 := rfl; have e8 : bd μ249 = bd μ228 := (bd_cg (hp_252 15 (by decide)) (hp_252 16 (by decide))); omega)).h1; omega)).ee (by omega)
            refine lv_pop hx hb dX12_signed_95 rfl ?_
            refine lv_goto (tgt := 107) hx hb dX12_signed_96 (by decide) ?_
            have e_262 : μ249.1 111 9 = μ228.1 111 9 := (hp_252 9 (by decide))
            have e_263 : μ249.1 111 29 = μ.1 111 29 := ((hp_252 29 (by decide)).trans ((hp_231 29 (by decide)).trans ((hp_217 29 (by decide)).trans ((hp_205 29 (by decide)).trans (hp_9 29 (by decide))))))
            have e_264 : μ249.1 111 39 = μ.1 111 39 := ((hp_252 39 (by decide)).trans ((hp_231 39 (by decide)).trans ((hp_217 39 (by decide)).trans ((hp_205 39 (by decide)).trans (hp_9 39 (by decide))))))
            have e_265 : wr μ249 = wr μ228 := (wr_cg (hp_252 15 (by decide)))
            have e_266 : bd μ249 = bd μ228 := (bd_cg (hp_252 15 (by decide)) (hp_252 16 (by decide)))
            have e_267 : nn μ249 = nn μ228 := (nn_cg (hp_252 15 (by decide)) (hp_252 18 (by decide)))
            have hPM_268 : PM μ249 := hp_232.cg ((((hp_252 4 (by decide)).trans ((hp_231 4 (by decide)).trans ((hp_217 4 (by decide)).trans ((hp_205 4 (by decide)).trans (hp_9 4 (by decide))))))).trans (((hp_231 4 (by decide)).trans ((hp_217 4 (by decide)).trans ((hp_205 4 (by decide)).trans (hp_9 4 (by decide)))))).symm) (hp_252 6 (by decide)) ((((hp_252 7 (by decide)).trans ((hp_231 7 (by decide)).trans ((hp_217 7 (by decide)).trans ((hp_205 7 (by decide)).trans (hp_9 7 (by decide))))))).trans (((hp_231 7 (by decide)).trans ((hp_217 7 (by decide)).trans ((hp_205 7 (by decide)).trans (hp_9 7 (by decide)))))).symm) (hp_252 8 (by decide)) (hp_252 9 (by decide)) (hp_252 11 (by decide)) (hp_252 12 (by decide)) ((((hp_252 14 (by decide)).trans ((hp_231 14 (by decide)).trans ((hp_217 14 (by decide)).trans ((hp_205 14 (by decide)).trans ((hp_9 14 (by decide)).trans htt.symm)))))).trans (((hp_231 14 (by decide)).trans ((hp_217 14 (by decide)).trans ((hp_205 14 (by decide)).trans ((hp_9 14 (by decide)).trans htt.symm))))).symm) (hp_252 15 (by decide)) ((((hp_252 29 (by decide)).trans ((hp_231 29 (by decide)).trans ((hp_217 29 (by decide)).trans ((hp_205 29 (by decide)).trans (hp_9 29 (by decide))))))).trans (((hp_231 29 (by decide)).trans ((hp_217 29 (by decide)).trans ((hp_205 29 (by decide)).trans (hp_9 29 (by decide)))))).symm) (fun j => (F_251.1 123 (by decide) j))
            have e_269 : μ249.1 111 9 = μ228.1 111 9 := (hp_252 9 (by decide))
            have e_270 : wr μ249 = wr μ228 := (wr_cg (hp_252 15 (by decide)))
            have e_271 : μ249.1 111 9 = μ228.1 111 9 := (hp_252 9 (by decide))
            have e_272 : μ249.1 111 29 = μ.1 111 29 := ((hp_252 29 (by decide)).trans ((hp_231 29 (by decide)).trans ((hp_217 29 (by decide)).trans ((hp_205 29 (by decide)).trans (hp_9 29 (by decide))))))
            have e_273 : wr μ249 = wr μ228 := (wr_cg (hp_252 15 (by decide)))
            have e_274 : bd μ249 = bd μ228 := (bd_cg (hp_252 15 (by decide)) (hp_252 16 (by decide)))
            have e_275 : wr μ249 = wr μ228 := (wr_cg (hp_252 15 (by decide)))
            have e_276 : nn μ249 = nn μ228 := (nn_cg (hp_252 15 (by decide)) (hp_252 18 (by decide)))
            have e_277 : μ249.1 111 39 = μ.1 111 39 := ((hp_252 39 (by decide)).trans ((hp_231 39 (by decide)).trans ((hp_217 39 (by decide)).trans ((hp_205 39 (by decide)).trans (hp_9 39 (by decide))))))
            exact xr_v G hret hlk dX12_signed_107 ⟨(Fr.tr (Fr.tr (Fr.tr (Fr.tr (Fr.tr Fr.rf F_8 (by decide)) F_204 (by decide)) F_216 (by decide)) F_230 (by decide)) F_251 (by decide)), (fun j hj => ((hp_252 j (fun h9 => hj ((by decide : ∀ x ∈ ([22] : List Int), x ∈ ([6, 8, 9, 10, 11, 12, 13, 15, 16, 17, 18, 22, 29, 39] : List Int)) j h9))).trans ((hp_231 j (fun h9 => hj ((by decide : ∀ x ∈ ([6, 8, 9, 10, 11, 12, 13, 15] : List Int), x ∈ ([6, 8, 9, 10, 11, 12, 13, 15, 16, 17, 18, 22, 29, 39] : List Int)) j h9))).trans ((hp_217 j (fun h9 => hj ((by decide : ∀ x ∈ ([6, 8, 9, 10, 11, 12, 13, 15] : List Int), x ∈ ([6, 8, 9, 10, 11, 12, 13, 15, 16, 17, 18, 22, 29, 39] : List Int)) j h9))).trans ((hp_205 j (fun h9 => hj ((by decide : ∀ x ∈ ([6, 8, 9, 10, 11, 12, 13, 15] : List Int), x ∈ ([6, 8, 9, 10, 11, 12, 13, 15, 16, 17, 18, 22, 29, 39] : List Int)) j h9))).trans (hp_9 j (fun h9 => hj ((by decide : ∀ x ∈ ([6, 8, 9, 10, 11, 12, 13, 15] : List Int), x ∈ ([6, 8, 9, 10, 11, 12, 13, 15, 16, 17, 18, 22, 29, 39] : List Int)) j h9)))))))), hPM_268, (by omega), (by omega), (by omega), (by omega), (by omega), (by omega), (fun j hj => ((F_251.1 126 (by decide) j).trans ((F_230.1 126 (by decide) j).trans ((F_216.1 126 (by decide) j).trans ((F_204.1 126 (by decide) j).trans (F_8.1 126 (by decide) j)))))), (fun _ h0 => (mPX.ex ((hX_260 ()) h0)).e (by omega)), hxt_256⟩
  · refine lv_aload_n hx hb dX12_signed_9 rfl (lv_at hl 0 rfl) ?_
    refine xc_vV G (b := 111) (rest := []) (As := []) (c_X12_opens ω l μ  hPM (by omega) (by omega) (by omega)) (wm 9 94 rfl rfl) (wm 9 96 rfl rfl) (wm 0 136 rfl rfl) rfl rfl (by decide) rfl (wm 1 18 rfl rfl) (wm 9 97 rfl rfl) (by decide) hR ⟨nfr hF (by decide), nlo hLo (by decide)⟩ (n := 0) rfl rfl (Nat.le_of_ble_eq_true rfl) hl.1 dX12_signed_10 (fun μ278 ρ d0 H locs hp G => ?_)
    obtain ⟨F_279, hp_280, hp_281, hp_282, hp_283, hp_284, hp_285⟩ := hp
    have hpl_286 := hp_281.pl
    have hw_287 := wr_r (μ := μ278)
    refine lv_aload_n hx hb dX12_signed_13 rfl (lv_at hl 0 rfl) ?_
    have e_288 : μ278.1 111 29 = μ.1 111 29 := (hp_280 29 (by decide))
    have e_290 : μ278.1 111 29 = μ.1 111 29 := (hp_280 29 (by decide))
    have hX_289 : ∀ _ : Unit, bd μ278 = 0 → mPX μ μ278 tt 0 1 (11 * (9 - nn μ) - 3) [] := fun _ h0 => (hX_1 () (by have e9 : bd μ = bd μ := rfl; have e8 : bd μ278 = bd μ278 := rfl; omega)).qm (q0m.fr (K := [111]) (Fr.tr Fr.rf F_279 (by decide)) (by decide) (by decide) (by decide) (hp_280 22 (by decide)) (by omega))
    have e_291 : μ278.1 111 29 = μ.1 111 29 := (hp_280 29 (by decide))
    have e_292 : μ278.1 111 29 = μ.1 111 29 := (hp_280 29 (by decide))
    have hxt_293 : mEXT μ μ278 := (q0m.fr (K := [111]) (Fr.tr Fr.rf F_279 (by decide)) (by decide) (by decide) (by decide) (hp_280 22 (by decide)) (by omega)).1
    have e_294 : μ278.1 111 14 = tt := ((hp_280 14 (by decide)).trans htt.symm)
    have e_295 : μ278.1 111 22 = μ.1 111 22 := (hp_280 22 (by decide))
    have e_296 : μ278.1 111 22 = μ.1 111 22 := (hp_280 22 (by decide))
    have e_297 : μ278.1 111 39 = μ.1 111 39 := (hp_280 39 (by decide))
    have e_298 : μ278.1 111 39 = μ.1 111 39 := (hp_280 39 (by decide))
    have e_299 : μ278.1 111 22 = μ.1 111 22 := (hp_280 22 (by decide))
    have e_300 : μ278.1 111 31 = μ.1 111 31 := (hp_280 31 (by decide))
    have e_301 : μ278.1 111 31 = μ.1 111 31 := (hp_280 31 (by decide))
    have e_302 : μ278.1 111 22 = μ.1 111 22 := (hp_280 22 (by decide))
    have e_303 : μ278.1 111 22 = μ.1 111 22 := (hp_280 22 (by decide))
    have e_304 : μ278.1 111 29 = μ.1 111 29 := (hp_280 29 (by decide))
    have e_305 : μ278.1 111 39 = μ.1 111 39 := (hp_280 39 (by decide))
    refine xc_vV G (b := 111) (rest := []) (As := []) (((fun (_ : Om) (_ : Launch) => hE)) ω l μ278 tt (by omega) hp_281 (by omega) (by omega) (by omega) (by omega) (by omega) (by omega) (fun _ h0 => ((hX_289 ()) h0).h1.1)) (wm 9 139 rfl rfl) (wm 9 141 rfl rfl) (wm 0 147 rfl rfl) rfl rfl (by decide) rfl (wm 1 18 rfl rfl) (wm 9 142 rfl rfl) (by decide) hR ⟨sfr (F := F) (a := 0) (by decide), slo (L := Lo) (m := 1) (a := 0) (by decide)⟩ (n := 0) rfl rfl (Nat.le_of_ble_eq_true rfl) hl.1 dX12_signed_14 (fun μ306 ρ d0 H locs hp G => ?_)
    obtain ⟨F_307, hp_308, hp_309, hp_310, hp_311, hp_312, hp_313, hp_314, hp_315, hp_316, hp_317, hp_318⟩ := hp
    have hpl_319 := hp_309.pl
    have hw_320 := wr_r (μ := μ306)
    have hxt_321 : mEXT μ μ306 := hxt_293.tr hp_318
    have hX_322 : ∀ _ : Unit, bd μ306 = 0 → mPX μ μ306 tt 1 1 (11 * (9 - nn μ) - 3) [] := fun _ h0 => (((hX_289 ()) (by have e9 : bd μ278 = bd μ278 := rfl; have e8 : bd μ306 = bd μ306 := rfl; omega)).app (hp_317 () h0) (by omega)).ee (by omega)
    refine lv_aload_n hx hb dX12_signed_17 rfl (lv_at hl 0 rfl) ?_
    refine lv_bipush (v := iv 41) hx hb dX12_signed_18 rfl ?_
    refine xc_vV G (b := 111) (rest := []) (As := [.int (iv 41)]) (c_X12_closesWith ω l μ306 41 (by unfold ir; omega) hp_309 (by omega) (by omega)) (wm 9 110 rfl rfl) (wm 9 112 rfl rfl) (wm 0 140 rfl rfl) rfl rfl (by decide) rfl (wm 1 18 rfl rfl) (wm 9 113 rfl rfl) (by decide) hR ⟨nfr hF (by decide), nlo hLo (by decide)⟩ (n := 1) rfl rfl (Nat.le_of_ble_eq_true rfl) hl.1 dX12_signed_20 (fun μ323 ρ d0 H locs hp G => ?_)
    obtain ⟨F_324, hp_325, hp_326, hp_327, hp_328, hp_329, hp_330⟩ := hp
    have hpl_331 := hp_326.pl
    have hw_332 := wr_r (μ := μ323)
    refine lv_goto (tgt := 107) hx hb dX12_signed_23 (by decide) ?_
    have e_333 : μ323.1 111 22 = μ306.1 111 22 := (hp_325 22 (by decide))
    have e_334 : μ323.1 111 29 = μ306.1 111 29 := (hp_325 29 (by decide))
    have e_335 : μ323.1 111 39 = μ306.1 111 39 := (hp_325 39 (by decide))
    have e_336 : μ323.1 111 29 = μ306.1 111 29 := (hp_325 29 (by decide))
    have e_338 : μ323.1 111 29 = μ306.1 111 29 := (hp_325 29 (by decide))
    have hX_337 : ∀ _ : Unit, bd μ323 = 0 → mPX μ μ323 tt 1 1 (11 * (9 - nn μ) - 3) [] := fun _ h0 => (hX_322 () (by have e9 : bd μ306 = bd μ306 := rfl; have e8 : bd μ323 = bd μ323 := rfl; omega)).qm (q0m.fr (K := [111]) (Fr.tr Fr.rf F_324 (by decide)) (by decide) (by decide) (by decide) (hp_325 22 (by decide)) (by omega))
    have e_339 : μ323.1 111 29 = μ306.1 111 29 := (hp_325 29 (by decide))
    have hxt_340 : mEXT μ μ323 := hxt_321.tr (q0m.fr (K := [111]) (Fr.tr Fr.rf F_324 (by decide)) (by decide) (by decide) (by decide) (hp_325 22 (by decide)) (by omega)).1
    have e_341 : μ323.1 111 22 = μ306.1 111 22 := (hp_325 22 (by decide))
    have e_342 : μ323.1 111 22 = μ306.1 111 22 := (hp_325 22 (by decide))
    have e_343 : μ323.1 111 29 = μ306.1 111 29 := (hp_325 29 (by decide))
    have e_344 : μ323.1 111 39 = μ306.1 111 39 := (hp_325 39 (by decide))
    exact xr_v G hret hlk dX12_signed_107 ⟨(Fr.tr (Fr.tr (Fr.tr Fr.rf F_279 (by decide)) F_307 (by decide)) F_324 (by decide)), (fun j hj => ((hp_325 j (fun h9 => hj ((by decide : ∀ x ∈ ([6, 8, 9, 10, 11, 12, 13, 15, 18] : List Int), x ∈ ([6, 8, 9, 10, 11, 12, 13, 15, 16, 17, 18, 22, 29, 39] : List Int)) j h9))).trans ((hp_308 j (fun h9 => hj ((by decide : ∀ x ∈ ([6, 8, 9, 10, 11, 12, 13, 15, 16, 17, 18, 22, 29, 39] : List Int), x ∈ ([6, 8, 9, 10, 11, 12, 13, 15, 16, 17, 18, 22, 29, 39] : List Int)) j h9))).trans (hp_280 j (fun h9 => hj ((by decide : ∀ x ∈ ([6, 8, 9, 10, 11, 12, 13, 15, 18] : List Int), x ∈ ([6, 8, 9, 10, 11, 12, 13, 15, 16, 17, 18, 22, 29, 39] : List Int)) j h9)))))), hp_326, (by omega), (by omega), (by omega), (by omega), (by omega), (by omega), (fun j hj => ((F_324.1 126 (by decide) j).trans ((hp_316 j (by omega)).trans (F_279.1 126 (by decide) j)))), (fun _ h0 => (mPX.ex ((hX_337 ()) h0)).e (by omega)), hxt_340⟩

set_option maxHeartbeats 4000000 in
set_option maxRecDepth 100000 in
theorem c_X12_unary (ω : Om) (l : Launch) (μ : M3) (F : Nat) (Lo : Nat) (Fu : Nat) (Lu : Nat) (kf : Int) (tt : Int) (htt : tt = μ.1 111 14) (hF : 60 ≤ F) (hLo : 2000 ≤ Lo) (hFu : Fu ≤ F) (hLu : Lu ≤ Lo) (hE : ∀ (μ : M3) (tt : Int) (htt : tt = μ.1 111 14) (hPM : PM μ) (hnn : 0 ≤ nn μ ∧ nn μ ≤ 9 ∧ 9 * wr μ ≤ nn μ) (hn8 : nn μ ≤ 8 + wr μ) (hcd : 0 ≤ μ.1 111 22 ∧ μ.1 111 22 ≤ 2 * μ.1 111 9 + 200 + 40 * wr μ) (hW : 0 ≤ μ.1 111 39 ∧ μ.1 111 39 ≤ μ.1 111 22) (hsl : 0 ≤ μ.1 111 31 ∧ μ.1 111 31 ≤ 300) (hfu : 0 ≤ (kf - 1) ∧ 9 ≤ nn μ + (kf - 1)) (hH0 : ∀ _ : Unit, bd μ = 0 → mH0 μ), CtV ω l yX12_expr cX12_expr 1 (F + 0) (Lo + 0) [.ref (oP ω 111)] μ (fun (μ' : M3) => (Fr [111, 113, 115, 116, 117, 123, 126] μ μ') ∧ (∀ j, j ∉ ([6, 8, 9, 10, 11, 12, 13, 15, 16, 17, 18, 22, 29, 39] : List Int) → μ'.1 111 j = μ.1 111 j) ∧ (PM μ') ∧ (μ.1 111 22 ≤ μ'.1 111 22 ∧ μ'.1 111 22 ≤ μ.1 111 22 + 2 * (μ'.1 111 9 - μ.1 111 9) + (- 1 + 3 * wr μ' - 2 * wr μ)) ∧ (μ.1 111 9 ≤ μ'.1 111 9) ∧ (μ.1 111 29 ≤ μ'.1 111 29) ∧ (wr μ ≤ wr μ' ∧ bd μ ≤ bd μ') ∧ (nn μ ≤ nn μ' ∧ nn μ' ≤ nn μ + 9 * wr μ' ∧ nn μ' ≤ 9 ∧ 9 * wr μ' ≤ nn μ') ∧ (μ'.1 111 39 = μ.1 111 39) ∧ (∀ j, j < μ.1 111 39 → μ'.1 126 j = μ.1 126 j) ∧ (∀ _ : Unit, bd μ' = 0 → mEX μ μ' tt 1 0 (11 * (9 - nn μ))) ∧ (mEXT μ μ'))) (hU : ∀ (μ : M3) (tt : Int) (htt : tt = μ.1 111 14) (hPM : PM μ) (hnn : 0 ≤ nn μ ∧ nn μ ≤ 9 ∧ 9 * wr μ ≤ nn μ) (hn8 : nn μ ≤ 8 + wr μ) (hcd : 0 ≤ μ.1 111 22 ∧ μ.1 111 22 ≤ 2 * μ.1 111 9 + 200 + 40 * wr μ) (hW : 0 ≤ μ.1 111 39 ∧ μ.1 111 39 ≤ μ.1 111 22) (hsl : 0 ≤ μ.1 111 31 ∧ μ.1 111 31 ≤ 300) (hfu : 0 ≤ (kf - 1) ∧ 9 ≤ nn μ + (kf - 1)) (hH0 : ∀ _ : Unit, bd μ = 0 → mH0 μ), CtV ω l yX12_unary cX12_unary 6 (Fu + 0) (Lu + 0) [.ref (oP ω 111)] μ (fun (μ' : M3) => (Fr [111, 113, 115, 116, 117, 123, 126] μ μ') ∧ (∀ j, j ∉ ([6, 8, 9, 10, 11, 12, 13, 15, 16, 17, 18, 22, 29, 39] : List Int) → μ'.1 111 j = μ.1 111 j) ∧ (PM μ') ∧ (μ.1 111 22 ≤ μ'.1 111 22 ∧ μ'.1 111 22 ≤ μ.1 111 22 + 2 * (μ'.1 111 9 - μ.1 111 9) + (- 1 + 3 * wr μ' - 2 * wr μ)) ∧ (μ.1 111 9 ≤ μ'.1 111 9) ∧ (μ.1 111 29 ≤ μ'.1 111 29) ∧ (wr μ ≤ wr μ' ∧ bd μ ≤ bd μ') ∧ (nn μ ≤ nn μ' ∧ nn μ' ≤ nn μ + 9 * wr μ' ∧ nn μ' ≤ 9 ∧ 9 * wr μ' ≤ nn μ') ∧ (μ'.1 111 39 = μ.1 111 39) ∧ (∀ j, j < μ.1 111 39 → μ'.1 126 j = μ.1 126 j) ∧ (∀ _ : Unit, bd μ' = 0 → mEX μ μ' tt 1 0 (11 * (9 - nn μ) - 3)) ∧ (mEXT μ μ'))) (hPM : PM μ) (hnn : 0 ≤ nn μ ∧ nn μ ≤ 9 ∧ 9 * wr μ ≤ nn μ) (hn8 : nn μ ≤ 8 + wr μ) (hcd : 0 ≤ μ.1 111 22 ∧ μ.1 111 22 ≤ 2 * μ.1 111 9 + 200 + 40 * wr μ) (hW : 0 ≤ μ.1 111 39 ∧ μ.1 111 39 ≤ μ.1 111 22) (hsl : 0 ≤ μ.1 111 31 ∧ μ.1 111 31 ≤ 300) (hfu : 0 ≤ kf ∧ 9 ≤ nn μ + kf) (hH0 : ∀ _ : Unit, bd μ = 0 → mH0 μ) : CtV ω l yX12_unary cX12_unary 6 (F + 4) (Lo + 93) [.ref (oP ω 111)] μ (fun (μ' : M3) => (Fr [111, 113, 115, 116, 117, 123, 126] μ μ') ∧ (∀ j, j ∉ ([6, 8, 9, 10, 11, 12, 13, 15, 16, 17, 18, 22, 29, 39] : List Int) → μ'.1 111 j = μ.1 111 j) ∧ (PM μ') ∧ (μ.1 111 22 ≤ μ'.1 111 22 ∧ μ'.1 111 22 ≤ μ.1 111 22 + 2 * (μ'.1 111 9 - μ.1 111 9) + (- 1 + 3 * wr μ' - 2 * wr μ)) ∧ (μ.1 111 9 ≤ μ'.1 111 9) ∧ (μ.1 111 29 ≤ μ'.1 111 29) ∧ (wr μ ≤ wr μ' ∧ bd μ ≤ bd μ') ∧ (nn μ ≤ nn μ' ∧ nn μ' ≤ nn μ + 9 * wr μ' ∧ nn μ' ≤ 9 ∧ 9 * wr μ' ≤ nn μ') ∧ (μ'.1 111 39 = μ.1 111 39) ∧ (∀ j, j < μ.1 111 39 → μ'.1 126 j = μ.1 126 j) ∧ (∀ _ : Unit, bd μ' = 0 → mEX μ μ' tt 1 0 (11 * (9 - nn μ) - 3)) ∧ (mEXT μ μ')) := by
  refine CtV.go (by decide) (Nat.le_of_ble_eq_true rfl) (fun ρ p e s m below meth c R ls G hR hret hlk hl => ?_)
  have hx := G.1.1
  have hb := G.1.2.1
  have hl : lv_has ls 6 [(0, .ref (oP ω 111))] := hl
  generalize s.drawn = d0 at G ⊢
  have hw_0 := wr_r (μ := μ)
  have hpp_ := hPM.1.2.1
  have hpn_ := hPM.2.1
  have hpt_ := hPM.1.2.2.2.1
  have hpw_ := hPM.1.2.2.2.2.1
  have hpa_ := hPM.1.1
  have hX_1 : ∀ _ : Unit, bd μ = 0 → mPX μ μ tt 0 1 (11 * (9 - nn μ) - 3) [] := fun _ h0 => mPX.nil (hH0 () h0) (by omega)
  refine lv_aload_n hx hb dX12_unary_0 rfl (lv_at hl 0 rfl) ?_
  refine lv_bipush (v := iv 45) hx hb dX12_unary_1 rfl ?_
  refine xc_iV G (b := 111) (rest := []) (As := [.int (iv 45)]) (c_X12_isSign ω l μ 45 (by unfold ir; omega)) (wm 9 90 rfl rfl) (wm 9 92 rfl rfl) (wm 0 135 rfl rfl) rfl rfl (by decide) rfl (wm 1 18 rfl rfl) (wm 9 93 rfl rfl) (by decide) hR ⟨nfr hF (by decide), nlo hLo (by decide)⟩ (n := 1) rfl rfl (Nat.le_of_ble_eq_true rfl) hl.1 dX12_unary_3 (fun r_3 μ2 ρ d0 H locs hr_r_3 hp G => ?_)
  have hr_r_3 : -2147483648 ≤ r_3 ∧ r_3 ≤ 2147483647 := hr_r_3
  obtain ⟨hsm_4, hp_5⟩ := hp
  have hsm_4 := Eq.symm hsm_4
  subst hsm_4
  refine xb_if_eq (tgt := 48) hx hb (by unfold ir; omega) dX12_unary_6 (by decide) (fun c_6 => ?_) (fun c_6 => ?_)
  · refine lv_aload_n hx hb dX12_unary_48 rfl (lv_at hl 0 rfl) ?_
    refine xc_iV G (b := 111) (rest := []) (As := []) (c_X12_isWrong ω l μ  ) (wm 9 4 rfl rfl) (wm 9 6 rfl rfl) (wm 0 120 rfl rfl) rfl rfl (by decide) rfl (wm 1 18 rfl rfl) (wm 9 7 rfl rfl) (by decide) hR ⟨nfr hF (by decide), nlo hLo (by decide)⟩ (n := 0) rfl rfl (Nat.le_of_ble_eq_true rfl) hl.1 dX12_unary_49 (fun r_7 μ6 ρ d0 H locs hr_r_7 hp G => ?_)
    have hr_r_7 : -2147483648 ≤ r_7 ∧ r_7 ≤ 2147483647 := hr_r_7
    obtain ⟨hsm_8, hp_9⟩ := hp
    have hsm_8 := Eq.symm hsm_8
    subst hsm_8
    refine xb_if_eq (tgt := 56) hx hb (by unfold ir; omega) dX12_unary_52 (by decide) (fun c_52 => ?_) (fun c_52 => ?_)
    · refine lv_aload_n hx hb dX12_unary_56 rfl (lv_at hl 0 rfl) ?_
      refine xa_geti G fd_X12 (a := 111) (x := μ.1 111 8) 8 rfl (by decide) rfl (wm 7 157 rfl rfl) ⟨rfl, rfl, rfl⟩ dX12_unary_57 rfl rfl ?_
      have hr_10 : -2147483648 ≤ μ.1 111 8 ∧ μ.1 111 8 ≤ 2147483647 := by have h9 := G.hr (a := 111) (k := 8) rfl; exact h9
      refine lv_iconst (v := iv 2) hx hb dX12_unary_60 rfl ?_
      refine xb_icmp_ne (tgt := 82) hx hb (by unfold ir; omega) (by unfold ir; omega) dX12_unary_61 (by decide) (fun c_61 => ?_) (fun c_61 => ?_)
      · refine lv_aload_n hx hb dX12_unary_82 rfl (lv_at hl 0 rfl) ?_
        refine xa_geti G fd_X12 (a := 111) (x := μ.1 111 8) 8 rfl (by decide) rfl (wm 7 157 rfl rfl) ⟨rfl, rfl, rfl⟩ dX12_unary_83 rfl rfl ?_
        refine xb_if_ne (tgt := 187) hx hb (by unfold ir; omega) dX12_unary_86 (by decide) (fun c_86 => ?_) (fun c_86 => ?_)
        · refine lv_aload_n hx hb dX12_unary_187 rfl (lv_at hl 0 rfl) ?_
          refine xa_geti G fd_X12 (a := 111) (x := μ.1 111 8) 8 rfl (by decide) rfl (wm 7 157 rfl rfl) ⟨rfl, rfl, rfl⟩ dX12_unary_188 rfl rfl ?_
          refine lv_iconst (v := iv 1) hx hb dX12_unary_191 rfl ?_
          refine xb_icmp_ne (tgt := 202) hx hb (by unfold ir; omega) (by unfold ir; omega) dX12_unary_192 (by decide) (fun c_192 => ?_) (fun c_192 => ?_)
          · refine lv_aload_n hx hb dX12_unary_202 rfl (lv_at hl 0 rfl) ?_
            have e_11 : μ.1 111 14 = tt := htt.symm
            refine xc_vV G (b := 111) (rest := []) (As := []) (c_X12_signed ω l μ F Lo Fu Lu kf tt (by omega) hF hLo hFu hLu hE hU hPM (by omega) (by omega) (by omega) (by omega) (by omega) (by omega) (fun _ h0 => ((hX_1 ()) h0).h1.1) (by omega)) (wm 9 215 rfl rfl) (wm 9 217 rfl rfl) (wm 0 166 rfl rfl) rfl rfl (by decide) rfl (wm 1 18 rfl rfl) (wm 9 218 rfl rfl) (by decide) hR ⟨sfr (F := F) (a := 1) (by decide), slo (L := Lo) (m := 4) (a := 20) (by decide)⟩ (n := 0) rfl rfl (Nat.le_of_ble_eq_true rfl) hl.1 dX12_unary_203 (fun μ12 ρ d0 H locs hp G => ?_)
            obtain ⟨F_13, hp_14, hp_15, hp_16, hp_17, hp_18, hp_19, hp_20, hp_21, hp_22, hp_23, hp_24⟩ := hp
            have hpl_25 := hp_15.pl
            have hw_26 := wr_r (μ := μ12)
            have hxt_27 : mEXT μ μ12 := (mEXT.rf (μ := μ)).tr hp_24
            have hX_28 : ∀ _ : Unit, bd μ12 = 0 → mPX μ μ12 tt 1 1 (11 * (9 - nn μ) - 3) [] := fun _ h0 => (((hX_1 ()) (by have e9 : bd μ = bd μ := rfl; have e8 : bd μ12 = bd μ12 := rfl; omega)).app (hp_23 () h0) (by omega)).ee (by omega)
            exact xr_v G hret hlk dX12_unary_206 ⟨(Fr.tr Fr.rf F_13 (by decide)), (fun j hj => (hp_14 j (fun h9 => hj ((by decide : ∀ x ∈ ([6, 8, 9, 10, 11, 12, 13, 15, 16, 17, 18, 22, 29, 39] : List Int), x ∈ ([6, 8, 9, 10, 11, 12, 13, 15, 16, 17, 18, 22, 29, 39] : List Int)) j h9)))), hp_15, (by omega), (by omega), (by omega), (by omega), (by omega), (by omega), (fun j hj => (hp_22 j (by omega))), (fun _ h0 => (mPX.ex ((hX_28 ()) h0)).e (by omega)), hxt_27⟩
          · refine lv_aload_n hx hb dX12_unary_195 rfl (lv_at hl 0 rfl) ?_
            have e_29 : μ.1 111 14 = tt := htt.symm
            refine xc_vV G (b := 111) (rest := []) (As := []) (c_X12_worded ω l μ F Lo Fu Lu kf tt (by omega) hF hLo hFu hLu hE hU hPM (by omega) (by omega) (by omega) (by omega) (by omega) (by omega) (fun _ h0 => ((hX_1 ()) h0).h1.1) (by omega) (by omega)) (wm 9 195 rfl rfl) (wm 9 197 rfl rfl) (wm 0 161 rfl rfl) rfl rfl (by decide) rfl (wm 1 18 rfl rfl) (wm 9 198 rfl rfl) (by decide) hR ⟨sfr (F := F) (a := 3) (by decide), slo (L := Lo) (m := 4) (a := 70) (by decide)⟩ (n := 0) rfl rfl (Nat.le_of_ble_eq_true rfl) hl.1 dX12_unary_196 (fun μ30 ρ d0 H locs hp G => ?_)
            obtain ⟨F_31, hp_32, hp_33, hp_34, hp_35, hp_36, hp_37, hp_38, hp_39, hp_40, hp_41, hp_42⟩ := hp
            have hpl_43 := hp_33.pl
            have hw_44 := wr_r (μ := μ30)
            have hxt_45 : mEXT μ μ30 := (mEXT.rf (μ := μ)).tr hp_42
            have hX_46 : ∀ _ : Unit, bd μ30 = 0 → mPX μ μ30 tt 1 1 (11 * (9 - nn μ) - 3) [] := fun _ h0 => (((hX_1 ()) (by have e9 : bd μ = bd μ := rfl; have e8 : bd μ30 = bd μ30 := rfl; omega)).app (hp_41 () h0) (by omega)).ee (by omega)
            refine lv_goto (tgt := 206) hx hb dX12_unary_199 (by decide) ?_
            exact xr_v G hret hlk dX12_unary_206 ⟨(Fr.tr Fr.rf F_31 (by decide)), (fun j hj => (hp_32 j (fun h9 => hj ((by decide : ∀ x ∈ ([6, 8, 9, 10, 11, 12, 13, 15, 16, 17, 18, 22, 29, 39] : List Int), x ∈ ([6, 8, 9, 10, 11, 12, 13, 15, 16, 17, 18, 22, 29, 39] : List Int)) j h9)))), hp_33, (by omega), (by omega), (by omega), (by omega), (by omega), (by omega), (fun j hj => (hp_40 j (by omega))), (fun _ h0 => (mPX.ex ((hX_46 ()) h0)).e (by omega)), hxt_45⟩
        · refine lv_aload_n hx hb dX12_unary_89 rfl (lv_at hl 0 rfl) ?_
          refine xa_geti G fd_X12 (a := 111) (x := μ.1 111 9) 9 rfl (by decide) rfl (wm 7 158 rfl rfl) ⟨rfl, rfl, rfl⟩ dX12_unary_90 rfl rfl ?_
          have hr_47 : -2147483648 ≤ μ.1 111 9 ∧ μ.1 111 9 ≤ 2147483647 := by have h9 := G.hr (a := 111) (k := 9) rfl; exact h9
          refine lv_istore_n (lv' := [(1, .int (iv (μ.1 111 9))), (0, .ref (oP ω 111))]) hx hb dX12_unary_93 rfl hl (by decide) rfl (fun ls hl => ?_)
          refine lv_aload_n hx hb dX12_unary_94 rfl (lv_at hl 1 rfl) ?_
          refine xa_getl G fd_X12 (a := 111) (x := μ.1 111 10) 10 rfl (by decide) rfl (wm 7 159 rfl rfl) ⟨rfl, rfl, rfl⟩ dX12_unary_95 rfl rfl ?_
          have hj_48 : jr (μ.1 111 10) := by have h9 := G.hj (a := 111) (k := 10) rfl; exact h9
          refine lv_lstore_n (lv' := [(2, .long (jv (μ.1 111 10))), (1, .int (iv (μ.1 111 9))), (0, .ref (oP ω 111))]) hx hb dX12_unary_98 rfl hl (by decide) rfl (fun ls hl => ?_)
          refine lv_aload_n hx hb dX12_unary_99 rfl (lv_at hl 2 rfl) ?_
          refine xc_vV G (b := 111) (rest := []) (As := []) (c_X12_next ω l μ  hPM (by omega) (by omega)) (wm 9 0 rfl rfl) (wm 9 2 rfl rfl) (wm 0 119 rfl rfl) rfl rfl (by decide) rfl (wm 1 18 rfl rfl) (wm 9 3 rfl rfl) (by decide) hR ⟨nfr hF (by decide), nlo hLo (by decide)⟩ (n := 0) rfl rfl (Nat.le_of_ble_eq_true rfl) hl.1 dX12_unary_100 (fun μ49 ρ d0 H locs hp G => ?_)
          obtain ⟨F_50, hp_51, hp_52, hp_53, hp_54, hp_55⟩ := hp
          have hpl_56 := hp_52.pl
          have hw_57 := wr_r (μ := μ49)
          refine lv_aload_n hx hb dX12_unary_103 rfl (lv_at hl 2 rfl) ?_
          refine lv_bipush (v := iv 91) hx hb dX12_unary_104 rfl ?_
          have e_58 : μ49.1 111 29 = μ.1 111 29 := (hp_51 29 (by decide))
          have e_60 : μ49.1 111 29 = μ.1 111 29 := (hp_51 29 (by decide))
          have hX_59 : ∀ _ : Unit, bd μ49 = 0 → mPX μ μ49 tt 0 1 (11 * (9 - nn μ) - 3) [] := fun _ h0 => (hX_1 () (by have e9 : bd μ = bd μ := rfl; have e8 : bd μ49 = bd μ49 := rfl; omega)).qm (q0m.fr (K := [111]) (Fr.tr Fr.rf F_50 (by decide)) (by decide) (by decide) (by decide) (hp_51 22 (by decide)) (by omega))
          refine xc_iV G (b := 111) (rest := []) (As := [.int (iv 91)]) (c_X12_isSign ω l μ49 91 (by unfold ir; omega)) (wm 9 90 rfl rfl) (wm 9 92 rfl rfl) (wm 0 135 rfl rfl) rfl rfl (by decide) rfl (wm 1 18 rfl rfl) (wm 9 93 rfl rfl) (by decide) hR ⟨nfr hF (by decide), nlo hLo (by decide)⟩ (n := 1) rfl rfl (Nat.le_of_ble_eq_true rfl) hl.1 dX12_unary_106 (fun r_62 μ61 ρ d0 H locs hr_r_62 hp G => ?_)
          have hr_r_62 : -2147483648 ≤ r_62 ∧ r_62 ≤ 2147483647 := hr_r_62
          obtain ⟨hsm_63, hp_64⟩ := hp
          have hsm_63 := Eq.symm hsm_63
          subst hsm_63
          refine xb_if_eq (tgt := 178) hx hb (by unfold ir; omega) dX12_unary_109 (by decide) (fun c_109 => ?_) (fun c_109 => ?_)
          · refine lv_aload_n hx hb dX12_unary_178 rfl (lv_at hl 2 rfl) ?_
            refine lv_iload_n hx hb dX12_unary_179 rfl (lv_at hl 1 rfl) ?_
            refine lv_lload_n hx hb dX12_unary_180 rfl (lv_at hl 0 rfl) ?_
            have e_65 : μ49.1 111 29 = μ.1 111 29 := (hp_51 29 (by decide))
            have e_66 : μ49.1 111 29 = μ.1 111 29 := (hp_51 29 (by decide))
            have hxt_67 : mEXT μ μ49 := (q0m.fr (K := [111]) (Fr.tr Fr.rf F_50 (by decide)) (by decide) (by decide) (by decide) (hp_51 22 (by decide)) (by omega)).1
            have e_68 : μ49.1 111 14 = tt := ((hp_51 14 (by decide)).trans htt.symm)
            have e_69 : μ49.1 111 22 = μ.1 111 22 := (hp_51 22 (by decide))
            have e_70 : μ49.1 111 22 = μ.1 111 22 := (hp_51 22 (by decide))
            have e_71 : μ49.1 111 39 = μ.1 111 39 := (hp_51 39 (by decide))
            have e_72 : μ49.1 111 39 = μ.1 111 39 := (hp_51 39 (by decide))
            have e_73 : μ49.1 111 22 = μ.1 111 22 := (hp_51 22 (by decide))
            have e_74 : μ49.1 111 31 = μ.1 111 31 := (hp_51 31 (by decide))
            have e_75 : μ49.1 111 31 = μ.1 111 31 := (hp_51 31 (by decide))
            have e_76 : μ49.1 111 22 = μ.1 111 22 := (hp_51 22 (by decide))
            have e_77 : μ49.1 111 22 = μ.1 111 22 := (hp_51 22 (by decide))
            have e_78 : μ49.1 111 29 = μ.1 111 29 := (hp_51 29 (by decide))
            have e_79 : μ49.1 111 39 = μ.1 111 39 := (hp_51 39 (by decide))
            refine xc_vV G (b := 111) (rest := []) (As := [.int (iv (μ.1 111 9)), .long (jv (μ.1 111 10))]) (c_X12_primary ω l μ49 (μ.1 111 9) (μ.1 111 10) F Lo Fu Lu kf tt (by unfold ir; omega) hj_48 (by omega) hF hLo hFu hLu hE hU hp_52 (by omega) (by omega) (by omega) (by omega) (by omega) (by omega) (fun _ h0 => ((hX_59 ()) h0).h1.1) (by omega)) (wm 9 175 rfl rfl) (wm 9 177 rfl rfl) (wm 0 156 rfl rfl) rfl rfl (by decide) rfl (wm 1 18 rfl rfl) (wm 9 178 rfl rfl) (by decide) hR ⟨sfr (F := F) (a := 3) (by decide), slo (L := Lo) (m := 4) (a := 70) (by decide)⟩ (n := 2) rfl rfl (Nat.le_of_ble_eq_true rfl) hl.1 dX12_unary_181 (fun μ80 ρ d0 H locs hp G => ?_)
            obtain ⟨F_81, hp_82, hp_83, hp_84, hp_85, hp_86, hp_87, hp_88, hp_89, hp_90, hp_91, hp_92⟩ := hp
            have hpl_93 := hp_83.pl
            have hw_94 := wr_r (μ := μ80)
            have hxt_95 : mEXT μ μ80 := hxt_67.tr hp_92
            have hX_96 : ∀ _ : Unit, bd μ80 = 0 → mPX μ μ80 tt 1 1 (11 * (9 - nn μ) - 3) [] := fun _ h0 => (((hX_59 ()) (by have e9 : bd μ49 = bd μ49 := rfl; have e8 : bd μ80 = bd μ80 := rfl; omega)).app (hp_91 () h0) (by omega)).ee (by omega)
            refine lv_goto (tgt := 206) hx hb dX12_unary_184 (by decide) ?_
            exact xr_v G hret hlk dX12_unary_206 ⟨(Fr.tr (Fr.tr Fr.rf F_50 (by decide)) F_81 (by decide)), (fun j hj => ((hp_82 j (fun h9 => hj ((by decide : ∀ x ∈ ([6, 8, 9, 10, 11, 12, 13, 15, 16, 17, 18, 22, 29, 39] : List Int), x ∈ ([6, 8, 9, 10, 11, 12, 13, 15, 16, 17, 18, 22, 29, 39] : List Int)) j h9))).trans (hp_51 j (fun h9 => hj ((by decide : ∀ x ∈ ([6, 8, 9, 10, 11, 12, 13, 15] : List Int), x ∈ ([6, 8, 9, 10, 11, 12, 13, 15, 16, 17, 18, 22, 29, 39] : List Int)) j h9))))), hp_83, (by omega), (by omega), (by omega), (by omega), (by omega), (by omega), (fun j hj => ((hp_90 j (by omega)).trans (F_50.1 126 (by decide) j))), (fun _ h0 => (mPX.ex ((hX_96 ()) h0)).e (by omega)), hxt_95⟩
          · refine lv_aload_n hx hb dX12_unary_112 rfl (lv_at hl 2 rfl) ?_
            refine lv_iconst (v := iv 3) hx hb dX12_unary_113 rfl ?_
            refine lv_aload_n hx hb dX12_unary_114 rfl (lv_at hl 2 rfl) ?_
            refine lv_iload_n hx hb dX12_unary_115 rfl (lv_at hl 1 rfl) ?_
            refine lv_lload_n hx hb dX12_unary_116 rfl (lv_at hl 0 rfl) ?_
            have e_97 : μ49.1 111 31 = μ.1 111 31 := (hp_51 31 (by decide))
            have e_98 : μ49.1 111 31 = μ.1 111 31 := (hp_51 31 (by decide))
            refine xc_iV G (b := 111) (rest := [.int (iv 3), .ref (oP ω 111)]) (As := [.int (iv (μ.1 111 9)), .long (jv (μ.1 111 10))]) (c_X12_slot ω l μ49 (μ.1 111 9) (μ.1 111 10) (by unfold ir; omega) hj_48 (by omega)) (wm 9 171 rfl rfl) (wm 9 173 rfl rfl) (wm 0 155 rfl rfl) rfl rfl (by decide) rfl (wm 1 18 rfl rfl) (wm 9 174 rfl rfl) (by decide) hR ⟨nfr hF (by decide), nlo hLo (by decide)⟩ (n := 2) rfl rfl (Nat.le_of_ble_eq_true rfl) hl.1 dX12_unary_117 (fun r_100 μ99 ρ d0 H locs hr_r_100 hp G => ?_)
            have hr_r_100 : -2147483648 ≤ r_100 ∧ r_100 ≤ 2147483647 := hr_r_100
            obtain ⟨F_101, hp_102, hp_103⟩ := hp
            have e_104 : wr μ99 = wr μ49 := (wr_cg (hp_102 15 (by decide)))
            have e_105 : bd μ99 = bd μ49 := (bd_cg (hp_102 15 (by decide)) (hp_102 16 (by decide)))
            have e_106 : nn μ99 = nn μ49 := (nn_cg (hp_102 15 (by decide)) (hp_102 18 (by decide)))
            refine xb_i2l hx hb (by unfold ir; omega) dX12_unary_120 ?_
            refine lv_iconst (v := iv 0) hx hb dX12_unary_121 rfl ?_
            have e_107 : μ99.1 111 29 = μ.1 111 29 := ((hp_102 29 (by decide)).trans (hp_51 29 (by decide)))
            have e_108 : wr μ99 = wr μ49 := (wr_cg (hp_102 15 (by decide)))
            have e_109 : bd μ99 = bd μ49 := (bd_cg (hp_102 15 (by decide)) (hp_102 16 (by decide)))
            have e_110 : nn μ99 = nn μ49 := (nn_cg (hp_102 15 (by decide)) (hp_102 18 (by decide)))
            have e_112 : μ99.1 111 29 = μ.1 111 29 := ((hp_102 29 (by decide)).trans (hp_51 29 (by decide)))
            have hX_111 : ∀ _ : Unit, bd μ99 = 0 → mPX μ μ99 tt 0 1 (11 * (9 - nn μ) - 3) [] := fun _ h0 => (hX_59 () (by have e9 : bd μ49 = bd μ49 := rfl; have e8 : bd μ99 = bd μ49 := (bd_cg (hp_102 15 (by decide)) (hp_102 16 (by decide))); omega)).qm (q0m.fr (K := [111]) (Fr.tr Fr.rf F_101 (by decide)) (by decide) (by decide) (by decide) ((((hp_102 22 (by decide)).trans (hp_51 22 (by decide)))).trans ((hp_51 22 (by decide))).symm) (by omega))
            have e_113 : μ99.1 111 29 = μ.1 111 29 := ((hp_102 29 (by decide)).trans (hp_51 29 (by decide)))
            have e_114 : μ99.1 111 29 = μ.1 111 29 := ((hp_102 29 (by decide)).trans (hp_51 29 (by decide)))
            have hxt_115 : mEXT μ μ99 := (q0m.fr (K := [111]) (Fr.tr (Fr.tr Fr.rf F_50 (by decide)) F_101 (by decide)) (by decide) (by decide) (by decide) ((hp_102 22 (by decide)).trans (hp_51 22 (by decide))) (by omega)).1
            have e_116 : μ99.1 111 22 = μ.1 111 22 := ((hp_102 22 (by decide)).trans (hp_51 22 (by decide)))
            have e_117 : μ99.1 111 22 = μ.1 111 22 := ((hp_102 22 (by decide)).trans (hp_51 22 (by decide)))
            have e_118 : μ99.1 111 22 = μ.1 111 22 := ((hp_102 22 (by decide)).trans (hp_51 22 (by decide)))
            have e_119 : μ99.1 111 22 = μ.1 111 22 := ((hp_102 22 (by decide)).trans (hp_51 22 (by decide)))
            refine xc_iV G (b := 111) (rest := []) (As := [.int (iv 3), .long (jv r_100), .int (iv 0)]) (c_X12_emit ω l μ99 3 r_100 0 (by unfold ir; omega) (by unfold jr; omega) (by unfold ir; omega) (by omega)) (wm 9 126 rfl rfl) (wm 9 128 rfl rfl) (wm 0 144 rfl rfl) rfl rfl (by decide) rfl (wm 1 18 rfl rfl) (wm 9 129 rfl rfl) (by decide) hR ⟨nfr hF (by decide), nlo hLo (by decide)⟩ (n := 3) rfl rfl (Nat.le_of_ble_eq_true rfl) hl.1 dX12_unary_122 (fun r_121 μ120 ρ d0 H locs hr_r_121 hp G => ?_)
            have hr_r_121 : -2147483648 ≤ r_121 ∧ r_121 ≤ 2147483647 := hr_r_121
            obtain ⟨F_122, hp_123, hp_124, hp_125, hp_126⟩ := hp
            have hxt_127 : mEXT μ μ120 := hxt_115.tr hp_124.1
            have e_128 : wr μ120 = wr μ49 := ((wr_cg (hp_123 15 (by decide))).trans (wr_cg (hp_102 15 (by decide))))
            have e_129 : bd μ120 = bd μ49 := ((bd_cg (hp_123 15 (by decide)) (hp_123 16 (by decide))).trans (bd_cg (hp_102 15 (by decide)) (hp_102 16 (by decide))))
            have e_130 : nn μ120 = nn μ49 := ((nn_cg (hp_123 15 (by decide)) (hp_123 18 (by decide))).trans (nn_cg (hp_102 15 (by decide)) (hp_102 18 (by decide))))
            have e_132 : μ120.1 111 29 = μ.1 111 29 := ((hp_123 29 (by decide)).trans ((hp_102 29 (by decide)).trans (hp_51 29 (by decide))))
            have hX_131 : ∀ _ : Unit, bd μ120 = 0 → mPX μ μ120 tt 1 1 (11 * (9 - nn μ) - 3) [] := fun _ h0 => (((hX_111 ()) (by have e9 : bd μ99 = bd μ49 := (bd_cg (hp_102 15 (by decide)) (hp_102 16 (by decide))); have e8 : bd μ120 = bd μ49 := ((bd_cg (hp_123 15 (by decide)) (hp_123 16 (by decide))).trans (bd_cg (hp_102 15 (by decide)) (hp_102 16 (by decide)))); omega)).app (mAD.ex (t := tt) (e := 1) hp_124 ((hX_111 ()) (by have e9 : bd μ99 = bd μ49 := (bd_cg (hp_102 15 (by decide)) (hp_102 16 (by decide))); have e8 : bd μ120 = bd μ49 := ((bd_cg (hp_123 15 (by decide)) (hp_123 16 (by decide))).trans (bd_cg (hp_102 15 (by decide)) (hp_102 16 (by decide)))); omega)).h1.1 (by unfold mpl; omega) rfl (by have h9 := ((hX_111 ()) (by have e9 : bd μ99 = bd μ49 := (bd_cg (hp_102 15 (by decide)) (hp_102 16 (by decide))); have e8 : bd μ120 = bd μ49 := ((bd_cg (hp_123 15 (by decide)) (hp_123 16 (by decide))).trans (bd_cg (hp_102 15 (by decide)) (hp_102 16 (by decide)))); omega)).h1; omega) ⟨fun q => absurd q (by decide), fun _ => ⟨by omega, by omega⟩, fun q => absurd q (by decide), fun q => absurd q (by decide), fun q => absurd q (by decide), fun q => absurd q (by decide), fun q => absurd q (by decide), fun q => absurd q (by decide), fun q => absurd q (by decide), fun q => absurd q (by decide), fun q => absurd q (by decide), fun q => absurd q (by decide), fun q => absurd q (by decide), fun q => absurd q (by decide), fun q => absurd q (by decide), fun q => absurd q (by decide), fun q => absurd q (by decide), fun q => absurd q (by decide), fun q => absurd q (by decide), fun q => absurd q (by decide), fun q => absurd q (by decide), fun q => absurd q (by decide), ⟨by decide, by decide⟩⟩) (by have h9 := ((hX_111 ()) (by have e9 : bd μ99 = bd μ49 := (bd_cg (hp_102 15 (by decide)) (hp_102 16 (by decide))); have e8 : bd μ120 = bd μ49 := ((bd_cg (hp_123 15 (by decide)) (hp_123 16 (by decide))).trans (bd_cg (hp_102 15 (by decide)) (hp_102 16 (by decide)))); omega)).h1; omega)).ee (by omega)
            refine lv_pop hx hb dX12_unary_125 rfl ?_
            refine lv_aload_n hx hb dX12_unary_126 rfl (lv_at hl 2 rfl) ?_
            refine lv_iconst (v := iv 0) hx hb dX12_unary_127 rfl ?_
            have e_133 : μ120.1 111 29 = μ.1 111 29 := ((hp_123 29 (by decide)).trans ((hp_102 29 (by decide)).trans (hp_51 29 (by decide))))
            have e_134 : μ120.1 111 14 = tt := ((hp_123 14 (by decide)).trans ((hp_102 14 (by decide)).trans ((hp_51 14 (by decide)).trans htt.symm)))
            refine xc_iV G (b := 111) (rest := []) (As := [.int (iv 0)]) (c_X12_skips ω l μ120 0 tt (by unfold ir; omega) (by omega) (by omega)) (wm 9 159 rfl rfl) (wm 9 161 rfl rfl) (wm 0 152 rfl rfl) rfl rfl (by decide) rfl (wm 1 18 rfl rfl) (wm 9 162 rfl rfl) (by decide) hR ⟨nfr hF (by decide), nlo hLo (by decide)⟩ (n := 1) rfl rfl (Nat.le_of_ble_eq_true rfl) hl.1 dX12_unary_128 (fun r_136 μ135 ρ d0 H locs hr_r_136 hp G => ?_)
            have hr_r_136 : -2147483648 ≤ r_136 ∧ r_136 ≤ 2147483647 := hr_r_136
            obtain ⟨F_137, hp_138, hp_139, hp_140⟩ := hp
            have hqr_r_136 : (r_136 = -1) ∨ (μ.1 111 22 ≤ r_136 ∧ r_136 < μ135.1 111 22) := by rcases hp_139 with ⟨q1, q2, q3, q4⟩ | ⟨q1, q2, q3⟩; (right; have := q2.2.1; omega); (left; exact q2)
            have hxt_141 : mEXT μ μ135 := hxt_127.tr hp_139.ext
            have e_142 : wr μ135 = wr μ49 := ((wr_cg (hp_138 15 (by decide))).trans ((wr_cg (hp_123 15 (by decide))).trans (wr_cg (hp_102 15 (by decide)))))
            have e_143 : bd μ135 = bd μ49 := ((bd_cg (hp_138 15 (by decide)) (hp_138 16 (by decide))).trans ((bd_cg (hp_123 15 (by decide)) (hp_123 16 (by decide))).trans (bd_cg (hp_102 15 (by decide)) (hp_102 16 (by decide)))))
            have e_144 : nn μ135 = nn μ49 := ((nn_cg (hp_138 15 (by decide)) (hp_138 18 (by decide))).trans ((nn_cg (hp_123 15 (by decide)) (hp_123 18 (by decide))).trans (nn_cg (hp_102 15 (by decide)) (hp_102 18 (by decide)))))
            replace hp_139 := fun _ : Unit => hp_139
            have e_146 : μ135.1 111 29 = μ.1 111 29 := ((hp_138 29 (by decide)).trans ((hp_123 29 (by decide)).trans ((hp_102 29 (by decide)).trans (hp_51 29 (by decide)))))
            have hX_145 : ∀ _ : Unit, bd μ135 = 0 → mPX μ μ135 tt 1 1 (11 * (9 - nn μ) - 3) (lsk r_136 ++ []) := fun _ h0 => mPX.sk ((hX_131 ()) (by have e9 : bd μ120 = bd μ49 := ((bd_cg (hp_123 15 (by decide)) (hp_123 16 (by decide))).trans (bd_cg (hp_102 15 (by decide)) (hp_102 16 (by decide)))); have e8 : bd μ135 = bd μ49 := ((bd_cg (hp_138 15 (by decide)) (hp_138 16 (by decide))).trans ((bd_cg (hp_123 15 (by decide)) (hp_123 16 (by decide))).trans (bd_cg (hp_102 15 (by decide)) (hp_102 16 (by decide))))); omega)) (hp_139 ()) (by omega) (by omega) (by decide)
            refine lv_istore (lv' := [(4, .int (iv r_136)), (2, .long (jv (μ.1 111 10))), (1, .int (iv (μ.1 111 9))), (0, .ref (oP ω 111))]) hx hb dX12_unary_131 hl (by decide) rfl (fun ls hl => ?_)
            refine lv_aload_n hx hb dX12_unary_133 rfl (lv_at hl 3 rfl) ?_
            have hPM_147 : PM μ135 := hp_52.cg ((((hp_138 4 (by decide)).trans ((hp_123 4 (by decide)).trans ((hp_102 4 (by decide)).trans (hp_51 4 (by decide)))))).trans ((hp_51 4 (by decide))).symm) ((hp_138 6 (by decide)).trans ((hp_123 6 (by decide)).trans (hp_102 6 (by decide)))) ((((hp_138 7 (by decide)).trans ((hp_123 7 (by decide)).trans ((hp_102 7 (by decide)).trans (hp_51 7 (by decide)))))).trans ((hp_51 7 (by decide))).symm) ((hp_138 8 (by decide)).trans ((hp_123 8 (by decide)).trans (hp_102 8 (by decide)))) ((hp_138 9 (by decide)).trans ((hp_123 9 (by decide)).trans (hp_102 9 (by decide)))) ((hp_138 11 (by decide)).trans ((hp_123 11 (by decide)).trans (hp_102 11 (by decide)))) ((hp_138 12 (by decide)).trans ((hp_123 12 (by decide)).trans (hp_102 12 (by decide)))) ((((hp_138 14 (by decide)).trans ((hp_123 14 (by decide)).trans ((hp_102 14 (by decide)).trans ((hp_51 14 (by decide)).trans htt.symm))))).trans (((hp_51 14 (by decide)).trans htt.symm)).symm) ((hp_138 15 (by decide)).trans ((hp_123 15 (by decide)).trans (hp_102 15 (by decide)))) ((((hp_138 29 (by decide)).trans ((hp_123 29 (by decide)).trans ((hp_102 29 (by decide)).trans (hp_51 29 (by decide)))))).trans ((hp_51 29 (by decide))).symm) (fun j => ((F_137.1 123 (by decide) j).trans ((F_122.1 123 (by decide) j).trans (F_101.1 123 (by decide) j))))
            have e_148 : wr μ135 = wr μ49 := ((wr_cg (hp_138 15 (by decide))).trans ((wr_cg (hp_123 15 (by decide))).trans (wr_cg (hp_102 15 (by decide)))))
            have e_149 : nn μ135 = nn μ49 := ((nn_cg (hp_138 15 (by decide)) (hp_138 18 (by decide))).trans ((nn_cg (hp_123 15 (by decide)) (hp_123 18 (by decide))).trans (nn_cg (hp_102 15 (by decide)) (hp_102 18 (by decide)))))
            have e_150 : μ135.1 111 8 = μ49.1 111 8 := ((hp_138 8 (by decide)).trans ((hp_123 8 (by decide)).trans (hp_102 8 (by decide))))
            have e_151 : wr μ135 = wr μ49 := ((wr_cg (hp_138 15 (by decide))).trans ((wr_cg (hp_123 15 (by decide))).trans (wr_cg (hp_102 15 (by decide)))))
            have e_152 : wr μ135 = wr μ49 := ((wr_cg (hp_138 15 (by decide))).trans ((wr_cg (hp_123 15 (by decide))).trans (wr_cg (hp_102 15 (by decide)))))
            have e_153 : nn μ135 = nn μ49 := ((nn_cg (hp_138 15 (by decide)) (hp_138 18 (by decide))).trans ((nn_cg (hp_123 15 (by decide)) (hp_123 18 (by decide))).trans (nn_cg (hp_102 15 (by decide)) (hp_102 18 (by decide)))))
            have e_154 : μ135.1 111 9 = μ49.1 111 9 := ((hp_138 9 (by decide)).trans ((hp_123 9 (by decide)).trans (hp_102 9 (by decide))))
            have e_155 : μ135.1 111 9 = μ49.1 111 9 := ((hp_138 9 (by decide)).trans ((hp_123 9 (by decide)).trans (hp_102 9 (by decide))))
            have e_156 : wr μ135 = wr μ49 := ((wr_cg (hp_138 15 (by decide))).trans ((wr_cg (hp_123 15 (by decide))).trans (wr_cg (hp_102 15 (by decide)))))
            have e_157 : bd μ135 = bd μ49 := ((bd_cg (hp_138 15 (by decide)) (hp_138 16 (by decide))).trans ((bd_cg (hp_123 15 (by decide)) (hp_123 16 (by decide))).trans (bd_cg (hp_102 15 (by decide)) (hp_102 16 (by decide)))))
            have e_158 : wr μ135 = wr μ49 := ((wr_cg (hp_138 15 (by decide))).trans ((wr_cg (hp_123 15 (by decide))).trans (wr_cg (hp_102 15 (by decide)))))
            have e_159 : nn μ135 = nn μ49 := ((nn_cg (hp_138 15 (by decide)) (hp_138 18 (by decide))).trans ((nn_cg (hp_123 15 (by decide)) (hp_123 18 (by decide))).trans (nn_cg (hp_102 15 (by decide)) (hp_102 18 (by decide)))))
            refine xc_vV G (b := 111) (rest := []) (As := []) (c_X12_opens ω l μ135  hPM_147 (by omega) (by omega) (by omega)) (wm 9 94 rfl rfl) (wm 9 96 rfl rfl) (wm 0 136 rfl rfl) rfl rfl (by decide) rfl (wm 1 18 rfl rfl) (wm 9 97 rfl rfl) (by decide) hR ⟨nfr hF (by decide), nlo hLo (by decide)⟩ (n := 0) rfl rfl (Nat.le_of_ble_eq_true rfl) hl.1 dX12_unary_134 (fun μ160 ρ d0 H locs hp G => ?_)
            obtain ⟨F_161, hp_162, hp_163, hp_164, hp_165, hp_166, hp_167⟩ := hp
            have hpl_168 := hp_163.pl
            have hw_169 := wr_r (μ := μ160)
            have hw_170 := wr_r (μ := μ135)
            refine lv_aload_n hx hb dX12_unary_137 rfl (lv_at hl 3 rfl) ?_
            have e_171 : μ160.1 111 29 = μ.1 111 29 := ((hp_162 29 (by decide)).trans ((hp_138 29 (by decide)).trans ((hp_123 29 (by decide)).trans ((hp_102 29 (by decide)).trans (hp_51 29 (by decide))))))
            have e_173 : μ160.1 111 29 = μ.1 111 29 := ((hp_162 29 (by decide)).trans ((hp_138 29 (by decide)).trans ((hp_123 29 (by decide)).trans ((hp_102 29 (by decide)).trans (hp_51 29 (by decide))))))
            have hX_172 : ∀ _ : Unit, bd μ160 = 0 → mPX μ μ160 tt 1 1 (11 * (9 - nn μ) - 3) (lsk r_136 ++ []) := fun _ h0 => (hX_145 () (by have e9 : bd μ135 = bd μ49 := ((bd_cg (hp_138 15 (by decide)) (hp_138 16 (by decide))).trans ((bd_cg (hp_123 15 (by decide)) (hp_123 16 (by decide))).trans (bd_cg (hp_102 15 (by decide)) (hp_102 16 (by decide))))); have e8 : bd μ160 = bd μ160 := rfl; omega)).qm (q0m.fr (K := [111]) (Fr.tr Fr.rf F_161 (by decide)) (by decide) (by decide) (by decide) (hp_162 22 (by decide)) (by omega))
            have e_174 : μ160.1 111 29 = μ.1 111 29 := ((hp_162 29 (by decide)).trans ((hp_138 29 (by decide)).trans ((hp_123 29 (by decide)).trans ((hp_102 29 (by decide)).trans (hp_51 29 (by decide))))))
            have e_175 : μ160.1 111 29 = μ.1 111 29 := ((hp_162 29 (by decide)).trans ((hp_138 29 (by decide)).trans ((hp_123 29 (by decide)).trans ((hp_102 29 (by decide)).trans (hp_51 29 (by decide))))))
            have hxt_176 : mEXT μ μ160 := hxt_141.tr (q0m.fr (K := [111]) (Fr.tr Fr.rf F_161 (by decide)) (by decide) (by decide) (by decide) (hp_162 22 (by decide)) (by omega)).1
            have e_177 : μ160.1 111 14 = tt := ((hp_162 14 (by decide)).trans ((hp_138 14 (by decide)).trans ((hp_123 14 (by decide)).trans ((hp_102 14 (by decide)).trans ((hp_51 14 (by decide)).trans htt.symm)))))
            have e_178 : μ160.1 111 22 = μ135.1 111 22 := (hp_162 22 (by decide))
            have e_179 : μ160.1 111 22 = μ135.1 111 22 := (hp_162 22 (by decide))
            have e_180 : μ160.1 111 39 = μ.1 111 39 := ((hp_162 39 (by decide)).trans ((hp_138 39 (by decide)).trans ((hp_123 39 (by decide)).trans ((hp_102 39 (by decide)).trans (hp_51 39 (by decide))))))
            have e_181 : μ160.1 111 39 = μ.1 111 39 := ((hp_162 39 (by decide)).trans ((hp_138 39 (by decide)).trans ((hp_123 39 (by decide)).trans ((hp_102 39 (by decide)).trans (hp_51 39 (by decide))))))
            have e_182 : μ160.1 111 22 = μ135.1 111 22 := (hp_162 22 (by decide))
            have e_183 : μ160.1 111 31 = μ.1 111 31 := ((hp_162 31 (by decide)).trans ((hp_138 31 (by decide)).trans ((hp_123 31 (by decide)).trans ((hp_102 31 (by decide)).trans (hp_51 31 (by decide))))))
            have e_184 : μ160.1 111 31 = μ.1 111 31 := ((hp_162 31 (by decide)).trans ((hp_138 31 (by decide)).trans ((hp_123 31 (by decide)).trans ((hp_102 31 (by decide)).trans (hp_51 31 (by decide))))))
            have e_185 : μ160.1 111 22 = μ135.1 111 22 := (hp_162 22 (by decide))
            have e_186 : μ160.1 111 22 = μ135.1 111 22 := (hp_162 22 (by decide))
            have e_187 : μ160.1 111 29 = μ.1 111 29 := ((hp_162 29 (by decide)).trans ((hp_138 29 (by decide)).trans ((hp_123 29 (by decide)).trans ((hp_102 29 (by decide)).trans (hp_51 29 (by decide))))))
            have e_188 : μ160.1 111 39 = μ.1 111 39 := ((hp_162 39 (by decide)).trans ((hp_138 39 (by decide)).trans ((hp_123 39 (by decide)).trans ((hp_102 39 (by decide)).trans (hp_51 39 (by decide))))))
            refine xc_vV G (b := 111) (rest := []) (As := []) (((fun (_ : Om) (_ : Launch) => hE)) ω l μ160 tt (by omega) hp_163 (by omega) (by omega) (by omega) (by omega) (by omega) (by omega) (fun _ h0 => ((hX_172 ()) h0).h1.1)) (wm 9 139 rfl rfl) (wm 9 141 rfl rfl) (wm 0 147 rfl rfl) rfl rfl (by decide) rfl (wm 1 18 rfl rfl) (wm 9 142 rfl rfl) (by decide) hR ⟨sfr (F := F) (a := 0) (by decide), slo (L := Lo) (m := 1) (a := 0) (by decide)⟩ (n := 0) rfl rfl (Nat.le_of_ble_eq_true rfl) hl.1 dX12_unary_138 (fun μ189 ρ d0 H locs hp G => ?_)
            obtain ⟨F_190, hp_191, hp_192, hp_193, hp_194, hp_195, hp_196, hp_197, hp_198, hp_199, hp_200, hp_201⟩ := hp
            have hpl_202 := hp_192.pl
            have hw_203 := wr_r (μ := μ189)
            have hxt_204 : mEXT μ μ189 := hxt_176.tr hp_201
            have hX_205 : ∀ _ : Unit, bd μ189 = 0 → mPX μ μ189 tt 2 1 (11 * (9 - nn μ) - 3) (lsk r_136 ++ []) := fun _ h0 => (((hX_172 ()) (by have e9 : bd μ160 = bd μ160 := rfl; have e8 : bd μ189 = bd μ189 := rfl; omega)).app (hp_200 () h0) (by omega)).ee (by omega)
            refine lv_aload_n hx hb dX12_unary_141 rfl (lv_at hl 3 rfl) ?_
            refine lv_bipush (v := iv 93) hx hb dX12_unary_142 rfl ?_
            refine xc_vV G (b := 111) (rest := []) (As := [.int (iv 93)]) (c_X12_closesWith ω l μ189 93 (by unfold ir; omega) hp_192 (by omega) (by omega)) (wm 9 110 rfl rfl) (wm 9 112 rfl rfl) (wm 0 140 rfl rfl) rfl rfl (by decide) rfl (wm 1 18 rfl rfl) (wm 9 113 rfl rfl) (by decide) hR ⟨nfr hF (by decide), nlo hLo (by decide)⟩ (n := 1) rfl rfl (Nat.le_of_ble_eq_true rfl) hl.1 dX12_unary_144 (fun μ206 ρ d0 H locs hp G => ?_)
            obtain ⟨F_207, hp_208, hp_209, hp_210, hp_211, hp_212, hp_213⟩ := hp
            have hpl_214 := hp_209.pl
            have hw_215 := wr_r (μ := μ206)
            refine lv_aload_n hx hb dX12_unary_147 rfl (lv_at hl 3 rfl) ?_
            refine lv_iconst (v := iv 1) hx hb dX12_unary_148 rfl ?_
            have e_216 : μ206.1 111 29 = μ189.1 111 29 := (hp_208 29 (by decide))
            have e_218 : μ206.1 111 29 = μ189.1 111 29 := (hp_208 29 (by decide))
            have hX_217 : ∀ _ : Unit, bd μ206 = 0 → mPX μ μ206 tt 2 1 (11 * (9 - nn μ) - 3) (lsk r_136 ++ []) := fun _ h0 => (hX_205 () (by have e9 : bd μ189 = bd μ189 := rfl; have e8 : bd μ206 = bd μ206 := rfl; omega)).qm (q0m.fr (K := [111]) (Fr.tr Fr.rf F_207 (by decide)) (by decide) (by decide) (by decide) (hp_208 22 (by decide)) (by omega))
            have e_219 : μ206.1 111 29 = μ189.1 111 29 := (hp_208 29 (by decide))
            have e_220 : μ206.1 111 29 = μ189.1 111 29 := (hp_208 29 (by decide))
            have hxt_221 : mEXT μ μ206 := hxt_204.tr (q0m.fr (K := [111]) (Fr.tr Fr.rf F_207 (by decide)) (by decide) (by decide) (by decide) (hp_208 22 (by decide)) (by omega)).1
            have e_222 : μ206.1 111 14 = tt := ((hp_208 14 (by decide)).trans ((hp_191 14 (by decide)).trans ((hp_162 14 (by decide)).trans ((hp_138 14 (by decide)).trans ((hp_123 14 (by decide)).trans ((hp_102 14 (by decide)).trans ((hp_51 14 (by decide)).trans htt.symm)))))))
            have e_223 : μ206.1 111 22 = μ189.1 111 22 := (hp_208 22 (by decide))
            have e_224 : μ206.1 111 22 = μ189.1 111 22 := (hp_208 22 (by decide))
            have e_225 : μ206.1 111 22 = μ189.1 111 22 := (hp_208 22 (by decide))
            have e_226 : μ206.1 111 22 = μ189.1 111 22 := (hp_208 22 (by decide))
            refine xc_iV G (b := 111) (rest := []) (As := [.int (iv 1)]) (c_X12_skips ω l μ206 1 tt (by unfold ir; omega) (by omega) (by omega)) (wm 9 159 rfl rfl) (wm 9 161 rfl rfl) (wm 0 152 rfl rfl) rfl rfl (by decide) rfl (wm 1 18 rfl rfl) (wm 9 162 rfl rfl) (by decide) hR ⟨nfr hF (by decide), nlo hLo (by decide)⟩ (n := 1) rfl rfl (Nat.le_of_ble_eq_true rfl) hl.1 dX12_unary_149 (fun r_228 μ227 ρ d0 H locs hr_r_228 hp G => ?_)
            have hr_r_228 : -2147483648 ≤ r_228 ∧ r_228 ≤ 2147483647 := hr_r_228
            obtain ⟨F_229, hp_230, hp_231, hp_232⟩ := hp
            have hqr_r_228 : (r_228 = -1) ∨ (μ.1 111 22 ≤ r_228 ∧ r_228 < μ227.1 111 22) := by rcases hp_231 with ⟨q1, q2, q3, q4⟩ | ⟨q1, q2, q3⟩; (right; have := q2.2.1; omega); (left; exact q2)
            have hxt_233 : mEXT μ μ227 := hxt_221.tr hp_231.ext
            have e_234 : wr μ227 = wr μ206 := (wr_cg (hp_230 15 (by decide)))
            have e_235 : bd μ227 = bd μ206 := (bd_cg (hp_230 15 (by decide)) (hp_230 16 (by decide)))
            have e_236 : nn μ227 = nn μ206 := (nn_cg (hp_230 15 (by decide)) (hp_230 18 (by decide)))
            replace hp_231 := fun _ : Unit => hp_231
            have e_238 : μ227.1 111 29 = μ189.1 111 29 := ((hp_230 29 (by decide)).trans (hp_208 29 (by decide)))
            have hX_237 : ∀ _ : Unit, bd μ227 = 0 → mPX μ μ227 tt 2 1 (11 * (9 - nn μ) - 3) (lsk r_228 ++ (lsk r_136 ++ [])) := fun _ h0 => mPX.sk ((hX_217 ()) (by have e9 : bd μ206 = bd μ206 := rfl; have e8 : bd μ227 = bd μ206 := (bd_cg (hp_230 15 (by decide)) (hp_230 16 (by decide))); omega)) (hp_231 ()) (by omega) (by omega) (by decide)
            refine lv_istore (lv' := [(5, .int (iv r_228)), (4, .int (iv r_136)), (2, .long (jv (μ.1 111 10))), (1, .int (iv (μ.1 111 9))), (0, .ref (oP ω 111))]) hx hb dX12_unary_152 hl (by decide) rfl (fun ls hl => ?_)
            refine lv_aload_n hx hb dX12_unary_154 rfl (lv_at hl 4 rfl) ?_
            refine lv_bipush (v := iv 24) hx hb dX12_unary_155 rfl ?_
            refine lv_lconst (v := jv 0) hx hb dX12_unary_157 rfl ?_
            refine lv_iconst (v := iv 0) hx hb dX12_unary_158 rfl ?_
            have e_239 : μ227.1 111 29 = μ189.1 111 29 := ((hp_230 29 (by decide)).trans (hp_208 29 (by decide)))
            refine xc_iV G (b := 111) (rest := []) (As := [.int (iv 24), .long (jv 0), .int (iv 0)]) (c_X12_emit ω l μ227 24 0 0 (by unfold ir; omega) (by unfold jr; omega) (by unfold ir; omega) (by omega)) (wm 9 126 rfl rfl) (wm 9 128 rfl rfl) (wm 0 144 rfl rfl) rfl rfl (by decide) rfl (wm 1 18 rfl rfl) (wm 9 129 rfl rfl) (by decide) hR ⟨nfr hF (by decide), nlo hLo (by decide)⟩ (n := 3) rfl rfl (Nat.le_of_ble_eq_true rfl) hl.1 dX12_unary_159 (fun r_241 μ240 ρ d0 H locs hr_r_241 hp G => ?_)
            have hr_r_241 : -2147483648 ≤ r_241 ∧ r_241 ≤ 2147483647 := hr_r_241
            obtain ⟨F_242, hp_243, hp_244, hp_245, hp_246⟩ := hp
            have hxt_247 : mEXT μ μ240 := hxt_233.tr hp_244.1
            refine lv_pop hx hb dX12_unary_162 rfl ?_
            refine lv_aload_n hx hb dX12_unary_163 rfl (lv_at hl 4 rfl) ?_
            refine lv_iload hx hb dX12_unary_164 (lv_at hl 1 rfl) ?_
            have e_248 : μ240.1 111 29 = μ189.1 111 29 := ((hp_243 29 (by decide)).trans ((hp_230 29 (by decide)).trans (hp_208 29 (by decide))))
            refine xc_vV G (b := 111) (rest := []) (As := [.int (iv r_136)]) (c_X12_landsSkip ω l μ240 r_136 (by unfold ir; omega) (by omega) (by omega)) (wm 9 163 rfl rfl) (wm 9 165 rfl rfl) (wm 0 153 rfl rfl) rfl rfl (by decide) rfl (wm 1 18 rfl rfl) (wm 9 166 rfl rfl) (by decide) hR ⟨nfr hF (by decide), nlo hLo (by decide)⟩ (n := 1) rfl rfl (Nat.le_of_ble_eq_true rfl) hl.1 dX12_unary_166 (fun μ249 ρ d0 H locs hp G => ?_)
            obtain ⟨F_250, hp_251, hp_252⟩ := hp
            have e_254 : μ249.1 111 22 = μ240.1 111 22 := (F_250.1 111 (by decide) 22)
            have hxt_253 : mEXT μ μ249 := hxt_247.aim hp_251 (by omega)
            refine lv_aload_n hx hb dX12_unary_169 rfl (lv_at hl 4 rfl) ?_
            refine lv_iload hx hb dX12_unary_170 (lv_at hl 0 rfl) ?_
            have e_255 : μ249.1 111 29 = μ189.1 111 29 := ((F_250.1 111 (by decide) 29).trans ((hp_243 29 (by decide)).trans ((hp_230 29 (by decide)).trans (hp_208 29 (by decide)))))
            have e_256 : μ249.1 111 22 = μ240.1 111 22 := (F_250.1 111 (by decide) 22)
            have e_257 : μ249.1 111 22 = μ240.1 111 22 := (F_250.1 111 (by decide) 22)
            have e_258 : μ249.1 111 22 = μ240.1 111 22 := (F_250.1 111 (by decide) 22)
            have e_259 : μ249.1 111 22 = μ240.1 111 22 := (F_250.1 111 (by decide) 22)
            have e_260 : μ249.1 111 22 = μ240.1 111 22 := (F_250.1 111 (by decide) 22)
            refine xc_vV G (b := 111) (rest := []) (As := [.int (iv r_228)]) (c_X12_landsSkip ω l μ249 r_228 (by unfold ir; omega) (by omega) (by omega)) (wm 9 163 rfl rfl) (wm 9 165 rfl rfl) (wm 0 153 rfl rfl) rfl rfl (by decide) rfl (wm 1 18 rfl rfl) (wm 9 166 rfl rfl) (by decide) hR ⟨nfr hF (by decide), nlo hLo (by decide)⟩ (n := 1) rfl rfl (Nat.le_of_ble_eq_true rfl) hl.1 dX12_unary_172 (fun μ261 ρ d0 H locs hp G => ?_)
            obtain ⟨F_262, hp_263, hp_264⟩ := hp
            have e_266 : μ261.1 111 22 = μ240.1 111 22 := ((F_262.1 111 (by decide) 22).trans (F_250.1 111 (by decide) 22))
            have hxt_265 : mEXT μ μ261 := hxt_253.aim hp_263 (by omega)
            have e_267 : wr μ261 = wr μ206 := ((wr_cg (F_262.1 111 (by decide) 15)).trans ((wr_cg (F_250.1 111 (by decide) 15)).trans ((wr_cg (hp_243 15 (by decide))).trans (wr_cg (hp_230 15 (by decide))))))
            have e_268 : bd μ261 = bd μ206 := ((bd_cg (F_262.1 111 (by decide) 15) (F_262.1 111 (by decide) 16)).trans ((bd_cg (F_250.1 111 (by decide) 15) (F_250.1 111 (by decide) 16)).trans ((bd_cg (hp_243 15 (by decide)) (hp_243 16 (by decide))).trans (bd_cg (hp_230 15 (by decide)) (hp_230 16 (by decide))))))
            have e_269 : nn μ261 = nn μ206 := ((nn_cg (F_262.1 111 (by decide) 15) (F_262.1 111 (by decide) 18)).trans ((nn_cg (F_250.1 111 (by decide) 15) (F_250.1 111 (by decide) 18)).trans ((nn_cg (hp_243 15 (by decide)) (hp_243 18 (by decide))).trans (nn_cg (hp_230 15 (by decide)) (hp_230 18 (by decide))))))
            have e_271 : μ261.1 111 29 = μ189.1 111 29 := ((F_262.1 111 (by decide) 29).trans ((F_250.1 111 (by decide) 29).trans ((hp_243 29 (by decide)).trans ((hp_230 29 (by decide)).trans (hp_208 29 (by decide))))))
            have hX_270 : ∀ _ : Unit, bd μ261 = 0 → mPX μ μ261 tt 1 1 (11 * (9 - nn μ) - 3) [] := fun _ h0 => mPX.of (as_get ((hX_217 ()) (by have e9 : bd μ206 = bd μ206 := rfl; have e8 : bd μ261 = bd μ206 := ((bd_cg (F_262.1 111 (by decide) 15) (F_262.1 111 (by decide) 16)).trans ((bd_cg (F_250.1 111 (by decide) 15) (F_250.1 111 (by decide) 16)).trans ((bd_cg (hp_243 15 (by decide)) (hp_243 16 (by decide))).trans (bd_cg (hp_230 15 (by decide)) (hp_230 16 (by decide)))))); omega)) (hp_231 ()) hp_244 hp_251 hp_263)
            refine lv_goto (tgt := 184) hx hb dX12_unary_175 (by decide) ?_
            refine lv_goto (tgt := 206) hx hb dX12_unary_184 (by decide) ?_
            have e_272 : μ261.1 111 22 = μ240.1 111 22 := ((F_262.1 111 (by decide) 22).trans (F_250.1 111 (by decide) 22))
            have e_273 : μ261.1 111 9 = μ206.1 111 9 := ((F_262.1 111 (by decide) 9).trans ((F_250.1 111 (by decide) 9).trans ((hp_243 9 (by decide)).trans (hp_230 9 (by decide)))))
            have e_274 : μ261.1 111 29 = μ189.1 111 29 := ((F_262.1 111 (by decide) 29).trans ((F_250.1 111 (by decide) 29).trans ((hp_243 29 (by decide)).trans ((hp_230 29 (by decide)).trans (hp_208 29 (by decide))))))
            have e_275 : μ261.1 111 39 = μ189.1 111 39 := ((F_262.1 111 (by decide) 39).trans ((F_250.1 111 (by decide) 39).trans ((hp_243 39 (by decide)).trans ((hp_230 39 (by decide)).trans (hp_208 39 (by decide))))))
            have e_276 : wr μ261 = wr μ206 := ((wr_cg (F_262.1 111 (by decide) 15)).trans ((wr_cg (F_250.1 111 (by decide) 15)).trans ((wr_cg (hp_243 15 (by decide))).trans (wr_cg (hp_230 15 (by decide))))))
            have e_277 : bd μ261 = bd μ206 := ((bd_cg (F_262.1 111 (by decide) 15) (F_262.1 111 (by decide) 16)).trans ((bd_cg (F_250.1 111 (by decide) 15) (F_250.1 111 (by decide) 16)).trans ((bd_cg (hp_243 15 (by decide)) (hp_243 16 (by decide))).trans (bd_cg (hp_230 15 (by decide)) (hp_230 16 (by decide))))))
            have e_278 : nn μ261 = nn μ206 := ((nn_cg (F_262.1 111 (by decide) 15) (F_262.1 111 (by decide) 18)).trans ((nn_cg (F_250.1 111 (by decide) 15) (F_250.1 111 (by decide) 18)).trans ((nn_cg (hp_243 15 (by decide)) (hp_243 18 (by decide))).trans (nn_cg (hp_230 15 (by decide)) (hp_230 18 (by decide))))))
            have hPM_279 : PM μ261 := hp_209.cg ((((F_262.1 111 (by decide) 4).trans ((F_250.1 111 (by decide) 4).trans ((hp_243 4 (by decide)).trans ((hp_230 4 (by decide)).trans ((hp_208 4 (by decide)).trans ((hp_191 4 (by decide)).trans ((hp_162 4 (by decide)).trans ((hp_138 4 (by decide)).trans ((hp_123 4 (by decide)).trans ((hp_102 4 (by decide)).trans (hp_51 4 (by decide))))))))))))).trans (((hp_208 4 (by decide)).trans ((hp_191 4 (by decide)).trans ((hp_162 4 (by decide)).trans ((hp_138 4 (by decide)).trans ((hp_123 4 (by decide)).trans ((hp_102 4 (by decide)).trans (hp_51 4 (by decide))))))))).symm) ((F_262.1 111 (by decide) 6).trans ((F_250.1 111 (by decide) 6).trans ((hp_243 6 (by decide)).trans (hp_230 6 (by decide))))) ((((F_262.1 111 (by decide) 7).trans ((F_250.1 111 (by decide) 7).trans ((hp_243 7 (by decide)).trans ((hp_230 7 (by decide)).trans ((hp_208 7 (by decide)).trans ((hp_191 7 (by decide)).trans ((hp_162 7 (by decide)).trans ((hp_138 7 (by decide)).trans ((hp_123 7 (by decide)).trans ((hp_102 7 (by decide)).trans (hp_51 7 (by decide))))))))))))).trans (((hp_208 7 (by decide)).trans ((hp_191 7 (by decide)).trans ((hp_162 7 (by decide)).trans ((hp_138 7 (by decide)).trans ((hp_123 7 (by decide)).trans ((hp_102 7 (by decide)).trans (hp_51 7 (by decide))))))))).symm) ((F_262.1 111 (by decide) 8).trans ((F_250.1 111 (by decide) 8).trans ((hp_243 8 (by decide)).trans (hp_230 8 (by decide))))) ((F_262.1 111 (by decide) 9).trans ((F_250.1 111 (by decide) 9).trans ((hp_243 9 (by decide)).trans (hp_230 9 (by decide))))) ((F_262.1 111 (by decide) 11).trans ((F_250.1 111 (by decide) 11).trans ((hp_243 11 (by decide)).trans (hp_230 11 (by decide))))) ((F_262.1 111 (by decide) 12).trans ((F_250.1 111 (by decide) 12).trans ((hp_243 12 (by decide)).trans (hp_230 12 (by decide))))) ((((F_262.1 111 (by decide) 14).trans ((F_250.1 111 (by decide) 14).trans ((hp_243 14 (by decide)).trans ((hp_230 14 (by decide)).trans ((hp_208 14 (by decide)).trans ((hp_191 14 (by decide)).trans ((hp_162 14 (by decide)).trans ((hp_138 14 (by decide)).trans ((hp_123 14 (by decide)).trans ((hp_102 14 (by decide)).trans ((hp_51 14 (by decide)).trans htt.symm)))))))))))).trans (((hp_208 14 (by decide)).trans ((hp_191 14 (by decide)).trans ((hp_162 14 (by decide)).trans ((hp_138 14 (by decide)).trans ((hp_123 14 (by decide)).trans ((hp_102 14 (by decide)).trans ((hp_51 14 (by decide)).trans htt.symm)))))))).symm) ((F_262.1 111 (by decide) 15).trans ((F_250.1 111 (by decide) 15).trans ((hp_243 15 (by decide)).trans (hp_230 15 (by decide))))) ((((F_262.1 111 (by decide) 29).trans ((F_250.1 111 (by decide) 29).trans ((hp_243 29 (by decide)).trans ((hp_230 29 (by decide)).trans (hp_208 29 (by decide))))))).trans ((hp_208 29 (by decide))).symm) (fun j => ((F_262.1 123 (by decide) j).trans ((F_250.1 123 (by decide) j).trans ((F_242.1 123 (by decide) j).trans (F_229.1 123 (by decide) j)))))
            have e_280 : μ261.1 111 22 = μ240.1 111 22 := ((F_262.1 111 (by decide) 22).trans (F_250.1 111 (by decide) 22))
            have e_281 : μ261.1 111 22 = μ240.1 111 22 := ((F_262.1 111 (by decide) 22).trans (F_250.1 111 (by decide) 22))
            have e_282 : μ261.1 111 9 = μ206.1 111 9 := ((F_262.1 111 (by decide) 9).trans ((F_250.1 111 (by decide) 9).trans ((hp_243 9 (by decide)).trans (hp_230 9 (by decide)))))
            have e_283 : wr μ261 = wr μ206 := ((wr_cg (F_262.1 111 (by decide) 15)).trans ((wr_cg (F_250.1 111 (by decide) 15)).trans ((wr_cg (hp_243 15 (by decide))).trans (wr_cg (hp_230 15 (by decide))))))
            have e_284 : μ261.1 111 9 = μ206.1 111 9 := ((F_262.1 111 (by decide) 9).trans ((F_250.1 111 (by decide) 9).trans ((hp_243 9 (by decide)).trans (hp_230 9 (by decide)))))
            have e_285 : μ261.1 111 29 = μ189.1 111 29 := ((F_262.1 111 (by decide) 29).trans ((F_250.1 111 (by decide) 29).trans ((hp_243 29 (by decide)).trans ((hp_230 29 (by decide)).trans (hp_208 29 (by decide))))))
            have e_286 : wr μ261 = wr μ206 := ((wr_cg (F_262.1 111 (by decide) 15)).trans ((wr_cg (F_250.1 111 (by decide) 15)).trans ((wr_cg (hp_243 15 (by decide))).trans (wr_cg (hp_230 15 (by decide))))))
            have e_287 : bd μ261 = bd μ206 := ((bd_cg (F_262.1 111 (by decide) 15) (F_262.1 111 (by decide) 16)).trans ((bd_cg (F_250.1 111 (by decide) 15) (F_250.1 111 (by decide) 16)).trans ((bd_cg (hp_243 15 (by decide)) (hp_243 16 (by decide))).trans (bd_cg (hp_230 15 (by decide)) (hp_230 16 (by decide))))))
            have e_288 : wr μ261 = wr μ206 := ((wr_cg (F_262.1 111 (by decide) 15)).trans ((wr_cg (F_250.1 111 (by decide) 15)).trans ((wr_cg (hp_243 15 (by decide))).trans (wr_cg (hp_230 15 (by decide))))))
            have e_289 : nn μ261 = nn μ206 := ((nn_cg (F_262.1 111 (by decide) 15) (F_262.1 111 (by decide) 18)).trans ((nn_cg (F_250.1 111 (by decide) 15) (F_250.1 111 (by decide) 18)).trans ((nn_cg (hp_243 15 (by decide)) (hp_243 18 (by decide))).trans (nn_cg (hp_230 15 (by decide)) (hp_230 18 (by decide))))))
            have e_290 : μ261.1 111 39 = μ189.1 111 39 := ((F_262.1 111 (by decide) 39).trans ((F_250.1 111 (by decide) 39).trans ((hp_243 39 (by decide)).trans ((hp_230 39 (by decide)).trans (hp_208 39 (by decide))))))
            exact xr_v G hret hlk dX12_unary_206 ⟨(Fr.tr (Fr.tr (Fr.tr (Fr.tr (Fr.tr (Fr.tr (Fr.tr (Fr.tr (Fr.tr (Fr.tr (Fr.tr Fr.rf F_50 (by decide)) F_101 (by decide)) F_122 (by decide)) F_137 (by decide)) F_161 (by decide)) F_190 (by decide)) F_207 (by decide)) F_229 (by decide)) F_242 (by decide)) F_250 (by decide)) F_262 (by decide)), (fun j hj => ((F_262.1 111 (by decide) j).trans ((F_250.1 111 (by decide) j).trans ((hp_243 j (fun h9 => hj ((by decide : ∀ x ∈ ([22] : List Int), x ∈ ([6, 8, 9, 10, 11, 12, 13, 15, 16, 17, 18, 22, 29, 39] : List Int)) j h9))).trans ((hp_230 j (fun h9 => hj ((by decide : ∀ x ∈ ([22] : List Int), x ∈ ([6, 8, 9, 10, 11, 12, 13, 15, 16, 17, 18, 22, 29, 39] : List Int)) j h9))).trans ((hp_208 j (fun h9 => hj ((by decide : ∀ x ∈ ([6, 8, 9, 10, 11, 12, 13, 15, 18] : List Int), x ∈ ([6, 8, 9, 10, 11, 12, 13, 15, 16, 17, 18, 22, 29, 39] : List Int)) j h9))).trans ((hp_191 j (fun h9 => hj ((by decide : ∀ x ∈ ([6, 8, 9, 10, 11, 12, 13, 15, 16, 17, 18, 22, 29, 39] : List Int), x ∈ ([6, 8, 9, 10, 11, 12, 13, 15, 16, 17, 18, 22, 29, 39] : List Int)) j h9))).trans ((hp_162 j (fun h9 => hj ((by decide : ∀ x ∈ ([6, 8, 9, 10, 11, 12, 13, 15, 18] : List Int), x ∈ ([6, 8, 9, 10, 11, 12, 13, 15, 16, 17, 18, 22, 29, 39] : List Int)) j h9))).trans ((hp_138 j (fun h9 => hj ((by decide : ∀ x ∈ ([22] : List Int), x ∈ ([6, 8, 9, 10, 11, 12, 13, 15, 16, 17, 18, 22, 29, 39] : List Int)) j h9))).trans ((hp_123 j (fun h9 => hj ((by decide : ∀ x ∈ ([22] : List Int), x ∈ ([6, 8, 9, 10, 11, 12, 13, 15, 16, 17, 18, 22, 29, 39] : List Int)) j h9))).trans ((hp_102 j (fun h9 => hj ((by decide : ∀ x ∈ ([17] : List Int), x ∈ ([6, 8, 9, 10, 11, 12, 13, 15, 16, 17, 18, 22, 29, 39] : List Int)) j h9))).trans (hp_51 j (fun h9 => hj ((by decide : ∀ x ∈ ([6, 8, 9, 10, 11, 12, 13, 15] : List Int), x ∈ ([6, 8, 9, 10, 11, 12, 13, 15, 16, 17, 18, 22, 29, 39] : List Int)) j h9)))))))))))))), hPM_279, (by omega), (by omega), (by omega), (by omega), (by omega), (by omega), (fun j hj => ((F_262.1 126 (by decide) j).trans ((F_250.1 126 (by decide) j).trans ((F_242.1 126 (by decide) j).trans ((F_229.1 126 (by decide) j).trans ((F_207.1 126 (by decide) j).trans ((hp_199 j (by omega)).trans ((F_161.1 126 (by decide) j).trans ((F_137.1 126 (by decide) j).trans ((F_122.1 126 (by decide) j).trans ((F_101.1 126 (by decide) j).trans (F_50.1 126 (by decide) j)))))))))))), (fun _ h0 => (mPX.ex ((hX_270 ()) h0)).e (by omega)), hxt_265⟩
      · refine lv_aload_n hx hb dX12_unary_64 rfl (lv_at hl 0 rfl) ?_
        refine lv_iconst (v := iv 1) hx hb dX12_unary_65 rfl ?_
        refine lv_aload_n hx hb dX12_unary_66 rfl (lv_at hl 0 rfl) ?_
        refine xa_getl G fd_X12 (a := 111) (x := μ.1 111 12) 12 rfl (by decide) rfl (wm 7 161 rfl rfl) ⟨rfl, rfl, rfl⟩ dX12_unary_67 rfl rfl ?_
        have hj_291 : jr (μ.1 111 12) := by have h9 := G.hj (a := 111) (k := 12) rfl; exact h9
        refine lv_iconst (v := iv 0) hx hb dX12_unary_70 rfl ?_
        refine xc_iV G (b := 111) (rest := []) (As := [.int (iv 1), .long (jv (μ.1 111 12)), .int (iv 0)]) (c_X12_emit ω l μ 1 (μ.1 111 12) 0 (by unfold ir; omega) hj_291 (by unfold ir; omega) (by omega)) (wm 9 126 rfl rfl) (wm 9 128 rfl rfl) (wm 0 144 rfl rfl) rfl rfl (by decide) rfl (wm 1 18 rfl rfl) (wm 9 129 rfl rfl) (by decide) hR ⟨nfr hF (by decide), nlo hLo (by decide)⟩ (n := 3) rfl rfl (Nat.le_of_ble_eq_true rfl) hl.1 dX12_unary_71 (fun r_293 μ292 ρ d0 H locs hr_r_293 hp G => ?_)
        have hr_r_293 : -2147483648 ≤ r_293 ∧ r_293 ≤ 2147483647 := hr_r_293
        obtain ⟨F_294, hp_295, hp_296, hp_297, hp_298⟩ := hp
        have hxt_299 : mEXT μ μ292 := (mEXT.rf (μ := μ)).tr hp_296.1
        have e_300 : wr μ292 = wr μ := (wr_cg (hp_295 15 (by decide)))
        have e_301 : bd μ292 = bd μ := (bd_cg (hp_295 15 (by decide)) (hp_295 16 (by decide)))
        have e_302 : nn μ292 = nn μ := (nn_cg (hp_295 15 (by decide)) (hp_295 18 (by decide)))
        have e_304 : μ292.1 111 29 = μ.1 111 29 := (hp_295 29 (by decide))
        have hX_303 : ∀ _ : Unit, bd μ292 = 0 → mPX μ μ292 tt 1 1 (11 * (9 - nn μ) - 3) [] := fun _ h0 => ((((hX_1 ()) (by have e9 : bd μ = bd μ := rfl; have e8 : bd μ292 = bd μ := (bd_cg (hp_295 15 (by decide)) (hp_295 16 (by decide))); omega))).app (mAD.ex (t := tt) (e := 1) hp_296 ((hX_1 ()) (by have e9 : bd μ = bd μ := rfl; have e8 : bd μ292 = bd μ := (bd_cg (hp_295 15 (by decide)) (hp_295 16 (by decide))); omega)).h1.1 (by unfold mpl; omega) rfl (by have h9 := ((hX_1 ()) (by have e9 : bd μ = bd μ := rfl; have e8 : bd μ292 = bd μ := (bd_cg (hp_295 15 (by decide)) (hp_295 16 (by decide))); omega)).h1; omega) ⟨fun _ q => (hPM.1.2.2.2.2.2 (by omega) (by omega) (wr_0.1 (by omega))), fun q => absurd q (by decide), fun q => absurd q (by decide), fun q => absurd q (by decide), fun q => absurd q (by decide), fun q => absurd q (by decide), fun q => absurd q (by decide), fun q => absurd q (by decide), fun q => absurd q (by decide), fun q => absurd q (by decide), fun q => absurd q (by decide), fun q => absurd q (by decide), fun q => absurd q (by decide), fun q => absurd q (by decide), fun q => absurd q (by decide), fun q => absurd q (by decide), fun q => absurd q (by decide), fun q => absurd q (by decide), fun q => absurd q (by decide), fun q => absurd q (by decide), fun q => absurd q (by decide), fun q => absurd q (by decide), ⟨by decide, by decide⟩⟩) (by have h9 := ((hX_1 ()) (by have e9 : bd μ = bd μ := rfl; have e8 : bd μ292 = bd μ := (bd_cg (hp_295 15 (by decide)) (hp_295 16 (by decide))); omega)).h1; omega)).ee (by omega)
        refine lv_pop hx hb dX12_unary_74 rfl ?_
        refine lv_aload_n hx hb dX12_unary_75 rfl (lv_at hl 0 rfl) ?_
        have hPM_305 : PM μ292 := hPM.cg (hp_295 4 (by decide)) (hp_295 6 (by decide)) (hp_295 7 (by decide)) (hp_295 8 (by decide)) (hp_295 9 (by decide)) (hp_295 11 (by decide)) (hp_295 12 (by decide)) ((((hp_295 14 (by decide)).trans htt.symm)).trans (htt.symm).symm) (hp_295 15 (by decide)) (hp_295 29 (by decide)) (fun j => (F_294.1 123 (by decide) j))
        have e_306 : wr μ292 = wr μ := (wr_cg (hp_295 15 (by decide)))
        have e_307 : nn μ292 = nn μ := (nn_cg (hp_295 15 (by decide)) (hp_295 18 (by decide)))
        have e_308 : μ292.1 111 8 = μ.1 111 8 := (hp_295 8 (by decide))
        have e_309 : wr μ292 = wr μ := (wr_cg (hp_295 15 (by decide)))
        have e_310 : μ292.1 111 9 = μ.1 111 9 := (hp_295 9 (by decide))
        have e_311 : wr μ292 = wr μ := (wr_cg (hp_295 15 (by decide)))
        have e_312 : wr μ292 = wr μ := (wr_cg (hp_295 15 (by decide)))
        have e_313 : bd μ292 = bd μ := (bd_cg (hp_295 15 (by decide)) (hp_295 16 (by decide)))
        have e_314 : nn μ292 = nn μ := (nn_cg (hp_295 15 (by decide)) (hp_295 18 (by decide)))
        refine xc_vV G (b := 111) (rest := []) (As := []) (c_X12_next ω l μ292  hPM_305 (by omega) (by omega)) (wm 9 0 rfl rfl) (wm 9 2 rfl rfl) (wm 0 119 rfl rfl) rfl rfl (by decide) rfl (wm 1 18 rfl rfl) (wm 9 3 rfl rfl) (by decide) hR ⟨nfr hF (by decide), nlo hLo (by decide)⟩ (n := 0) rfl rfl (Nat.le_of_ble_eq_true rfl) hl.1 dX12_unary_76 (fun μ315 ρ d0 H locs hp G => ?_)
        obtain ⟨F_316, hp_317, hp_318, hp_319, hp_320, hp_321⟩ := hp
        have hpl_322 := hp_318.pl
        have hw_323 := wr_r (μ := μ292)
        have hw_324 := wr_r (μ := μ315)
        refine lv_goto (tgt := 206) hx hb dX12_unary_79 (by decide) ?_
        have e_325 : μ315.1 111 22 = μ292.1 111 22 := (hp_317 22 (by decide))
        have e_326 : μ315.1 111 29 = μ.1 111 29 := ((hp_317 29 (by decide)).trans (hp_295 29 (by decide)))
        have e_327 : μ315.1 111 39 = μ.1 111 39 := ((hp_317 39 (by decide)).trans (hp_295 39 (by decide)))
        have e_328 : μ315.1 111 29 = μ.1 111 29 := ((hp_317 29 (by decide)).trans (hp_295 29 (by decide)))
        have e_330 : μ315.1 111 29 = μ.1 111 29 := ((hp_317 29 (by decide)).trans (hp_295 29 (by decide)))
        have hX_329 : ∀ _ : Unit, bd μ315 = 0 → mPX μ μ315 tt 1 1 (11 * (9 - nn μ) - 3) [] := fun _ h0 => (hX_303 () (by have e9 : bd μ292 = bd μ := (bd_cg (hp_295 15 (by decide)) (hp_295 16 (by decide))); have e8 : bd μ315 = bd μ315 := rfl; omega)).qm (q0m.fr (K := [111]) (Fr.tr Fr.rf F_316 (by decide)) (by decide) (by decide) (by decide) (hp_317 22 (by decide)) (by omega))
        have e_331 : μ315.1 111 29 = μ.1 111 29 := ((hp_317 29 (by decide)).trans (hp_295 29 (by decide)))
        have hxt_332 : mEXT μ μ315 := hxt_299.tr (q0m.fr (K := [111]) (Fr.tr Fr.rf F_316 (by decide)) (by decide) (by decide) (by decide) (hp_317 22 (by decide)) (by omega)).1
        have e_333 : μ315.1 111 22 = μ292.1 111 22 := (hp_317 22 (by decide))
        have e_334 : μ315.1 111 22 = μ292.1 111 22 := (hp_317 22 (by decide))
        have e_335 : μ315.1 111 29 = μ.1 111 29 := ((hp_317 29 (by decide)).trans (hp_295 29 (by decide)))
        have e_336 : μ315.1 111 39 = μ.1 111 39 := ((hp_317 39 (by decide)).trans (hp_295 39 (by decide)))
        exact xr_v G hret hlk dX12_unary_206 ⟨(Fr.tr (Fr.tr Fr.rf F_294 (by decide)) F_316 (by decide)), (fun j hj => ((hp_317 j (fun h9 => hj ((by decide : ∀ x ∈ ([6, 8, 9, 10, 11, 12, 13, 15] : List Int), x ∈ ([6, 8, 9, 10, 11, 12, 13, 15, 16, 17, 18, 22, 29, 39] : List Int)) j h9))).trans (hp_295 j (fun h9 => hj ((by decide : ∀ x ∈ ([22] : List Int), x ∈ ([6, 8, 9, 10, 11, 12, 13, 15, 16, 17, 18, 22, 29, 39] : List Int)) j h9))))), hp_318, (by omega), (by omega), (by omega), (by omega), (by omega), (by omega), (fun j hj => ((F_316.1 126 (by decide) j).trans (F_294.1 126 (by decide) j))), (fun _ h0 => (mPX.ex ((hX_329 ()) h0)).e (by omega)), hxt_332⟩
    · exact xr_v G hret hlk dX12_unary_55 ⟨Fr.rf, (fun j hj => rfl), hPM, (by omega), (by omega), (by omega), (by omega), (by omega), (by omega), (fun j hj => rfl), (fun _ h0 => (mPX.ex ((hX_1 ()) h0)).e (by omega)), (mEXT.rf (μ := μ))⟩
  · refine lv_aload_n hx hb dX12_unary_9 rfl (lv_at hl 0 rfl) ?_
    refine xc_vV G (b := 111) (rest := []) (As := []) (c_X12_opens ω l μ  hPM (by omega) (by omega) (by omega)) (wm 9 94 rfl rfl) (wm 9 96 rfl rfl) (wm 0 136 rfl rfl) rfl rfl (by decide) rfl (wm 1 18 rfl rfl) (wm 9 97 rfl rfl) (by decide) hR ⟨nfr hF (by decide), nlo hLo (by decide)⟩ (n := 0) rfl rfl (Nat.le_of_ble_eq_true rfl) hl.1 dX12_unary_10 (fun μ337 ρ d0 H locs hp G => ?_)
    obtain ⟨F_338, hp_339, hp_340, hp_341, hp_342, hp_343, hp_344⟩ := hp
    have hpl_345 := hp_340.pl
    have hw_346 := wr_r (μ := μ337)
    refine lv_aload_n hx hb dX12_unary_13 rfl (lv_at hl 0 rfl) ?_
    have e_347 : μ337.1 111 29 = μ.1 111 29 := (hp_339 29 (by decide))
    have e_349 : μ337.1 111 29 = μ.1 111 29 := (hp_339 29 (by decide))
    have hX_348 : ∀ _ : Unit, bd μ337 = 0 → mPX μ μ337 tt 0 1 (11 * (9 - nn μ) - 3) [] := fun _ h0 => (hX_1 () (by have e9 : bd μ = bd μ := rfl; have e8 : bd μ337 = bd μ337 := rfl; omega)).qm (q0m.fr (K := [111]) (Fr.tr Fr.rf F_338 (by decide)) (by decide) (by decide) (by decide) (hp_339 22 (by decide)) (by omega))
    have e_350 : μ337.1 111 29 = μ.1 111 29 := (hp_339 29 (by decide))
    have e_351 : μ337.1 111 29 = μ.1 111 29 := (hp_339 29 (by decide))
    have hxt_352 : mEXT μ μ337 := (q0m.fr (K := [111]) (Fr.tr Fr.rf F_338 (by decide)) (by decide) (by decide) (by decide) (hp_339 22 (by decide)) (by omega)).1
    have e_353 : μ337.1 111 14 = tt := ((hp_339 14 (by decide)).trans htt.symm)
    have e_354 : μ337.1 111 22 = μ.1 111 22 := (hp_339 22 (by decide))
    have e_355 : μ337.1 111 22 = μ.1 111 22 := (hp_339 22 (by decide))
    have e_356 : μ337.1 111 39 = μ.1 111 39 := (hp_339 39 (by decide))
    have e_357 : μ337.1 111 39 = μ.1 111 39 := (hp_339 39 (by decide))
    have e_358 : μ337.1 111 22 = μ.1 111 22 := (hp_339 22 (by decide))
    have e_359 : μ337.1 111 31 = μ.1 111 31 := (hp_339 31 (by decide))
    have e_360 : μ337.1 111 31 = μ.1 111 31 := (hp_339 31 (by decide))
    have e_361 : μ337.1 111 22 = μ.1 111 22 := (hp_339 22 (by decide))
    have e_362 : μ337.1 111 22 = μ.1 111 22 := (hp_339 22 (by decide))
    have e_363 : μ337.1 111 29 = μ.1 111 29 := (hp_339 29 (by decide))
    have e_364 : μ337.1 111 39 = μ.1 111 39 := (hp_339 39 (by decide))
    refine xc_vV G (b := 111) (rest := []) (As := []) (((fun (_ : Om) (_ : Launch) => hU)) ω l μ337 tt (by omega) hp_340 (by omega) (by omega) (by omega) (by omega) (by omega) (by omega) (fun _ h0 => ((hX_348 ()) h0).h1.1)) (wm 9 155 rfl rfl) (wm 9 157 rfl rfl) (wm 0 151 rfl rfl) rfl rfl (by decide) rfl (wm 1 18 rfl rfl) (wm 9 158 rfl rfl) (by decide) hR ⟨ufr hFu (by decide), ulo hLu (m := 6) (by decide)⟩ (n := 0) rfl rfl (Nat.le_of_ble_eq_true rfl) hl.1 dX12_unary_14 (fun μ365 ρ d0 H locs hp G => ?_)
    obtain ⟨F_366, hp_367, hp_368, hp_369, hp_370, hp_371, hp_372, hp_373, hp_374, hp_375, hp_376, hp_377⟩ := hp
    have hpl_378 := hp_368.pl
    have hw_379 := wr_r (μ := μ365)
    have hxt_380 : mEXT μ μ365 := hxt_352.tr hp_377
    have hX_381 : ∀ _ : Unit, bd μ365 = 0 → mPX μ μ365 tt 1 1 (11 * (9 - nn μ) - 3) [] := fun _ h0 => (((hX_348 ()) (by have e9 : bd μ337 = bd μ337 := rfl; have e8 : bd μ365 = bd μ365 := rfl; omega)).app (hp_376 () h0) (by omega)).ee (by omega)
    refine lv_aload_n hx hb dX12_unary_17 rfl (lv_at hl 0 rfl) ?_
    refine lv_iconst (v := iv 0) hx hb dX12_unary_18 rfl ?_
    have e_382 : μ365.1 111 14 = tt := ((hp_367 14 (by decide)).trans ((hp_339 14 (by decide)).trans htt.symm))
    refine xc_iV G (b := 111) (rest := []) (As := [.int (iv 0)]) (c_X12_skips ω l μ365 0 tt (by unfold ir; omega) (by omega) (by omega)) (wm 9 159 rfl rfl) (wm 9 161 rfl rfl) (wm 0 152 rfl rfl) rfl rfl (by decide) rfl (wm 1 18 rfl rfl) (wm 9 162 rfl rfl) (by decide) hR ⟨nfr hF (by decide), nlo hLo (by decide)⟩ (n := 1) rfl rfl (Nat.le_of_ble_eq_true rfl) hl.1 dX12_unary_19 (fun r_384 μ383 ρ d0 H locs hr_r_384 hp G => ?_)
    have hr_r_384 : -2147483648 ≤ r_384 ∧ r_384 ≤ 2147483647 := hr_r_384
    obtain ⟨F_385, hp_386, hp_387, hp_388⟩ := hp
    have hqr_r_384 : (r_384 = -1) ∨ (μ.1 111 22 ≤ r_384 ∧ r_384 < μ383.1 111 22) := by rcases hp_387 with ⟨q1, q2, q3, q4⟩ | ⟨q1, q2, q3⟩; (right; have := q2.2.1; omega); (left; exact q2)
    have hxt_389 : mEXT μ μ383 := hxt_380.tr hp_387.ext
    have e_390 : wr μ383 = wr μ365 := (wr_cg (hp_386 15 (by decide)))
    have e_391 : bd μ383 = bd μ365 := (bd_cg (hp_386 15 (by decide)) (hp_386 16 (by decide)))
    have e_392 : nn μ383 = nn μ365 := (nn_cg (hp_386 15 (by decide)) (hp_386 18 (by decide)))
    replace hp_387 := fun _ : Unit => hp_387
    have e_394 : μ383.1 111 29 = μ365.1 111 29 := (hp_386 29 (by decide))
    have hX_393 : ∀ _ : Unit, bd μ383 = 0 → mPX μ μ383 tt 1 1 (11 * (9 - nn μ) - 3) (lsk r_384 ++ []) := fun _ h0 => mPX.sk ((hX_381 ()) (by have e9 : bd μ365 = bd μ365 := rfl; have e8 : bd μ383 = bd μ365 := (bd_cg (hp_386 15 (by decide)) (hp_386 16 (by decide))); omega)) (hp_387 ()) (by omega) (by omega) (by decide)
    refine lv_istore_n (lv' := [(1, .int (iv r_384)), (0, .ref (oP ω 111))]) hx hb dX12_unary_22 rfl hl (by decide) rfl (fun ls hl => ?_)
    refine lv_aload_n hx hb dX12_unary_23 rfl (lv_at hl 1 rfl) ?_
    refine lv_bipush (v := iv 32) hx hb dX12_unary_24 rfl ?_
    refine lv_lconst (v := jv 0) hx hb dX12_unary_26 rfl ?_
    refine lv_iconst (v := iv 0) hx hb dX12_unary_27 rfl ?_
    have e_395 : μ383.1 111 29 = μ365.1 111 29 := (hp_386 29 (by decide))
    refine xc_iV G (b := 111) (rest := []) (As := [.int (iv 32), .long (jv 0), .int (iv 0)]) (c_X12_emit ω l μ383 32 0 0 (by unfold ir; omega) (by unfold jr; omega) (by unfold ir; omega) (by omega)) (wm 9 126 rfl rfl) (wm 9 128 rfl rfl) (wm 0 144 rfl rfl) rfl rfl (by decide) rfl (wm 1 18 rfl rfl) (wm 9 129 rfl rfl) (by decide) hR ⟨nfr hF (by decide), nlo hLo (by decide)⟩ (n := 3) rfl rfl (Nat.le_of_ble_eq_true rfl) hl.1 dX12_unary_28 (fun r_397 μ396 ρ d0 H locs hr_r_397 hp G => ?_)
    have hr_r_397 : -2147483648 ≤ r_397 ∧ r_397 ≤ 2147483647 := hr_r_397
    obtain ⟨F_398, hp_399, hp_400, hp_401, hp_402⟩ := hp
    have hxt_403 : mEXT μ μ396 := hxt_389.tr hp_400.1
    refine lv_pop hx hb dX12_unary_31 rfl ?_
    refine lv_aload_n hx hb dX12_unary_32 rfl (lv_at hl 1 rfl) ?_
    refine lv_iload_n hx hb dX12_unary_33 rfl (lv_at hl 0 rfl) ?_
    have e_404 : μ396.1 111 29 = μ365.1 111 29 := ((hp_399 29 (by decide)).trans (hp_386 29 (by decide)))
    refine xc_vV G (b := 111) (rest := []) (As := [.int (iv r_384)]) (c_X12_landsSkip ω l μ396 r_384 (by unfold ir; omega) (by omega) (by omega)) (wm 9 163 rfl rfl) (wm 9 165 rfl rfl) (wm 0 153 rfl rfl) rfl rfl (by decide) rfl (wm 1 18 rfl rfl) (wm 9 166 rfl rfl) (by decide) hR ⟨nfr hF (by decide), nlo hLo (by decide)⟩ (n := 1) rfl rfl (Nat.le_of_ble_eq_true rfl) hl.1 dX12_unary_34 (fun μ405 ρ d0 H locs hp G => ?_)
    obtain ⟨F_406, hp_407, hp_408⟩ := hp
    have e_410 : μ405.1 111 22 = μ396.1 111 22 := (F_406.1 111 (by decide) 22)
    have hxt_409 : mEXT μ μ405 := hxt_403.aim hp_407 (by omega)
    have e_411 : wr μ405 = wr μ365 := ((wr_cg (F_406.1 111 (by decide) 15)).trans ((wr_cg (hp_399 15 (by decide))).trans (wr_cg (hp_386 15 (by decide)))))
    have e_412 : bd μ405 = bd μ365 := ((bd_cg (F_406.1 111 (by decide) 15) (F_406.1 111 (by decide) 16)).trans ((bd_cg (hp_399 15 (by decide)) (hp_399 16 (by decide))).trans (bd_cg (hp_386 15 (by decide)) (hp_386 16 (by decide)))))
    have e_413 : nn μ405 = nn μ365 := ((nn_cg (F_406.1 111 (by decide) 15) (F_406.1 111 (by decide) 18)).trans ((nn_cg (hp_399 15 (by decide)) (hp_399 18 (by decide))).trans (nn_cg (hp_386 15 (by decide)) (hp_386 18 (by decide)))))
    have e_415 : μ405.1 111 29 = μ365.1 111 29 := ((F_406.1 111 (by decide) 29).trans ((hp_399 29 (by decide)).trans (hp_386 29 (by decide))))
    have hX_414 : ∀ _ : Unit, bd μ405 = 0 → mPX μ μ405 tt 1 1 (11 * (9 - nn μ) - 3) [] := fun _ h0 => mPX.of (as_part (mPX.ex ((hX_381 ()) (by have e9 : bd μ365 = bd μ365 := rfl; have e8 : bd μ405 = bd μ365 := ((bd_cg (F_406.1 111 (by decide) 15) (F_406.1 111 (by decide) 16)).trans ((bd_cg (hp_399 15 (by decide)) (hp_399 16 (by decide))).trans (bd_cg (hp_386 15 (by decide)) (hp_386 16 (by decide))))); omega))) (hp_387 ()) hp_400 (by decide) hp_407)
    refine lv_aload_n hx hb dX12_unary_37 rfl (lv_at hl 1 rfl) ?_
    refine lv_dup hx hb dX12_unary_38 rfl ?_
    have hnn_416 : (wr μ405 = 0 ∧ nn μ405 = μ405.1 111 18) ∨ (wr μ405 = 1 ∧ nn μ405 = 9) := nn_is
    have e_417 : μ405.1 111 18 = μ365.1 111 18 := ((F_406.1 111 (by decide) 18).trans ((hp_399 18 (by decide)).trans (hp_386 18 (by decide))))
    refine xa_geti G fd_X12 (a := 111) (x := μ365.1 111 18) 18 rfl (by decide) rfl (wm 7 167 rfl rfl) ⟨rfl, rfl, rfl⟩ dX12_unary_39 rfl ((F_406.1 111 (by decide) 18).trans ((hp_399 18 (by decide)).trans (hp_386 18 (by decide)))) ?_
    have hr_418 : -2147483648 ≤ μ365.1 111 18 ∧ μ365.1 111 18 ≤ 2147483647 := by have h9 := G.hr (a := 111) (k := 18) rfl; rw [show μ405.1 111 18 = μ365.1 111 18 from ((F_406.1 111 (by decide) 18).trans ((hp_399 18 (by decide)).trans (hp_386 18 (by decide))))] at h9; exact h9
    refine lv_iconst (v := iv 1) hx hb dX12_unary_42 rfl ?_
    refine xb_isub hx hb dX12_unary_43 ?_
    refine xb_topi (fun y_419 hr_y_419 he_y_419 => ?_)
    have hr_y_419 : -2147483648 ≤ y_419 ∧ y_419 ≤ 2147483647 := hr_y_419
    have hy9_ : ir ((μ365.1 111 18) - 1) → y_419 = (μ365.1 111 18) - 1 := fun h9 => (iv_eq hr_y_419 h9).mp he_y_419
    unfold ir at hy9_
    refine xa_puti G fd_X12 (a := 111) (x := y_419) 18 (kz := 18) rfl rfl (by decide) rfl (by unfold ir; omega) (wm 7 167 rfl rfl) ⟨rfl, rfl, rfl, rfl⟩ rfl dX12_unary_44 rfl (fun H locs G => ?_)
    have e_420 : (sv μ405 111 18 y_419).1 111 22 = μ396.1 111 22 := ((sv_n _ (by decide)).trans (F_406.1 111 (by decide) 22))
    have e_421 : (sv μ405 111 18 y_419).1 111 9 = μ365.1 111 9 := ((sv_n _ (by decide)).trans ((F_406.1 111 (by decide) 9).trans ((hp_399 9 (by decide)).trans (hp_386 9 (by decide)))))
    have e_422 : (sv μ405 111 18 y_419).1 111 29 = μ365.1 111 29 := ((sv_n _ (by decide)).trans ((F_406.1 111 (by decide) 29).trans ((hp_399 29 (by decide)).trans (hp_386 29 (by decide)))))
    have e_423 : (sv μ405 111 18 y_419).1 111 39 = μ365.1 111 39 := ((sv_n _ (by decide)).trans ((F_406.1 111 (by decide) 39).trans ((hp_399 39 (by decide)).trans (hp_386 39 (by decide)))))
    have e_424 : wr (sv μ405 111 18 y_419) = wr μ365 := ((wr_cg (sv_n _ (by decide))).trans ((wr_cg (F_406.1 111 (by decide) 15)).trans ((wr_cg (hp_399 15 (by decide))).trans (wr_cg (hp_386 15 (by decide))))))
    have e_425 : bd (sv μ405 111 18 y_419) = bd μ365 := ((bd_cg (sv_n _ (by decide)) (sv_n _ (by decide))).trans ((bd_cg (F_406.1 111 (by decide) 15) (F_406.1 111 (by decide) 16)).trans ((bd_cg (hp_399 15 (by decide)) (hp_399 16 (by decide))).trans (bd_cg (hp_386 15 (by decide)) (hp_386 16 (by decide))))))
    have e_426 : wr (sv μ405 111 18 y_419) = wr μ365 := ((wr_cg (sv_n _ (by decide))).trans ((wr_cg (F_406.1 111 (by decide) 15)).trans ((wr_cg (hp_399 15 (by decide))).trans (wr_cg (hp_386 15 (by decide))))))
    have e_427 : bd (sv μ405 111 18 y_419) = bd μ365 := ((bd_cg (sv_n _ (by decide)) (sv_n _ (by decide))).trans ((bd_cg (F_406.1 111 (by decide) 15) (F_406.1 111 (by decide) 16)).trans ((bd_cg (hp_399 15 (by decide)) (hp_399 16 (by decide))).trans (bd_cg (hp_386 15 (by decide)) (hp_386 16 (by decide))))))
    have hnn_428 : (wr (sv μ405 111 18 y_419) = 0 ∧ nn (sv μ405 111 18 y_419) = (sv μ405 111 18 y_419).1 111 18) ∨ (wr (sv μ405 111 18 y_419) = 1 ∧ nn (sv μ405 111 18 y_419) = 9) := nn_is
    have e_429 : (sv μ405 111 18 y_419).1 111 18 = y_419 := (sv_s _ _ _ _)
    have e_430 : (sv μ405 111 18 y_419).1 111 18 = y_419 := (sv_s _ _ _ _)
    have e_431 : (sv μ405 111 18 y_419).1 111 29 = μ365.1 111 29 := ((sv_n _ (by decide)).trans ((F_406.1 111 (by decide) 29).trans ((hp_399 29 (by decide)).trans (hp_386 29 (by decide)))))
    have e_432 : wr (sv μ405 111 18 y_419) = wr μ365 := ((wr_cg (sv_n _ (by decide))).trans ((wr_cg (F_406.1 111 (by decide) 15)).trans ((wr_cg (hp_399 15 (by decide))).trans (wr_cg (hp_386 15 (by decide))))))
    have e_433 : bd (sv μ405 111 18 y_419) = bd μ365 := ((bd_cg (sv_n _ (by decide)) (sv_n _ (by decide))).trans ((bd_cg (F_406.1 111 (by decide) 15) (F_406.1 111 (by decide) 16)).trans ((bd_cg (hp_399 15 (by decide)) (hp_399 16 (by decide))).trans (bd_cg (hp_386 15 (by decide)) (hp_386 16 (by decide))))))
    have e_435 : (sv μ405 111 18 y_419).1 111 29 = μ365.1 111 29 := ((sv_n _ (by decide)).trans ((F_406.1 111 (by decide) 29).trans ((hp_399 29 (by decide)).trans (hp_386 29 (by decide)))))
    have hX_434 : ∀ _ : Unit, bd (sv μ405 111 18 y_419) = 0 → mPX μ (sv μ405 111 18 y_419) tt 1 1 (11 * (9 - nn μ) - 3) [] := fun _ h0 => (hX_414 () (by have e9 : bd μ405 = bd μ365 := ((bd_cg (F_406.1 111 (by decide) 15) (F_406.1 111 (by decide) 16)).trans ((bd_cg (hp_399 15 (by decide)) (hp_399 16 (by decide))).trans (bd_cg (hp_386 15 (by decide)) (hp_386 16 (by decide))))); have e8 : bd (sv μ405 111 18 y_419) = bd μ365 := ((bd_cg (sv_n _ (by decide)) (sv_n _ (by decide))).trans ((bd_cg (F_406.1 111 (by decide) 15) (F_406.1 111 (by decide) 16)).trans ((bd_cg (hp_399 15 (by decide)) (hp_399 16 (by decide))).trans (bd_cg (hp_386 15 (by decide)) (hp_386 16 (by decide)))))); omega)).qm (q0m.fr (K := [111]) (Fr.put Fr.rf (by decide)) (by decide) (by decide) (by decide) ((((sv_n _ (by decide)).trans (F_406.1 111 (by decide) 22))).trans ((F_406.1 111 (by decide) 22)).symm) (by omega))
    have hPM_436 : PM (sv μ405 111 18 y_419) := hp_368.cg ((((sv_n _ (by decide)).trans ((F_406.1 111 (by decide) 4).trans ((hp_399 4 (by decide)).trans ((hp_386 4 (by decide)).trans ((hp_367 4 (by decide)).trans (hp_339 4 (by decide)))))))).trans (((hp_367 4 (by decide)).trans (hp_339 4 (by decide)))).symm) ((sv_n _ (by decide)).trans ((F_406.1 111 (by decide) 6).trans ((hp_399 6 (by decide)).trans (hp_386 6 (by decide))))) ((((sv_n _ (by decide)).trans ((F_406.1 111 (by decide) 7).trans ((hp_399 7 (by decide)).trans ((hp_386 7 (by decide)).trans ((hp_367 7 (by decide)).trans (hp_339 7 (by decide)))))))).trans (((hp_367 7 (by decide)).trans (hp_339 7 (by decide)))).symm) ((sv_n _ (by decide)).trans ((F_406.1 111 (by decide) 8).trans ((hp_399 8 (by decide)).trans (hp_386 8 (by decide))))) ((sv_n _ (by decide)).trans ((F_406.1 111 (by decide) 9).trans ((hp_399 9 (by decide)).trans (hp_386 9 (by decide))))) ((sv_n _ (by decide)).trans ((F_406.1 111 (by decide) 11).trans ((hp_399 11 (by decide)).trans (hp_386 11 (by decide))))) ((sv_n _ (by decide)).trans ((F_406.1 111 (by decide) 12).trans ((hp_399 12 (by decide)).trans (hp_386 12 (by decide))))) ((((sv_n _ (by decide)).trans ((F_406.1 111 (by decide) 14).trans ((hp_399 14 (by decide)).trans ((hp_386 14 (by decide)).trans ((hp_367 14 (by decide)).trans ((hp_339 14 (by decide)).trans htt.symm))))))).trans (((hp_367 14 (by decide)).trans ((hp_339 14 (by decide)).trans htt.symm))).symm) ((sv_n _ (by decide)).trans ((F_406.1 111 (by decide) 15).trans ((hp_399 15 (by decide)).trans (hp_386 15 (by decide))))) ((sv_n _ (by decide)).trans ((F_406.1 111 (by decide) 29).trans ((hp_399 29 (by decide)).trans (hp_386 29 (by decide))))) (fun j => ((sv_n _ (by omega)).trans ((F_406.1 123 (by decide) j).trans ((F_398.1 123 (by decide) j).trans (F_385.1 123 (by decide) j)))))
    have e_437 : (sv μ405 111 18 y_419).1 111 29 = μ365.1 111 29 := ((sv_n _ (by decide)).trans ((F_406.1 111 (by decide) 29).trans ((hp_399 29 (by decide)).trans (hp_386 29 (by decide)))))
    have hxt_438 : mEXT μ (sv μ405 111 18 y_419) := hxt_409.tr (q0m.fr (K := [111]) (Fr.put Fr.rf (by decide)) (by decide) (by decide) (by decide) ((((sv_n _ (by decide)).trans (F_406.1 111 (by decide) 22))).trans ((F_406.1 111 (by decide) 22)).symm) (by omega)).1
    have e_439 : (sv μ405 111 18 y_419).1 111 22 = μ396.1 111 22 := ((sv_n _ (by decide)).trans (F_406.1 111 (by decide) 22))
    have e_440 : (sv μ405 111 18 y_419).1 111 22 = μ396.1 111 22 := ((sv_n _ (by decide)).trans (F_406.1 111 (by decide) 22))
    have e_441 : (sv μ405 111 18 y_419).1 111 9 = μ365.1 111 9 := ((sv_n _ (by decide)).trans ((F_406.1 111 (by decide) 9).trans ((hp_399 9 (by decide)).trans (hp_386 9 (by decide)))))
    have e_442 : wr (sv μ405 111 18 y_419) = wr μ365 := ((wr_cg (sv_n _ (by decide))).trans ((wr_cg (F_406.1 111 (by decide) 15)).trans ((wr_cg (hp_399 15 (by decide))).trans (wr_cg (hp_386 15 (by decide))))))
    have e_443 : (sv μ405 111 18 y_419).1 111 9 = μ365.1 111 9 := ((sv_n _ (by decide)).trans ((F_406.1 111 (by decide) 9).trans ((hp_399 9 (by decide)).trans (hp_386 9 (by decide)))))
    have e_444 : (sv μ405 111 18 y_419).1 111 29 = μ365.1 111 29 := ((sv_n _ (by decide)).trans ((F_406.1 111 (by decide) 29).trans ((hp_399 29 (by decide)).trans (hp_386 29 (by decide)))))
    have e_445 : wr (sv μ405 111 18 y_419) = wr μ365 := ((wr_cg (sv_n _ (by decide))).trans ((wr_cg (F_406.1 111 (by decide) 15)).trans ((wr_cg (hp_399 15 (by decide))).trans (wr_cg (hp_386 15 (by decide))))))
    have e_446 : bd (sv μ405 111 18 y_419) = bd μ365 := ((bd_cg (sv_n _ (by decide)) (sv_n _ (by decide))).trans ((bd_cg (F_406.1 111 (by decide) 15) (F_406.1 111 (by decide) 16)).trans ((bd_cg (hp_399 15 (by decide)) (hp_399 16 (by decide))).trans (bd_cg (hp_386 15 (by decide)) (hp_386 16 (by decide))))))
    have e_447 : wr (sv μ405 111 18 y_419) = wr μ365 := ((wr_cg (sv_n _ (by decide))).trans ((wr_cg (F_406.1 111 (by decide) 15)).trans ((wr_cg (hp_399 15 (by decide))).trans (wr_cg (hp_386 15 (by decide))))))
    have e_448 : (sv μ405 111 18 y_419).1 111 39 = μ365.1 111 39 := ((sv_n _ (by decide)).trans ((F_406.1 111 (by decide) 39).trans ((hp_399 39 (by decide)).trans (hp_386 39 (by decide)))))
    exact xr_v G hret hlk dX12_unary_47 ⟨(Fr.put (Fr.tr (Fr.tr (Fr.tr (Fr.tr (Fr.tr Fr.rf F_338 (by decide)) F_366 (by decide)) F_385 (by decide)) F_398 (by decide)) F_406 (by decide)) (by decide)), (fun j hj => ((sv_n _ (fun h9 => hj (by rw [h9.2]; decide))).trans ((F_406.1 111 (by decide) j).trans ((hp_399 j (fun h9 => hj ((by decide : ∀ x ∈ ([22] : List Int), x ∈ ([6, 8, 9, 10, 11, 12, 13, 15, 16, 17, 18, 22, 29, 39] : List Int)) j h9))).trans ((hp_386 j (fun h9 => hj ((by decide : ∀ x ∈ ([22] : List Int), x ∈ ([6, 8, 9, 10, 11, 12, 13, 15, 16, 17, 18, 22, 29, 39] : List Int)) j h9))).trans ((hp_367 j (fun h9 => hj ((by decide : ∀ x ∈ ([6, 8, 9, 10, 11, 12, 13, 15, 16, 17, 18, 22, 29, 39] : List Int), x ∈ ([6, 8, 9, 10, 11, 12, 13, 15, 16, 17, 18, 22, 29, 39] : List Int)) j h9))).trans (hp_339 j (fun h9 => hj ((by decide : ∀ x ∈ ([6, 8, 9, 10, 11, 12, 13, 15, 18] : List Int), x ∈ ([6, 8, 9, 10, 11, 12, 13, 15, 16, 17, 18, 22, 29, 39] : List Int)) j h9))))))))), hPM_436, (by omega), (by omega), (by omega), (by omega), (by omega), (by omega), (fun j hj => ((sv_n _ (fun h9 => absurd h9.1 (by decide))).trans ((F_406.1 126 (by decide) j).trans ((F_398.1 126 (by decide) j).trans ((F_385.1 126 (by decide) j).trans ((hp_375 j (by omega)).trans (F_338.1 126 (by decide) j))))))), (fun _ h0 => (mPX.ex ((hX_434 ()) h0)).e (by omega)), hxt_438⟩
