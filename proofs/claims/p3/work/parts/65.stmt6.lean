abbrev cX7_statement : ByteArray := prog_9_method_22_code
def yX7_statement : MethodName := ⟨RX7, "statement", "()V"⟩
abbrev cX7_ownStatement : ByteArray := prog_9_method_23_code
def yX7_ownStatement : MethodName := ⟨RX7, "ownStatement", "()Z"⟩
abbrev cX7_nameFirst : ByteArray := prog_9_method_26_code
def yX7_nameFirst : MethodName := ⟨RX7, "nameFirst", "()V"⟩
theorem dX7_block_0 : decode cX7_block 0 = .ok (.aload_n 0, 1) := by decide +kernel
theorem dX7_block_1 : decode cX7_block 1 = .ok (.bipush 123, 2) := by decide +kernel
theorem dX7_block_3 : decode cX7_block 3 = .ok (.invokevirtual 164, 3) := by decide +kernel
theorem dX7_block_6 : decode cX7_block 6 = .ok (.iconst 0, 1) := by decide +kernel
theorem dX7_block_7 : decode cX7_block 7 = .ok (.istore_n 1, 1) := by decide +kernel
theorem dX7_block_8 : decode cX7_block 8 = .ok (.iload_n 1, 1) := by decide +kernel
theorem dX7_block_9 : decode cX7_block 9 = .ok (.sipush 3000, 3) := by decide +kernel
theorem dX7_block_12 : decode cX7_block 12 = .ok (.if_icmp .ge 36, 3) := by decide +kernel
theorem dX7_block_15 : decode cX7_block 15 = .ok (.aload_n 0, 1) := by decide +kernel
theorem dX7_block_16 : decode cX7_block 16 = .ok (.getfield 43, 3) := by decide +kernel
theorem dX7_block_19 : decode cX7_block 19 = .ok (.getfield 80, 3) := by decide +kernel
theorem dX7_block_22 : decode cX7_block 22 = .ok (.bipush 125, 2) := by decide +kernel
theorem dX7_block_24 : decode cX7_block 24 = .ok (.if_icmp .eq 24, 3) := by decide +kernel
theorem dX7_block_27 : decode cX7_block 27 = .ok (.aload_n 0, 1) := by decide +kernel
theorem dX7_block_28 : decode cX7_block 28 = .ok (.getfield 43, 3) := by decide +kernel
theorem dX7_block_31 : decode cX7_block 31 = .ok (.getfield 80, 3) := by decide +kernel
theorem dX7_block_34 : decode cX7_block 34 = .ok (.iconst 3, 1) := by decide +kernel
theorem dX7_block_35 : decode cX7_block 35 = .ok (.if_icmp .eq 13, 3) := by decide +kernel
theorem dX7_block_38 : decode cX7_block 38 = .ok (.aload_n 0, 1) := by decide +kernel
theorem dX7_block_39 : decode cX7_block 39 = .ok (.invokevirtual 179, 3) := by decide +kernel
theorem dX7_block_42 : decode cX7_block 42 = .ok (.iinc 1 1, 3) := by decide +kernel
theorem dX7_block_45 : decode cX7_block 45 = .ok (.goto (-37), 3) := by decide +kernel
theorem dX7_block_48 : decode cX7_block 48 = .ok (.aload_n 0, 1) := by decide +kernel
theorem dX7_block_49 : decode cX7_block 49 = .ok (.bipush 125, 2) := by decide +kernel
theorem dX7_block_51 : decode cX7_block 51 = .ok (.invokevirtual 170, 3) := by decide +kernel
theorem dX7_block_54 : decode cX7_block 54 = .ok (.return_, 1) := by decide +kernel
theorem dX7_statement_0 : decode cX7_statement 0 = .ok (.aload_n 0, 1) := by decide +kernel
theorem dX7_statement_1 : decode cX7_statement 1 = .ok (.aload_n 0, 1) := by decide +kernel
theorem dX7_statement_2 : decode cX7_statement 2 = .ok (.getfield 43, 3) := by decide +kernel
theorem dX7_statement_5 : decode cX7_statement 5 = .ok (.getfield 96, 3) := by decide +kernel
theorem dX7_statement_8 : decode cX7_statement 8 = .ok (.putfield 35, 3) := by decide +kernel
theorem dX7_statement_11 : decode cX7_statement 11 = .ok (.aload_n 0, 1) := by decide +kernel
theorem dX7_statement_12 : decode cX7_statement 12 = .ok (.iconst 1, 1) := by decide +kernel
theorem dX7_statement_13 : decode cX7_statement 13 = .ok (.iconst 0, 1) := by decide +kernel
theorem dX7_statement_14 : decode cX7_statement 14 = .ok (.iconst 0, 1) := by decide +kernel
theorem dX7_statement_15 : decode cX7_statement 15 = .ok (.invokevirtual 157, 3) := by decide +kernel
theorem dX7_statement_18 : decode cX7_statement 18 = .ok (.pop, 1) := by decide +kernel
theorem dX7_statement_19 : decode cX7_statement 19 = .ok (.aload_n 0, 1) := by decide +kernel
theorem dX7_statement_20 : decode cX7_statement 20 = .ok (.sipush 203, 3) := by decide +kernel
theorem dX7_statement_23 : decode cX7_statement 23 = .ok (.invokevirtual 83, 3) := by decide +kernel
theorem dX7_statement_26 : decode cX7_statement 26 = .ok (.ifCond .eq 10, 3) := by decide +kernel
theorem dX7_statement_29 : decode cX7_statement 29 = .ok (.aload_n 0, 1) := by decide +kernel
theorem dX7_statement_30 : decode cX7_statement 30 = .ok (.invokevirtual 182, 3) := by decide +kernel
theorem dX7_statement_33 : decode cX7_statement 33 = .ok (.goto 109, 3) := by decide +kernel
theorem dX7_statement_36 : decode cX7_statement 36 = .ok (.aload_n 0, 1) := by decide +kernel
theorem dX7_statement_37 : decode cX7_statement 37 = .ok (.sipush 204, 3) := by decide +kernel
theorem dX7_statement_40 : decode cX7_statement 40 = .ok (.invokevirtual 83, 3) := by decide +kernel
theorem dX7_statement_43 : decode cX7_statement 43 = .ok (.ifCond .eq 10, 3) := by decide +kernel
theorem dX7_statement_46 : decode cX7_statement 46 = .ok (.aload_n 0, 1) := by decide +kernel
theorem dX7_statement_47 : decode cX7_statement 47 = .ok (.invokevirtual 185, 3) := by decide +kernel
theorem dX7_statement_50 : decode cX7_statement 50 = .ok (.goto 92, 3) := by decide +kernel
theorem dX7_statement_53 : decode cX7_statement 53 = .ok (.aload_n 0, 1) := by decide +kernel
theorem dX7_statement_54 : decode cX7_statement 54 = .ok (.sipush 206, 3) := by decide +kernel
theorem dX7_statement_57 : decode cX7_statement 57 = .ok (.invokevirtual 83, 3) := by decide +kernel
theorem dX7_statement_60 : decode cX7_statement 60 = .ok (.ifCond .eq 10, 3) := by decide +kernel
theorem dX7_statement_63 : decode cX7_statement 63 = .ok (.aload_n 0, 1) := by decide +kernel
theorem dX7_statement_64 : decode cX7_statement 64 = .ok (.invokevirtual 188, 3) := by decide +kernel
theorem dX7_statement_67 : decode cX7_statement 67 = .ok (.goto 75, 3) := by decide +kernel
theorem dX7_statement_70 : decode cX7_statement 70 = .ok (.aload_n 0, 1) := by decide +kernel
theorem dX7_statement_71 : decode cX7_statement 71 = .ok (.sipush 207, 3) := by decide +kernel
theorem dX7_statement_74 : decode cX7_statement 74 = .ok (.invokevirtual 83, 3) := by decide +kernel
theorem dX7_statement_77 : decode cX7_statement 77 = .ok (.ifCond .eq 13, 3) := by decide +kernel
theorem dX7_statement_80 : decode cX7_statement 80 = .ok (.aload_n 0, 1) := by decide +kernel
theorem dX7_statement_81 : decode cX7_statement 81 = .ok (.bipush 21, 2) := by decide +kernel
theorem dX7_statement_83 : decode cX7_statement 83 = .ok (.iconst 0, 1) := by decide +kernel
theorem dX7_statement_84 : decode cX7_statement 84 = .ok (.invokevirtual 191, 3) := by decide +kernel
theorem dX7_statement_87 : decode cX7_statement 87 = .ok (.goto 55, 3) := by decide +kernel
theorem dX7_statement_90 : decode cX7_statement 90 = .ok (.aload_n 0, 1) := by decide +kernel
theorem dX7_statement_91 : decode cX7_statement 91 = .ok (.sipush 208, 3) := by decide +kernel
theorem dX7_statement_94 : decode cX7_statement 94 = .ok (.invokevirtual 83, 3) := by decide +kernel
theorem dX7_statement_97 : decode cX7_statement 97 = .ok (.ifCond .eq 13, 3) := by decide +kernel
theorem dX7_statement_100 : decode cX7_statement 100 = .ok (.aload_n 0, 1) := by decide +kernel
theorem dX7_statement_101 : decode cX7_statement 101 = .ok (.bipush 22, 2) := by decide +kernel
theorem dX7_statement_103 : decode cX7_statement 103 = .ok (.iconst 0, 1) := by decide +kernel
theorem dX7_statement_104 : decode cX7_statement 104 = .ok (.invokevirtual 191, 3) := by decide +kernel
theorem dX7_statement_107 : decode cX7_statement 107 = .ok (.goto 35, 3) := by decide +kernel
theorem dX7_statement_110 : decode cX7_statement 110 = .ok (.aload_n 0, 1) := by decide +kernel
theorem dX7_statement_111 : decode cX7_statement 111 = .ok (.getfield 43, 3) := by decide +kernel
theorem dX7_statement_114 : decode cX7_statement 114 = .ok (.getfield 80, 3) := by decide +kernel
theorem dX7_statement_117 : decode cX7_statement 117 = .ok (.iconst 1, 1) := by decide +kernel
theorem dX7_statement_118 : decode cX7_statement 118 = .ok (.if_icmp .ne 10, 3) := by decide +kernel
theorem dX7_statement_121 : decode cX7_statement 121 = .ok (.aload_n 0, 1) := by decide +kernel
theorem dX7_statement_122 : decode cX7_statement 122 = .ok (.invokevirtual 194, 3) := by decide +kernel
theorem dX7_statement_125 : decode cX7_statement 125 = .ok (.goto 17, 3) := by decide +kernel
theorem dX7_statement_128 : decode cX7_statement 128 = .ok (.aload_n 0, 1) := by decide +kernel
theorem dX7_statement_129 : decode cX7_statement 129 = .ok (.invokevirtual 197, 3) := by decide +kernel
theorem dX7_statement_132 : decode cX7_statement 132 = .ok (.ifCond .ne 10, 3) := by decide +kernel
theorem dX7_statement_135 : decode cX7_statement 135 = .ok (.aload_n 0, 1) := by decide +kernel
theorem dX7_statement_136 : decode cX7_statement 136 = .ok (.bipush 6, 2) := by decide +kernel
theorem dX7_statement_138 : decode cX7_statement 138 = .ok (.iconst 0, 1) := by decide +kernel
theorem dX7_statement_139 : decode cX7_statement 139 = .ok (.invokevirtual 191, 3) := by decide +kernel
theorem dX7_statement_142 : decode cX7_statement 142 = .ok (.return_, 1) := by decide +kernel
theorem dX7_ownStatement_0 : decode cX7_ownStatement 0 = .ok (.aload_n 0, 1) := by decide +kernel
theorem dX7_ownStatement_1 : decode cX7_ownStatement 1 = .ok (.getfield 29, 3) := by decide +kernel
theorem dX7_ownStatement_4 : decode cX7_ownStatement 4 = .ok (.ifCond .ne 26, 3) := by decide +kernel
theorem dX7_ownStatement_7 : decode cX7_ownStatement 7 = .ok (.aload_n 0, 1) := by decide +kernel
theorem dX7_ownStatement_8 : decode cX7_ownStatement 8 = .ok (.sipush 209, 3) := by decide +kernel
theorem dX7_ownStatement_11 : decode cX7_ownStatement 11 = .ok (.invokevirtual 83, 3) := by decide +kernel
theorem dX7_ownStatement_14 : decode cX7_ownStatement 14 = .ok (.ifCond .eq 16, 3) := by decide +kernel
theorem dX7_ownStatement_17 : decode cX7_ownStatement 17 = .ok (.aload_n 0, 1) := by decide +kernel
theorem dX7_ownStatement_18 : decode cX7_ownStatement 18 = .ok (.bipush 23, 2) := by decide +kernel
theorem dX7_ownStatement_20 : decode cX7_ownStatement 20 = .ok (.aload_n 0, 1) := by decide +kernel
theorem dX7_ownStatement_21 : decode cX7_ownStatement 21 = .ok (.invokevirtual 118, 3) := by decide +kernel
theorem dX7_ownStatement_24 : decode cX7_ownStatement 24 = .ok (.invokevirtual 191, 3) := by decide +kernel
theorem dX7_ownStatement_27 : decode cX7_ownStatement 27 = .ok (.goto 188, 3) := by decide +kernel
theorem dX7_ownStatement_30 : decode cX7_ownStatement 30 = .ok (.aload_n 0, 1) := by decide +kernel
theorem dX7_ownStatement_31 : decode cX7_ownStatement 31 = .ok (.getfield 29, 3) := by decide +kernel
theorem dX7_ownStatement_34 : decode cX7_ownStatement 34 = .ok (.ifCond .ne 20, 3) := by decide +kernel
theorem dX7_ownStatement_37 : decode cX7_ownStatement 37 = .ok (.aload_n 0, 1) := by decide +kernel
theorem dX7_ownStatement_38 : decode cX7_ownStatement 38 = .ok (.sipush 210, 3) := by decide +kernel
theorem dX7_ownStatement_41 : decode cX7_ownStatement 41 = .ok (.invokevirtual 83, 3) := by decide +kernel
theorem dX7_ownStatement_44 : decode cX7_ownStatement 44 = .ok (.ifCond .eq 10, 3) := by decide +kernel
theorem dX7_ownStatement_47 : decode cX7_ownStatement 47 = .ok (.aload_n 0, 1) := by decide +kernel
theorem dX7_ownStatement_48 : decode cX7_ownStatement 48 = .ok (.invokevirtual 201, 3) := by decide +kernel
theorem dX7_ownStatement_51 : decode cX7_ownStatement 51 = .ok (.goto 164, 3) := by decide +kernel
theorem dX7_ownStatement_54 : decode cX7_ownStatement 54 = .ok (.aload_n 0, 1) := by decide +kernel
theorem dX7_ownStatement_55 : decode cX7_ownStatement 55 = .ok (.getfield 29, 3) := by decide +kernel
theorem dX7_ownStatement_58 : decode cX7_ownStatement 58 = .ok (.iconst 1, 1) := by decide +kernel
theorem dX7_ownStatement_59 : decode cX7_ownStatement 59 = .ok (.if_icmp .ne 23, 3) := by decide +kernel
theorem dX7_ownStatement_62 : decode cX7_ownStatement 62 = .ok (.aload_n 0, 1) := by decide +kernel
theorem dX7_ownStatement_63 : decode cX7_ownStatement 63 = .ok (.sipush 213, 3) := by decide +kernel
theorem dX7_ownStatement_66 : decode cX7_ownStatement 66 = .ok (.invokevirtual 83, 3) := by decide +kernel
theorem dX7_ownStatement_69 : decode cX7_ownStatement 69 = .ok (.ifCond .eq 13, 3) := by decide +kernel
theorem dX7_ownStatement_72 : decode cX7_ownStatement 72 = .ok (.aload_n 0, 1) := by decide +kernel
theorem dX7_ownStatement_73 : decode cX7_ownStatement 73 = .ok (.bipush 24, 2) := by decide +kernel
theorem dX7_ownStatement_75 : decode cX7_ownStatement 75 = .ok (.iconst 0, 1) := by decide +kernel
theorem dX7_ownStatement_76 : decode cX7_ownStatement 76 = .ok (.invokevirtual 191, 3) := by decide +kernel
theorem dX7_ownStatement_79 : decode cX7_ownStatement 79 = .ok (.goto 136, 3) := by decide +kernel
theorem dX7_ownStatement_82 : decode cX7_ownStatement 82 = .ok (.aload_n 0, 1) := by decide +kernel
theorem dX7_ownStatement_83 : decode cX7_ownStatement 83 = .ok (.getfield 29, 3) := by decide +kernel
theorem dX7_ownStatement_86 : decode cX7_ownStatement 86 = .ok (.iconst 1, 1) := by decide +kernel
theorem dX7_ownStatement_87 : decode cX7_ownStatement 87 = .ok (.if_icmp .ne 20, 3) := by decide +kernel
theorem dX7_ownStatement_90 : decode cX7_ownStatement 90 = .ok (.aload_n 0, 1) := by decide +kernel
theorem dX7_ownStatement_91 : decode cX7_ownStatement 91 = .ok (.sipush 214, 3) := by decide +kernel
theorem dX7_ownStatement_94 : decode cX7_ownStatement 94 = .ok (.invokevirtual 83, 3) := by decide +kernel
theorem dX7_ownStatement_97 : decode cX7_ownStatement 97 = .ok (.ifCond .eq 10, 3) := by decide +kernel
theorem dX7_ownStatement_100 : decode cX7_ownStatement 100 = .ok (.aload_n 0, 1) := by decide +kernel
theorem dX7_ownStatement_101 : decode cX7_ownStatement 101 = .ok (.invokevirtual 204, 3) := by decide +kernel
theorem dX7_ownStatement_104 : decode cX7_ownStatement 104 = .ok (.goto 111, 3) := by decide +kernel
theorem dX7_ownStatement_107 : decode cX7_ownStatement 107 = .ok (.aload_n 0, 1) := by decide +kernel
theorem dX7_ownStatement_108 : decode cX7_ownStatement 108 = .ok (.getfield 29, 3) := by decide +kernel
theorem dX7_ownStatement_111 : decode cX7_ownStatement 111 = .ok (.iconst 2, 1) := by decide +kernel
theorem dX7_ownStatement_112 : decode cX7_ownStatement 112 = .ok (.if_icmp .ne 20, 3) := by decide +kernel
theorem dX7_ownStatement_115 : decode cX7_ownStatement 115 = .ok (.aload_n 0, 1) := by decide +kernel
theorem dX7_ownStatement_116 : decode cX7_ownStatement 116 = .ok (.sipush 216, 3) := by decide +kernel
theorem dX7_ownStatement_119 : decode cX7_ownStatement 119 = .ok (.invokevirtual 83, 3) := by decide +kernel
theorem dX7_ownStatement_122 : decode cX7_ownStatement 122 = .ok (.ifCond .eq 10, 3) := by decide +kernel
theorem dX7_ownStatement_125 : decode cX7_ownStatement 125 = .ok (.aload_n 0, 1) := by decide +kernel
theorem dX7_ownStatement_126 : decode cX7_ownStatement 126 = .ok (.invokevirtual 207, 3) := by decide +kernel
theorem dX7_ownStatement_129 : decode cX7_ownStatement 129 = .ok (.goto 86, 3) := by decide +kernel
theorem dX7_ownStatement_132 : decode cX7_ownStatement 132 = .ok (.aload_n 0, 1) := by decide +kernel
theorem dX7_ownStatement_133 : decode cX7_ownStatement 133 = .ok (.getfield 29, 3) := by decide +kernel
theorem dX7_ownStatement_136 : decode cX7_ownStatement 136 = .ok (.iconst 3, 1) := by decide +kernel
theorem dX7_ownStatement_137 : decode cX7_ownStatement 137 = .ok (.if_icmp .ne 26, 3) := by decide +kernel
theorem dX7_ownStatement_140 : decode cX7_ownStatement 140 = .ok (.aload_n 0, 1) := by decide +kernel
theorem dX7_ownStatement_141 : decode cX7_ownStatement 141 = .ok (.sipush 218, 3) := by decide +kernel
theorem dX7_ownStatement_144 : decode cX7_ownStatement 144 = .ok (.invokevirtual 83, 3) := by decide +kernel
theorem dX7_ownStatement_147 : decode cX7_ownStatement 147 = .ok (.ifCond .eq 16, 3) := by decide +kernel
theorem dX7_ownStatement_150 : decode cX7_ownStatement 150 = .ok (.aload_n 0, 1) := by decide +kernel
theorem dX7_ownStatement_151 : decode cX7_ownStatement 151 = .ok (.bipush 25, 2) := by decide +kernel
theorem dX7_ownStatement_153 : decode cX7_ownStatement 153 = .ok (.aload_n 0, 1) := by decide +kernel
theorem dX7_ownStatement_154 : decode cX7_ownStatement 154 = .ok (.invokevirtual 118, 3) := by decide +kernel
theorem dX7_ownStatement_157 : decode cX7_ownStatement 157 = .ok (.invokevirtual 191, 3) := by decide +kernel
theorem dX7_ownStatement_160 : decode cX7_ownStatement 160 = .ok (.goto 55, 3) := by decide +kernel
theorem dX7_ownStatement_163 : decode cX7_ownStatement 163 = .ok (.aload_n 0, 1) := by decide +kernel
theorem dX7_ownStatement_164 : decode cX7_ownStatement 164 = .ok (.getfield 29, 3) := by decide +kernel
theorem dX7_ownStatement_167 : decode cX7_ownStatement 167 = .ok (.iconst 3, 1) := by decide +kernel
theorem dX7_ownStatement_168 : decode cX7_ownStatement 168 = .ok (.if_icmp .ne 20, 3) := by decide +kernel
theorem dX7_ownStatement_171 : decode cX7_ownStatement 171 = .ok (.aload_n 0, 1) := by decide +kernel
theorem dX7_ownStatement_172 : decode cX7_ownStatement 172 = .ok (.sipush 219, 3) := by decide +kernel
theorem dX7_ownStatement_175 : decode cX7_ownStatement 175 = .ok (.invokevirtual 83, 3) := by decide +kernel
theorem dX7_ownStatement_178 : decode cX7_ownStatement 178 = .ok (.ifCond .eq 10, 3) := by decide +kernel
theorem dX7_ownStatement_181 : decode cX7_ownStatement 181 = .ok (.aload_n 0, 1) := by decide +kernel
theorem dX7_ownStatement_182 : decode cX7_ownStatement 182 = .ok (.invokevirtual 210, 3) := by decide +kernel
theorem dX7_ownStatement_185 : decode cX7_ownStatement 185 = .ok (.goto 30, 3) := by decide +kernel
theorem dX7_ownStatement_188 : decode cX7_ownStatement 188 = .ok (.aload_n 0, 1) := by decide +kernel
theorem dX7_ownStatement_189 : decode cX7_ownStatement 189 = .ok (.getfield 29, 3) := by decide +kernel
theorem dX7_ownStatement_192 : decode cX7_ownStatement 192 = .ok (.iconst 3, 1) := by decide +kernel
theorem dX7_ownStatement_193 : decode cX7_ownStatement 193 = .ok (.if_icmp .ne 20, 3) := by decide +kernel
theorem dX7_ownStatement_196 : decode cX7_ownStatement 196 = .ok (.aload_n 0, 1) := by decide +kernel
theorem dX7_ownStatement_197 : decode cX7_ownStatement 197 = .ok (.sipush 221, 3) := by decide +kernel
theorem dX7_ownStatement_200 : decode cX7_ownStatement 200 = .ok (.invokevirtual 83, 3) := by decide +kernel
theorem dX7_ownStatement_203 : decode cX7_ownStatement 203 = .ok (.ifCond .eq 10, 3) := by decide +kernel
theorem dX7_ownStatement_206 : decode cX7_ownStatement 206 = .ok (.aload_n 0, 1) := by decide +kernel
theorem dX7_ownStatement_207 : decode cX7_ownStatement 207 = .ok (.invokevirtual 213, 3) := by decide +kernel
theorem dX7_ownStatement_210 : decode cX7_ownStatement 210 = .ok (.goto 5, 3) := by decide +kernel
theorem dX7_ownStatement_213 : decode cX7_ownStatement 213 = .ok (.iconst 0, 1) := by decide +kernel
theorem dX7_ownStatement_214 : decode cX7_ownStatement 214 = .ok (.ireturn, 1) := by decide +kernel
theorem dX7_ownStatement_215 : decode cX7_ownStatement 215 = .ok (.iconst 1, 1) := by decide +kernel
theorem dX7_ownStatement_216 : decode cX7_ownStatement 216 = .ok (.ireturn, 1) := by decide +kernel
theorem dX7_nameFirst_0 : decode cX7_nameFirst 0 = .ok (.aload_n 0, 1) := by decide +kernel
theorem dX7_nameFirst_1 : decode cX7_nameFirst 1 = .ok (.getfield 43, 3) := by decide +kernel
theorem dX7_nameFirst_4 : decode cX7_nameFirst 4 = .ok (.getfield 133, 3) := by decide +kernel
theorem dX7_nameFirst_7 : decode cX7_nameFirst 7 = .ok (.lstore_n 1, 1) := by decide +kernel
theorem dX7_nameFirst_8 : decode cX7_nameFirst 8 = .ok (.aload_n 0, 1) := by decide +kernel
theorem dX7_nameFirst_9 : decode cX7_nameFirst 9 = .ok (.getfield 43, 3) := by decide +kernel
theorem dX7_nameFirst_12 : decode cX7_nameFirst 12 = .ok (.getfield 96, 3) := by decide +kernel
theorem dX7_nameFirst_15 : decode cX7_nameFirst 15 = .ok (.istore_n 3, 1) := by decide +kernel
theorem dX7_nameFirst_16 : decode cX7_nameFirst 16 = .ok (.aload_n 0, 1) := by decide +kernel
theorem dX7_nameFirst_17 : decode cX7_nameFirst 17 = .ok (.getfield 43, 3) := by decide +kernel
theorem dX7_nameFirst_20 : decode cX7_nameFirst 20 = .ok (.invokevirtual 97, 3) := by decide +kernel
theorem dX7_nameFirst_23 : decode cX7_nameFirst 23 = .ok (.aload_n 0, 1) := by decide +kernel
theorem dX7_nameFirst_24 : decode cX7_nameFirst 24 = .ok (.getfield 43, 3) := by decide +kernel
theorem dX7_nameFirst_27 : decode cX7_nameFirst 27 = .ok (.getfield 80, 3) := by decide +kernel
theorem dX7_nameFirst_30 : decode cX7_nameFirst 30 = .ok (.bipush 61, 2) := by decide +kernel
theorem dX7_nameFirst_32 : decode cX7_nameFirst 32 = .ok (.if_icmp .ne 26, 3) := by decide +kernel
theorem dX7_nameFirst_35 : decode cX7_nameFirst 35 = .ok (.aload_n 0, 1) := by decide +kernel
theorem dX7_nameFirst_36 : decode cX7_nameFirst 36 = .ok (.lload_n 1, 1) := by decide +kernel
theorem dX7_nameFirst_37 : decode cX7_nameFirst 37 = .ok (.iload_n 3, 1) := by decide +kernel
theorem dX7_nameFirst_38 : decode cX7_nameFirst 38 = .ok (.invokevirtual 220, 3) := by decide +kernel
theorem dX7_nameFirst_41 : decode cX7_nameFirst 41 = .ok (.istore 4, 2) := by decide +kernel
theorem dX7_nameFirst_43 : decode cX7_nameFirst 43 = .ok (.aload_n 0, 1) := by decide +kernel
theorem dX7_nameFirst_44 : decode cX7_nameFirst 44 = .ok (.getfield 43, 3) := by decide +kernel
theorem dX7_nameFirst_47 : decode cX7_nameFirst 47 = .ok (.invokevirtual 97, 3) := by decide +kernel
theorem dX7_nameFirst_50 : decode cX7_nameFirst 50 = .ok (.aload_n 0, 1) := by decide +kernel
theorem dX7_nameFirst_51 : decode cX7_nameFirst 51 = .ok (.iconst 5, 1) := by decide +kernel
theorem dX7_nameFirst_52 : decode cX7_nameFirst 52 = .ok (.iload 4, 2) := by decide +kernel
theorem dX7_nameFirst_54 : decode cX7_nameFirst 54 = .ok (.invokevirtual 191, 3) := by decide +kernel
theorem dX7_nameFirst_57 : decode cX7_nameFirst 57 = .ok (.return_, 1) := by decide +kernel
theorem dX7_nameFirst_58 : decode cX7_nameFirst 58 = .ok (.aload_n 0, 1) := by decide +kernel
theorem dX7_nameFirst_59 : decode cX7_nameFirst 59 = .ok (.getfield 43, 3) := by decide +kernel
theorem dX7_nameFirst_62 : decode cX7_nameFirst 62 = .ok (.getfield 80, 3) := by decide +kernel
theorem dX7_nameFirst_65 : decode cX7_nameFirst 65 = .ok (.bipush 91, 2) := by decide +kernel
theorem dX7_nameFirst_67 : decode cX7_nameFirst 67 = .ok (.if_icmp .ne 51, 3) := by decide +kernel
theorem dX7_nameFirst_70 : decode cX7_nameFirst 70 = .ok (.aload_n 0, 1) := by decide +kernel
theorem dX7_nameFirst_71 : decode cX7_nameFirst 71 = .ok (.aload_n 0, 1) := by decide +kernel
theorem dX7_nameFirst_72 : decode cX7_nameFirst 72 = .ok (.lload_n 1, 1) := by decide +kernel
theorem dX7_nameFirst_73 : decode cX7_nameFirst 73 = .ok (.iload_n 3, 1) := by decide +kernel
theorem dX7_nameFirst_74 : decode cX7_nameFirst 74 = .ok (.invokevirtual 220, 3) := by decide +kernel
theorem dX7_nameFirst_77 : decode cX7_nameFirst 77 = .ok (.invokevirtual 224, 3) := by decide +kernel
theorem dX7_nameFirst_80 : decode cX7_nameFirst 80 = .ok (.istore 4, 2) := by decide +kernel
theorem dX7_nameFirst_82 : decode cX7_nameFirst 82 = .ok (.aload_n 0, 1) := by decide +kernel
theorem dX7_nameFirst_83 : decode cX7_nameFirst 83 = .ok (.bipush 61, 2) := by decide +kernel
theorem dX7_nameFirst_85 : decode cX7_nameFirst 85 = .ok (.invokevirtual 83, 3) := by decide +kernel
theorem dX7_nameFirst_88 : decode cX7_nameFirst 88 = .ok (.ifCond .eq 17, 3) := by decide +kernel
theorem dX7_nameFirst_91 : decode cX7_nameFirst 91 = .ok (.aload_n 0, 1) := by decide +kernel
theorem dX7_nameFirst_92 : decode cX7_nameFirst 92 = .ok (.iload 4, 2) := by decide +kernel
theorem dX7_nameFirst_94 : decode cX7_nameFirst 94 = .ok (.invokevirtual 227, 3) := by decide +kernel
theorem dX7_nameFirst_97 : decode cX7_nameFirst 97 = .ok (.aload_n 0, 1) := by decide +kernel
theorem dX7_nameFirst_98 : decode cX7_nameFirst 98 = .ok (.bipush 12, 2) := by decide +kernel
theorem dX7_nameFirst_100 : decode cX7_nameFirst 100 = .ok (.iconst 0, 1) := by decide +kernel
theorem dX7_nameFirst_101 : decode cX7_nameFirst 101 = .ok (.invokevirtual 191, 3) := by decide +kernel
theorem dX7_nameFirst_104 : decode cX7_nameFirst 104 = .ok (.return_, 1) := by decide +kernel
theorem dX7_nameFirst_105 : decode cX7_nameFirst 105 = .ok (.aload_n 0, 1) := by decide +kernel
theorem dX7_nameFirst_106 : decode cX7_nameFirst 106 = .ok (.bipush 11, 2) := by decide +kernel
theorem dX7_nameFirst_108 : decode cX7_nameFirst 108 = .ok (.iconst 0, 1) := by decide +kernel
theorem dX7_nameFirst_109 : decode cX7_nameFirst 109 = .ok (.iconst 0, 1) := by decide +kernel
theorem dX7_nameFirst_110 : decode cX7_nameFirst 110 = .ok (.iload 4, 2) := by decide +kernel
theorem dX7_nameFirst_112 : decode cX7_nameFirst 112 = .ok (.invokevirtual 230, 3) := by decide +kernel
theorem dX7_nameFirst_115 : decode cX7_nameFirst 115 = .ok (.goto 9, 3) := by decide +kernel
theorem dX7_nameFirst_118 : decode cX7_nameFirst 118 = .ok (.aload_n 0, 1) := by decide +kernel
theorem dX7_nameFirst_119 : decode cX7_nameFirst 119 = .ok (.lload_n 1, 1) := by decide +kernel
theorem dX7_nameFirst_120 : decode cX7_nameFirst 120 = .ok (.iload_n 3, 1) := by decide +kernel
theorem dX7_nameFirst_121 : decode cX7_nameFirst 121 = .ok (.invokevirtual 234, 3) := by decide +kernel
theorem dX7_nameFirst_124 : decode cX7_nameFirst 124 = .ok (.aload_n 0, 1) := by decide +kernel
theorem dX7_nameFirst_125 : decode cX7_nameFirst 125 = .ok (.iconst 1, 1) := by decide +kernel
theorem dX7_nameFirst_126 : decode cX7_nameFirst 126 = .ok (.invokevirtual 216, 3) := by decide +kernel
theorem dX7_nameFirst_129 : decode cX7_nameFirst 129 = .ok (.aload_n 0, 1) := by decide +kernel
theorem dX7_nameFirst_130 : decode cX7_nameFirst 130 = .ok (.bipush 59, 2) := by decide +kernel
theorem dX7_nameFirst_132 : decode cX7_nameFirst 132 = .ok (.invokevirtual 100, 3) := by decide +kernel
theorem dX7_nameFirst_135 : decode cX7_nameFirst 135 = .ok (.aload_n 0, 1) := by decide +kernel
theorem dX7_nameFirst_136 : decode cX7_nameFirst 136 = .ok (.bipush 6, 2) := by decide +kernel
theorem dX7_nameFirst_138 : decode cX7_nameFirst 138 = .ok (.iconst 0, 1) := by decide +kernel
theorem dX7_nameFirst_139 : decode cX7_nameFirst 139 = .ok (.iconst 0, 1) := by decide +kernel
theorem dX7_nameFirst_140 : decode cX7_nameFirst 140 = .ok (.invokevirtual 157, 3) := by decide +kernel
theorem dX7_nameFirst_143 : decode cX7_nameFirst 143 = .ok (.pop, 1) := by decide +kernel
theorem dX7_nameFirst_144 : decode cX7_nameFirst 144 = .ok (.return_, 1) := by decide +kernel
set_option maxHeartbeats 4000000 in
set_option maxRecDepth 100000 in
theorem c_X7_nameFirst (ω : Om) (l : Launch) (μ : M3) (P : Int) (tt : Int) (hI : IC μ) (hP : P = μ.1 23 2) (htt : tt = μ.1 23 8) (hTK : TK μ) (hB : 2 * μ.1 P 1 ≤ 5 * μ.1 26 10 + 100 + 80 * μ.1 26 11) (hKc : μ.1 (P + 2) 3 ≤ μ.1 P 1) (ht3 : 0 ≤ tt ∧ tt ≤ 3) (hdp : 0 ≤ μ.1 23 9 ∧ μ.1 23 9 ≤ 8 + μ.1 26 11) (hkn : μ.1 26 12 = 1) (hs0 : μ.1 26 11 = 0) : CtV ω l yX7_nameFirst cX7_nameFirst 5 154 4150 [.ref (oP ω 23)] μ (fun (μ' : M3) => (Fr [2, 3, 4, 23, 24, 26, P, P + 1, P + 2, (P + 2) + 1, (P + 2) + 2, (P + 2) + 3] μ μ') ∧ (IC μ') ∧ (TK μ') ∧ (μ.1 26 11 ≤ μ'.1 26 11) ∧ (μ.1 26 10 ≤ μ'.1 26 10) ∧ (μ.1 P 1 + 1 ≤ μ'.1 P 1 ∧ μ'.1 P 1 ≤ μ.1 P 1 + 2 * (μ'.1 26 10 - μ.1 26 10) + (- 2 + 6 * μ'.1 26 11)) ∧ (μ'.1 (P + 2) 3 - μ.1 (P + 2) 3 ≤ μ'.1 P 1 - μ.1 P 1 ∧ μ.1 (P + 2) 3 ≤ μ'.1 (P + 2) 3) ∧ (μ'.1 26 11 = 0 → EX μ μ' P tt 0 0) ∧ (μ'.1 23 2 = μ.1 23 2) ∧ (μ'.1 23 5 = μ.1 23 5) ∧ (μ'.1 23 6 = μ.1 23 6) ∧ (μ'.1 23 7 = μ.1 23 7) ∧ (μ'.1 23 8 = μ.1 23 8) ∧ (μ'.1 23 9 = μ.1 23 9) ∧ (μ'.1 23 10 = μ.1 23 10) ∧ (μ'.1 26 6 = μ.1 26 6) ∧ (μ'.1 P 7 = μ.1 P 7)) := by
  refine CtV.go (by decide) (Nat.le_of_ble_eq_true rfl) (fun ρ p e s m below meth c R ls G hR hret hlk hl => ?_)
  have hx := G.1.1
  have hb := G.1.2.1
  have hl : lv_has ls 5 [(0, .ref (oP ω 23))] := hl
  generalize s.drawn = d0 at G ⊢
  have hTKb := hTK.b
  have hprP : isPr P := by have h9 := G.sr0.2.2.2.2.2; rw [← hP] at h9; exact h9
  have hprP_d : 13 ≤ P ∧ P ≤ 101 := by rcases hprP with h9 | h9 | h9 | h9 | h9 <;> omega
  have hk_1 := hI.pr (p := P) hprP
  unfold pk at hk_1
  have hc_2 : 16 ≤ μ.2.1 (P + 1) ∧ μ.2.1 (P + 1) ≤ 73024 := hI.rm.1 _ hprP.cap
  have hnil : μ.1 26 11 = 0 → PXE μ μ P tt 0 (-1) 1 := fun _ => PXE.nil (by omega)
  refine lv_aload_n hx hb dX7_nameFirst_0 rfl (lv_at hl 0 rfl) ?_
  refine xa_getr G fd_X7 (a := 23) (x := 26) 0 rfl (by decide) rfl (wm 2 17 rfl rfl) ⟨rfl, rfl, rfl⟩ dX7_nameFirst_1 rfl (G.sk 23 rfl) (by decide) rfl ?_
  refine xa_getN G fd_X10 (host := "FourTongues") (a := 26) 14 rfl (by decide) (by decide) ⟨rfl, rfl, rfl⟩ dX7_nameFirst_4 rfl (v := .long (jv (μ.1 26 14))) (by rw [show μ.1 26 14 = μ.1 26 14 from rfl]; rfl) ?_
  have hj_3 : jr (μ.1 26 14) := by have h9 := G.hj (a := 26) (k := 14) rfl; exact h9
  refine lv_lstore_n (lv' := [(1, .long (jv (μ.1 26 14))), (0, .ref (oP ω 23))]) hx hb dX7_nameFirst_7 rfl hl (by decide) rfl (fun ls hl => ?_)
  refine lv_aload_n hx hb dX7_nameFirst_8 rfl (lv_at hl 1 rfl) ?_
  refine xa_getr G fd_X7 (a := 23) (x := 26) 0 rfl (by decide) rfl (wm 2 17 rfl rfl) ⟨rfl, rfl, rfl⟩ dX7_nameFirst_9 rfl (G.sk 23 rfl) (by decide) rfl ?_
  refine xa_getN G fd_X10 (host := "FourTongues") (a := 26) 13 rfl (by decide) (by decide) ⟨rfl, rfl, rfl⟩ dX7_nameFirst_12 rfl (v := .int (iv (μ.1 26 13))) (by rw [show μ.1 26 13 = μ.1 26 13 from rfl]; rfl) ?_
  have hr_4 : -2147483648 ≤ μ.1 26 13 ∧ μ.1 26 13 ≤ 2147483647 := by have h9 := G.hr (a := 26) (k := 13) rfl; exact h9
  refine lv_istore_n (lv' := [(3, .int (iv (μ.1 26 13))), (1, .long (jv (μ.1 26 14))), (0, .ref (oP ω 23))]) hx hb dX7_nameFirst_15 rfl hl (by decide) rfl (fun ls hl => ?_)
  refine lv_aload_n hx hb dX7_nameFirst_16 rfl (lv_at hl 2 rfl) ?_
  refine xa_getr G fd_X7 (a := 23) (x := 26) 0 rfl (by decide) rfl (wm 2 17 rfl rfl) ⟨rfl, rfl, rfl⟩ dX7_nameFirst_17 rfl (G.sk 23 rfl) (by decide) rfl ?_
  have hn_5 : 0 ≤ μ.1 26 6 ∧ μ.1 26 6 ≤ 3001 := hI.nm.2.2.2.2.2.2.2.2.2.1
  have hn_6 : -1 ≤ μ.1 26 10 ∧ μ.1 26 10 ≤ 3000 := hI.nm.2.2.2.2.2.2.2.2.2.2.2.2
  have hn_7 : 0 ≤ μ.1 26 7 ∧ μ.1 26 7 ≤ 3000 := hI.nm.2.2.2.2.2.2.2.2.2.2.1
  have hn_8 : 0 ≤ μ.1 26 9 ∧ μ.1 26 9 ≤ 3000 := hI.nm.2.2.2.2.2.2.2.2.2.2.2.1
  refine xc_vV G (b := 26) (rest := []) (As := []) (c_X10_next ω l μ  hI (by omega) (by omega)) (wm 3 164 rfl rfl) (wm 3 157 rfl rfl) (wm 3 158 rfl rfl) rfl rfl (by decide) rfl (wm 1 13 rfl rfl) (wm 3 159 rfl rfl) (by decide) hR (by decide) (n := 0) rfl rfl (Nat.le_of_ble_eq_true rfl) hl.1 dX7_nameFirst_20 (fun μ9 ρ d0 H locs hp G => ?_)
  obtain ⟨F_10, hI_11, hp_12, hp_13, hs_14, hs_15, hs_16, hs_17, hs_18⟩ := hp
  have hn_19 : -1 ≤ μ9.1 26 10 ∧ μ9.1 26 10 ≤ 3000 := hI_11.nm.2.2.2.2.2.2.2.2.2.2.2.2
  obtain ⟨htk_20, htk_20_s, htk_20_n⟩ := TK.nx hTK F_10 hs_15 hs_14 (by have h9 : μ.1 26 12 = μ.1 26 12 := rfl; omega) hp_12 hp_13
  clear hp_12 hp_13
  have htb_21 := htk_20.b
  refine lv_aload_n hx hb dX7_nameFirst_23 rfl (lv_at hl 2 rfl) ?_
  refine xa_getr G fd_X7 (a := 23) (x := 26) 0 rfl (by decide) rfl (wm 2 17 rfl rfl) ⟨rfl, rfl, rfl⟩ dX7_nameFirst_24 rfl (G.sk 23 rfl) (by decide) rfl ?_
  refine xa_getN G fd_X10 (host := "FourTongues") (a := 26) 12 rfl (by decide) (by decide) ⟨rfl, rfl, rfl⟩ dX7_nameFirst_27 rfl (v := .int (iv (μ9.1 26 12))) (by rw [show μ9.1 26 12 = μ9.1 26 12 from rfl]; rfl) ?_
  have hr_22 : -2147483648 ≤ μ9.1 26 12 ∧ μ9.1 26 12 ≤ 2147483647 := by have h9 := G.hr (a := 26) (k := 12) rfl; exact h9
  refine lv_bipush (v := iv 61) hx hb dX7_nameFirst_30 rfl ?_
  refine xb_icmp_ne (tgt := 58) hx hb (by unfold ir; omega) (by unfold ir; omega) dX7_nameFirst_32 (by decide) (fun c_32 => ?_) (fun c_32 => ?_)
  · refine lv_aload_n hx hb dX7_nameFirst_58 rfl (lv_at hl 2 rfl) ?_
    refine xa_getr G fd_X7 (a := 23) (x := 26) 0 rfl (by decide) rfl (wm 2 17 rfl rfl) ⟨rfl, rfl, rfl⟩ dX7_nameFirst_59 rfl (G.sk 23 rfl) (by decide) rfl ?_
    refine xa_getN G fd_X10 (host := "FourTongues") (a := 26) 12 rfl (by decide) (by decide) ⟨rfl, rfl, rfl⟩ dX7_nameFirst_62 rfl (v := .int (iv (μ9.1 26 12))) (by rw [show μ9.1 26 12 = μ9.1 26 12 from rfl]; rfl) ?_
    refine lv_bipush (v := iv 91) hx hb dX7_nameFirst_65 rfl ?_
    refine xb_icmp_ne (tgt := 118) hx hb (by unfold ir; omega) (by unfold ir; omega) dX7_nameFirst_67 (by decide) (fun c_67 => ?_) (fun c_67 => ?_)
    · refine lv_aload_n hx hb dX7_nameFirst_118 rfl (lv_at hl 2 rfl) ?_
      refine lv_lload_n hx hb dX7_nameFirst_119 rfl (lv_at hl 1 rfl) ?_
      refine lv_iload_n hx hb dX7_nameFirst_120 rfl (lv_at hl 0 rfl) ?_
      have hpx_23 : μ9.1 26 11 = 0 → PXE μ μ9 P tt 0 (-1) 1 := fun h0 => (hnil (by have h9 : μ.1 26 11 = μ.1 26 11 := rfl; have h8 : μ9.1 26 11 = μ.1 26 11 := hs_14; omega)).fr (K := [26]) (Fr.tr Fr.rf F_10 (by decide)) (npL_p (L := [26]) (by decide) hprP).1 (npL_p (L := [26]) (by decide) hprP).2.1
      have e_24 : μ9.1 23 2 = P := ((F_10.1 23 (by decide) 2).trans hP.symm)
      have e_25 : μ9.1 23 8 = tt := ((F_10.1 23 (by decide) 8).trans htt.symm)
      have e_26 : μ9.1 P 1 = μ.1 P 1 := (F_10.1 P (ni hprP (fun P => P) (fun P => [26]) rfl) 1)
      have e_27 : μ9.1 26 11 = μ.1 26 11 := hs_14
      have hk_28 := hI.row (r := P + 2) (hprP.row)
      unfold rk at hk_28
      have e_29 : μ9.1 (P + 2) 3 = μ.1 (P + 2) 3 := (F_10.1 (P + 2) (ni hprP (fun P => P + 2) (fun P => [26]) rfl) 3)
      have e_30 : μ9.1 P 1 = μ.1 P 1 := (F_10.1 P (ni hprP (fun P => P) (fun P => [26]) rfl) 1)
      have e_31 : μ9.1 23 9 = μ.1 23 9 := (F_10.1 23 (by decide) 9)
      have e_32 : μ9.1 23 9 = μ.1 23 9 := (F_10.1 23 (by decide) 9)
      have e_33 : μ9.1 26 11 = μ.1 26 11 := hs_14
      have e_34 : μ9.1 P 1 = μ.1 P 1 := (F_10.1 P (ni hprP (fun P => P) (fun P => [26]) rfl) 1)
      have e_35 : μ9.1 P 1 = μ.1 P 1 := (F_10.1 P (ni hprP (fun P => P) (fun P => [26]) rfl) 1)
      have e_36 : μ9.1 (P + 2) 3 = μ.1 (P + 2) 3 := (F_10.1 (P + 2) (ni hprP (fun P => P + 2) (fun P => [26]) rfl) 3)
      have e_37 : μ9.1 P 1 = μ.1 P 1 := (F_10.1 P (ni hprP (fun P => P) (fun P => [26]) rfl) 1)
      have e_38 : μ9.1 (P + 2) 3 = μ.1 (P + 2) 3 := (F_10.1 (P + 2) (ni hprP (fun P => P + 2) (fun P => [26]) rfl) 3)
      have e_39 : μ9.1 23 2 = P := ((F_10.1 23 (by decide) 2).trans hP.symm)
      have hn_40 : 0 ≤ μ.1 23 5 ∧ μ.1 23 5 ≤ 1000 := hI.nm.2.2.2.2.2.2.2.2.1
      have e_41 : μ9.1 23 5 = μ.1 23 5 := (F_10.1 23 (by decide) 5)
      have e_42 : μ9.1 23 6 = μ.1 23 6 := (F_10.1 23 (by decide) 6)
      have e_43 : μ9.1 23 7 = μ.1 23 7 := (F_10.1 23 (by decide) 7)
      have e_44 : μ9.1 23 8 = tt := ((F_10.1 23 (by decide) 8).trans htt.symm)
      have e_45 : μ9.1 23 9 = μ.1 23 9 := (F_10.1 23 (by decide) 9)
      have e_46 : μ9.1 23 10 = μ.1 23 10 := (F_10.1 23 (by decide) 10)
      have e_47 : μ9.1 26 6 = μ.1 26 6 := hs_15
      have e_48 : μ9.1 P 7 = μ.1 P 7 := (F_10.1 P (ni hprP (fun P => P) (fun P => [26]) rfl) 7)
      refine xc_vV G (b := 23) (rest := []) (As := [.long (jv (μ.1 26 14)), .int (iv (μ.1 26 13))]) (c_X7_afterName_a ω l μ9 (μ.1 26 14) (μ.1 26 13) P tt hj_3 (by unfold ir; omega) hI_11 (by omega) (by omega) htk_20 (by omega) (by omega) (by omega) (by omega) (by omega)) (wm 4 59 rfl rfl) (wm 4 61 rfl rfl) (wm 0 35 rfl rfl) rfl rfl (by decide) rfl (wm 1 12 rfl rfl) (wm 4 62 rfl rfl) (by decide) hR (by decide) (n := 2) rfl rfl (Nat.le_of_ble_eq_true rfl) hl.1 dX7_nameFirst_121 (fun μ49 ρ d0 H locs hp G => ?_)
      obtain ⟨F_50, hI_51, hp_52, hp_53, hp_54, hp_55, hp_56, hp_57, hs_58, hs_59, hs_60, hs_61, hs_62, hs_63, hs_64, hs_65, hs_66⟩ := hp
      have hn_67 : -1 ≤ μ49.1 26 10 ∧ μ49.1 26 10 ≤ 3000 := hI_51.nm.2.2.2.2.2.2.2.2.2.2.2.2
      have hk_68 := hI_51.pr (p := P) hprP
      unfold pk at hk_68
      have hc_69 : 16 ≤ μ49.2.1 (P + 1) ∧ μ49.2.1 (P + 1) ≤ 73024 := hI_51.rm.1 _ hprP.cap
      have hk_70 := hI_51.row (r := P + 2) (hprP.row)
      unfold rk at hk_70
      have htb_71 := hp_52.b
      have hpx_72 : μ49.1 26 11 = 0 → PXE μ μ49 P tt 1 (-1) 1 := fun h0 => (PXE.app (hpx_23 (by have h9 : μ9.1 26 11 = μ.1 26 11 := hs_14; have h8 : μ49.1 26 11 = μ49.1 26 11 := rfl; omega)) (hp_57 h0)).e (by omega)
      refine lv_aload_n hx hb dX7_nameFirst_124 rfl (lv_at hl 2 rfl) ?_
      refine lv_iconst (v := iv 1) hx hb dX7_nameFirst_125 rfl ?_
      have e_73 : μ49.1 23 2 = P := (hs_58.trans ((F_10.1 23 (by decide) 2).trans hP.symm))
      have e_74 : μ49.1 23 8 = tt := (hs_62.trans ((F_10.1 23 (by decide) 8).trans htt.symm))
      have e_75 : μ49.1 23 9 = μ.1 23 9 := (hs_63.trans (F_10.1 23 (by decide) 9))
      have e_76 : μ49.1 23 9 = μ.1 23 9 := (hs_63.trans (F_10.1 23 (by decide) 9))
      have e_77 : μ49.1 23 2 = P := (hs_58.trans ((F_10.1 23 (by decide) 2).trans hP.symm))
      have e_78 : μ49.1 23 5 = μ.1 23 5 := (hs_59.trans (F_10.1 23 (by decide) 5))
      have e_79 : μ49.1 23 6 = μ.1 23 6 := (hs_60.trans (F_10.1 23 (by decide) 6))
      have e_80 : μ49.1 23 7 = μ.1 23 7 := (hs_61.trans (F_10.1 23 (by decide) 7))
      have e_81 : μ49.1 23 8 = tt := (hs_62.trans ((F_10.1 23 (by decide) 8).trans htt.symm))
      have e_82 : μ49.1 23 9 = μ.1 23 9 := (hs_63.trans (F_10.1 23 (by decide) 9))
      have e_83 : μ49.1 23 10 = μ.1 23 10 := (hs_64.trans (F_10.1 23 (by decide) 10))
      have e_84 : μ49.1 26 6 = μ.1 26 6 := (hs_65.trans hs_15)
      have e_85 : μ49.1 P 7 = μ.1 P 7 := (hs_66.trans (F_10.1 P (ni hprP (fun P => P) (fun P => [26]) rfl) 7))
      refine xc_vV G (b := 23) (rest := []) (As := [.int (iv 1)]) (c_X7_expression_a ω l μ49 1 P tt (by omega) hI_51 (by omega) (by omega) hp_52 (by omega) (by omega) (by omega) (by omega) (fun _ => (Classical.em (μ49.1 26 11 = 0)).elim (fun h0 => Or.inr (Or.inr (by have h9 := (hpx_72 h0).h; omega))) (fun h9 => Or.inr (Or.inl h9)))) (wm 4 3 rfl rfl) (wm 4 5 rfl rfl) (wm 0 24 rfl rfl) rfl rfl (by decide) rfl (wm 1 12 rfl rfl) (wm 4 6 rfl rfl) (by decide) hR (by decide) (n := 1) rfl rfl (Nat.le_of_ble_eq_true rfl) hl.1 dX7_nameFirst_126 (fun μ86 ρ d0 H locs hp G => ?_)
      obtain ⟨F_87, hI_88, hp_89, hp_90, hp_91, hp_92, hp_93, hp_94, hs_95, hs_96, hs_97, hs_98, hs_99, hs_100, hs_101, hs_102, hs_103⟩ := hp
      have hn_104 : -1 ≤ μ86.1 26 10 ∧ μ86.1 26 10 ≤ 3000 := hI_88.nm.2.2.2.2.2.2.2.2.2.2.2.2
      have hk_105 := hI_88.pr (p := P) hprP
      unfold pk at hk_105
      have hc_106 : 16 ≤ μ86.2.1 (P + 1) ∧ μ86.2.1 (P + 1) ≤ 73024 := hI_88.rm.1 _ hprP.cap
      have hk_107 := hI_88.row (r := P + 2) (hprP.row)
      unfold rk at hk_107
      have htb_108 := hp_89.b
      have hpx_109 : μ86.1 26 11 = 0 → PXE μ μ86 P tt (1 + (1 - 1)) (-1) 1 := fun h0 => (PXE.app (hpx_72 (by have h9 : μ49.1 26 11 = μ49.1 26 11 := rfl; have h8 : μ86.1 26 11 = μ86.1 26 11 := rfl; omega)) (hp_94 h0)).e (by omega)
      refine lv_aload_n hx hb dX7_nameFirst_129 rfl (lv_at hl 2 rfl) ?_
      refine lv_bipush (v := iv 59) hx hb dX7_nameFirst_130 rfl ?_
      have e_110 : μ86.1 26 6 = μ.1 26 6 := (hs_102.trans (hs_65.trans hs_15))
      have hn_111 : 0 ≤ μ86.1 26 7 ∧ μ86.1 26 7 ≤ 3000 := hI_88.nm.2.2.2.2.2.2.2.2.2.2.1
      have hn_112 : 0 ≤ μ86.1 26 9 ∧ μ86.1 26 9 ≤ 3000 := hI_88.nm.2.2.2.2.2.2.2.2.2.2.2.1
      refine xc_vV G (b := 23) (rest := []) (As := [.int (iv 59)]) (c_X7_need_b ω l μ86 59 (by unfold ir; omega) hI_88 hp_89 (by omega)) (wm 3 169 rfl rfl) (wm 3 171 rfl rfl) (wm 0 11 rfl rfl) rfl rfl (by decide) rfl (wm 1 12 rfl rfl) (wm 3 172 rfl rfl) (by decide) hR (by decide) (n := 1) rfl rfl (Nat.le_of_ble_eq_true rfl) hl.1 dX7_nameFirst_132 (fun μ113 ρ d0 H locs hp G => ?_)
      obtain ⟨F_114, hI_115, hp_116, hp_117, hp_118, hs_119, hs_120, hs_121, hs_122⟩ := hp
      have hn_123 : -1 ≤ μ113.1 26 10 ∧ μ113.1 26 10 ≤ 3000 := hI_115.nm.2.2.2.2.2.2.2.2.2.2.2.2
      have htb_124 := hp_116.b
      refine lv_aload_n hx hb dX7_nameFirst_135 rfl (lv_at hl 2 rfl) ?_
      refine lv_bipush (v := iv 6) hx hb dX7_nameFirst_136 rfl ?_
      refine lv_iconst (v := iv 0) hx hb dX7_nameFirst_138 rfl ?_
      refine lv_iconst (v := iv 0) hx hb dX7_nameFirst_139 rfl ?_
      have hpx_125 : μ113.1 26 11 = 0 → PXE μ μ113 P tt (1 + (1 - 1)) (-1) 1 := fun h0 => (hpx_109 (by have h9 : μ86.1 26 11 = μ86.1 26 11 := rfl; have h8 : μ113.1 26 11 = μ113.1 26 11 := rfl; omega)).fr (K := [26]) (Fr.tr Fr.rf F_114 (by decide)) (npL_p (L := [26]) (by decide) hprP).1 (npL_p (L := [26]) (by decide) hprP).2.1
      have e_126 : μ113.1 23 2 = P := ((F_114.1 23 (by decide) 2).trans (hs_95.trans (hs_58.trans ((F_10.1 23 (by decide) 2).trans hP.symm))))
      have e_127 : μ113.1 P 1 = μ86.1 P 1 := (F_114.1 P (ni hprP (fun P => P) (fun P => [26]) rfl) 1)
      have e_128 : μ113.1 P 1 = μ86.1 P 1 := (F_114.1 P (ni hprP (fun P => P) (fun P => [26]) rfl) 1)
      have e_129 : μ113.1 P 1 = μ86.1 P 1 := (F_114.1 P (ni hprP (fun P => P) (fun P => [26]) rfl) 1)
      have e_130 : μ113.1 P 7 = μ.1 P 7 := ((F_114.1 P (ni hprP (fun P => P) (fun P => [26]) rfl) 7).trans (hs_103.trans (hs_66.trans (F_10.1 P (ni hprP (fun P => P) (fun P => [26]) rfl) 7))))
      refine xc_iV G (b := 23) (rest := []) (As := [.int (iv 6), .int (iv 0), .int (iv 0)]) (c_X7_add ω l μ113 6 0 0 P (by unfold ir; omega) (by unfold ir; omega) (by unfold ir; omega) hI_115 (by omega) (by omega)) (wm 3 226 rfl rfl) (wm 3 228 rfl rfl) (wm 0 21 rfl rfl) rfl rfl (by decide) rfl (wm 1 12 rfl rfl) (wm 3 229 rfl rfl) (by decide) hR (by decide) (n := 3) rfl rfl (Nat.le_of_ble_eq_true rfl) hl.1 dX7_nameFirst_140 (fun r_132 μ131 ρ d0 H locs hr_r_132 hp G => ?_)
      have hr_r_132 : -2147483648 ≤ r_132 ∧ r_132 ≤ 2147483647 := hr_r_132
      obtain ⟨F_133, hI_134, hp_135, hp_136, hs_137, hs_138⟩ := hp
      have hpx_139 : μ131.1 26 11 = 0 → PXE μ μ131 P tt ((1 + (1 - 1)) + -1) (-1) 1 := fun h0 => by
        have hq := hpx_125 (by have h9 : μ113.1 26 11 = μ113.1 26 11 := rfl; have h8 : μ131.1 26 11 = μ113.1 26 11 := (F_133.1 26 (ni hprP (fun P => 26) (fun P => [P, P + 1]) rfl) 11); omega)
        have hh := hq.h
        exact PXE.app hq (EX.pl hp_136 (by omega) (by unfold plain; omega) (e := -1) rfl (by omega))
      refine lv_pop hx hb dX7_nameFirst_143 rfl ?_
      have htk_140 : TK μ131 := hp_116.fr (K := [P, P + 1]) (Fr.tr Fr.rf F_133 (si hprP (fun P => [P, P + 1]) (fun P => [P, P + 1]) rfl)) (ni hprP (fun P => 26) (fun P => [P, P + 1]) rfl) (ni hprP (fun P => 28) (fun P => [P, P + 1]) rfl) (ni hprP (fun P => 29) (fun P => [P, P + 1]) rfl)
      have e_141 : μ131.1 26 11 = μ113.1 26 11 := (F_133.1 26 (ni hprP (fun P => 26) (fun P => [P, P + 1]) rfl) 11)
      have e_142 : μ131.1 26 11 = μ113.1 26 11 := (F_133.1 26 (ni hprP (fun P => 26) (fun P => [P, P + 1]) rfl) 11)
      have e_143 : μ131.1 26 10 = μ113.1 26 10 := (F_133.1 26 (ni hprP (fun P => 26) (fun P => [P, P + 1]) rfl) 10)
      have e_144 : μ131.1 P 1 = μ113.1 P 1 + 1 := hs_137
      have e_145 : μ131.1 P 1 = μ113.1 P 1 + 1 := hs_137
      have e_146 : μ131.1 26 10 = μ113.1 26 10 := (F_133.1 26 (ni hprP (fun P => 26) (fun P => [P, P + 1]) rfl) 10)
      have e_147 : μ131.1 26 11 = μ113.1 26 11 := (F_133.1 26 (ni hprP (fun P => 26) (fun P => [P, P + 1]) rfl) 11)
      have e_148 : μ131.1 (P + 2) 3 = μ86.1 (P + 2) 3 := ((F_133.1 (P + 2) (ni hprP (fun P => P + 2) (fun P => [P, P + 1]) rfl) 3).trans (F_114.1 (P + 2) (ni hprP (fun P => P + 2) (fun P => [26]) rfl) 3))
      have e_149 : μ131.1 P 1 = μ113.1 P 1 + 1 := hs_137
      have e_150 : μ131.1 (P + 2) 3 = μ86.1 (P + 2) 3 := ((F_133.1 (P + 2) (ni hprP (fun P => P + 2) (fun P => [P, P + 1]) rfl) 3).trans (F_114.1 (P + 2) (ni hprP (fun P => P + 2) (fun P => [26]) rfl) 3))
      have e_151 : μ131.1 23 2 = P := ((F_133.1 23 (ni hprP (fun P => 23) (fun P => [P, P + 1]) rfl) 2).trans ((F_114.1 23 (by decide) 2).trans (hs_95.trans (hs_58.trans ((F_10.1 23 (by decide) 2).trans hP.symm)))))
      have e_152 : μ131.1 23 5 = μ.1 23 5 := ((F_133.1 23 (ni hprP (fun P => 23) (fun P => [P, P + 1]) rfl) 5).trans ((F_114.1 23 (by decide) 5).trans (hs_96.trans (hs_59.trans (F_10.1 23 (by decide) 5)))))
      have e_153 : μ131.1 23 6 = μ.1 23 6 := ((F_133.1 23 (ni hprP (fun P => 23) (fun P => [P, P + 1]) rfl) 6).trans ((F_114.1 23 (by decide) 6).trans (hs_97.trans (hs_60.trans (F_10.1 23 (by decide) 6)))))
      have e_154 : μ131.1 23 7 = μ.1 23 7 := ((F_133.1 23 (ni hprP (fun P => 23) (fun P => [P, P + 1]) rfl) 7).trans ((F_114.1 23 (by decide) 7).trans (hs_98.trans (hs_61.trans (F_10.1 23 (by decide) 7)))))
      have e_155 : μ131.1 23 8 = tt := ((F_133.1 23 (ni hprP (fun P => 23) (fun P => [P, P + 1]) rfl) 8).trans ((F_114.1 23 (by decide) 8).trans (hs_99.trans (hs_62.trans ((F_10.1 23 (by decide) 8).trans htt.symm)))))
      have e_156 : μ131.1 23 9 = μ.1 23 9 := ((F_133.1 23 (ni hprP (fun P => 23) (fun P => [P, P + 1]) rfl) 9).trans ((F_114.1 23 (by decide) 9).trans (hs_100.trans (hs_63.trans (F_10.1 23 (by decide) 9)))))
      have e_157 : μ131.1 23 10 = μ.1 23 10 := ((F_133.1 23 (ni hprP (fun P => 23) (fun P => [P, P + 1]) rfl) 10).trans ((F_114.1 23 (by decide) 10).trans (hs_101.trans (hs_64.trans (F_10.1 23 (by decide) 10)))))
      have e_158 : μ131.1 26 6 = μ.1 26 6 := ((F_133.1 26 (ni hprP (fun P => 26) (fun P => [P, P + 1]) rfl) 6).trans (hs_119.trans (hs_102.trans (hs_65.trans hs_15))))
      have e_159 : μ131.1 P 7 = μ.1 P 7 := (hs_138.trans ((F_114.1 P (ni hprP (fun P => P) (fun P => [26]) rfl) 7).trans (hs_103.trans (hs_66.trans (F_10.1 P (ni hprP (fun P => P) (fun P => [26]) rfl) 7)))))
      exact xr_v G hret hlk dX7_nameFirst_144 ⟨(Fr.tr (Fr.tr (Fr.tr (Fr.tr (Fr.tr Fr.rf F_10 (si hprP (fun P => [26]) (fun P => [2, 3, 4, 23, 24, 26, P, P + 1, P + 2, (P + 2) + 1, (P + 2) + 2, (P + 2) + 3]) rfl)) F_50 (si hprP (fun P => [2, 3, 4, 23, 24, 26, P, P + 1, P + 2, (P + 2) + 1, (P + 2) + 2, (P + 2) + 3]) (fun P => [2, 3, 4, 23, 24, 26, P, P + 1, P + 2, (P + 2) + 1, (P + 2) + 2, (P + 2) + 3]) rfl)) F_87 (si hprP (fun P => [2, 3, 4, 23, 24, 26, P, P + 1, P + 2, (P + 2) + 1, (P + 2) + 2, (P + 2) + 3]) (fun P => [2, 3, 4, 23, 24, 26, P, P + 1, P + 2, (P + 2) + 1, (P + 2) + 2, (P + 2) + 3]) rfl)) F_114 (si hprP (fun P => [26]) (fun P => [2, 3, 4, 23, 24, 26, P, P + 1, P + 2, (P + 2) + 1, (P + 2) + 2, (P + 2) + 3]) rfl)) F_133 (si hprP (fun P => [P, P + 1]) (fun P => [2, 3, 4, 23, 24, 26, P, P + 1, P + 2, (P + 2) + 1, (P + 2) + 2, (P + 2) + 3]) rfl)), hI_134, htk_140, (by omega), (by omega), (by omega), (by omega), (fun h0 => (PXE.ex (hpx_139 h0)).e (by omega)), (by omega), (by omega), (by omega), (by omega), (by omega), (by omega), (by omega), (by omega), (by omega)⟩
    · refine lv_aload_n hx hb dX7_nameFirst_70 rfl (lv_at hl 2 rfl) ?_
      refine lv_aload_n hx hb dX7_nameFirst_71 rfl (lv_at hl 2 rfl) ?_
      refine lv_lload_n hx hb dX7_nameFirst_72 rfl (lv_at hl 1 rfl) ?_
      refine lv_iload_n hx hb dX7_nameFirst_73 rfl (lv_at hl 0 rfl) ?_
      have hpx_160 : μ9.1 26 11 = 0 → PXE μ μ9 P tt 0 (-1) 1 := fun h0 => (hnil (by have h9 : μ.1 26 11 = μ.1 26 11 := rfl; have h8 : μ9.1 26 11 = μ.1 26 11 := hs_14; omega)).fr (K := [26]) (Fr.tr Fr.rf F_10 (by decide)) (npL_p (L := [26]) (by decide) hprP).1 (npL_p (L := [26]) (by decide) hprP).2.1
      refine xc_iV G (b := 23) (rest := [.ref (oP ω 23)]) (As := [.long (jv (μ.1 26 14)), .int (iv (μ.1 26 13))]) (c_X7_variableAt ω l μ9 (μ.1 26 14) (μ.1 26 13) hj_3 (by unfold ir; omega) hI_11) (wm 4 84 rfl rfl) (wm 4 86 rfl rfl) (wm 0 37 rfl rfl) rfl rfl (by decide) rfl (wm 1 12 rfl rfl) (wm 4 87 rfl rfl) (by decide) hR (by decide) (n := 2) rfl rfl (Nat.le_of_ble_eq_true rfl) hl.1 dX7_nameFirst_74 (fun r_162 μ161 ρ d0 H locs hr_r_162 hp G => ?_)
      have hr_r_162 : -2147483648 ≤ r_162 ∧ r_162 ≤ 2147483647 := hr_r_162
      obtain ⟨F_163, hI_164, hp_165⟩ := hp
      have hpx_166 : μ161.1 26 11 = 0 → PXE μ μ161 P tt 0 (-1) 1 := fun h0 => (hpx_160 (by have h9 : μ9.1 26 11 = μ.1 26 11 := hs_14; have h8 : μ161.1 26 11 = μ.1 26 11 := ((F_163.1 26 (by decide) 11).trans hs_14); omega)).fr (K := [24]) (Fr.tr Fr.rf F_163 (by decide)) (npL_p (L := [24]) (by decide) hprP).1 (npL_p (L := [24]) (by decide) hprP).2.1
      have e_167 : μ161.1 23 2 = P := ((F_163.1 23 (by decide) 2).trans ((F_10.1 23 (by decide) 2).trans hP.symm))
      have e_168 : μ161.1 23 8 = tt := ((F_163.1 23 (by decide) 8).trans ((F_10.1 23 (by decide) 8).trans htt.symm))
      have htk_169 : TK μ161 := htk_20.fr (K := [24]) (Fr.tr Fr.rf F_163 (by decide)) (by decide) (by decide) (by decide)
      have e_170 : μ161.1 P 1 = μ.1 P 1 := ((F_163.1 P (ni hprP (fun P => P) (fun P => [24]) rfl) 1).trans (F_10.1 P (ni hprP (fun P => P) (fun P => [26]) rfl) 1))
      have e_171 : μ161.1 26 10 = μ9.1 26 10 := (F_163.1 26 (by decide) 10)
      have e_172 : μ161.1 26 11 = μ.1 26 11 := ((F_163.1 26 (by decide) 11).trans hs_14)
      have hk_173 := hI.row (r := P + 2) (hprP.row)
      unfold rk at hk_173
      have e_174 : μ161.1 (P + 2) 3 = μ.1 (P + 2) 3 := ((F_163.1 (P + 2) (ni hprP (fun P => P + 2) (fun P => [24]) rfl) 3).trans (F_10.1 (P + 2) (ni hprP (fun P => P + 2) (fun P => [26]) rfl) 3))
      have e_175 : μ161.1 P 1 = μ.1 P 1 := ((F_163.1 P (ni hprP (fun P => P) (fun P => [24]) rfl) 1).trans (F_10.1 P (ni hprP (fun P => P) (fun P => [26]) rfl) 1))
      have e_176 : μ161.1 23 9 = μ.1 23 9 := ((F_163.1 23 (by decide) 9).trans (F_10.1 23 (by decide) 9))
      have e_177 : μ161.1 23 9 = μ.1 23 9 := ((F_163.1 23 (by decide) 9).trans (F_10.1 23 (by decide) 9))
      have e_178 : μ161.1 26 11 = μ.1 26 11 := ((F_163.1 26 (by decide) 11).trans hs_14)
      have e_179 : μ161.1 26 10 = μ9.1 26 10 := (F_163.1 26 (by decide) 10)
      have e_180 : μ161.1 P 1 = μ.1 P 1 := ((F_163.1 P (ni hprP (fun P => P) (fun P => [24]) rfl) 1).trans (F_10.1 P (ni hprP (fun P => P) (fun P => [26]) rfl) 1))
      have e_181 : μ161.1 P 1 = μ.1 P 1 := ((F_163.1 P (ni hprP (fun P => P) (fun P => [24]) rfl) 1).trans (F_10.1 P (ni hprP (fun P => P) (fun P => [26]) rfl) 1))
      have e_182 : μ161.1 26 10 = μ9.1 26 10 := (F_163.1 26 (by decide) 10)
      have e_183 : μ161.1 (P + 2) 3 = μ.1 (P + 2) 3 := ((F_163.1 (P + 2) (ni hprP (fun P => P + 2) (fun P => [24]) rfl) 3).trans (F_10.1 (P + 2) (ni hprP (fun P => P + 2) (fun P => [26]) rfl) 3))
      have e_184 : μ161.1 P 1 = μ.1 P 1 := ((F_163.1 P (ni hprP (fun P => P) (fun P => [24]) rfl) 1).trans (F_10.1 P (ni hprP (fun P => P) (fun P => [26]) rfl) 1))
      have e_185 : μ161.1 (P + 2) 3 = μ.1 (P + 2) 3 := ((F_163.1 (P + 2) (ni hprP (fun P => P + 2) (fun P => [24]) rfl) 3).trans (F_10.1 (P + 2) (ni hprP (fun P => P + 2) (fun P => [26]) rfl) 3))
      have e_186 : μ161.1 23 2 = P := ((F_163.1 23 (by decide) 2).trans ((F_10.1 23 (by decide) 2).trans hP.symm))
      have hn_187 : 0 ≤ μ.1 23 5 ∧ μ.1 23 5 ≤ 1000 := hI.nm.2.2.2.2.2.2.2.2.1
      have e_188 : μ161.1 23 5 = μ.1 23 5 := ((F_163.1 23 (by decide) 5).trans (F_10.1 23 (by decide) 5))
      have e_189 : μ161.1 23 6 = μ.1 23 6 := ((F_163.1 23 (by decide) 6).trans (F_10.1 23 (by decide) 6))
      have e_190 : μ161.1 23 7 = μ.1 23 7 := ((F_163.1 23 (by decide) 7).trans (F_10.1 23 (by decide) 7))
      have e_191 : μ161.1 23 8 = tt := ((F_163.1 23 (by decide) 8).trans ((F_10.1 23 (by decide) 8).trans htt.symm))
      have e_192 : μ161.1 23 9 = μ.1 23 9 := ((F_163.1 23 (by decide) 9).trans (F_10.1 23 (by decide) 9))
      have e_193 : μ161.1 23 10 = μ.1 23 10 := ((F_163.1 23 (by decide) 10).trans (F_10.1 23 (by decide) 10))
      have e_194 : μ161.1 26 6 = μ.1 26 6 := ((F_163.1 26 (by decide) 6).trans hs_15)
      have e_195 : μ161.1 P 7 = μ.1 P 7 := ((F_163.1 P (ni hprP (fun P => P) (fun P => [24]) rfl) 7).trans (F_10.1 P (ni hprP (fun P => P) (fun P => [26]) rfl) 7))
      refine xc_iV G (b := 23) (rest := []) (As := [.int (iv r_162)]) (c_X7_cellParts_ca ω l μ161 r_162 P tt (by unfold ir; omega) hI_164 (by omega) (by omega) htk_169 (by omega) (by omega) (by omega) (by omega) (by omega)) (wm 4 88 rfl rfl) (wm 4 90 rfl rfl) (wm 0 38 rfl rfl) rfl rfl (by decide) rfl (wm 1 12 rfl rfl) (wm 4 91 rfl rfl) (by decide) hR (by decide) (n := 1) rfl rfl (Nat.le_of_ble_eq_true rfl) hl.1 dX7_nameFirst_77 (fun r_197 μ196 ρ d0 H locs hr_r_197 hp G => ?_)
      have hr_r_197 : -2147483648 ≤ r_197 ∧ r_197 ≤ 2147483647 := hr_r_197
      obtain ⟨F_198, hI_199, hp_200, hp_201, hp_202, hp_203, hp_204, hp_205, hs_206, hs_207, hs_208, hs_209, hs_210, hs_211, hs_212, hs_213, hs_214⟩ := hp
      have hn_215 : -1 ≤ μ196.1 26 10 ∧ μ196.1 26 10 ≤ 3000 := hI_199.nm.2.2.2.2.2.2.2.2.2.2.2.2
      have hk_216 := hI_199.pr (p := P) hprP
      unfold pk at hk_216
      have hc_217 : 16 ≤ μ196.2.1 (P + 1) ∧ μ196.2.1 (P + 1) ≤ 73024 := hI_199.rm.1 _ hprP.cap
      have hk_218 := hI_199.row (r := P + 2) (hprP.row)
      unfold rk at hk_218
      have htb_219 := hp_200.b
      have hpc_220 : μ196.1 26 11 = 0 → PXC μ μ196 P tt 2 r_197 1 := fun h0 => PXC.fl (K := [24, 26]) (Fr.tr (Fr.tr Fr.rf F_10 (by decide)) F_163 (by decide)) (npL_p (L := [24, 26]) (by decide) hprP).1 (npL_p (L := [24, 26]) (by decide) hprP).2.1 (hp_205 h0)
      have hpx_221 : μ196.1 26 11 = 0 → PXE μ μ196 P tt 2 r_197 1 := fun h0 => (hpc_220 h0).e
      refine lv_istore (lv' := [(4, .int (iv r_197)), (3, .int (iv (μ.1 26 13))), (1, .long (jv (μ.1 26 14))), (0, .ref (oP ω 23))]) hx hb dX7_nameFirst_80 hl (by decide) rfl (fun ls hl => ?_)
      refine lv_aload_n hx hb dX7_nameFirst_82 rfl (lv_at hl 3 rfl) ?_
      refine lv_bipush (v := iv 61) hx hb dX7_nameFirst_83 rfl ?_
      have e_222 : μ196.1 26 6 = μ.1 26 6 := (hs_213.trans ((F_163.1 26 (by decide) 6).trans hs_15))
      have hn_223 : 0 ≤ μ196.1 26 7 ∧ μ196.1 26 7 ≤ 3000 := hI_199.nm.2.2.2.2.2.2.2.2.2.2.1
      have hn_224 : 0 ≤ μ196.1 26 9 ∧ μ196.1 26 9 ≤ 3000 := hI_199.nm.2.2.2.2.2.2.2.2.2.2.2.1
      refine xc_iV G (b := 23) (rest := []) (As := [.int (iv 61)]) (c_X7_took_b ω l μ196 61 (by unfold ir; omega) hI_199 hp_200 (by omega)) (wm 3 160 rfl rfl) (wm 3 162 rfl rfl) (wm 0 9 rfl rfl) rfl rfl (by decide) rfl (wm 1 12 rfl rfl) (wm 3 163 rfl rfl) (by decide) hR (by decide) (n := 1) rfl rfl (Nat.le_of_ble_eq_true rfl) hl.1 dX7_nameFirst_85 (fun r_226 μ225 ρ d0 H locs hr_r_226 hp G => ?_)
      have hr_r_226 : -2147483648 ≤ r_226 ∧ r_226 ≤ 2147483647 := hr_r_226
      obtain ⟨F_227, hI_228, hp_229, hp_230, hp_231, hs_232, hs_233, hs_234, hs_235, hs_236⟩ := hp
      have hn_237 : -1 ≤ μ225.1 26 10 ∧ μ225.1 26 10 ≤ 3000 := hI_228.nm.2.2.2.2.2.2.2.2.2.2.2.2
      have htb_238 := hp_229.b
      refine xb_if_eq (tgt := 105) hx hb (by unfold ir; omega) dX7_nameFirst_88 (by decide) (fun c_88 => ?_) (fun c_88 => ?_)
      · refine lv_aload_n hx hb dX7_nameFirst_105 rfl (lv_at hl 3 rfl) ?_
        refine lv_bipush (v := iv 11) hx hb dX7_nameFirst_106 rfl ?_
        refine lv_iconst (v := iv 0) hx hb dX7_nameFirst_108 rfl ?_
        refine lv_iconst (v := iv 0) hx hb dX7_nameFirst_109 rfl ?_
        refine lv_iload hx hb dX7_nameFirst_110 (lv_at hl 0 rfl) ?_
        have hpx_239 : μ225.1 26 11 = 0 → PXE μ μ225 P tt 2 r_197 1 := fun h0 => (hpx_221 (by have h9 : μ196.1 26 11 = μ196.1 26 11 := rfl; have h8 : μ225.1 26 11 = μ196.1 26 11 := hs_232; omega)).fr (K := [26]) (Fr.tr Fr.rf F_227 (by decide)) (npL_p (L := [26]) (by decide) hprP).1 (npL_p (L := [26]) (by decide) hprP).2.1
        have e_240 : μ225.1 23 2 = P := ((F_227.1 23 (by decide) 2).trans (hs_206.trans ((F_163.1 23 (by decide) 2).trans ((F_10.1 23 (by decide) 2).trans hP.symm))))
        have e_241 : μ225.1 23 8 = tt := ((F_227.1 23 (by decide) 8).trans (hs_210.trans ((F_163.1 23 (by decide) 8).trans ((F_10.1 23 (by decide) 8).trans htt.symm))))
        have e_242 : μ225.1 P 1 = μ196.1 P 1 := (F_227.1 P (ni hprP (fun P => P) (fun P => [26]) rfl) 1)
        have e_243 : μ225.1 P 1 = μ196.1 P 1 := (F_227.1 P (ni hprP (fun P => P) (fun P => [26]) rfl) 1)
        have e_244 : μ225.1 P 7 = μ.1 P 7 := ((F_227.1 P (ni hprP (fun P => P) (fun P => [26]) rfl) 7).trans (hs_214.trans ((F_163.1 P (ni hprP (fun P => P) (fun P => [24]) rfl) 7).trans (F_10.1 P (ni hprP (fun P => P) (fun P => [26]) rfl) 7))))
        refine xc_vV G (b := 23) (rest := []) (As := [.int (iv 11), .int (iv 0), .int (iv 0), .int (iv r_197)]) (c_X7_endOfParts ω l μ225 11 0 0 r_197 μ (2) (1) P tt (by unfold ir; omega) (by unfold ir; omega) (by unfold ir; omega) (by unfold ir; omega) hI_228 (by omega) (by omega) (by omega) hpx_239 (Or.inl (by unfold plain; omega)) (by omega) (by rw [show eff 11 0 = -1 from rfl]; omega)) (wm 4 27 rfl rfl) (wm 4 29 rfl rfl) (wm 0 30 rfl rfl) rfl rfl (by decide) rfl (wm 1 12 rfl rfl) (wm 4 30 rfl rfl) (by decide) hR (by decide) (n := 4) rfl rfl (Nat.le_of_ble_eq_true rfl) hl.1 dX7_nameFirst_112 (fun μ245 ρ d0 H locs hp G => ?_)
        obtain ⟨F_246, hI_247, hp_248, hs_249, hs_250⟩ := hp
        have hpx_251 : μ245.1 26 11 = 0 → PXE μ μ245 P tt 1 (-1) 1 := fun h0 => PXE.of (hp_248 (by have h9 : μ225.1 26 11 = μ196.1 26 11 := hs_232; have h8 : μ245.1 26 11 = μ196.1 26 11 := ((F_246.1 26 (ni hprP (fun P => 26) (fun P => [P, P + 1]) rfl) 11).trans hs_232); omega))
        clear hp_248
        refine lv_goto (tgt := 124) hx hb dX7_nameFirst_115 (by decide) ?_
        refine lv_aload_n hx hb dX7_nameFirst_124 rfl (lv_at hl 3 rfl) ?_
        refine lv_iconst (v := iv 1) hx hb dX7_nameFirst_125 rfl ?_
        have e_252 : μ245.1 23 2 = P := ((F_246.1 23 (ni hprP (fun P => 23) (fun P => [P, P + 1]) rfl) 2).trans ((F_227.1 23 (by decide) 2).trans (hs_206.trans ((F_163.1 23 (by decide) 2).trans ((F_10.1 23 (by decide) 2).trans hP.symm)))))
        have e_253 : μ245.1 23 8 = tt := ((F_246.1 23 (ni hprP (fun P => 23) (fun P => [P, P + 1]) rfl) 8).trans ((F_227.1 23 (by decide) 8).trans (hs_210.trans ((F_163.1 23 (by decide) 8).trans ((F_10.1 23 (by decide) 8).trans htt.symm)))))
        have htk_254 : TK μ245 := hp_229.fr (K := [P, P + 1]) (Fr.tr Fr.rf F_246 (si hprP (fun P => [P, P + 1]) (fun P => [P, P + 1]) rfl)) (ni hprP (fun P => 26) (fun P => [P, P + 1]) rfl) (ni hprP (fun P => 28) (fun P => [P, P + 1]) rfl) (ni hprP (fun P => 29) (fun P => [P, P + 1]) rfl)
        have e_255 : μ245.1 P 1 = μ225.1 P 1 + 1 := hs_249
        have e_256 : μ245.1 26 10 = μ225.1 26 10 := (F_246.1 26 (ni hprP (fun P => 26) (fun P => [P, P + 1]) rfl) 10)
        have e_257 : μ245.1 26 11 = μ196.1 26 11 := ((F_246.1 26 (ni hprP (fun P => 26) (fun P => [P, P + 1]) rfl) 11).trans hs_232)
        have e_258 : μ245.1 (P + 2) 3 = μ196.1 (P + 2) 3 := ((F_246.1 (P + 2) (ni hprP (fun P => P + 2) (fun P => [P, P + 1]) rfl) 3).trans (F_227.1 (P + 2) (ni hprP (fun P => P + 2) (fun P => [26]) rfl) 3))
        have e_259 : μ245.1 P 1 = μ225.1 P 1 + 1 := hs_249
        have e_260 : μ245.1 23 9 = μ.1 23 9 := ((F_246.1 23 (ni hprP (fun P => 23) (fun P => [P, P + 1]) rfl) 9).trans ((F_227.1 23 (by decide) 9).trans (hs_211.trans ((F_163.1 23 (by decide) 9).trans (F_10.1 23 (by decide) 9)))))
        have e_261 : μ245.1 23 9 = μ.1 23 9 := ((F_246.1 23 (ni hprP (fun P => 23) (fun P => [P, P + 1]) rfl) 9).trans ((F_227.1 23 (by decide) 9).trans (hs_211.trans ((F_163.1 23 (by decide) 9).trans (F_10.1 23 (by decide) 9)))))
        have e_262 : μ245.1 26 11 = μ196.1 26 11 := ((F_246.1 26 (ni hprP (fun P => 26) (fun P => [P, P + 1]) rfl) 11).trans hs_232)
        have e_263 : μ245.1 26 11 = μ196.1 26 11 := ((F_246.1 26 (ni hprP (fun P => 26) (fun P => [P, P + 1]) rfl) 11).trans hs_232)
        have e_264 : μ245.1 26 10 = μ225.1 26 10 := (F_246.1 26 (ni hprP (fun P => 26) (fun P => [P, P + 1]) rfl) 10)
        have e_265 : μ245.1 P 1 = μ225.1 P 1 + 1 := hs_249
        have e_266 : μ245.1 P 1 = μ225.1 P 1 + 1 := hs_249
        have e_267 : μ245.1 26 10 = μ225.1 26 10 := (F_246.1 26 (ni hprP (fun P => 26) (fun P => [P, P + 1]) rfl) 10)
        have e_268 : μ245.1 26 11 = μ196.1 26 11 := ((F_246.1 26 (ni hprP (fun P => 26) (fun P => [P, P + 1]) rfl) 11).trans hs_232)
        have e_269 : μ245.1 (P + 2) 3 = μ196.1 (P + 2) 3 := ((F_246.1 (P + 2) (ni hprP (fun P => P + 2) (fun P => [P, P + 1]) rfl) 3).trans (F_227.1 (P + 2) (ni hprP (fun P => P + 2) (fun P => [26]) rfl) 3))
        have e_270 : μ245.1 P 1 = μ225.1 P 1 + 1 := hs_249
        have e_271 : μ245.1 (P + 2) 3 = μ196.1 (P + 2) 3 := ((F_246.1 (P + 2) (ni hprP (fun P => P + 2) (fun P => [P, P + 1]) rfl) 3).trans (F_227.1 (P + 2) (ni hprP (fun P => P + 2) (fun P => [26]) rfl) 3))
        have e_272 : μ245.1 23 2 = P := ((F_246.1 23 (ni hprP (fun P => 23) (fun P => [P, P + 1]) rfl) 2).trans ((F_227.1 23 (by decide) 2).trans (hs_206.trans ((F_163.1 23 (by decide) 2).trans ((F_10.1 23 (by decide) 2).trans hP.symm)))))
        have e_273 : μ245.1 23 5 = μ.1 23 5 := ((F_246.1 23 (ni hprP (fun P => 23) (fun P => [P, P + 1]) rfl) 5).trans ((F_227.1 23 (by decide) 5).trans (hs_207.trans ((F_163.1 23 (by decide) 5).trans (F_10.1 23 (by decide) 5)))))
        have e_274 : μ245.1 23 6 = μ.1 23 6 := ((F_246.1 23 (ni hprP (fun P => 23) (fun P => [P, P + 1]) rfl) 6).trans ((F_227.1 23 (by decide) 6).trans (hs_208.trans ((F_163.1 23 (by decide) 6).trans (F_10.1 23 (by decide) 6)))))
        have e_275 : μ245.1 23 7 = μ.1 23 7 := ((F_246.1 23 (ni hprP (fun P => 23) (fun P => [P, P + 1]) rfl) 7).trans ((F_227.1 23 (by decide) 7).trans (hs_209.trans ((F_163.1 23 (by decide) 7).trans (F_10.1 23 (by decide) 7)))))
        have e_276 : μ245.1 23 8 = tt := ((F_246.1 23 (ni hprP (fun P => 23) (fun P => [P, P + 1]) rfl) 8).trans ((F_227.1 23 (by decide) 8).trans (hs_210.trans ((F_163.1 23 (by decide) 8).trans ((F_10.1 23 (by decide) 8).trans htt.symm)))))
        have e_277 : μ245.1 23 9 = μ.1 23 9 := ((F_246.1 23 (ni hprP (fun P => 23) (fun P => [P, P + 1]) rfl) 9).trans ((F_227.1 23 (by decide) 9).trans (hs_211.trans ((F_163.1 23 (by decide) 9).trans (F_10.1 23 (by decide) 9)))))
        have e_278 : μ245.1 23 10 = μ.1 23 10 := ((F_246.1 23 (ni hprP (fun P => 23) (fun P => [P, P + 1]) rfl) 10).trans ((F_227.1 23 (by decide) 10).trans (hs_212.trans ((F_163.1 23 (by decide) 10).trans (F_10.1 23 (by decide) 10)))))
        have e_279 : μ245.1 26 6 = μ.1 26 6 := ((F_246.1 26 (ni hprP (fun P => 26) (fun P => [P, P + 1]) rfl) 6).trans (hs_233.trans (hs_213.trans ((F_163.1 26 (by decide) 6).trans hs_15))))
        have e_280 : μ245.1 P 7 = μ.1 P 7 := (hs_250.trans ((F_227.1 P (ni hprP (fun P => P) (fun P => [26]) rfl) 7).trans (hs_214.trans ((F_163.1 P (ni hprP (fun P => P) (fun P => [24]) rfl) 7).trans (F_10.1 P (ni hprP (fun P => P) (fun P => [26]) rfl) 7)))))
        refine xc_vV G (b := 23) (rest := []) (As := [.int (iv 1)]) (c_X7_expression_a ω l μ245 1 P tt (by omega) hI_247 (by omega) (by omega) htk_254 (by omega) (by omega) (by omega) (by omega) (fun _ => (Classical.em (μ245.1 26 11 = 0)).elim (fun h0 => Or.inr (Or.inr (by have h9 := (hpx_251 h0).h; omega))) (fun h9 => Or.inr (Or.inl h9)))) (wm 4 3 rfl rfl) (wm 4 5 rfl rfl) (wm 0 24 rfl rfl) rfl rfl (by decide) rfl (wm 1 12 rfl rfl) (wm 4 6 rfl rfl) (by decide) hR (by decide) (n := 1) rfl rfl (Nat.le_of_ble_eq_true rfl) hl.1 dX7_nameFirst_126 (fun μ281 ρ d0 H locs hp G => ?_)
        obtain ⟨F_282, hI_283, hp_284, hp_285, hp_286, hp_287, hp_288, hp_289, hs_290, hs_291, hs_292, hs_293, hs_294, hs_295, hs_296, hs_297, hs_298⟩ := hp
        have hn_299 : -1 ≤ μ281.1 26 10 ∧ μ281.1 26 10 ≤ 3000 := hI_283.nm.2.2.2.2.2.2.2.2.2.2.2.2
        have hk_300 := hI_283.pr (p := P) hprP
        unfold pk at hk_300
        have hc_301 : 16 ≤ μ281.2.1 (P + 1) ∧ μ281.2.1 (P + 1) ≤ 73024 := hI_283.rm.1 _ hprP.cap
        have hk_302 := hI_283.row (r := P + 2) (hprP.row)
        unfold rk at hk_302
        have htb_303 := hp_284.b
        have hpx_304 : μ281.1 26 11 = 0 → PXE μ μ281 P tt (1 + (1 - 1)) (-1) 1 := fun h0 => (PXE.app (hpx_251 (by have h9 : μ245.1 26 11 = μ196.1 26 11 := ((F_246.1 26 (ni hprP (fun P => 26) (fun P => [P, P + 1]) rfl) 11).trans hs_232); have h8 : μ281.1 26 11 = μ281.1 26 11 := rfl; omega)) (hp_289 h0)).e (by omega)
        refine lv_aload_n hx hb dX7_nameFirst_129 rfl (lv_at hl 3 rfl) ?_
        refine lv_bipush (v := iv 59) hx hb dX7_nameFirst_130 rfl ?_
        have e_305 : μ281.1 26 6 = μ.1 26 6 := (hs_297.trans ((F_246.1 26 (ni hprP (fun P => 26) (fun P => [P, P + 1]) rfl) 6).trans (hs_233.trans (hs_213.trans ((F_163.1 26 (by decide) 6).trans hs_15)))))
        have hn_306 : 0 ≤ μ281.1 26 7 ∧ μ281.1 26 7 ≤ 3000 := hI_283.nm.2.2.2.2.2.2.2.2.2.2.1
        have hn_307 : 0 ≤ μ281.1 26 9 ∧ μ281.1 26 9 ≤ 3000 := hI_283.nm.2.2.2.2.2.2.2.2.2.2.2.1
        refine xc_vV G (b := 23) (rest := []) (As := [.int (iv 59)]) (c_X7_need_b ω l μ281 59 (by unfold ir; omega) hI_283 hp_284 (by omega)) (wm 3 169 rfl rfl) (wm 3 171 rfl rfl) (wm 0 11 rfl rfl) rfl rfl (by decide) rfl (wm 1 12 rfl rfl) (wm 3 172 rfl rfl) (by decide) hR (by decide) (n := 1) rfl rfl (Nat.le_of_ble_eq_true rfl) hl.1 dX7_nameFirst_132 (fun μ308 ρ d0 H locs hp G => ?_)
        obtain ⟨F_309, hI_310, hp_311, hp_312, hp_313, hs_314, hs_315, hs_316, hs_317⟩ := hp
        have hn_318 : -1 ≤ μ308.1 26 10 ∧ μ308.1 26 10 ≤ 3000 := hI_310.nm.2.2.2.2.2.2.2.2.2.2.2.2
        have htb_319 := hp_311.b
        refine lv_aload_n hx hb dX7_nameFirst_135 rfl (lv_at hl 3 rfl) ?_
        refine lv_bipush (v := iv 6) hx hb dX7_nameFirst_136 rfl ?_
        refine lv_iconst (v := iv 0) hx hb dX7_nameFirst_138 rfl ?_
        refine lv_iconst (v := iv 0) hx hb dX7_nameFirst_139 rfl ?_
        have hpx_320 : μ308.1 26 11 = 0 → PXE μ μ308 P tt (1 + (1 - 1)) (-1) 1 := fun h0 => (hpx_304 (by have h9 : μ281.1 26 11 = μ281.1 26 11 := rfl; have h8 : μ308.1 26 11 = μ308.1 26 11 := rfl; omega)).fr (K := [26]) (Fr.tr Fr.rf F_309 (by decide)) (npL_p (L := [26]) (by decide) hprP).1 (npL_p (L := [26]) (by decide) hprP).2.1
        have e_321 : μ308.1 23 2 = P := ((F_309.1 23 (by decide) 2).trans (hs_290.trans ((F_246.1 23 (ni hprP (fun P => 23) (fun P => [P, P + 1]) rfl) 2).trans ((F_227.1 23 (by decide) 2).trans (hs_206.trans ((F_163.1 23 (by decide) 2).trans ((F_10.1 23 (by decide) 2).trans hP.symm)))))))
        have e_322 : μ308.1 P 1 = μ281.1 P 1 := (F_309.1 P (ni hprP (fun P => P) (fun P => [26]) rfl) 1)
        have e_323 : μ308.1 P 1 = μ281.1 P 1 := (F_309.1 P (ni hprP (fun P => P) (fun P => [26]) rfl) 1)
        have e_324 : μ308.1 P 1 = μ281.1 P 1 := (F_309.1 P (ni hprP (fun P => P) (fun P => [26]) rfl) 1)
        have e_325 : μ308.1 P 7 = μ.1 P 7 := ((F_309.1 P (ni hprP (fun P => P) (fun P => [26]) rfl) 7).trans (hs_298.trans (hs_250.trans ((F_227.1 P (ni hprP (fun P => P) (fun P => [26]) rfl) 7).trans (hs_214.trans ((F_163.1 P (ni hprP (fun P => P) (fun P => [24]) rfl) 7).trans (F_10.1 P (ni hprP (fun P => P) (fun P => [26]) rfl) 7)))))))
        refine xc_iV G (b := 23) (rest := []) (As := [.int (iv 6), .int (iv 0), .int (iv 0)]) (c_X7_add ω l μ308 6 0 0 P (by unfold ir; omega) (by unfold ir; omega) (by unfold ir; omega) hI_310 (by omega) (by omega)) (wm 3 226 rfl rfl) (wm 3 228 rfl rfl) (wm 0 21 rfl rfl) rfl rfl (by decide) rfl (wm 1 12 rfl rfl) (wm 3 229 rfl rfl) (by decide) hR (by decide) (n := 3) rfl rfl (Nat.le_of_ble_eq_true rfl) hl.1 dX7_nameFirst_140 (fun r_327 μ326 ρ d0 H locs hr_r_327 hp G => ?_)
        have hr_r_327 : -2147483648 ≤ r_327 ∧ r_327 ≤ 2147483647 := hr_r_327
        obtain ⟨F_328, hI_329, hp_330, hp_331, hs_332, hs_333⟩ := hp
        have hpx_334 : μ326.1 26 11 = 0 → PXE μ μ326 P tt ((1 + (1 - 1)) + -1) (-1) 1 := fun h0 => by
          have hq := hpx_320 (by have h9 : μ308.1 26 11 = μ308.1 26 11 := rfl; have h8 : μ326.1 26 11 = μ308.1 26 11 := (F_328.1 26 (ni hprP (fun P => 26) (fun P => [P, P + 1]) rfl) 11); omega)
          have hh := hq.h
          exact PXE.app hq (EX.pl hp_331 (by omega) (by unfold plain; omega) (e := -1) rfl (by omega))
        refine lv_pop hx hb dX7_nameFirst_143 rfl ?_
        have htk_335 : TK μ326 := hp_311.fr (K := [P, P + 1]) (Fr.tr Fr.rf F_328 (si hprP (fun P => [P, P + 1]) (fun P => [P, P + 1]) rfl)) (ni hprP (fun P => 26) (fun P => [P, P + 1]) rfl) (ni hprP (fun P => 28) (fun P => [P, P + 1]) rfl) (ni hprP (fun P => 29) (fun P => [P, P + 1]) rfl)
        have e_336 : μ326.1 26 11 = μ308.1 26 11 := (F_328.1 26 (ni hprP (fun P => 26) (fun P => [P, P + 1]) rfl) 11)
        have e_337 : μ326.1 26 11 = μ308.1 26 11 := (F_328.1 26 (ni hprP (fun P => 26) (fun P => [P, P + 1]) rfl) 11)
        have e_338 : μ326.1 26 10 = μ308.1 26 10 := (F_328.1 26 (ni hprP (fun P => 26) (fun P => [P, P + 1]) rfl) 10)
        have e_339 : μ326.1 P 1 = μ308.1 P 1 + 1 := hs_332
        have e_340 : μ326.1 P 1 = μ308.1 P 1 + 1 := hs_332
        have e_341 : μ326.1 26 10 = μ308.1 26 10 := (F_328.1 26 (ni hprP (fun P => 26) (fun P => [P, P + 1]) rfl) 10)
        have e_342 : μ326.1 26 11 = μ308.1 26 11 := (F_328.1 26 (ni hprP (fun P => 26) (fun P => [P, P + 1]) rfl) 11)
        have e_343 : μ326.1 (P + 2) 3 = μ281.1 (P + 2) 3 := ((F_328.1 (P + 2) (ni hprP (fun P => P + 2) (fun P => [P, P + 1]) rfl) 3).trans (F_309.1 (P + 2) (ni hprP (fun P => P + 2) (fun P => [26]) rfl) 3))
        have e_344 : μ326.1 P 1 = μ308.1 P 1 + 1 := hs_332
        have e_345 : μ326.1 (P + 2) 3 = μ281.1 (P + 2) 3 := ((F_328.1 (P + 2) (ni hprP (fun P => P + 2) (fun P => [P, P + 1]) rfl) 3).trans (F_309.1 (P + 2) (ni hprP (fun P => P + 2) (fun P => [26]) rfl) 3))
        have e_346 : μ326.1 23 2 = P := ((F_328.1 23 (ni hprP (fun P => 23) (fun P => [P, P + 1]) rfl) 2).trans ((F_309.1 23 (by decide) 2).trans (hs_290.trans ((F_246.1 23 (ni hprP (fun P => 23) (fun P => [P, P + 1]) rfl) 2).trans ((F_227.1 23 (by decide) 2).trans (hs_206.trans ((F_163.1 23 (by decide) 2).trans ((F_10.1 23 (by decide) 2).trans hP.symm))))))))
        have e_347 : μ326.1 23 5 = μ.1 23 5 := ((F_328.1 23 (ni hprP (fun P => 23) (fun P => [P, P + 1]) rfl) 5).trans ((F_309.1 23 (by decide) 5).trans (hs_291.trans ((F_246.1 23 (ni hprP (fun P => 23) (fun P => [P, P + 1]) rfl) 5).trans ((F_227.1 23 (by decide) 5).trans (hs_207.trans ((F_163.1 23 (by decide) 5).trans (F_10.1 23 (by decide) 5))))))))
        have e_348 : μ326.1 23 6 = μ.1 23 6 := ((F_328.1 23 (ni hprP (fun P => 23) (fun P => [P, P + 1]) rfl) 6).trans ((F_309.1 23 (by decide) 6).trans (hs_292.trans ((F_246.1 23 (ni hprP (fun P => 23) (fun P => [P, P + 1]) rfl) 6).trans ((F_227.1 23 (by decide) 6).trans (hs_208.trans ((F_163.1 23 (by decide) 6).trans (F_10.1 23 (by decide) 6))))))))
        have e_349 : μ326.1 23 7 = μ.1 23 7 := ((F_328.1 23 (ni hprP (fun P => 23) (fun P => [P, P + 1]) rfl) 7).trans ((F_309.1 23 (by decide) 7).trans (hs_293.trans ((F_246.1 23 (ni hprP (fun P => 23) (fun P => [P, P + 1]) rfl) 7).trans ((F_227.1 23 (by decide) 7).trans (hs_209.trans ((F_163.1 23 (by decide) 7).trans (F_10.1 23 (by decide) 7))))))))
        have e_350 : μ326.1 23 8 = tt := ((F_328.1 23 (ni hprP (fun P => 23) (fun P => [P, P + 1]) rfl) 8).trans ((F_309.1 23 (by decide) 8).trans (hs_294.trans ((F_246.1 23 (ni hprP (fun P => 23) (fun P => [P, P + 1]) rfl) 8).trans ((F_227.1 23 (by decide) 8).trans (hs_210.trans ((F_163.1 23 (by decide) 8).trans ((F_10.1 23 (by decide) 8).trans htt.symm))))))))
        have e_351 : μ326.1 23 9 = μ.1 23 9 := ((F_328.1 23 (ni hprP (fun P => 23) (fun P => [P, P + 1]) rfl) 9).trans ((F_309.1 23 (by decide) 9).trans (hs_295.trans ((F_246.1 23 (ni hprP (fun P => 23) (fun P => [P, P + 1]) rfl) 9).trans ((F_227.1 23 (by decide) 9).trans (hs_211.trans ((F_163.1 23 (by decide) 9).trans (F_10.1 23 (by decide) 9))))))))
        have e_352 : μ326.1 23 10 = μ.1 23 10 := ((F_328.1 23 (ni hprP (fun P => 23) (fun P => [P, P + 1]) rfl) 10).trans ((F_309.1 23 (by decide) 10).trans (hs_296.trans ((F_246.1 23 (ni hprP (fun P => 23) (fun P => [P, P + 1]) rfl) 10).trans ((F_227.1 23 (by decide) 10).trans (hs_212.trans ((F_163.1 23 (by decide) 10).trans (F_10.1 23 (by decide) 10))))))))
        have e_353 : μ326.1 26 6 = μ.1 26 6 := ((F_328.1 26 (ni hprP (fun P => 26) (fun P => [P, P + 1]) rfl) 6).trans (hs_314.trans (hs_297.trans ((F_246.1 26 (ni hprP (fun P => 26) (fun P => [P, P + 1]) rfl) 6).trans (hs_233.trans (hs_213.trans ((F_163.1 26 (by decide) 6).trans hs_15)))))))
        have e_354 : μ326.1 P 7 = μ.1 P 7 := (hs_333.trans ((F_309.1 P (ni hprP (fun P => P) (fun P => [26]) rfl) 7).trans (hs_298.trans (hs_250.trans ((F_227.1 P (ni hprP (fun P => P) (fun P => [26]) rfl) 7).trans (hs_214.trans ((F_163.1 P (ni hprP (fun P => P) (fun P => [24]) rfl) 7).trans (F_10.1 P (ni hprP (fun P => P) (fun P => [26]) rfl) 7))))))))
        exact xr_v G hret hlk dX7_nameFirst_144 ⟨(Fr.tr (Fr.tr (Fr.tr (Fr.tr (Fr.tr (Fr.tr (Fr.tr (Fr.tr Fr.rf F_10 (si hprP (fun P => [26]) (fun P => [2, 3, 4, 23, 24, 26, P, P + 1, P + 2, (P + 2) + 1, (P + 2) + 2, (P + 2) + 3]) rfl)) F_163 (si hprP (fun P => [24]) (fun P => [2, 3, 4, 23, 24, 26, P, P + 1, P + 2, (P + 2) + 1, (P + 2) + 2, (P + 2) + 3]) rfl)) F_198 (si hprP (fun P => [2, 3, 4, 23, 24, 26, P, P + 1, P + 2, (P + 2) + 1, (P + 2) + 2, (P + 2) + 3]) (fun P => [2, 3, 4, 23, 24, 26, P, P + 1, P + 2, (P + 2) + 1, (P + 2) + 2, (P + 2) + 3]) rfl)) F_227 (si hprP (fun P => [26]) (fun P => [2, 3, 4, 23, 24, 26, P, P + 1, P + 2, (P + 2) + 1, (P + 2) + 2, (P + 2) + 3]) rfl)) F_246 (si hprP (fun P => [P, P + 1]) (fun P => [2, 3, 4, 23, 24, 26, P, P + 1, P + 2, (P + 2) + 1, (P + 2) + 2, (P + 2) + 3]) rfl)) F_282 (si hprP (fun P => [2, 3, 4, 23, 24, 26, P, P + 1, P + 2, (P + 2) + 1, (P + 2) + 2, (P + 2) + 3]) (fun P => [2, 3, 4, 23, 24, 26, P, P + 1, P + 2, (P + 2) + 1, (P + 2) + 2, (P + 2) + 3]) rfl)) F_309 (si hprP (fun P => [26]) (fun P => [2, 3, 4, 23, 24, 26, P, P + 1, P + 2, (P + 2) + 1, (P + 2) + 2, (P + 2) + 3]) rfl)) F_328 (si hprP (fun P => [P, P + 1]) (fun P => [2, 3, 4, 23, 24, 26, P, P + 1, P + 2, (P + 2) + 1, (P + 2) + 2, (P + 2) + 3]) rfl)), hI_329, htk_335, (by omega), (by omega), (by omega), (by omega), (fun h0 => (PXE.ex (hpx_334 h0)).e (by omega)), (by omega), (by omega), (by omega), (by omega), (by omega), (by omega), (by omega), (by omega), (by omega)⟩
      · refine lv_aload_n hx hb dX7_nameFirst_91 rfl (lv_at hl 3 rfl) ?_
        refine lv_iload hx hb dX7_nameFirst_92 (lv_at hl 0 rfl) ?_
        have hpc_355 : μ225.1 26 11 = 0 → PXC μ μ225 P tt 2 r_197 1 := fun h0 => PXC.fr (K := [26]) (hpc_220 (by have h9 : μ196.1 26 11 = μ196.1 26 11 := rfl; have h8 : μ225.1 26 11 = μ196.1 26 11 := hs_232; omega)) (Fr.tr Fr.rf F_227 (by decide)) (npL_p (L := [26]) (by decide) hprP).1 (npL_p (L := [26]) (by decide) hprP).2.1
        have e_356 : μ225.1 23 2 = P := ((F_227.1 23 (by decide) 2).trans (hs_206.trans ((F_163.1 23 (by decide) 2).trans ((F_10.1 23 (by decide) 2).trans hP.symm))))
        have e_357 : μ225.1 23 8 = tt := ((F_227.1 23 (by decide) 8).trans (hs_210.trans ((F_163.1 23 (by decide) 8).trans ((F_10.1 23 (by decide) 8).trans htt.symm))))
        have e_358 : μ225.1 P 1 = μ196.1 P 1 := (F_227.1 P (ni hprP (fun P => P) (fun P => [26]) rfl) 1)
        have e_359 : μ225.1 P 7 = μ.1 P 7 := ((F_227.1 P (ni hprP (fun P => P) (fun P => [26]) rfl) 7).trans (hs_214.trans ((F_163.1 P (ni hprP (fun P => P) (fun P => [24]) rfl) 7).trans (F_10.1 P (ni hprP (fun P => P) (fun P => [26]) rfl) 7))))
        refine xc_vV G (b := 23) (rest := []) (As := [.int (iv r_197)]) (c_X7_forgetAll ω l μ225 r_197 μ P tt (by unfold ir; omega) hI_228 (by omega) (by omega) hpc_355) (wm 4 136 rfl rfl) (wm 4 138 rfl rfl) (wm 0 49 rfl rfl) rfl rfl (by decide) rfl (wm 1 12 rfl rfl) (wm 4 139 rfl rfl) (by decide) hR (by decide) (n := 1) rfl rfl (Nat.le_of_ble_eq_true rfl) hl.1 dX7_nameFirst_94 (fun μ360 ρ d0 H locs hp G => ?_)
        obtain ⟨F_361, hI_362, hp_363, hs_364, hs_365⟩ := hp
        have hpx_366 : μ360.1 26 11 = 0 → PXE μ μ360 P tt 2 (-1) 1 := fun h0 => PXE.of (hp_363 (by have h9 : μ225.1 26 11 = μ196.1 26 11 := hs_232; have h8 : μ360.1 26 11 = μ196.1 26 11 := ((F_361.1 26 (ni hprP (fun P => 26) (fun P => [P + 1]) rfl) 11).trans hs_232); omega))
        refine lv_aload_n hx hb dX7_nameFirst_97 rfl (lv_at hl 3 rfl) ?_
        refine lv_bipush (v := iv 12) hx hb dX7_nameFirst_98 rfl ?_
        refine lv_iconst (v := iv 0) hx hb dX7_nameFirst_100 rfl ?_
        have e_367 : μ360.1 23 2 = P := ((F_361.1 23 (ni hprP (fun P => 23) (fun P => [P + 1]) rfl) 2).trans ((F_227.1 23 (by decide) 2).trans (hs_206.trans ((F_163.1 23 (by decide) 2).trans ((F_10.1 23 (by decide) 2).trans hP.symm)))))
        have e_368 : μ360.1 23 8 = tt := ((F_361.1 23 (ni hprP (fun P => 23) (fun P => [P + 1]) rfl) 8).trans ((F_227.1 23 (by decide) 8).trans (hs_210.trans ((F_163.1 23 (by decide) 8).trans ((F_10.1 23 (by decide) 8).trans htt.symm)))))
        have htk_369 : TK μ360 := hp_229.fr (K := [P + 1]) (Fr.tr Fr.rf F_361 (si hprP (fun P => [P + 1]) (fun P => [P + 1]) rfl)) (ni hprP (fun P => 26) (fun P => [P + 1]) rfl) (ni hprP (fun P => 28) (fun P => [P + 1]) rfl) (ni hprP (fun P => 29) (fun P => [P + 1]) rfl)
        have e_370 : μ360.1 P 1 = μ196.1 P 1 := (hs_364.trans (F_227.1 P (ni hprP (fun P => P) (fun P => [26]) rfl) 1))
        have e_371 : μ360.1 26 10 = μ225.1 26 10 := (F_361.1 26 (ni hprP (fun P => 26) (fun P => [P + 1]) rfl) 10)
        have e_372 : μ360.1 26 11 = μ196.1 26 11 := ((F_361.1 26 (ni hprP (fun P => 26) (fun P => [P + 1]) rfl) 11).trans hs_232)
        have e_373 : μ360.1 (P + 2) 3 = μ196.1 (P + 2) 3 := ((F_361.1 (P + 2) (ni hprP (fun P => P + 2) (fun P => [P + 1]) rfl) 3).trans (F_227.1 (P + 2) (ni hprP (fun P => P + 2) (fun P => [26]) rfl) 3))
        have e_374 : μ360.1 P 1 = μ196.1 P 1 := (hs_364.trans (F_227.1 P (ni hprP (fun P => P) (fun P => [26]) rfl) 1))
        have e_375 : μ360.1 23 9 = μ.1 23 9 := ((F_361.1 23 (ni hprP (fun P => 23) (fun P => [P + 1]) rfl) 9).trans ((F_227.1 23 (by decide) 9).trans (hs_211.trans ((F_163.1 23 (by decide) 9).trans (F_10.1 23 (by decide) 9)))))
        have e_376 : μ360.1 23 9 = μ.1 23 9 := ((F_361.1 23 (ni hprP (fun P => 23) (fun P => [P + 1]) rfl) 9).trans ((F_227.1 23 (by decide) 9).trans (hs_211.trans ((F_163.1 23 (by decide) 9).trans (F_10.1 23 (by decide) 9)))))
        have e_377 : μ360.1 26 11 = μ196.1 26 11 := ((F_361.1 26 (ni hprP (fun P => 26) (fun P => [P + 1]) rfl) 11).trans hs_232)
        have e_378 : μ360.1 26 11 = μ196.1 26 11 := ((F_361.1 26 (ni hprP (fun P => 26) (fun P => [P + 1]) rfl) 11).trans hs_232)
        have e_379 : μ360.1 26 10 = μ225.1 26 10 := (F_361.1 26 (ni hprP (fun P => 26) (fun P => [P + 1]) rfl) 10)
        have e_380 : μ360.1 P 1 = μ196.1 P 1 := (hs_364.trans (F_227.1 P (ni hprP (fun P => P) (fun P => [26]) rfl) 1))
        have e_381 : μ360.1 P 1 = μ196.1 P 1 := (hs_364.trans (F_227.1 P (ni hprP (fun P => P) (fun P => [26]) rfl) 1))
        have e_382 : μ360.1 26 10 = μ225.1 26 10 := (F_361.1 26 (ni hprP (fun P => 26) (fun P => [P + 1]) rfl) 10)
        have e_383 : μ360.1 26 11 = μ196.1 26 11 := ((F_361.1 26 (ni hprP (fun P => 26) (fun P => [P + 1]) rfl) 11).trans hs_232)
        have e_384 : μ360.1 (P + 2) 3 = μ196.1 (P + 2) 3 := ((F_361.1 (P + 2) (ni hprP (fun P => P + 2) (fun P => [P + 1]) rfl) 3).trans (F_227.1 (P + 2) (ni hprP (fun P => P + 2) (fun P => [26]) rfl) 3))
        have e_385 : μ360.1 P 1 = μ196.1 P 1 := (hs_364.trans (F_227.1 P (ni hprP (fun P => P) (fun P => [26]) rfl) 1))
        have e_386 : μ360.1 (P + 2) 3 = μ196.1 (P + 2) 3 := ((F_361.1 (P + 2) (ni hprP (fun P => P + 2) (fun P => [P + 1]) rfl) 3).trans (F_227.1 (P + 2) (ni hprP (fun P => P + 2) (fun P => [26]) rfl) 3))
        have e_387 : μ360.1 23 2 = P := ((F_361.1 23 (ni hprP (fun P => 23) (fun P => [P + 1]) rfl) 2).trans ((F_227.1 23 (by decide) 2).trans (hs_206.trans ((F_163.1 23 (by decide) 2).trans ((F_10.1 23 (by decide) 2).trans hP.symm)))))
        have e_388 : μ360.1 23 5 = μ.1 23 5 := ((F_361.1 23 (ni hprP (fun P => 23) (fun P => [P + 1]) rfl) 5).trans ((F_227.1 23 (by decide) 5).trans (hs_207.trans ((F_163.1 23 (by decide) 5).trans (F_10.1 23 (by decide) 5)))))
        have e_389 : μ360.1 23 6 = μ.1 23 6 := ((F_361.1 23 (ni hprP (fun P => 23) (fun P => [P + 1]) rfl) 6).trans ((F_227.1 23 (by decide) 6).trans (hs_208.trans ((F_163.1 23 (by decide) 6).trans (F_10.1 23 (by decide) 6)))))
        have e_390 : μ360.1 23 7 = μ.1 23 7 := ((F_361.1 23 (ni hprP (fun P => 23) (fun P => [P + 1]) rfl) 7).trans ((F_227.1 23 (by decide) 7).trans (hs_209.trans ((F_163.1 23 (by decide) 7).trans (F_10.1 23 (by decide) 7)))))
        have e_391 : μ360.1 23 8 = tt := ((F_361.1 23 (ni hprP (fun P => 23) (fun P => [P + 1]) rfl) 8).trans ((F_227.1 23 (by decide) 8).trans (hs_210.trans ((F_163.1 23 (by decide) 8).trans ((F_10.1 23 (by decide) 8).trans htt.symm)))))
        have e_392 : μ360.1 23 9 = μ.1 23 9 := ((F_361.1 23 (ni hprP (fun P => 23) (fun P => [P + 1]) rfl) 9).trans ((F_227.1 23 (by decide) 9).trans (hs_211.trans ((F_163.1 23 (by decide) 9).trans (F_10.1 23 (by decide) 9)))))
        have e_393 : μ360.1 23 10 = μ.1 23 10 := ((F_361.1 23 (ni hprP (fun P => 23) (fun P => [P + 1]) rfl) 10).trans ((F_227.1 23 (by decide) 10).trans (hs_212.trans ((F_163.1 23 (by decide) 10).trans (F_10.1 23 (by decide) 10)))))
        have e_394 : μ360.1 26 6 = μ.1 26 6 := ((F_361.1 26 (ni hprP (fun P => 26) (fun P => [P + 1]) rfl) 6).trans (hs_233.trans (hs_213.trans ((F_163.1 26 (by decide) 6).trans hs_15))))
        have e_395 : μ360.1 P 7 = μ.1 P 7 := (hs_365.trans ((F_227.1 P (ni hprP (fun P => P) (fun P => [26]) rfl) 7).trans (hs_214.trans ((F_163.1 P (ni hprP (fun P => P) (fun P => [24]) rfl) 7).trans (F_10.1 P (ni hprP (fun P => P) (fun P => [26]) rfl) 7)))))
        refine xc_vV G (b := 23) (rest := []) (As := [.int (iv 12), .int (iv 0)]) (c_X7_withExpression ω l μ360 12 0 P tt (by unfold ir; omega) (by unfold ir; omega) hI_362 (by omega) (by omega) htk_369 (by omega) (by omega) (by omega) (by omega) (Or.inl (by unfold plain; omega)) (fun h0 => by rw [show eff 12 0 = -3 from rfl]; have h9 := (hpx_366 h0).h; omega)) (wm 3 239 rfl rfl) (wm 4 1 rfl rfl) (wm 0 23 rfl rfl) rfl rfl (by decide) rfl (wm 1 12 rfl rfl) (wm 4 2 rfl rfl) (by decide) hR (by decide) (n := 2) rfl rfl (Nat.le_of_ble_eq_true rfl) hl.1 dX7_nameFirst_101 (fun μ396 ρ d0 H locs hp G => ?_)
        obtain ⟨F_397, hI_398, hp_399, hp_400, hp_401, hp_402, hp_403, hp_404, hs_405, hs_406, hs_407, hs_408, hs_409, hs_410, hs_411, hs_412, hs_413⟩ := hp
        have hn_414 : -1 ≤ μ396.1 26 10 ∧ μ396.1 26 10 ≤ 3000 := hI_398.nm.2.2.2.2.2.2.2.2.2.2.2.2
        have hk_415 := hI_398.pr (p := P) hprP
        unfold pk at hk_415
        have hc_416 : 16 ≤ μ396.2.1 (P + 1) ∧ μ396.2.1 (P + 1) ≤ 73024 := hI_398.rm.1 _ hprP.cap
        have hk_417 := hI_398.row (r := P + 2) (hprP.row)
        unfold rk at hk_417
        have htb_418 := hp_399.b
        have hpx_419 : μ396.1 26 11 = 0 → PXE μ μ396 P tt (2 + (1 + eff 12 0)) (-1) 1 := fun h0 => (PXE.app (hpx_366 (by have h9 : μ360.1 26 11 = μ196.1 26 11 := ((F_361.1 26 (ni hprP (fun P => 26) (fun P => [P + 1]) rfl) 11).trans hs_232); have h8 : μ396.1 26 11 = μ396.1 26 11 := rfl; omega)) (hp_404 h0)).e (by omega)
        have hpx_420 : μ396.1 26 11 = 0 → PXE μ μ396 P tt (2 + (1 + -3)) (-1) 1 := hpx_419
        have e_421 : μ396.1 23 2 = P := (hs_405.trans ((F_361.1 23 (ni hprP (fun P => 23) (fun P => [P + 1]) rfl) 2).trans ((F_227.1 23 (by decide) 2).trans (hs_206.trans ((F_163.1 23 (by decide) 2).trans ((F_10.1 23 (by decide) 2).trans hP.symm))))))
        have e_422 : μ396.1 23 5 = μ.1 23 5 := (hs_406.trans ((F_361.1 23 (ni hprP (fun P => 23) (fun P => [P + 1]) rfl) 5).trans ((F_227.1 23 (by decide) 5).trans (hs_207.trans ((F_163.1 23 (by decide) 5).trans (F_10.1 23 (by decide) 5))))))
        have e_423 : μ396.1 23 6 = μ.1 23 6 := (hs_407.trans ((F_361.1 23 (ni hprP (fun P => 23) (fun P => [P + 1]) rfl) 6).trans ((F_227.1 23 (by decide) 6).trans (hs_208.trans ((F_163.1 23 (by decide) 6).trans (F_10.1 23 (by decide) 6))))))
        have e_424 : μ396.1 23 7 = μ.1 23 7 := (hs_408.trans ((F_361.1 23 (ni hprP (fun P => 23) (fun P => [P + 1]) rfl) 7).trans ((F_227.1 23 (by decide) 7).trans (hs_209.trans ((F_163.1 23 (by decide) 7).trans (F_10.1 23 (by decide) 7))))))
        have e_425 : μ396.1 23 8 = tt := (hs_409.trans ((F_361.1 23 (ni hprP (fun P => 23) (fun P => [P + 1]) rfl) 8).trans ((F_227.1 23 (by decide) 8).trans (hs_210.trans ((F_163.1 23 (by decide) 8).trans ((F_10.1 23 (by decide) 8).trans htt.symm))))))
        have e_426 : μ396.1 23 9 = μ.1 23 9 := (hs_410.trans ((F_361.1 23 (ni hprP (fun P => 23) (fun P => [P + 1]) rfl) 9).trans ((F_227.1 23 (by decide) 9).trans (hs_211.trans ((F_163.1 23 (by decide) 9).trans (F_10.1 23 (by decide) 9))))))
        have e_427 : μ396.1 23 10 = μ.1 23 10 := (hs_411.trans ((F_361.1 23 (ni hprP (fun P => 23) (fun P => [P + 1]) rfl) 10).trans ((F_227.1 23 (by decide) 10).trans (hs_212.trans ((F_163.1 23 (by decide) 10).trans (F_10.1 23 (by decide) 10))))))
        have e_428 : μ396.1 26 6 = μ.1 26 6 := (hs_412.trans ((F_361.1 26 (ni hprP (fun P => 26) (fun P => [P + 1]) rfl) 6).trans (hs_233.trans (hs_213.trans ((F_163.1 26 (by decide) 6).trans hs_15)))))
        have e_429 : μ396.1 P 7 = μ.1 P 7 := (hs_413.trans (hs_365.trans ((F_227.1 P (ni hprP (fun P => P) (fun P => [26]) rfl) 7).trans (hs_214.trans ((F_163.1 P (ni hprP (fun P => P) (fun P => [24]) rfl) 7).trans (F_10.1 P (ni hprP (fun P => P) (fun P => [26]) rfl) 7))))))
        exact xr_v G hret hlk dX7_nameFirst_104 ⟨(Fr.tr (Fr.tr (Fr.tr (Fr.tr (Fr.tr (Fr.tr Fr.rf F_10 (si hprP (fun P => [26]) (fun P => [2, 3, 4, 23, 24, 26, P, P + 1, P + 2, (P + 2) + 1, (P + 2) + 2, (P + 2) + 3]) rfl)) F_163 (si hprP (fun P => [24]) (fun P => [2, 3, 4, 23, 24, 26, P, P + 1, P + 2, (P + 2) + 1, (P + 2) + 2, (P + 2) + 3]) rfl)) F_198 (si hprP (fun P => [2, 3, 4, 23, 24, 26, P, P + 1, P + 2, (P + 2) + 1, (P + 2) + 2, (P + 2) + 3]) (fun P => [2, 3, 4, 23, 24, 26, P, P + 1, P + 2, (P + 2) + 1, (P + 2) + 2, (P + 2) + 3]) rfl)) F_227 (si hprP (fun P => [26]) (fun P => [2, 3, 4, 23, 24, 26, P, P + 1, P + 2, (P + 2) + 1, (P + 2) + 2, (P + 2) + 3]) rfl)) F_361 (si hprP (fun P => [P + 1]) (fun P => [2, 3, 4, 23, 24, 26, P, P + 1, P + 2, (P + 2) + 1, (P + 2) + 2, (P + 2) + 3]) rfl)) F_397 (si hprP (fun P => [2, 3, 4, 23, 24, 26, P, P + 1, P + 2, (P + 2) + 1, (P + 2) + 2, (P + 2) + 3]) (fun P => [2, 3, 4, 23, 24, 26, P, P + 1, P + 2, (P + 2) + 1, (P + 2) + 2, (P + 2) + 3]) rfl)), hI_398, hp_399, (by omega), (by omega), (by omega), (by omega), (fun h0 => (PXE.ex (hpx_420 h0)).e (by omega)), (by omega), (by omega), (by omega), (by omega), (by omega), (by omega), (by omega), (by omega), (by omega)⟩
  · refine lv_aload_n hx hb dX7_nameFirst_35 rfl (lv_at hl 2 rfl) ?_
    refine lv_lload_n hx hb dX7_nameFirst_36 rfl (lv_at hl 1 rfl) ?_
    refine lv_iload_n hx hb dX7_nameFirst_37 rfl (lv_at hl 0 rfl) ?_
    have hpx_430 : μ9.1 26 11 = 0 → PXE μ μ9 P tt 0 (-1) 1 := fun h0 => (hnil (by have h9 : μ.1 26 11 = μ.1 26 11 := rfl; have h8 : μ9.1 26 11 = μ.1 26 11 := hs_14; omega)).fr (K := [26]) (Fr.tr Fr.rf F_10 (by decide)) (npL_p (L := [26]) (by decide) hprP).1 (npL_p (L := [26]) (by decide) hprP).2.1
    refine xc_iV G (b := 23) (rest := []) (As := [.long (jv (μ.1 26 14)), .int (iv (μ.1 26 13))]) (c_X7_variableAt ω l μ9 (μ.1 26 14) (μ.1 26 13) hj_3 (by unfold ir; omega) hI_11) (wm 4 84 rfl rfl) (wm 4 86 rfl rfl) (wm 0 37 rfl rfl) rfl rfl (by decide) rfl (wm 1 12 rfl rfl) (wm 4 87 rfl rfl) (by decide) hR (by decide) (n := 2) rfl rfl (Nat.le_of_ble_eq_true rfl) hl.1 dX7_nameFirst_38 (fun r_432 μ431 ρ d0 H locs hr_r_432 hp G => ?_)
    have hr_r_432 : -2147483648 ≤ r_432 ∧ r_432 ≤ 2147483647 := hr_r_432
    obtain ⟨F_433, hI_434, hp_435⟩ := hp
    refine lv_istore (lv' := [(4, .int (iv r_432)), (3, .int (iv (μ.1 26 13))), (1, .long (jv (μ.1 26 14))), (0, .ref (oP ω 23))]) hx hb dX7_nameFirst_41 hl (by decide) rfl (fun ls hl => ?_)
    refine lv_aload_n hx hb dX7_nameFirst_43 rfl (lv_at hl 3 rfl) ?_
    refine xa_getr G fd_X7 (a := 23) (x := 26) 0 rfl (by decide) rfl (wm 2 17 rfl rfl) ⟨rfl, rfl, rfl⟩ dX7_nameFirst_44 rfl (G.sk 23 rfl) (by decide) rfl ?_
    have hpx_436 : μ431.1 26 11 = 0 → PXE μ μ431 P tt 0 (-1) 1 := fun h0 => (hpx_430 (by have h9 : μ9.1 26 11 = μ.1 26 11 := hs_14; have h8 : μ431.1 26 11 = μ.1 26 11 := ((F_433.1 26 (by decide) 11).trans hs_14); omega)).fr (K := [24]) (Fr.tr Fr.rf F_433 (by decide)) (npL_p (L := [24]) (by decide) hprP).1 (npL_p (L := [24]) (by decide) hprP).2.1
    have htk_437 : TK μ431 := htk_20.fr (K := [24]) (Fr.tr Fr.rf F_433 (by decide)) (by decide) (by decide) (by decide)
    have e_438 : μ431.1 26 6 = μ.1 26 6 := ((F_433.1 26 (by decide) 6).trans hs_15)
    have e_439 : μ431.1 26 10 = μ9.1 26 10 := (F_433.1 26 (by decide) 10)
    have e_440 : μ431.1 26 11 = μ.1 26 11 := ((F_433.1 26 (by decide) 11).trans hs_14)
    have e_441 : μ431.1 26 10 = μ9.1 26 10 := (F_433.1 26 (by decide) 10)
    have e_442 : μ431.1 26 12 = μ9.1 26 12 := (F_433.1 26 (by decide) 12)
    have e_443 : μ431.1 26 11 = μ.1 26 11 := ((F_433.1 26 (by decide) 11).trans hs_14)
    have e_444 : μ431.1 26 10 = μ9.1 26 10 := (F_433.1 26 (by decide) 10)
    have e_445 : μ431.1 26 6 = μ.1 26 6 := ((F_433.1 26 (by decide) 6).trans hs_15)
    have e_446 : μ431.1 26 10 = μ9.1 26 10 := (F_433.1 26 (by decide) 10)
    have e_447 : μ431.1 26 6 = μ.1 26 6 := ((F_433.1 26 (by decide) 6).trans hs_15)
    have e_448 : μ431.1 26 10 = μ9.1 26 10 := (F_433.1 26 (by decide) 10)
    have e_449 : μ431.1 26 10 = μ9.1 26 10 := (F_433.1 26 (by decide) 10)
    have e_450 : μ431.1 26 11 = μ.1 26 11 := ((F_433.1 26 (by decide) 11).trans hs_14)
    have e_451 : μ431.1 26 13 = μ9.1 26 13 := (F_433.1 26 (by decide) 13)
    have e_452 : μ431.1 26 11 = μ.1 26 11 := ((F_433.1 26 (by decide) 11).trans hs_14)
    have e_453 : μ431.1 26 11 = μ.1 26 11 := ((F_433.1 26 (by decide) 11).trans hs_14)
    have e_454 : μ431.1 26 6 = μ.1 26 6 := ((F_433.1 26 (by decide) 6).trans hs_15)
    have e_455 : μ431.1 26 7 = μ.1 26 7 := ((F_433.1 26 (by decide) 7).trans hs_16)
    have e_456 : μ431.1 26 8 = μ.1 26 8 := ((F_433.1 26 (by decide) 8).trans hs_17)
    have e_457 : μ431.1 26 9 = μ.1 26 9 := ((F_433.1 26 (by decide) 9).trans hs_18)
    refine xc_vV G (b := 26) (rest := []) (As := []) (c_X10_next ω l μ431  hI_434 (by omega) (by omega)) (wm 3 164 rfl rfl) (wm 3 157 rfl rfl) (wm 3 158 rfl rfl) rfl rfl (by decide) rfl (wm 1 13 rfl rfl) (wm 3 159 rfl rfl) (by decide) hR (by decide) (n := 0) rfl rfl (Nat.le_of_ble_eq_true rfl) hl.1 dX7_nameFirst_47 (fun μ458 ρ d0 H locs hp G => ?_)
    obtain ⟨F_459, hI_460, hp_461, hp_462, hs_463, hs_464, hs_465, hs_466, hs_467⟩ := hp
    have hn_468 : -1 ≤ μ458.1 26 10 ∧ μ458.1 26 10 ≤ 3000 := hI_460.nm.2.2.2.2.2.2.2.2.2.2.2.2
    obtain ⟨htk_469, htk_469_s, htk_469_n⟩ := TK.nx htk_437 F_459 (((hs_464.trans ((F_433.1 26 (by decide) 6).trans hs_15))).trans (((F_433.1 26 (by decide) 6).trans hs_15)).symm) (((hs_463.trans ((F_433.1 26 (by decide) 11).trans hs_14))).trans (((F_433.1 26 (by decide) 11).trans hs_14)).symm) (by have h9 : μ431.1 26 12 = μ9.1 26 12 := (F_433.1 26 (by decide) 12); omega) hp_461 hp_462
    clear hp_461 hp_462
    have e_470 : μ431.1 26 11 = μ.1 26 11 := ((F_433.1 26 (by decide) 11).trans hs_14)
    have e_471 : μ431.1 26 10 = μ9.1 26 10 := (F_433.1 26 (by decide) 10)
    have htb_472 := htk_469.b
    refine lv_aload_n hx hb dX7_nameFirst_50 rfl (lv_at hl 3 rfl) ?_
    refine lv_iconst (v := iv 5) hx hb dX7_nameFirst_51 rfl ?_
    refine lv_iload hx hb dX7_nameFirst_52 (lv_at hl 0 rfl) ?_
    have hpx_473 : μ458.1 26 11 = 0 → PXE μ μ458 P tt 0 (-1) 1 := fun h0 => (hpx_436 (by have h9 : μ431.1 26 11 = μ.1 26 11 := ((F_433.1 26 (by decide) 11).trans hs_14); have h8 : μ458.1 26 11 = μ.1 26 11 := (hs_463.trans ((F_433.1 26 (by decide) 11).trans hs_14)); omega)).fr (K := [26]) (Fr.tr Fr.rf F_459 (by decide)) (npL_p (L := [26]) (by decide) hprP).1 (npL_p (L := [26]) (by decide) hprP).2.1
    have e_474 : μ458.1 23 2 = P := ((F_459.1 23 (by decide) 2).trans ((F_433.1 23 (by decide) 2).trans ((F_10.1 23 (by decide) 2).trans hP.symm)))
    have e_475 : μ458.1 23 8 = tt := ((F_459.1 23 (by decide) 8).trans ((F_433.1 23 (by decide) 8).trans ((F_10.1 23 (by decide) 8).trans htt.symm)))
    have e_476 : μ458.1 P 1 = μ.1 P 1 := ((F_459.1 P (ni hprP (fun P => P) (fun P => [26]) rfl) 1).trans ((F_433.1 P (ni hprP (fun P => P) (fun P => [24]) rfl) 1).trans (F_10.1 P (ni hprP (fun P => P) (fun P => [26]) rfl) 1)))
    have e_477 : μ458.1 26 11 = μ.1 26 11 := (hs_463.trans ((F_433.1 26 (by decide) 11).trans hs_14))
    have hk_478 := hI.row (r := P + 2) (hprP.row)
    unfold rk at hk_478
    have e_479 : μ458.1 (P + 2) 3 = μ.1 (P + 2) 3 := ((F_459.1 (P + 2) (ni hprP (fun P => P + 2) (fun P => [26]) rfl) 3).trans ((F_433.1 (P + 2) (ni hprP (fun P => P + 2) (fun P => [24]) rfl) 3).trans (F_10.1 (P + 2) (ni hprP (fun P => P + 2) (fun P => [26]) rfl) 3)))
    have e_480 : μ458.1 P 1 = μ.1 P 1 := ((F_459.1 P (ni hprP (fun P => P) (fun P => [26]) rfl) 1).trans ((F_433.1 P (ni hprP (fun P => P) (fun P => [24]) rfl) 1).trans (F_10.1 P (ni hprP (fun P => P) (fun P => [26]) rfl) 1)))
    have e_481 : μ458.1 23 9 = μ.1 23 9 := ((F_459.1 23 (by decide) 9).trans ((F_433.1 23 (by decide) 9).trans (F_10.1 23 (by decide) 9)))
    have e_482 : μ458.1 23 9 = μ.1 23 9 := ((F_459.1 23 (by decide) 9).trans ((F_433.1 23 (by decide) 9).trans (F_10.1 23 (by decide) 9)))
    have e_483 : μ458.1 26 11 = μ.1 26 11 := (hs_463.trans ((F_433.1 26 (by decide) 11).trans hs_14))
    have e_484 : μ458.1 26 11 = μ.1 26 11 := (hs_463.trans ((F_433.1 26 (by decide) 11).trans hs_14))
    have e_485 : μ458.1 P 1 = μ.1 P 1 := ((F_459.1 P (ni hprP (fun P => P) (fun P => [26]) rfl) 1).trans ((F_433.1 P (ni hprP (fun P => P) (fun P => [24]) rfl) 1).trans (F_10.1 P (ni hprP (fun P => P) (fun P => [26]) rfl) 1)))
    have e_486 : μ458.1 P 1 = μ.1 P 1 := ((F_459.1 P (ni hprP (fun P => P) (fun P => [26]) rfl) 1).trans ((F_433.1 P (ni hprP (fun P => P) (fun P => [24]) rfl) 1).trans (F_10.1 P (ni hprP (fun P => P) (fun P => [26]) rfl) 1)))
    have e_487 : μ458.1 26 11 = μ.1 26 11 := (hs_463.trans ((F_433.1 26 (by decide) 11).trans hs_14))
    have e_488 : μ458.1 (P + 2) 3 = μ.1 (P + 2) 3 := ((F_459.1 (P + 2) (ni hprP (fun P => P + 2) (fun P => [26]) rfl) 3).trans ((F_433.1 (P + 2) (ni hprP (fun P => P + 2) (fun P => [24]) rfl) 3).trans (F_10.1 (P + 2) (ni hprP (fun P => P + 2) (fun P => [26]) rfl) 3)))
    have e_489 : μ458.1 P 1 = μ.1 P 1 := ((F_459.1 P (ni hprP (fun P => P) (fun P => [26]) rfl) 1).trans ((F_433.1 P (ni hprP (fun P => P) (fun P => [24]) rfl) 1).trans (F_10.1 P (ni hprP (fun P => P) (fun P => [26]) rfl) 1)))
    have e_490 : μ458.1 (P + 2) 3 = μ.1 (P + 2) 3 := ((F_459.1 (P + 2) (ni hprP (fun P => P + 2) (fun P => [26]) rfl) 3).trans ((F_433.1 (P + 2) (ni hprP (fun P => P + 2) (fun P => [24]) rfl) 3).trans (F_10.1 (P + 2) (ni hprP (fun P => P + 2) (fun P => [26]) rfl) 3)))
    have e_491 : μ458.1 23 2 = P := ((F_459.1 23 (by decide) 2).trans ((F_433.1 23 (by decide) 2).trans ((F_10.1 23 (by decide) 2).trans hP.symm)))
    have hn_492 : 0 ≤ μ.1 23 5 ∧ μ.1 23 5 ≤ 1000 := hI.nm.2.2.2.2.2.2.2.2.1
    have e_493 : μ458.1 23 5 = μ.1 23 5 := ((F_459.1 23 (by decide) 5).trans ((F_433.1 23 (by decide) 5).trans (F_10.1 23 (by decide) 5)))
    have e_494 : μ458.1 23 6 = μ.1 23 6 := ((F_459.1 23 (by decide) 6).trans ((F_433.1 23 (by decide) 6).trans (F_10.1 23 (by decide) 6)))
    have e_495 : μ458.1 23 7 = μ.1 23 7 := ((F_459.1 23 (by decide) 7).trans ((F_433.1 23 (by decide) 7).trans (F_10.1 23 (by decide) 7)))
    have e_496 : μ458.1 23 8 = tt := ((F_459.1 23 (by decide) 8).trans ((F_433.1 23 (by decide) 8).trans ((F_10.1 23 (by decide) 8).trans htt.symm)))
    have e_497 : μ458.1 23 9 = μ.1 23 9 := ((F_459.1 23 (by decide) 9).trans ((F_433.1 23 (by decide) 9).trans (F_10.1 23 (by decide) 9)))
    have e_498 : μ458.1 23 10 = μ.1 23 10 := ((F_459.1 23 (by decide) 10).trans ((F_433.1 23 (by decide) 10).trans (F_10.1 23 (by decide) 10)))
    have e_499 : μ458.1 26 6 = μ.1 26 6 := (hs_464.trans ((F_433.1 26 (by decide) 6).trans hs_15))
    have e_500 : μ458.1 P 7 = μ.1 P 7 := ((F_459.1 P (ni hprP (fun P => P) (fun P => [26]) rfl) 7).trans ((F_433.1 P (ni hprP (fun P => P) (fun P => [24]) rfl) 7).trans (F_10.1 P (ni hprP (fun P => P) (fun P => [26]) rfl) 7)))
    refine xc_vV G (b := 23) (rest := []) (As := [.int (iv 5), .int (iv r_432)]) (c_X7_withExpression ω l μ458 5 r_432 P tt (by unfold ir; omega) (by unfold ir; omega) hI_460 (by omega) (by omega) htk_469 (by omega) (by omega) (by omega) (by omega) (Or.inl (by unfold plain; omega)) (fun h0 => by rw [show eff 5 r_432 = -1 from rfl]; have h9 := (hpx_473 h0).h; omega)) (wm 3 239 rfl rfl) (wm 4 1 rfl rfl) (wm 0 23 rfl rfl) rfl rfl (by decide) rfl (wm 1 12 rfl rfl) (wm 4 2 rfl rfl) (by decide) hR (by decide) (n := 2) rfl rfl (Nat.le_of_ble_eq_true rfl) hl.1 dX7_nameFirst_54 (fun μ501 ρ d0 H locs hp G => ?_)
    obtain ⟨F_502, hI_503, hp_504, hp_505, hp_506, hp_507, hp_508, hp_509, hs_510, hs_511, hs_512, hs_513, hs_514, hs_515, hs_516, hs_517, hs_518⟩ := hp
    have hn_519 : -1 ≤ μ501.1 26 10 ∧ μ501.1 26 10 ≤ 3000 := hI_503.nm.2.2.2.2.2.2.2.2.2.2.2.2
    have hk_520 := hI_503.pr (p := P) hprP
    unfold pk at hk_520
    have hc_521 : 16 ≤ μ501.2.1 (P + 1) ∧ μ501.2.1 (P + 1) ≤ 73024 := hI_503.rm.1 _ hprP.cap
    have hk_522 := hI_503.row (r := P + 2) (hprP.row)
    unfold rk at hk_522
    have htb_523 := hp_504.b
    have hpx_524 : μ501.1 26 11 = 0 → PXE μ μ501 P tt (0 + (1 + eff 5 r_432)) (-1) 1 := fun h0 => (PXE.app (hpx_473 (by have h9 : μ458.1 26 11 = μ.1 26 11 := (hs_463.trans ((F_433.1 26 (by decide) 11).trans hs_14)); have h8 : μ501.1 26 11 = μ501.1 26 11 := rfl; omega)) (hp_509 h0)).e (by omega)
    have hpx_525 : μ501.1 26 11 = 0 → PXE μ μ501 P tt (0 + (1 + -1)) (-1) 1 := hpx_524
    have e_526 : μ501.1 23 2 = P := (hs_510.trans ((F_459.1 23 (by decide) 2).trans ((F_433.1 23 (by decide) 2).trans ((F_10.1 23 (by decide) 2).trans hP.symm))))
    have e_527 : μ501.1 23 5 = μ.1 23 5 := (hs_511.trans ((F_459.1 23 (by decide) 5).trans ((F_433.1 23 (by decide) 5).trans (F_10.1 23 (by decide) 5))))
    have e_528 : μ501.1 23 6 = μ.1 23 6 := (hs_512.trans ((F_459.1 23 (by decide) 6).trans ((F_433.1 23 (by decide) 6).trans (F_10.1 23 (by decide) 6))))
    have e_529 : μ501.1 23 7 = μ.1 23 7 := (hs_513.trans ((F_459.1 23 (by decide) 7).trans ((F_433.1 23 (by decide) 7).trans (F_10.1 23 (by decide) 7))))
    have e_530 : μ501.1 23 8 = tt := (hs_514.trans ((F_459.1 23 (by decide) 8).trans ((F_433.1 23 (by decide) 8).trans ((F_10.1 23 (by decide) 8).trans htt.symm))))
    have e_531 : μ501.1 23 9 = μ.1 23 9 := (hs_515.trans ((F_459.1 23 (by decide) 9).trans ((F_433.1 23 (by decide) 9).trans (F_10.1 23 (by decide) 9))))
    have e_532 : μ501.1 23 10 = μ.1 23 10 := (hs_516.trans ((F_459.1 23 (by decide) 10).trans ((F_433.1 23 (by decide) 10).trans (F_10.1 23 (by decide) 10))))
    have e_533 : μ501.1 26 6 = μ.1 26 6 := (hs_517.trans (hs_464.trans ((F_433.1 26 (by decide) 6).trans hs_15)))
    have e_534 : μ501.1 P 7 = μ.1 P 7 := (hs_518.trans ((F_459.1 P (ni hprP (fun P => P) (fun P => [26]) rfl) 7).trans ((F_433.1 P (ni hprP (fun P => P) (fun P => [24]) rfl) 7).trans (F_10.1 P (ni hprP (fun P => P) (fun P => [26]) rfl) 7))))
    exact xr_v G hret hlk dX7_nameFirst_57 ⟨(Fr.tr (Fr.tr (Fr.tr (Fr.tr Fr.rf F_10 (si hprP (fun P => [26]) (fun P => [2, 3, 4, 23, 24, 26, P, P + 1, P + 2, (P + 2) + 1, (P + 2) + 2, (P + 2) + 3]) rfl)) F_433 (si hprP (fun P => [24]) (fun P => [2, 3, 4, 23, 24, 26, P, P + 1, P + 2, (P + 2) + 1, (P + 2) + 2, (P + 2) + 3]) rfl)) F_459 (si hprP (fun P => [26]) (fun P => [2, 3, 4, 23, 24, 26, P, P + 1, P + 2, (P + 2) + 1, (P + 2) + 2, (P + 2) + 3]) rfl)) F_502 (si hprP (fun P => [2, 3, 4, 23, 24, 26, P, P + 1, P + 2, (P + 2) + 1, (P + 2) + 2, (P + 2) + 3]) (fun P => [2, 3, 4, 23, 24, 26, P, P + 1, P + 2, (P + 2) + 1, (P + 2) + 2, (P + 2) + 3]) rfl)), hI_503, hp_504, (by omega), (by omega), (by omega), (by omega), (fun h0 => (PXE.ex (hpx_525 h0)).e (by omega)), (by omega), (by omega), (by omega), (by omega), (by omega), (by omega), (by omega), (by omega), (by omega)⟩

set_option maxHeartbeats 4000000 in
set_option maxRecDepth 100000 in
theorem c_X7_ownStatement (ω : Om) (l : Launch) (μ : M3) (F : Nat) (Lo : Nat) (kf : Int) (P : Int) (tt : Int) (hI : IC μ) (hP : P = μ.1 23 2) (htt : tt = μ.1 23 8) (hF : 200 ≤ F) (hLo : 6000 ≤ Lo) (hK : ∀ (μ : M3) (P : Int) (tt : Int) (hI : IC μ) (hP : P = μ.1 23 2) (htt : tt = μ.1 23 8) (hTK : TK μ) (hB : 2 * μ.1 P 1 ≤ 5 * μ.1 26 10 + 103 + 80 * μ.1 26 11) (hKc : μ.1 (P + 2) 3 ≤ μ.1 P 1) (ht3 : 0 ≤ tt ∧ tt ≤ 3) (hdp : 0 ≤ μ.1 23 9 ∧ μ.1 23 9 ≤ 8) (hfu : 0 ≤ (kf - 1) ∧ 9 ≤ μ.1 23 9 + (kf - 1)) (hs1 : ∀ _ : Unit, μ.1 26 11 = 0 → HC μ P tt 0), CtV ω l yX7_block cX7_block 2 (F + 0) (Lo + 0) [.ref (oP ω 23)] μ (fun (μ' : M3) => (Fr [2, 3, 4, 23, 24, 25, 26, P, P + 1, P + 2, (P + 2) + 1, (P + 2) + 2, (P + 2) + 3] μ μ') ∧ (IC μ') ∧ (TK μ') ∧ (μ.1 26 11 ≤ μ'.1 26 11) ∧ (μ.1 26 10 ≤ μ'.1 26 10) ∧ (μ.1 P 1 ≤ μ'.1 P 1 ∧ 2 * μ'.1 P 1 ≤ 2 * μ.1 P 1 + 5 * (μ'.1 26 10 - μ.1 26 10) + (- 10 + 15 * μ'.1 26 11 - 5 * μ.1 26 11)) ∧ (μ'.1 (P + 2) 3 - μ.1 (P + 2) 3 ≤ μ'.1 P 1 - μ.1 P 1 ∧ μ.1 (P + 2) 3 ≤ μ'.1 (P + 2) 3) ∧ (μ'.1 26 11 = 0 → EX μ μ' P tt 0 (2 * (7 - μ.1 23 9))) ∧ (μ.1 23 9 ≤ 7 + 100 * μ'.1 26 11) ∧ (μ'.1 23 2 = μ.1 23 2) ∧ (μ'.1 23 7 = μ.1 23 7) ∧ (μ'.1 23 8 = μ.1 23 8) ∧ (μ'.1 23 9 = μ.1 23 9) ∧ (μ'.1 26 6 = μ.1 26 6) ∧ (μ'.1 P 7 = μ.1 P 7))) (hTK : TK μ) (hB : 2 * μ.1 P 1 ≤ 5 * μ.1 26 10 + 100 + 80 * μ.1 26 11) (hKc : μ.1 (P + 2) 3 ≤ μ.1 P 1) (ht3 : 0 ≤ tt ∧ tt ≤ 3) (hdp : 0 ≤ μ.1 23 9 ∧ μ.1 23 9 ≤ 8) (hs0 : μ.1 26 11 = 0) (hfu : 10 ≤ μ.1 23 9 + kf) (hst : ∀ _ : Unit, STP μ P tt) : CtI ω l yX7_ownStatement cX7_ownStatement 1 .boolean (F + 3) (Lo + 70) [.ref (oP ω 23)] μ (fun (r : Int) (μ' : M3) => (Fr [2, 3, 4, 23, 24, 25, 26, P, P + 1, P + 2, (P + 2) + 1, (P + 2) + 2, (P + 2) + 3] μ μ') ∧ (IC μ') ∧ (TK μ') ∧ (μ.1 26 11 ≤ μ'.1 26 11) ∧ (μ.1 26 10 ≤ μ'.1 26 10) ∧ (0 ≤ r ∧ r ≤ 1 ∧ μ'.1 26 11 ≤ r ∧ μ.1 P 1 ≤ μ'.1 P 1 ∧ 2 * μ'.1 P 1 ≤ 2 * μ.1 P 1 + 5 * (μ'.1 26 10 - μ.1 26 10) - 9 * r + 17 * μ'.1 26 11) ∧ (μ'.1 (P + 2) 3 - μ.1 (P + 2) 3 ≤ μ'.1 P 1 - μ.1 P 1 ∧ μ.1 (P + 2) 3 ≤ μ'.1 (P + 2) 3) ∧ (μ'.1 26 11 = 0 → r = 1 → ES μ μ' P tt (2 * (8 - μ.1 23 9))) ∧ (r = 0 → q0 μ P μ') ∧ (μ'.1 23 2 = μ.1 23 2) ∧ (μ'.1 23 7 = μ.1 23 7) ∧ (μ'.1 23 8 = μ.1 23 8) ∧ (μ'.1 23 9 = μ.1 23 9) ∧ (μ'.1 26 6 = μ.1 26 6) ∧ (μ'.1 P 7 = μ.1 P 7)) := by
  refine CtI.go (by decide) (Nat.le_of_ble_eq_true rfl) (fun ρ p e s m below meth c R ls G hR hret hlk hl => ?_)
  have hx := G.1.1
  have hb := G.1.2.1
  have hl : lv_has ls 1 [(0, .ref (oP ω 23))] := hl
  generalize s.drawn = d0 at G ⊢
  have hTKb := hTK.b
  have hprP : isPr P := by have h9 := G.sr0.2.2.2.2.2; rw [← hP] at h9; exact h9
  have hprP_d : 13 ≤ P ∧ P ≤ 101 := by rcases hprP with h9 | h9 | h9 | h9 | h9 <;> omega
  have hk_1 := hI.pr (p := P) hprP
  unfold pk at hk_1
  have hc_2 : 16 ≤ μ.2.1 (P + 1) ∧ μ.2.1 (P + 1) ≤ 73024 := hI.rm.1 _ hprP.cap
  refine lv_aload_n hx hb dX7_ownStatement_0 rfl (lv_at hl 0 rfl) ?_
  refine xa_geti G fd_X7 (a := 23) (x := tt) 8 rfl (by decide) rfl (wm 2 25 rfl rfl) ⟨rfl, rfl, rfl⟩ dX7_ownStatement_1 rfl htt.symm ?_
  have hr_3 : -2147483648 ≤ tt ∧ tt ≤ 2147483647 := by have h9 := G.hr (a := 23) (k := 8) rfl; rw [show μ.1 23 8 = tt from htt.symm] at h9; exact h9
  refine xb_if_ne (tgt := 30) hx hb (by unfold ir; omega) dX7_ownStatement_4 (by decide) (fun c_4 => ?_) (fun c_4 => ?_)
  · refine lv_aload_n hx hb dX7_ownStatement_30 rfl (lv_at hl 0 rfl) ?_
    refine xa_geti G fd_X7 (a := 23) (x := tt) 8 rfl (by decide) rfl (wm 2 25 rfl rfl) ⟨rfl, rfl, rfl⟩ dX7_ownStatement_31 rfl htt.symm ?_
    refine xb_if_ne (tgt := 54) hx hb (by unfold ir; omega) dX7_ownStatement_34 (by decide) (fun c_34 => ?_) (fun c_34 => absurd c_34 (by omega))
    refine lv_aload_n hx hb dX7_ownStatement_54 rfl (lv_at hl 0 rfl) ?_
    refine xa_geti G fd_X7 (a := 23) (x := tt) 8 rfl (by decide) rfl (wm 2 25 rfl rfl) ⟨rfl, rfl, rfl⟩ dX7_ownStatement_55 rfl htt.symm ?_
    refine lv_iconst (v := iv 1) hx hb dX7_ownStatement_58 rfl ?_
    refine xb_icmp_ne (tgt := 82) hx hb (by unfold ir; omega) (by unfold ir; omega) dX7_ownStatement_59 (by decide) (fun c_59 => ?_) (fun c_59 => ?_)
    · refine lv_aload_n hx hb dX7_ownStatement_82 rfl (lv_at hl 0 rfl) ?_
      refine xa_geti G fd_X7 (a := 23) (x := tt) 8 rfl (by decide) rfl (wm 2 25 rfl rfl) ⟨rfl, rfl, rfl⟩ dX7_ownStatement_83 rfl htt.symm ?_
      refine lv_iconst (v := iv 1) hx hb dX7_ownStatement_86 rfl ?_
      refine xb_icmp_ne (tgt := 107) hx hb (by unfold ir; omega) (by unfold ir; omega) dX7_ownStatement_87 (by decide) (fun c_87 => ?_) (fun c_87 => absurd c_87 (by omega))
      refine lv_aload_n hx hb dX7_ownStatement_107 rfl (lv_at hl 0 rfl) ?_
      refine xa_geti G fd_X7 (a := 23) (x := tt) 8 rfl (by decide) rfl (wm 2 25 rfl rfl) ⟨rfl, rfl, rfl⟩ dX7_ownStatement_108 rfl htt.symm ?_
      refine lv_iconst (v := iv 2) hx hb dX7_ownStatement_111 rfl ?_
      refine xb_icmp_ne (tgt := 132) hx hb (by unfold ir; omega) (by unfold ir; omega) dX7_ownStatement_112 (by decide) (fun c_112 => ?_) (fun c_112 => ?_)
      · refine lv_aload_n hx hb dX7_ownStatement_132 rfl (lv_at hl 0 rfl) ?_
        refine xa_geti G fd_X7 (a := 23) (x := tt) 8 rfl (by decide) rfl (wm 2 25 rfl rfl) ⟨rfl, rfl, rfl⟩ dX7_ownStatement_133 rfl htt.symm ?_
        refine lv_iconst (v := iv 3) hx hb dX7_ownStatement_136 rfl ?_
        refine xb_icmp_ne (tgt := 163) hx hb (by unfold ir; omega) (by unfold ir; omega) dX7_ownStatement_137 (by decide) (fun c_137 => absurd c_137 (by omega)) (fun c_137 => ?_)
        refine lv_aload_n hx hb dX7_ownStatement_140 rfl (lv_at hl 0 rfl) ?_
        refine lv_sipush (v := iv 218) hx hb dX7_ownStatement_141 rfl ?_
        have hn_4 : -1 ≤ μ.1 26 10 ∧ μ.1 26 10 ≤ 3000 := hI.nm.2.2.2.2.2.2.2.2.2.2.2.2
        refine xc_iV G (b := 23) (rest := []) (As := [.int (iv 218)]) (c_X7_took_b ω l μ 218 (by unfold ir; omega) hI hTK (by omega)) (wm 3 160 rfl rfl) (wm 3 162 rfl rfl) (wm 0 9 rfl rfl) rfl rfl (by decide) rfl (wm 1 12 rfl rfl) (wm 3 163 rfl rfl) (by decide) hR ⟨nfB hF (by decide), nlB hLo (by decide)⟩ (n := 1) rfl rfl (Nat.le_of_ble_eq_true rfl) hl.1 dX7_ownStatement_144 (fun r_6 μ5 ρ d0 H locs hr_r_6 hp G => ?_)
        have hr_r_6 : -2147483648 ≤ r_6 ∧ r_6 ≤ 2147483647 := hr_r_6
        obtain ⟨F_7, hI_8, hp_9, hp_10, hp_11, hs_12, hs_13, hs_14, hs_15, hs_16⟩ := hp
        have hn_17 : -1 ≤ μ5.1 26 10 ∧ μ5.1 26 10 ≤ 3000 := hI_8.nm.2.2.2.2.2.2.2.2.2.2.2.2
        have htb_18 := hp_9.b
        refine xb_if_eq (tgt := 163) hx hb (by unfold ir; omega) dX7_ownStatement_147 (by decide) (fun c_147 => ?_) (fun c_147 => ?_)
        · refine lv_aload_n hx hb dX7_ownStatement_163 rfl (lv_at hl 0 rfl) ?_
          refine xa_geti G fd_X7 (a := 23) (x := tt) 8 rfl (by decide) rfl (wm 2 25 rfl rfl) ⟨rfl, rfl, rfl⟩ dX7_ownStatement_164 rfl ((F_7.1 23 (by decide) 8).trans htt.symm) ?_
          refine lv_iconst (v := iv 3) hx hb dX7_ownStatement_167 rfl ?_
          refine xb_icmp_ne (tgt := 188) hx hb (by unfold ir; omega) (by unfold ir; omega) dX7_ownStatement_168 (by decide) (fun c_168 => absurd c_168 (by omega)) (fun c_168 => ?_)
          refine lv_aload_n hx hb dX7_ownStatement_171 rfl (lv_at hl 0 rfl) ?_
          refine lv_sipush (v := iv 219) hx hb dX7_ownStatement_172 rfl ?_
          have e_19 : μ5.1 26 11 = μ.1 26 11 := hs_12
          refine xc_iV G (b := 23) (rest := []) (As := [.int (iv 219)]) (c_X7_took_b ω l μ5 219 (by unfold ir; omega) hI_8 hp_9 (by omega)) (wm 3 160 rfl rfl) (wm 3 162 rfl rfl) (wm 0 9 rfl rfl) rfl rfl (by decide) rfl (wm 1 12 rfl rfl) (wm 3 163 rfl rfl) (by decide) hR ⟨nfB hF (by decide), nlB hLo (by decide)⟩ (n := 1) rfl rfl (Nat.le_of_ble_eq_true rfl) hl.1 dX7_ownStatement_175 (fun r_21 μ20 ρ d0 H locs hr_r_21 hp G => ?_)
          have hr_r_21 : -2147483648 ≤ r_21 ∧ r_21 ≤ 2147483647 := hr_r_21
          obtain ⟨F_22, hI_23, hp_24, hp_25, hp_26, hs_27, hs_28, hs_29, hs_30, hs_31⟩ := hp
          have hn_32 : -1 ≤ μ20.1 26 10 ∧ μ20.1 26 10 ≤ 3000 := hI_23.nm.2.2.2.2.2.2.2.2.2.2.2.2
          have htb_33 := hp_24.b
          refine xb_if_eq (tgt := 188) hx hb (by unfold ir; omega) dX7_ownStatement_178 (by decide) (fun c_178 => ?_) (fun c_178 => ?_)
          · refine lv_aload_n hx hb dX7_ownStatement_188 rfl (lv_at hl 0 rfl) ?_
            refine xa_geti G fd_X7 (a := 23) (x := tt) 8 rfl (by decide) rfl (wm 2 25 rfl rfl) ⟨rfl, rfl, rfl⟩ dX7_ownStatement_189 rfl ((F_22.1 23 (by decide) 8).trans ((F_7.1 23 (by decide) 8).trans htt.symm)) ?_
            refine lv_iconst (v := iv 3) hx hb dX7_ownStatement_192 rfl ?_
            refine xb_icmp_ne (tgt := 213) hx hb (by unfold ir; omega) (by unfold ir; omega) dX7_ownStatement_193 (by decide) (fun c_193 => absurd c_193 (by omega)) (fun c_193 => ?_)
            refine lv_aload_n hx hb dX7_ownStatement_196 rfl (lv_at hl 0 rfl) ?_
            refine lv_sipush (v := iv 221) hx hb dX7_ownStatement_197 rfl ?_
            have e_34 : μ20.1 26 11 = μ.1 26 11 := (hs_27.trans hs_12)
            refine xc_iV G (b := 23) (rest := []) (As := [.int (iv 221)]) (c_X7_took_b ω l μ20 221 (by unfold ir; omega) hI_23 hp_24 (by omega)) (wm 3 160 rfl rfl) (wm 3 162 rfl rfl) (wm 0 9 rfl rfl) rfl rfl (by decide) rfl (wm 1 12 rfl rfl) (wm 3 163 rfl rfl) (by decide) hR ⟨nfB hF (by decide), nlB hLo (by decide)⟩ (n := 1) rfl rfl (Nat.le_of_ble_eq_true rfl) hl.1 dX7_ownStatement_200 (fun r_36 μ35 ρ d0 H locs hr_r_36 hp G => ?_)
            have hr_r_36 : -2147483648 ≤ r_36 ∧ r_36 ≤ 2147483647 := hr_r_36
            obtain ⟨F_37, hI_38, hp_39, hp_40, hp_41, hs_42, hs_43, hs_44, hs_45, hs_46⟩ := hp
            have hn_47 : -1 ≤ μ35.1 26 10 ∧ μ35.1 26 10 ≤ 3000 := hI_38.nm.2.2.2.2.2.2.2.2.2.2.2.2
            have htb_48 := hp_39.b
            refine xb_if_eq (tgt := 213) hx hb (by unfold ir; omega) dX7_ownStatement_203 (by decide) (fun c_203 => ?_) (fun c_203 => ?_)
            · refine lv_iconst (v := iv 0) hx hb dX7_ownStatement_213 rfl ?_
              clear hk_1 hc_2
              have e_49 : μ35.1 26 11 = μ.1 26 11 := (hs_42.trans (hs_27.trans hs_12))
              have e_50 : μ35.1 26 11 = μ.1 26 11 := (hs_42.trans (hs_27.trans hs_12))
              have e_51 : μ35.1 26 11 = μ.1 26 11 := (hs_42.trans (hs_27.trans hs_12))
              have e_52 : μ35.1 P 1 = μ.1 P 1 := ((F_37.1 P (ni hprP (fun P => P) (fun P => [26]) rfl) 1).trans ((F_22.1 P (ni hprP (fun P => P) (fun P => [26]) rfl) 1).trans (F_7.1 P (ni hprP (fun P => P) (fun P => [26]) rfl) 1)))
              have e_53 : μ35.1 P 1 = μ.1 P 1 := ((F_37.1 P (ni hprP (fun P => P) (fun P => [26]) rfl) 1).trans ((F_22.1 P (ni hprP (fun P => P) (fun P => [26]) rfl) 1).trans (F_7.1 P (ni hprP (fun P => P) (fun P => [26]) rfl) 1)))
              have e_54 : μ35.1 26 11 = μ.1 26 11 := (hs_42.trans (hs_27.trans hs_12))
              have e_55 : μ35.1 (P + 2) 3 = μ.1 (P + 2) 3 := ((F_37.1 (P + 2) (ni hprP (fun P => P + 2) (fun P => [26]) rfl) 3).trans ((F_22.1 (P + 2) (ni hprP (fun P => P + 2) (fun P => [26]) rfl) 3).trans (F_7.1 (P + 2) (ni hprP (fun P => P + 2) (fun P => [26]) rfl) 3)))
              have e_56 : μ35.1 P 1 = μ.1 P 1 := ((F_37.1 P (ni hprP (fun P => P) (fun P => [26]) rfl) 1).trans ((F_22.1 P (ni hprP (fun P => P) (fun P => [26]) rfl) 1).trans (F_7.1 P (ni hprP (fun P => P) (fun P => [26]) rfl) 1)))
              have e_57 : μ35.1 (P + 2) 3 = μ.1 (P + 2) 3 := ((F_37.1 (P + 2) (ni hprP (fun P => P + 2) (fun P => [26]) rfl) 3).trans ((F_22.1 (P + 2) (ni hprP (fun P => P + 2) (fun P => [26]) rfl) 3).trans (F_7.1 (P + 2) (ni hprP (fun P => P + 2) (fun P => [26]) rfl) 3)))
              exact xr_i G (x := 0) hret hlk (by unfold ir; omega) (zr (by omega)) dX7_ownStatement_214 ⟨(Fr.tr (Fr.tr (Fr.tr Fr.rf F_7 (si hprP (fun P => [26]) (fun P => [2, 3, 4, 23, 24, 25, 26, P, P + 1, P + 2, (P + 2) + 1, (P + 2) + 2, (P + 2) + 3]) rfl)) F_22 (si hprP (fun P => [26]) (fun P => [2, 3, 4, 23, 24, 25, 26, P, P + 1, P + 2, (P + 2) + 1, (P + 2) + 2, (P + 2) + 3]) rfl)) F_37 (si hprP (fun P => [26]) (fun P => [2, 3, 4, 23, 24, 25, 26, P, P + 1, P + 2, (P + 2) + 1, (P + 2) + 2, (P + 2) + 3]) rfl)), hI_38, hp_39, (by omega), (by omega), (by omega), (by omega), (fun h0 h1 => absurd h1 (by omega)), (fun _ => ⟨EXT.fr (L := [26]) (Fr.tr (Fr.tr (Fr.tr Fr.rf F_7 (by decide)) F_22 (by decide)) F_37 (by decide)) (npL_p (L := [26]) (by decide) hprP).1 (npL_p (L := [26]) (by decide) hprP).2.1, ((F_37.1 P (ni hprP (fun P => P) (fun P => [26]) rfl) 1).trans ((F_22.1 P (ni hprP (fun P => P) (fun P => [26]) rfl) 1).trans (F_7.1 P (ni hprP (fun P => P) (fun P => [26]) rfl) 1)))⟩), (((F_37.1 23 (by decide) 2).trans ((F_22.1 23 (by decide) 2).trans ((F_7.1 23 (by decide) 2).trans hP.symm)))).trans hP, ((F_37.1 23 (by decide) 7).trans ((F_22.1 23 (by decide) 7).trans (F_7.1 23 (by decide) 7))), (((F_37.1 23 (by decide) 8).trans ((F_22.1 23 (by decide) 8).trans ((F_7.1 23 (by decide) 8).trans htt.symm)))).trans htt, ((F_37.1 23 (by decide) 9).trans ((F_22.1 23 (by decide) 9).trans (F_7.1 23 (by decide) 9))), (hs_43.trans (hs_28.trans hs_13)), ((F_37.1 P (ni hprP (fun P => P) (fun P => [26]) rfl) 7).trans ((F_22.1 P (ni hprP (fun P => P) (fun P => [26]) rfl) 7).trans (F_7.1 P (ni hprP (fun P => P) (fun P => [26]) rfl) 7)))⟩
            · refine lv_aload_n hx hb dX7_ownStatement_206 rfl (lv_at hl 0 rfl) ?_
              have hsp_58 : ∀ _ : Unit, STP μ35 P tt := fun _ => (hst ()).fr (K := [26]) (Fr.tr (Fr.tr (Fr.tr Fr.rf F_7 (by decide)) F_22 (by decide)) F_37 (by decide)) (npL_p (L := [26]) (by decide) hprP).1 (npL_p (L := [26]) (by decide) hprP).2.1
              have e_59 : μ35.1 23 2 = P := ((F_37.1 23 (by decide) 2).trans ((F_22.1 23 (by decide) 2).trans ((F_7.1 23 (by decide) 2).trans hP.symm)))
              have e_60 : μ35.1 23 8 = tt := ((F_37.1 23 (by decide) 8).trans ((F_22.1 23 (by decide) 8).trans ((F_7.1 23 (by decide) 8).trans htt.symm)))
              have e_61 : μ35.1 P 1 = μ.1 P 1 := ((F_37.1 P (ni hprP (fun P => P) (fun P => [26]) rfl) 1).trans ((F_22.1 P (ni hprP (fun P => P) (fun P => [26]) rfl) 1).trans (F_7.1 P (ni hprP (fun P => P) (fun P => [26]) rfl) 1)))
              have e_62 : μ35.1 26 11 = μ.1 26 11 := (hs_42.trans (hs_27.trans hs_12))
              have hk_63 := hI.row (r := P + 2) (hprP.row)
              unfold rk at hk_63
              have e_64 : μ35.1 (P + 2) 3 = μ.1 (P + 2) 3 := ((F_37.1 (P + 2) (ni hprP (fun P => P + 2) (fun P => [26]) rfl) 3).trans ((F_22.1 (P + 2) (ni hprP (fun P => P + 2) (fun P => [26]) rfl) 3).trans (F_7.1 (P + 2) (ni hprP (fun P => P + 2) (fun P => [26]) rfl) 3)))
              have e_65 : μ35.1 P 1 = μ.1 P 1 := ((F_37.1 P (ni hprP (fun P => P) (fun P => [26]) rfl) 1).trans ((F_22.1 P (ni hprP (fun P => P) (fun P => [26]) rfl) 1).trans (F_7.1 P (ni hprP (fun P => P) (fun P => [26]) rfl) 1)))
              have e_66 : μ35.1 23 9 = μ.1 23 9 := ((F_37.1 23 (by decide) 9).trans ((F_22.1 23 (by decide) 9).trans (F_7.1 23 (by decide) 9)))
              have e_67 : μ35.1 23 9 = μ.1 23 9 := ((F_37.1 23 (by decide) 9).trans ((F_22.1 23 (by decide) 9).trans (F_7.1 23 (by decide) 9)))
              have e_68 : μ35.1 26 11 = μ.1 26 11 := (hs_42.trans (hs_27.trans hs_12))
              have e_69 : μ35.1 26 11 = μ.1 26 11 := (hs_42.trans (hs_27.trans hs_12))
              have e_70 : μ35.1 P 1 = μ.1 P 1 := ((F_37.1 P (ni hprP (fun P => P) (fun P => [26]) rfl) 1).trans ((F_22.1 P (ni hprP (fun P => P) (fun P => [26]) rfl) 1).trans (F_7.1 P (ni hprP (fun P => P) (fun P => [26]) rfl) 1)))
              have e_71 : μ35.1 P 1 = μ.1 P 1 := ((F_37.1 P (ni hprP (fun P => P) (fun P => [26]) rfl) 1).trans ((F_22.1 P (ni hprP (fun P => P) (fun P => [26]) rfl) 1).trans (F_7.1 P (ni hprP (fun P => P) (fun P => [26]) rfl) 1)))
              have e_72 : μ35.1 (P + 2) 3 = μ.1 (P + 2) 3 := ((F_37.1 (P + 2) (ni hprP (fun P => P + 2) (fun P => [26]) rfl) 3).trans ((F_22.1 (P + 2) (ni hprP (fun P => P + 2) (fun P => [26]) rfl) 3).trans (F_7.1 (P + 2) (ni hprP (fun P => P + 2) (fun P => [26]) rfl) 3)))
              have e_73 : μ35.1 P 1 = μ.1 P 1 := ((F_37.1 P (ni hprP (fun P => P) (fun P => [26]) rfl) 1).trans ((F_22.1 P (ni hprP (fun P => P) (fun P => [26]) rfl) 1).trans (F_7.1 P (ni hprP (fun P => P) (fun P => [26]) rfl) 1)))
              have e_74 : μ35.1 (P + 2) 3 = μ.1 (P + 2) 3 := ((F_37.1 (P + 2) (ni hprP (fun P => P + 2) (fun P => [26]) rfl) 3).trans ((F_22.1 (P + 2) (ni hprP (fun P => P + 2) (fun P => [26]) rfl) 3).trans (F_7.1 (P + 2) (ni hprP (fun P => P + 2) (fun P => [26]) rfl) 3)))
              refine xc_vV G (b := 23) (rest := []) (As := []) (c_X7_cleanDo ω l μ35 F Lo kf P tt hI_38 (by omega) (by omega) hF hLo hK hp_39 (by omega) (by omega) (by omega) (by omega) (by omega) (by omega) hsp_58 (by omega)) (wm 4 183 rfl rfl) (wm 4 185 rfl rfl) (wm 0 58 rfl rfl) rfl rfl (by decide) rfl (wm 1 12 rfl rfl) (wm 4 186 rfl rfl) (by decide) hR ⟨sfr (F := F) (a := 1) (by decide), slo (L := Lo) (m := 5) (a := 21) (by decide)⟩ (n := 0) rfl rfl (Nat.le_of_ble_eq_true rfl) hl.1 dX7_ownStatement_207 (fun μ75 ρ d0 H locs hp G => ?_)
              obtain ⟨F_76, hI_77, hp_78, hp_79, hp_80, hp_81, hp_82, hp_83, hs_84, hs_85, hs_86, hs_87, hs_88, hs_89⟩ := hp
              have hn_90 : -1 ≤ μ75.1 26 10 ∧ μ75.1 26 10 ≤ 3000 := hI_77.nm.2.2.2.2.2.2.2.2.2.2.2.2
              have hk_91 := hI_77.pr (p := P) hprP
              unfold pk at hk_91
              have hc_92 : 16 ≤ μ75.2.1 (P + 1) ∧ μ75.2.1 (P + 1) ≤ 73024 := hI_77.rm.1 _ hprP.cap
              have hk_93 := hI_77.row (r := P + 2) (hprP.row)
              unfold rk at hk_93
              have htb_94 := hp_78.b
              replace hp_83 := fun _ : Unit => hp_83
              have hes_95 : ∀ _ : Unit, μ75.1 26 11 = 0 → ES μ35 μ75 P tt (2 * (8 - μ.1 23 9)) := fun _ h0 => ((hp_83 ()) h0).mn (by have h9 : μ35.1 23 9 = μ.1 23 9 := ((F_37.1 23 (by decide) 9).trans ((F_22.1 23 (by decide) 9).trans (F_7.1 23 (by decide) 9))); omega)
              refine lv_goto (tgt := 215) hx hb dX7_ownStatement_210 (by decide) ?_
              refine lv_iconst (v := iv 1) hx hb dX7_ownStatement_215 rfl ?_
              clear hk_1 hc_2 hk_63 hk_91 hc_92 hk_93
              exact xr_i G (x := 1) hret hlk (by unfold ir; omega) (zr (by omega)) dX7_ownStatement_216 ⟨(Fr.tr (Fr.tr (Fr.tr (Fr.tr Fr.rf F_7 (si hprP (fun P => [26]) (fun P => [2, 3, 4, 23, 24, 25, 26, P, P + 1, P + 2, (P + 2) + 1, (P + 2) + 2, (P + 2) + 3]) rfl)) F_22 (si hprP (fun P => [26]) (fun P => [2, 3, 4, 23, 24, 25, 26, P, P + 1, P + 2, (P + 2) + 1, (P + 2) + 2, (P + 2) + 3]) rfl)) F_37 (si hprP (fun P => [26]) (fun P => [2, 3, 4, 23, 24, 25, 26, P, P + 1, P + 2, (P + 2) + 1, (P + 2) + 2, (P + 2) + 3]) rfl)) F_76 (si hprP (fun P => [2, 3, 4, 23, 24, 25, 26, P, P + 1, P + 2, (P + 2) + 1, (P + 2) + 2, (P + 2) + 3]) (fun P => [2, 3, 4, 23, 24, 25, 26, P, P + 1, P + 2, (P + 2) + 1, (P + 2) + 2, (P + 2) + 3]) rfl)), hI_77, hp_78, (by omega), (by omega), (by omega), (by omega), (fun h0 _ => (ES.fl (K := [26]) (Fr.tr (Fr.tr (Fr.tr Fr.rf F_7 (by decide)) F_22 (by decide)) F_37 (by decide)) (npL_p (L := [26]) (by decide) hprP).1 (npL_p (L := [26]) (by decide) hprP).2.1 ((hes_95 ()) h0))), (fun h9 => absurd h9 (by omega)), ((hs_84.trans ((F_37.1 23 (by decide) 2).trans ((F_22.1 23 (by decide) 2).trans ((F_7.1 23 (by decide) 2).trans hP.symm))))).trans hP, (hs_85.trans ((F_37.1 23 (by decide) 7).trans ((F_22.1 23 (by decide) 7).trans (F_7.1 23 (by decide) 7)))), ((hs_86.trans ((F_37.1 23 (by decide) 8).trans ((F_22.1 23 (by decide) 8).trans ((F_7.1 23 (by decide) 8).trans htt.symm))))).trans htt, (hs_87.trans ((F_37.1 23 (by decide) 9).trans ((F_22.1 23 (by decide) 9).trans (F_7.1 23 (by decide) 9)))), (hs_88.trans (hs_43.trans (hs_28.trans hs_13))), (hs_89.trans ((F_37.1 P (ni hprP (fun P => P) (fun P => [26]) rfl) 7).trans ((F_22.1 P (ni hprP (fun P => P) (fun P => [26]) rfl) 7).trans (F_7.1 P (ni hprP (fun P => P) (fun P => [26]) rfl) 7))))⟩
          · refine lv_aload_n hx hb dX7_ownStatement_181 rfl (lv_at hl 0 rfl) ?_
            have hsp_96 : ∀ _ : Unit, STP μ20 P tt := fun _ => (hst ()).fr (K := [26]) (Fr.tr (Fr.tr Fr.rf F_7 (by decide)) F_22 (by decide)) (npL_p (L := [26]) (by decide) hprP).1 (npL_p (L := [26]) (by decide) hprP).2.1
            have e_97 : μ20.1 23 2 = P := ((F_22.1 23 (by decide) 2).trans ((F_7.1 23 (by decide) 2).trans hP.symm))
            have e_98 : μ20.1 23 8 = tt := ((F_22.1 23 (by decide) 8).trans ((F_7.1 23 (by decide) 8).trans htt.symm))
            have e_99 : μ20.1 P 1 = μ.1 P 1 := ((F_22.1 P (ni hprP (fun P => P) (fun P => [26]) rfl) 1).trans (F_7.1 P (ni hprP (fun P => P) (fun P => [26]) rfl) 1))
            have e_100 : μ20.1 26 11 = μ.1 26 11 := (hs_27.trans hs_12)
            have hk_101 := hI.row (r := P + 2) (hprP.row)
            unfold rk at hk_101
            have e_102 : μ20.1 (P + 2) 3 = μ.1 (P + 2) 3 := ((F_22.1 (P + 2) (ni hprP (fun P => P + 2) (fun P => [26]) rfl) 3).trans (F_7.1 (P + 2) (ni hprP (fun P => P + 2) (fun P => [26]) rfl) 3))
            have e_103 : μ20.1 P 1 = μ.1 P 1 := ((F_22.1 P (ni hprP (fun P => P) (fun P => [26]) rfl) 1).trans (F_7.1 P (ni hprP (fun P => P) (fun P => [26]) rfl) 1))
            have e_104 : μ20.1 23 9 = μ.1 23 9 := ((F_22.1 23 (by decide) 9).trans (F_7.1 23 (by decide) 9))
            have e_105 : μ20.1 23 9 = μ.1 23 9 := ((F_22.1 23 (by decide) 9).trans (F_7.1 23 (by decide) 9))
            have e_106 : μ20.1 26 11 = μ.1 26 11 := (hs_27.trans hs_12)
            have e_107 : μ20.1 26 11 = μ.1 26 11 := (hs_27.trans hs_12)
            have e_108 : μ20.1 P 1 = μ.1 P 1 := ((F_22.1 P (ni hprP (fun P => P) (fun P => [26]) rfl) 1).trans (F_7.1 P (ni hprP (fun P => P) (fun P => [26]) rfl) 1))
            have e_109 : μ20.1 P 1 = μ.1 P 1 := ((F_22.1 P (ni hprP (fun P => P) (fun P => [26]) rfl) 1).trans (F_7.1 P (ni hprP (fun P => P) (fun P => [26]) rfl) 1))
            have e_110 : μ20.1 (P + 2) 3 = μ.1 (P + 2) 3 := ((F_22.1 (P + 2) (ni hprP (fun P => P + 2) (fun P => [26]) rfl) 3).trans (F_7.1 (P + 2) (ni hprP (fun P => P + 2) (fun P => [26]) rfl) 3))
            have e_111 : μ20.1 P 1 = μ.1 P 1 := ((F_22.1 P (ni hprP (fun P => P) (fun P => [26]) rfl) 1).trans (F_7.1 P (ni hprP (fun P => P) (fun P => [26]) rfl) 1))
            have e_112 : μ20.1 (P + 2) 3 = μ.1 (P + 2) 3 := ((F_22.1 (P + 2) (ni hprP (fun P => P + 2) (fun P => [26]) rfl) 3).trans (F_7.1 (P + 2) (ni hprP (fun P => P + 2) (fun P => [26]) rfl) 3))
            refine xc_vV G (b := 23) (rest := []) (As := []) (c_X7_openThen ω l μ20 F Lo kf P tt hI_23 (by omega) (by omega) hF hLo hK hp_24 (by omega) (by omega) (by omega) (by omega) (by omega) (by omega) hsp_96 (by omega)) (wm 4 179 rfl rfl) (wm 4 181 rfl rfl) (wm 0 57 rfl rfl) rfl rfl (by decide) rfl (wm 1 12 rfl rfl) (wm 4 182 rfl rfl) (by decide) hR ⟨sfr (F := F) (a := 1) (by decide), slo (L := Lo) (m := 5) (a := 21) (by decide)⟩ (n := 0) rfl rfl (Nat.le_of_ble_eq_true rfl) hl.1 dX7_ownStatement_182 (fun μ113 ρ d0 H locs hp G => ?_)
            obtain ⟨F_114, hI_115, hp_116, hp_117, hp_118, hp_119, hp_120, hp_121, hs_122, hs_123, hs_124, hs_125, hs_126, hs_127⟩ := hp
            have hn_128 : -1 ≤ μ113.1 26 10 ∧ μ113.1 26 10 ≤ 3000 := hI_115.nm.2.2.2.2.2.2.2.2.2.2.2.2
            have hk_129 := hI_115.pr (p := P) hprP
            unfold pk at hk_129
            have hc_130 : 16 ≤ μ113.2.1 (P + 1) ∧ μ113.2.1 (P + 1) ≤ 73024 := hI_115.rm.1 _ hprP.cap
            have hk_131 := hI_115.row (r := P + 2) (hprP.row)
            unfold rk at hk_131
            have htb_132 := hp_116.b
            replace hp_121 := fun _ : Unit => hp_121
            have hes_133 : ∀ _ : Unit, μ113.1 26 11 = 0 → ES μ20 μ113 P tt (2 * (8 - μ.1 23 9)) := fun _ h0 => ((hp_121 ()) h0).mn (by have h9 : μ20.1 23 9 = μ.1 23 9 := ((F_22.1 23 (by decide) 9).trans (F_7.1 23 (by decide) 9)); omega)
            refine lv_goto (tgt := 215) hx hb dX7_ownStatement_185 (by decide) ?_
            refine lv_iconst (v := iv 1) hx hb dX7_ownStatement_215 rfl ?_
            clear hk_1 hc_2 hk_101 hk_129 hc_130 hk_131
            exact xr_i G (x := 1) hret hlk (by unfold ir; omega) (zr (by omega)) dX7_ownStatement_216 ⟨(Fr.tr (Fr.tr (Fr.tr Fr.rf F_7 (si hprP (fun P => [26]) (fun P => [2, 3, 4, 23, 24, 25, 26, P, P + 1, P + 2, (P + 2) + 1, (P + 2) + 2, (P + 2) + 3]) rfl)) F_22 (si hprP (fun P => [26]) (fun P => [2, 3, 4, 23, 24, 25, 26, P, P + 1, P + 2, (P + 2) + 1, (P + 2) + 2, (P + 2) + 3]) rfl)) F_114 (si hprP (fun P => [2, 3, 4, 23, 24, 25, 26, P, P + 1, P + 2, (P + 2) + 1, (P + 2) + 2, (P + 2) + 3]) (fun P => [2, 3, 4, 23, 24, 25, 26, P, P + 1, P + 2, (P + 2) + 1, (P + 2) + 2, (P + 2) + 3]) rfl)), hI_115, hp_116, (by omega), (by omega), (by omega), (by omega), (fun h0 _ => (ES.fl (K := [26]) (Fr.tr (Fr.tr Fr.rf F_7 (by decide)) F_22 (by decide)) (npL_p (L := [26]) (by decide) hprP).1 (npL_p (L := [26]) (by decide) hprP).2.1 ((hes_133 ()) h0))), (fun h9 => absurd h9 (by omega)), ((hs_122.trans ((F_22.1 23 (by decide) 2).trans ((F_7.1 23 (by decide) 2).trans hP.symm)))).trans hP, (hs_123.trans ((F_22.1 23 (by decide) 7).trans (F_7.1 23 (by decide) 7))), ((hs_124.trans ((F_22.1 23 (by decide) 8).trans ((F_7.1 23 (by decide) 8).trans htt.symm)))).trans htt, (hs_125.trans ((F_22.1 23 (by decide) 9).trans (F_7.1 23 (by decide) 9))), (hs_126.trans (hs_28.trans hs_13)), (hs_127.trans ((F_22.1 P (ni hprP (fun P => P) (fun P => [26]) rfl) 7).trans (F_7.1 P (ni hprP (fun P => P) (fun P => [26]) rfl) 7)))⟩
        · refine lv_aload_n hx hb dX7_ownStatement_150 rfl (lv_at hl 0 rfl) ?_
          refine lv_bipush (v := iv 25) hx hb dX7_ownStatement_151 rfl ?_
          refine lv_aload_n hx hb dX7_ownStatement_153 rfl (lv_at hl 0 rfl) ?_
          have e_134 : μ5.1 26 11 = μ.1 26 11 := hs_12
          refine xc_iV G (b := 23) (rest := [.int (iv 25), .ref (oP ω 23)]) (As := []) (c_X7_nameOfFailing_b ω l μ5  hI_8 hp_9) (wm 4 112 rfl rfl) (wm 4 114 rfl rfl) (wm 0 44 rfl rfl) rfl rfl (by decide) rfl (wm 1 12 rfl rfl) (wm 4 115 rfl rfl) (by decide) hR ⟨nfB hF (by decide), nlB hLo (by decide)⟩ (n := 0) rfl rfl (Nat.le_of_ble_eq_true rfl) hl.1 dX7_ownStatement_154 (fun r_136 μ135 ρ d0 H locs hr_r_136 hp G => ?_)
          have hr_r_136 : -2147483648 ≤ r_136 ∧ r_136 ≤ 2147483647 := hr_r_136
          obtain ⟨F_137, hI_138, hp_139, hp_140, hp_141, hp_142, hs_143, hs_144, hs_145, hs_146, hs_147⟩ := hp
          have hn_148 : -1 ≤ μ135.1 26 10 ∧ μ135.1 26 10 ≤ 3000 := hI_138.nm.2.2.2.2.2.2.2.2.2.2.2.2
          have htb_149 := hp_139.b
          have hsp_150 : ∀ _ : Unit, STP μ135 P tt := fun _ => (hst ()).fr (K := [26, 2, 3, 4, 24]) (Fr.tr (Fr.tr Fr.rf F_7 (by decide)) F_137 (by decide)) (npL_p (L := [26, 2, 3, 4, 24]) (by decide) hprP).1 (npL_p (L := [26, 2, 3, 4, 24]) (by decide) hprP).2.1
          have e_151 : μ135.1 23 2 = P := ((F_137.1 23 (by decide) 2).trans ((F_7.1 23 (by decide) 2).trans hP.symm))
          have e_152 : μ135.1 23 8 = tt := ((F_137.1 23 (by decide) 8).trans ((F_7.1 23 (by decide) 8).trans htt.symm))
          have e_153 : μ135.1 P 1 = μ.1 P 1 := ((F_137.1 P (ni hprP (fun P => P) (fun P => [26, 2, 3, 4, 24]) rfl) 1).trans (F_7.1 P (ni hprP (fun P => P) (fun P => [26]) rfl) 1))
          have hk_154 := hI.row (r := P + 2) (hprP.row)
          unfold rk at hk_154
          have e_155 : μ135.1 (P + 2) 3 = μ.1 (P + 2) 3 := ((F_137.1 (P + 2) (ni hprP (fun P => P + 2) (fun P => [26, 2, 3, 4, 24]) rfl) 3).trans (F_7.1 (P + 2) (ni hprP (fun P => P + 2) (fun P => [26]) rfl) 3))
          have e_156 : μ135.1 P 1 = μ.1 P 1 := ((F_137.1 P (ni hprP (fun P => P) (fun P => [26, 2, 3, 4, 24]) rfl) 1).trans (F_7.1 P (ni hprP (fun P => P) (fun P => [26]) rfl) 1))
          have e_157 : μ135.1 23 9 = μ.1 23 9 := ((F_137.1 23 (by decide) 9).trans (F_7.1 23 (by decide) 9))
          have e_158 : μ135.1 23 9 = μ.1 23 9 := ((F_137.1 23 (by decide) 9).trans (F_7.1 23 (by decide) 9))
          have e_159 : μ135.1 P 1 = μ.1 P 1 := ((F_137.1 P (ni hprP (fun P => P) (fun P => [26, 2, 3, 4, 24]) rfl) 1).trans (F_7.1 P (ni hprP (fun P => P) (fun P => [26]) rfl) 1))
          have e_160 : μ135.1 P 1 = μ.1 P 1 := ((F_137.1 P (ni hprP (fun P => P) (fun P => [26, 2, 3, 4, 24]) rfl) 1).trans (F_7.1 P (ni hprP (fun P => P) (fun P => [26]) rfl) 1))
          have e_161 : μ135.1 (P + 2) 3 = μ.1 (P + 2) 3 := ((F_137.1 (P + 2) (ni hprP (fun P => P + 2) (fun P => [26, 2, 3, 4, 24]) rfl) 3).trans (F_7.1 (P + 2) (ni hprP (fun P => P + 2) (fun P => [26]) rfl) 3))
          have e_162 : μ135.1 P 1 = μ.1 P 1 := ((F_137.1 P (ni hprP (fun P => P) (fun P => [26, 2, 3, 4, 24]) rfl) 1).trans (F_7.1 P (ni hprP (fun P => P) (fun P => [26]) rfl) 1))
          have e_163 : μ135.1 (P + 2) 3 = μ.1 (P + 2) 3 := ((F_137.1 (P + 2) (ni hprP (fun P => P + 2) (fun P => [26, 2, 3, 4, 24]) rfl) 3).trans (F_7.1 (P + 2) (ni hprP (fun P => P + 2) (fun P => [26]) rfl) 3))
          refine xc_vV G (b := 23) (rest := []) (As := [.int (iv 25), .int (iv r_136)]) (c_X7_withExpression ω l μ135 25 r_136 P tt (by unfold ir; omega) (by unfold ir; omega) hI_138 (by omega) (by omega) hp_139 (by omega) (by omega) (by omega) (by omega) (Or.inr ⟨by omega, by omega⟩) (fun _ => by rw [show eff 25 r_136 = -1 from rfl]; have h9 := (hsp_150 ()).h.1; omega)) (wm 3 239 rfl rfl) (wm 4 1 rfl rfl) (wm 0 23 rfl rfl) rfl rfl (by decide) rfl (wm 1 12 rfl rfl) (wm 4 2 rfl rfl) (by decide) hR ⟨nfB hF (by decide), nlB hLo (by decide)⟩ (n := 2) rfl rfl (Nat.le_of_ble_eq_true rfl) hl.1 dX7_ownStatement_157 (fun μ164 ρ d0 H locs hp G => ?_)
          obtain ⟨F_165, hI_166, hp_167, hp_168, hp_169, hp_170, hp_171, hp_172, hs_173, hs_174, hs_175, hs_176, hs_177, hs_178, hs_179, hs_180, hs_181⟩ := hp
          have hn_182 : -1 ≤ μ164.1 26 10 ∧ μ164.1 26 10 ≤ 3000 := hI_166.nm.2.2.2.2.2.2.2.2.2.2.2.2
          have hk_183 := hI_166.pr (p := P) hprP
          unfold pk at hk_183
          have hc_184 : 16 ≤ μ164.2.1 (P + 1) ∧ μ164.2.1 (P + 1) ≤ 73024 := hI_166.rm.1 _ hprP.cap
          have hk_185 := hI_166.row (r := P + 2) (hprP.row)
          unfold rk at hk_185
          have htb_186 := hp_167.b
          replace hp_172 := fun _ : Unit => hp_172
          have hes_187 : ∀ _ : Unit, μ164.1 26 11 = 0 → ES μ135 μ164 P tt (2 * (8 - μ.1 23 9)) := fun _ h0 => ES.oe (hsp_150 ()) (((hp_172 ()) h0).e rfl) (by have h8 : μ135.1 P 1 = μ.1 P 1 := ((F_137.1 P (ni hprP (fun P => P) (fun P => [26, 2, 3, 4, 24]) rfl) 1).trans (F_7.1 P (ni hprP (fun P => P) (fun P => [26]) rfl) 1)); have h9 : μ164.1 P 1 = μ164.1 P 1 := rfl; omega) (by omega)
          refine lv_goto (tgt := 215) hx hb dX7_ownStatement_160 (by decide) ?_
          refine lv_iconst (v := iv 1) hx hb dX7_ownStatement_215 rfl ?_
          clear hk_1 hc_2 hk_154 hk_183 hc_184 hk_185
          exact xr_i G (x := 1) hret hlk (by unfold ir; omega) (zr (by omega)) dX7_ownStatement_216 ⟨(Fr.tr (Fr.tr (Fr.tr Fr.rf F_7 (si hprP (fun P => [26]) (fun P => [2, 3, 4, 23, 24, 25, 26, P, P + 1, P + 2, (P + 2) + 1, (P + 2) + 2, (P + 2) + 3]) rfl)) F_137 (si hprP (fun P => [26, 2, 3, 4, 24]) (fun P => [2, 3, 4, 23, 24, 25, 26, P, P + 1, P + 2, (P + 2) + 1, (P + 2) + 2, (P + 2) + 3]) rfl)) F_165 (si hprP (fun P => [2, 3, 4, 23, 24, 26, P, P + 1, P + 2, (P + 2) + 1, (P + 2) + 2, (P + 2) + 3]) (fun P => [2, 3, 4, 23, 24, 25, 26, P, P + 1, P + 2, (P + 2) + 1, (P + 2) + 2, (P + 2) + 3]) rfl)), hI_166, hp_167, (by omega), (by omega), (by omega), (by omega), (fun h0 _ => (ES.fl (K := [26, 2, 3, 4, 24]) (Fr.tr (Fr.tr Fr.rf F_7 (by decide)) F_137 (by decide)) (npL_p (L := [26, 2, 3, 4, 24]) (by decide) hprP).1 (npL_p (L := [26, 2, 3, 4, 24]) (by decide) hprP).2.1 ((hes_187 ()) h0))), (fun h9 => absurd h9 (by omega)), ((hs_173.trans ((F_137.1 23 (by decide) 2).trans ((F_7.1 23 (by decide) 2).trans hP.symm)))).trans hP, (hs_176.trans ((F_137.1 23 (by decide) 7).trans (F_7.1 23 (by decide) 7))), ((hs_177.trans ((F_137.1 23 (by decide) 8).trans ((F_7.1 23 (by decide) 8).trans htt.symm)))).trans htt, (hs_178.trans ((F_137.1 23 (by decide) 9).trans (F_7.1 23 (by decide) 9))), (hs_180.trans (hs_143.trans hs_13)), (hs_181.trans ((F_137.1 P (ni hprP (fun P => P) (fun P => [26, 2, 3, 4, 24]) rfl) 7).trans (F_7.1 P (ni hprP (fun P => P) (fun P => [26]) rfl) 7)))⟩
      · refine lv_aload_n hx hb dX7_ownStatement_115 rfl (lv_at hl 0 rfl) ?_
        refine lv_sipush (v := iv 216) hx hb dX7_ownStatement_116 rfl ?_
        have hn_188 : -1 ≤ μ.1 26 10 ∧ μ.1 26 10 ≤ 3000 := hI.nm.2.2.2.2.2.2.2.2.2.2.2.2
        refine xc_iV G (b := 23) (rest := []) (As := [.int (iv 216)]) (c_X7_took_b ω l μ 216 (by unfold ir; omega) hI hTK (by omega)) (wm 3 160 rfl rfl) (wm 3 162 rfl rfl) (wm 0 9 rfl rfl) rfl rfl (by decide) rfl (wm 1 12 rfl rfl) (wm 3 163 rfl rfl) (by decide) hR ⟨nfB hF (by decide), nlB hLo (by decide)⟩ (n := 1) rfl rfl (Nat.le_of_ble_eq_true rfl) hl.1 dX7_ownStatement_119 (fun r_190 μ189 ρ d0 H locs hr_r_190 hp G => ?_)
        have hr_r_190 : -2147483648 ≤ r_190 ∧ r_190 ≤ 2147483647 := hr_r_190
        obtain ⟨F_191, hI_192, hp_193, hp_194, hp_195, hs_196, hs_197, hs_198, hs_199, hs_200⟩ := hp
        have hn_201 : -1 ≤ μ189.1 26 10 ∧ μ189.1 26 10 ≤ 3000 := hI_192.nm.2.2.2.2.2.2.2.2.2.2.2.2
        have htb_202 := hp_193.b
        refine xb_if_eq (tgt := 132) hx hb (by unfold ir; omega) dX7_ownStatement_122 (by decide) (fun c_122 => ?_) (fun c_122 => ?_)
        · refine lv_aload_n hx hb dX7_ownStatement_132 rfl (lv_at hl 0 rfl) ?_
          refine xa_geti G fd_X7 (a := 23) (x := tt) 8 rfl (by decide) rfl (wm 2 25 rfl rfl) ⟨rfl, rfl, rfl⟩ dX7_ownStatement_133 rfl ((F_191.1 23 (by decide) 8).trans htt.symm) ?_
          refine lv_iconst (v := iv 3) hx hb dX7_ownStatement_136 rfl ?_
          refine xb_icmp_ne (tgt := 163) hx hb (by unfold ir; omega) (by unfold ir; omega) dX7_ownStatement_137 (by decide) (fun c_137 => ?_) (fun c_137 => absurd c_137 (by omega))
          refine lv_aload_n hx hb dX7_ownStatement_163 rfl (lv_at hl 0 rfl) ?_
          refine xa_geti G fd_X7 (a := 23) (x := tt) 8 rfl (by decide) rfl (wm 2 25 rfl rfl) ⟨rfl, rfl, rfl⟩ dX7_ownStatement_164 rfl ((F_191.1 23 (by decide) 8).trans htt.symm) ?_
          refine lv_iconst (v := iv 3) hx hb dX7_ownStatement_167 rfl ?_
          refine xb_icmp_ne (tgt := 188) hx hb (by unfold ir; omega) (by unfold ir; omega) dX7_ownStatement_168 (by decide) (fun c_168 => ?_) (fun c_168 => absurd c_168 (by omega))
          refine lv_aload_n hx hb dX7_ownStatement_188 rfl (lv_at hl 0 rfl) ?_
          refine xa_geti G fd_X7 (a := 23) (x := tt) 8 rfl (by decide) rfl (wm 2 25 rfl rfl) ⟨rfl, rfl, rfl⟩ dX7_ownStatement_189 rfl ((F_191.1 23 (by decide) 8).trans htt.symm) ?_
          refine lv_iconst (v := iv 3) hx hb dX7_ownStatement_192 rfl ?_
          refine xb_icmp_ne (tgt := 213) hx hb (by unfold ir; omega) (by unfold ir; omega) dX7_ownStatement_193 (by decide) (fun c_193 => ?_) (fun c_193 => absurd c_193 (by omega))
          refine lv_iconst (v := iv 0) hx hb dX7_ownStatement_213 rfl ?_
          clear hk_1 hc_2
          have e_203 : μ189.1 26 11 = μ.1 26 11 := hs_196
          have e_204 : μ189.1 26 11 = μ.1 26 11 := hs_196
          have e_205 : μ189.1 26 11 = μ.1 26 11 := hs_196
          have e_206 : μ189.1 P 1 = μ.1 P 1 := (F_191.1 P (ni hprP (fun P => P) (fun P => [26]) rfl) 1)
          have e_207 : μ189.1 P 1 = μ.1 P 1 := (F_191.1 P (ni hprP (fun P => P) (fun P => [26]) rfl) 1)
          have e_208 : μ189.1 26 11 = μ.1 26 11 := hs_196
          have e_209 : μ189.1 (P + 2) 3 = μ.1 (P + 2) 3 := (F_191.1 (P + 2) (ni hprP (fun P => P + 2) (fun P => [26]) rfl) 3)
          have e_210 : μ189.1 P 1 = μ.1 P 1 := (F_191.1 P (ni hprP (fun P => P) (fun P => [26]) rfl) 1)
          have e_211 : μ189.1 (P + 2) 3 = μ.1 (P + 2) 3 := (F_191.1 (P + 2) (ni hprP (fun P => P + 2) (fun P => [26]) rfl) 3)
          exact xr_i G (x := 0) hret hlk (by unfold ir; omega) (zr (by omega)) dX7_ownStatement_214 ⟨(Fr.tr Fr.rf F_191 (si hprP (fun P => [26]) (fun P => [2, 3, 4, 23, 24, 25, 26, P, P + 1, P + 2, (P + 2) + 1, (P + 2) + 2, (P + 2) + 3]) rfl)), hI_192, hp_193, (by omega), (by omega), (by omega), (by omega), (fun h0 h1 => absurd h1 (by omega)), (fun _ => ⟨EXT.fr (L := [26]) (Fr.tr Fr.rf F_191 (by decide)) (npL_p (L := [26]) (by decide) hprP).1 (npL_p (L := [26]) (by decide) hprP).2.1, (F_191.1 P (ni hprP (fun P => P) (fun P => [26]) rfl) 1)⟩), (((F_191.1 23 (by decide) 2).trans hP.symm)).trans hP, (F_191.1 23 (by decide) 7), (((F_191.1 23 (by decide) 8).trans htt.symm)).trans htt, (F_191.1 23 (by decide) 9), hs_197, (F_191.1 P (ni hprP (fun P => P) (fun P => [26]) rfl) 7)⟩
        · refine lv_aload_n hx hb dX7_ownStatement_125 rfl (lv_at hl 0 rfl) ?_
          have hsp_212 : ∀ _ : Unit, STP μ189 P tt := fun _ => (hst ()).fr (K := [26]) (Fr.tr Fr.rf F_191 (by decide)) (npL_p (L := [26]) (by decide) hprP).1 (npL_p (L := [26]) (by decide) hprP).2.1
          have e_213 : μ189.1 23 2 = P := ((F_191.1 23 (by decide) 2).trans hP.symm)
          have e_214 : μ189.1 23 8 = tt := ((F_191.1 23 (by decide) 8).trans htt.symm)
          have e_215 : μ189.1 P 1 = μ.1 P 1 := (F_191.1 P (ni hprP (fun P => P) (fun P => [26]) rfl) 1)
          have e_216 : μ189.1 26 11 = μ.1 26 11 := hs_196
          have hk_217 := hI.row (r := P + 2) (hprP.row)
          unfold rk at hk_217
          have e_218 : μ189.1 (P + 2) 3 = μ.1 (P + 2) 3 := (F_191.1 (P + 2) (ni hprP (fun P => P + 2) (fun P => [26]) rfl) 3)
          have e_219 : μ189.1 P 1 = μ.1 P 1 := (F_191.1 P (ni hprP (fun P => P) (fun P => [26]) rfl) 1)
          have e_220 : μ189.1 23 9 = μ.1 23 9 := (F_191.1 23 (by decide) 9)
          have e_221 : μ189.1 23 9 = μ.1 23 9 := (F_191.1 23 (by decide) 9)
          have e_222 : μ189.1 26 11 = μ.1 26 11 := hs_196
          have e_223 : μ189.1 26 11 = μ.1 26 11 := hs_196
          have e_224 : μ189.1 P 1 = μ.1 P 1 := (F_191.1 P (ni hprP (fun P => P) (fun P => [26]) rfl) 1)
          have e_225 : μ189.1 P 1 = μ.1 P 1 := (F_191.1 P (ni hprP (fun P => P) (fun P => [26]) rfl) 1)
          have e_226 : μ189.1 (P + 2) 3 = μ.1 (P + 2) 3 := (F_191.1 (P + 2) (ni hprP (fun P => P + 2) (fun P => [26]) rfl) 3)
          have e_227 : μ189.1 P 1 = μ.1 P 1 := (F_191.1 P (ni hprP (fun P => P) (fun P => [26]) rfl) 1)
          have e_228 : μ189.1 (P + 2) 3 = μ.1 (P + 2) 3 := (F_191.1 (P + 2) (ni hprP (fun P => P + 2) (fun P => [26]) rfl) 3)
          refine xc_vV G (b := 23) (rest := []) (As := []) (c_X7_withEnd ω l μ189 F Lo kf P tt hI_192 (by omega) (by omega) hF hLo hK hp_193 (by omega) (by omega) (by omega) (by omega) (by omega) (by omega) hsp_212 (by omega)) (wm 4 175 rfl rfl) (wm 4 177 rfl rfl) (wm 0 56 rfl rfl) rfl rfl (by decide) rfl (wm 1 12 rfl rfl) (wm 4 178 rfl rfl) (by decide) hR ⟨sfr (F := F) (a := 2) (by decide), slo (L := Lo) (m := 2) (a := 42) (by decide)⟩ (n := 0) rfl rfl (Nat.le_of_ble_eq_true rfl) hl.1 dX7_ownStatement_126 (fun μ229 ρ d0 H locs hp G => ?_)
          obtain ⟨F_230, hI_231, hp_232, hp_233, hp_234, hp_235, hp_236, hp_237, hs_238, hs_239, hs_240, hs_241, hs_242, hs_243⟩ := hp
          have hn_244 : -1 ≤ μ229.1 26 10 ∧ μ229.1 26 10 ≤ 3000 := hI_231.nm.2.2.2.2.2.2.2.2.2.2.2.2
          have hk_245 := hI_231.pr (p := P) hprP
          unfold pk at hk_245
          have hc_246 : 16 ≤ μ229.2.1 (P + 1) ∧ μ229.2.1 (P + 1) ≤ 73024 := hI_231.rm.1 _ hprP.cap
          have hk_247 := hI_231.row (r := P + 2) (hprP.row)
          unfold rk at hk_247
          have htb_248 := hp_232.b
          replace hp_237 := fun _ : Unit => hp_237
          have hes_249 : ∀ _ : Unit, μ229.1 26 11 = 0 → ES μ189 μ229 P tt (2 * (8 - μ.1 23 9)) := fun _ h0 => ((hp_237 ()) h0).mn (by have h9 : μ189.1 23 9 = μ.1 23 9 := (F_191.1 23 (by decide) 9); omega)
          refine lv_goto (tgt := 215) hx hb dX7_ownStatement_129 (by decide) ?_
          refine lv_iconst (v := iv 1) hx hb dX7_ownStatement_215 rfl ?_
          clear hk_1 hc_2 hk_217 hk_245 hc_246 hk_247
          exact xr_i G (x := 1) hret hlk (by unfold ir; omega) (zr (by omega)) dX7_ownStatement_216 ⟨(Fr.tr (Fr.tr Fr.rf F_191 (si hprP (fun P => [26]) (fun P => [2, 3, 4, 23, 24, 25, 26, P, P + 1, P + 2, (P + 2) + 1, (P + 2) + 2, (P + 2) + 3]) rfl)) F_230 (si hprP (fun P => [2, 3, 4, 23, 24, 25, 26, P, P + 1, P + 2, (P + 2) + 1, (P + 2) + 2, (P + 2) + 3]) (fun P => [2, 3, 4, 23, 24, 25, 26, P, P + 1, P + 2, (P + 2) + 1, (P + 2) + 2, (P + 2) + 3]) rfl)), hI_231, hp_232, (by omega), (by omega), (by omega), (by omega), (fun h0 _ => (ES.fl (K := [26]) (Fr.tr Fr.rf F_191 (by decide)) (npL_p (L := [26]) (by decide) hprP).1 (npL_p (L := [26]) (by decide) hprP).2.1 ((hes_249 ()) h0))), (fun h9 => absurd h9 (by omega)), ((hs_238.trans ((F_191.1 23 (by decide) 2).trans hP.symm))).trans hP, (hs_239.trans (F_191.1 23 (by decide) 7)), ((hs_240.trans ((F_191.1 23 (by decide) 8).trans htt.symm))).trans htt, (hs_241.trans (F_191.1 23 (by decide) 9)), (hs_242.trans hs_197), (hs_243.trans (F_191.1 P (ni hprP (fun P => P) (fun P => [26]) rfl) 7))⟩
    · refine lv_aload_n hx hb dX7_ownStatement_62 rfl (lv_at hl 0 rfl) ?_
      refine lv_sipush (v := iv 213) hx hb dX7_ownStatement_63 rfl ?_
      have hn_250 : -1 ≤ μ.1 26 10 ∧ μ.1 26 10 ≤ 3000 := hI.nm.2.2.2.2.2.2.2.2.2.2.2.2
      refine xc_iV G (b := 23) (rest := []) (As := [.int (iv 213)]) (c_X7_took_b ω l μ 213 (by unfold ir; omega) hI hTK (by omega)) (wm 3 160 rfl rfl) (wm 3 162 rfl rfl) (wm 0 9 rfl rfl) rfl rfl (by decide) rfl (wm 1 12 rfl rfl) (wm 3 163 rfl rfl) (by decide) hR ⟨nfB hF (by decide), nlB hLo (by decide)⟩ (n := 1) rfl rfl (Nat.le_of_ble_eq_true rfl) hl.1 dX7_ownStatement_66 (fun r_252 μ251 ρ d0 H locs hr_r_252 hp G => ?_)
      have hr_r_252 : -2147483648 ≤ r_252 ∧ r_252 ≤ 2147483647 := hr_r_252
      obtain ⟨F_253, hI_254, hp_255, hp_256, hp_257, hs_258, hs_259, hs_260, hs_261, hs_262⟩ := hp
      have hn_263 : -1 ≤ μ251.1 26 10 ∧ μ251.1 26 10 ≤ 3000 := hI_254.nm.2.2.2.2.2.2.2.2.2.2.2.2
      have htb_264 := hp_255.b
      refine xb_if_eq (tgt := 82) hx hb (by unfold ir; omega) dX7_ownStatement_69 (by decide) (fun c_69 => ?_) (fun c_69 => ?_)
      · refine lv_aload_n hx hb dX7_ownStatement_82 rfl (lv_at hl 0 rfl) ?_
        refine xa_geti G fd_X7 (a := 23) (x := tt) 8 rfl (by decide) rfl (wm 2 25 rfl rfl) ⟨rfl, rfl, rfl⟩ dX7_ownStatement_83 rfl ((F_253.1 23 (by decide) 8).trans htt.symm) ?_
        refine lv_iconst (v := iv 1) hx hb dX7_ownStatement_86 rfl ?_
        refine xb_icmp_ne (tgt := 107) hx hb (by unfold ir; omega) (by unfold ir; omega) dX7_ownStatement_87 (by decide) (fun c_87 => absurd c_87 (by omega)) (fun c_87 => ?_)
        refine lv_aload_n hx hb dX7_ownStatement_90 rfl (lv_at hl 0 rfl) ?_
        refine lv_sipush (v := iv 214) hx hb dX7_ownStatement_91 rfl ?_
        have e_265 : μ251.1 26 11 = μ.1 26 11 := hs_258
        refine xc_iV G (b := 23) (rest := []) (As := [.int (iv 214)]) (c_X7_took_b ω l μ251 214 (by unfold ir; omega) hI_254 hp_255 (by omega)) (wm 3 160 rfl rfl) (wm 3 162 rfl rfl) (wm 0 9 rfl rfl) rfl rfl (by decide) rfl (wm 1 12 rfl rfl) (wm 3 163 rfl rfl) (by decide) hR ⟨nfB hF (by decide), nlB hLo (by decide)⟩ (n := 1) rfl rfl (Nat.le_of_ble_eq_true rfl) hl.1 dX7_ownStatement_94 (fun r_267 μ266 ρ d0 H locs hr_r_267 hp G => ?_)
        have hr_r_267 : -2147483648 ≤ r_267 ∧ r_267 ≤ 2147483647 := hr_r_267
        obtain ⟨F_268, hI_269, hp_270, hp_271, hp_272, hs_273, hs_274, hs_275, hs_276, hs_277⟩ := hp
        have hn_278 : -1 ≤ μ266.1 26 10 ∧ μ266.1 26 10 ≤ 3000 := hI_269.nm.2.2.2.2.2.2.2.2.2.2.2.2
        have htb_279 := hp_270.b
        refine xb_if_eq (tgt := 107) hx hb (by unfold ir; omega) dX7_ownStatement_97 (by decide) (fun c_97 => ?_) (fun c_97 => ?_)
        · refine lv_aload_n hx hb dX7_ownStatement_107 rfl (lv_at hl 0 rfl) ?_
          refine xa_geti G fd_X7 (a := 23) (x := tt) 8 rfl (by decide) rfl (wm 2 25 rfl rfl) ⟨rfl, rfl, rfl⟩ dX7_ownStatement_108 rfl ((F_268.1 23 (by decide) 8).trans ((F_253.1 23 (by decide) 8).trans htt.symm)) ?_
          refine lv_iconst (v := iv 2) hx hb dX7_ownStatement_111 rfl ?_
          refine xb_icmp_ne (tgt := 132) hx hb (by unfold ir; omega) (by unfold ir; omega) dX7_ownStatement_112 (by decide) (fun c_112 => ?_) (fun c_112 => absurd c_112 (by omega))
          refine lv_aload_n hx hb dX7_ownStatement_132 rfl (lv_at hl 0 rfl) ?_
          refine xa_geti G fd_X7 (a := 23) (x := tt) 8 rfl (by decide) rfl (wm 2 25 rfl rfl) ⟨rfl, rfl, rfl⟩ dX7_ownStatement_133 rfl ((F_268.1 23 (by decide) 8).trans ((F_253.1 23 (by decide) 8).trans htt.symm)) ?_
          refine lv_iconst (v := iv 3) hx hb dX7_ownStatement_136 rfl ?_
          refine xb_icmp_ne (tgt := 163) hx hb (by unfold ir; omega) (by unfold ir; omega) dX7_ownStatement_137 (by decide) (fun c_137 => ?_) (fun c_137 => absurd c_137 (by omega))
          refine lv_aload_n hx hb dX7_ownStatement_163 rfl (lv_at hl 0 rfl) ?_
          refine xa_geti G fd_X7 (a := 23) (x := tt) 8 rfl (by decide) rfl (wm 2 25 rfl rfl) ⟨rfl, rfl, rfl⟩ dX7_ownStatement_164 rfl ((F_268.1 23 (by decide) 8).trans ((F_253.1 23 (by decide) 8).trans htt.symm)) ?_
          refine lv_iconst (v := iv 3) hx hb dX7_ownStatement_167 rfl ?_
          refine xb_icmp_ne (tgt := 188) hx hb (by unfold ir; omega) (by unfold ir; omega) dX7_ownStatement_168 (by decide) (fun c_168 => ?_) (fun c_168 => absurd c_168 (by omega))
          refine lv_aload_n hx hb dX7_ownStatement_188 rfl (lv_at hl 0 rfl) ?_
          refine xa_geti G fd_X7 (a := 23) (x := tt) 8 rfl (by decide) rfl (wm 2 25 rfl rfl) ⟨rfl, rfl, rfl⟩ dX7_ownStatement_189 rfl ((F_268.1 23 (by decide) 8).trans ((F_253.1 23 (by decide) 8).trans htt.symm)) ?_
          refine lv_iconst (v := iv 3) hx hb dX7_ownStatement_192 rfl ?_
          refine xb_icmp_ne (tgt := 213) hx hb (by unfold ir; omega) (by unfold ir; omega) dX7_ownStatement_193 (by decide) (fun c_193 => ?_) (fun c_193 => absurd c_193 (by omega))
          refine lv_iconst (v := iv 0) hx hb dX7_ownStatement_213 rfl ?_
          clear hk_1 hc_2
          have e_280 : μ266.1 26 11 = μ.1 26 11 := (hs_273.trans hs_258)
          have e_281 : μ266.1 26 11 = μ.1 26 11 := (hs_273.trans hs_258)
          have e_282 : μ266.1 26 11 = μ.1 26 11 := (hs_273.trans hs_258)
          have e_283 : μ266.1 P 1 = μ.1 P 1 := ((F_268.1 P (ni hprP (fun P => P) (fun P => [26]) rfl) 1).trans (F_253.1 P (ni hprP (fun P => P) (fun P => [26]) rfl) 1))
          have e_284 : μ266.1 P 1 = μ.1 P 1 := ((F_268.1 P (ni hprP (fun P => P) (fun P => [26]) rfl) 1).trans (F_253.1 P (ni hprP (fun P => P) (fun P => [26]) rfl) 1))
          have e_285 : μ266.1 26 11 = μ.1 26 11 := (hs_273.trans hs_258)
          have e_286 : μ266.1 (P + 2) 3 = μ.1 (P + 2) 3 := ((F_268.1 (P + 2) (ni hprP (fun P => P + 2) (fun P => [26]) rfl) 3).trans (F_253.1 (P + 2) (ni hprP (fun P => P + 2) (fun P => [26]) rfl) 3))
          have e_287 : μ266.1 P 1 = μ.1 P 1 := ((F_268.1 P (ni hprP (fun P => P) (fun P => [26]) rfl) 1).trans (F_253.1 P (ni hprP (fun P => P) (fun P => [26]) rfl) 1))
          have e_288 : μ266.1 (P + 2) 3 = μ.1 (P + 2) 3 := ((F_268.1 (P + 2) (ni hprP (fun P => P + 2) (fun P => [26]) rfl) 3).trans (F_253.1 (P + 2) (ni hprP (fun P => P + 2) (fun P => [26]) rfl) 3))
          exact xr_i G (x := 0) hret hlk (by unfold ir; omega) (zr (by omega)) dX7_ownStatement_214 ⟨(Fr.tr (Fr.tr Fr.rf F_253 (si hprP (fun P => [26]) (fun P => [2, 3, 4, 23, 24, 25, 26, P, P + 1, P + 2, (P + 2) + 1, (P + 2) + 2, (P + 2) + 3]) rfl)) F_268 (si hprP (fun P => [26]) (fun P => [2, 3, 4, 23, 24, 25, 26, P, P + 1, P + 2, (P + 2) + 1, (P + 2) + 2, (P + 2) + 3]) rfl)), hI_269, hp_270, (by omega), (by omega), (by omega), (by omega), (fun h0 h1 => absurd h1 (by omega)), (fun _ => ⟨EXT.fr (L := [26]) (Fr.tr (Fr.tr Fr.rf F_253 (by decide)) F_268 (by decide)) (npL_p (L := [26]) (by decide) hprP).1 (npL_p (L := [26]) (by decide) hprP).2.1, ((F_268.1 P (ni hprP (fun P => P) (fun P => [26]) rfl) 1).trans (F_253.1 P (ni hprP (fun P => P) (fun P => [26]) rfl) 1))⟩), (((F_268.1 23 (by decide) 2).trans ((F_253.1 23 (by decide) 2).trans hP.symm))).trans hP, ((F_268.1 23 (by decide) 7).trans (F_253.1 23 (by decide) 7)), (((F_268.1 23 (by decide) 8).trans ((F_253.1 23 (by decide) 8).trans htt.symm))).trans htt, ((F_268.1 23 (by decide) 9).trans (F_253.1 23 (by decide) 9)), (hs_274.trans hs_259), ((F_268.1 P (ni hprP (fun P => P) (fun P => [26]) rfl) 7).trans (F_253.1 P (ni hprP (fun P => P) (fun P => [26]) rfl) 7))⟩
        · refine lv_aload_n hx hb dX7_ownStatement_100 rfl (lv_at hl 0 rfl) ?_
          have hsp_289 : ∀ _ : Unit, STP μ266 P tt := fun _ => (hst ()).fr (K := [26]) (Fr.tr (Fr.tr Fr.rf F_253 (by decide)) F_268 (by decide)) (npL_p (L := [26]) (by decide) hprP).1 (npL_p (L := [26]) (by decide) hprP).2.1
          have e_290 : μ266.1 23 2 = P := ((F_268.1 23 (by decide) 2).trans ((F_253.1 23 (by decide) 2).trans hP.symm))
          have e_291 : μ266.1 23 8 = tt := ((F_268.1 23 (by decide) 8).trans ((F_253.1 23 (by decide) 8).trans htt.symm))
          have e_292 : μ266.1 P 1 = μ.1 P 1 := ((F_268.1 P (ni hprP (fun P => P) (fun P => [26]) rfl) 1).trans (F_253.1 P (ni hprP (fun P => P) (fun P => [26]) rfl) 1))
          have e_293 : μ266.1 26 11 = μ.1 26 11 := (hs_273.trans hs_258)
          have hk_294 := hI.row (r := P + 2) (hprP.row)
          unfold rk at hk_294
          have e_295 : μ266.1 (P + 2) 3 = μ.1 (P + 2) 3 := ((F_268.1 (P + 2) (ni hprP (fun P => P + 2) (fun P => [26]) rfl) 3).trans (F_253.1 (P + 2) (ni hprP (fun P => P + 2) (fun P => [26]) rfl) 3))
          have e_296 : μ266.1 P 1 = μ.1 P 1 := ((F_268.1 P (ni hprP (fun P => P) (fun P => [26]) rfl) 1).trans (F_253.1 P (ni hprP (fun P => P) (fun P => [26]) rfl) 1))
          have e_297 : μ266.1 23 9 = μ.1 23 9 := ((F_268.1 23 (by decide) 9).trans (F_253.1 23 (by decide) 9))
          have e_298 : μ266.1 23 9 = μ.1 23 9 := ((F_268.1 23 (by decide) 9).trans (F_253.1 23 (by decide) 9))
          have e_299 : μ266.1 26 11 = μ.1 26 11 := (hs_273.trans hs_258)
          have e_300 : μ266.1 26 11 = μ.1 26 11 := (hs_273.trans hs_258)
          have e_301 : μ266.1 P 1 = μ.1 P 1 := ((F_268.1 P (ni hprP (fun P => P) (fun P => [26]) rfl) 1).trans (F_253.1 P (ni hprP (fun P => P) (fun P => [26]) rfl) 1))
          have e_302 : μ266.1 P 1 = μ.1 P 1 := ((F_268.1 P (ni hprP (fun P => P) (fun P => [26]) rfl) 1).trans (F_253.1 P (ni hprP (fun P => P) (fun P => [26]) rfl) 1))
          have e_303 : μ266.1 (P + 2) 3 = μ.1 (P + 2) 3 := ((F_268.1 (P + 2) (ni hprP (fun P => P + 2) (fun P => [26]) rfl) 3).trans (F_253.1 (P + 2) (ni hprP (fun P => P + 2) (fun P => [26]) rfl) 3))
          have e_304 : μ266.1 P 1 = μ.1 P 1 := ((F_268.1 P (ni hprP (fun P => P) (fun P => [26]) rfl) 1).trans (F_253.1 P (ni hprP (fun P => P) (fun P => [26]) rfl) 1))
          have e_305 : μ266.1 (P + 2) 3 = μ.1 (P + 2) 3 := ((F_268.1 (P + 2) (ni hprP (fun P => P + 2) (fun P => [26]) rfl) 3).trans (F_253.1 (P + 2) (ni hprP (fun P => P + 2) (fun P => [26]) rfl) 3))
          refine xc_vV G (b := 23) (rest := []) (As := []) (c_X7_onGo ω l μ266 F Lo kf P tt hI_269 (by omega) (by omega) hF hLo hK hp_270 (by omega) (by omega) (by omega) (by omega) (by omega) (by omega) hsp_289 (by omega)) (wm 4 171 rfl rfl) (wm 4 173 rfl rfl) (wm 0 55 rfl rfl) rfl rfl (by decide) rfl (wm 1 12 rfl rfl) (wm 4 174 rfl rfl) (by decide) hR ⟨sfr (F := F) (a := 1) (by decide), slo (L := Lo) (m := 3) (a := 21) (by decide)⟩ (n := 0) rfl rfl (Nat.le_of_ble_eq_true rfl) hl.1 dX7_ownStatement_101 (fun μ306 ρ d0 H locs hp G => ?_)
          obtain ⟨F_307, hI_308, hp_309, hp_310, hp_311, hp_312, hp_313, hp_314, hs_315, hs_316, hs_317, hs_318, hs_319, hs_320⟩ := hp
          have hn_321 : -1 ≤ μ306.1 26 10 ∧ μ306.1 26 10 ≤ 3000 := hI_308.nm.2.2.2.2.2.2.2.2.2.2.2.2
          have hk_322 := hI_308.pr (p := P) hprP
          unfold pk at hk_322
          have hc_323 : 16 ≤ μ306.2.1 (P + 1) ∧ μ306.2.1 (P + 1) ≤ 73024 := hI_308.rm.1 _ hprP.cap
          have hk_324 := hI_308.row (r := P + 2) (hprP.row)
          unfold rk at hk_324
          have htb_325 := hp_309.b
          replace hp_314 := fun _ : Unit => hp_314
          have hes_326 : ∀ _ : Unit, μ306.1 26 11 = 0 → ES μ266 μ306 P tt (2 * (8 - μ.1 23 9)) := fun _ h0 => ((hp_314 ()) h0).mn (by have h9 : μ266.1 23 9 = μ.1 23 9 := ((F_268.1 23 (by decide) 9).trans (F_253.1 23 (by decide) 9)); omega)
          refine lv_goto (tgt := 215) hx hb dX7_ownStatement_104 (by decide) ?_
          refine lv_iconst (v := iv 1) hx hb dX7_ownStatement_215 rfl ?_
          clear hk_1 hc_2 hk_294 hk_322 hc_323 hk_324
          exact xr_i G (x := 1) hret hlk (by unfold ir; omega) (zr (by omega)) dX7_ownStatement_216 ⟨(Fr.tr (Fr.tr (Fr.tr Fr.rf F_253 (si hprP (fun P => [26]) (fun P => [2, 3, 4, 23, 24, 25, 26, P, P + 1, P + 2, (P + 2) + 1, (P + 2) + 2, (P + 2) + 3]) rfl)) F_268 (si hprP (fun P => [26]) (fun P => [2, 3, 4, 23, 24, 25, 26, P, P + 1, P + 2, (P + 2) + 1, (P + 2) + 2, (P + 2) + 3]) rfl)) F_307 (si hprP (fun P => [2, 3, 4, 23, 24, 25, 26, P, P + 1, P + 2, (P + 2) + 1, (P + 2) + 2, (P + 2) + 3]) (fun P => [2, 3, 4, 23, 24, 25, 26, P, P + 1, P + 2, (P + 2) + 1, (P + 2) + 2, (P + 2) + 3]) rfl)), hI_308, hp_309, (by omega), (by omega), (by omega), (by omega), (fun h0 _ => (ES.fl (K := [26]) (Fr.tr (Fr.tr Fr.rf F_253 (by decide)) F_268 (by decide)) (npL_p (L := [26]) (by decide) hprP).1 (npL_p (L := [26]) (by decide) hprP).2.1 ((hes_326 ()) h0))), (fun h9 => absurd h9 (by omega)), ((hs_315.trans ((F_268.1 23 (by decide) 2).trans ((F_253.1 23 (by decide) 2).trans hP.symm)))).trans hP, (hs_316.trans ((F_268.1 23 (by decide) 7).trans (F_253.1 23 (by decide) 7))), ((hs_317.trans ((F_268.1 23 (by decide) 8).trans ((F_253.1 23 (by decide) 8).trans htt.symm)))).trans htt, (hs_318.trans ((F_268.1 23 (by decide) 9).trans (F_253.1 23 (by decide) 9))), (hs_319.trans (hs_274.trans hs_259)), (hs_320.trans ((F_268.1 P (ni hprP (fun P => P) (fun P => [26]) rfl) 7).trans (F_253.1 P (ni hprP (fun P => P) (fun P => [26]) rfl) 7)))⟩
      · refine lv_aload_n hx hb dX7_ownStatement_72 rfl (lv_at hl 0 rfl) ?_
        refine lv_bipush (v := iv 24) hx hb dX7_ownStatement_73 rfl ?_
        refine lv_iconst (v := iv 0) hx hb dX7_ownStatement_75 rfl ?_
        have hsp_327 : ∀ _ : Unit, STP μ251 P tt := fun _ => (hst ()).fr (K := [26]) (Fr.tr Fr.rf F_253 (by decide)) (npL_p (L := [26]) (by decide) hprP).1 (npL_p (L := [26]) (by decide) hprP).2.1
        have e_328 : μ251.1 23 2 = P := ((F_253.1 23 (by decide) 2).trans hP.symm)
        have e_329 : μ251.1 23 8 = tt := ((F_253.1 23 (by decide) 8).trans htt.symm)
        have e_330 : μ251.1 P 1 = μ.1 P 1 := (F_253.1 P (ni hprP (fun P => P) (fun P => [26]) rfl) 1)
        have e_331 : μ251.1 26 11 = μ.1 26 11 := hs_258
        have hk_332 := hI.row (r := P + 2) (hprP.row)
        unfold rk at hk_332
        have e_333 : μ251.1 (P + 2) 3 = μ.1 (P + 2) 3 := (F_253.1 (P + 2) (ni hprP (fun P => P + 2) (fun P => [26]) rfl) 3)
        have e_334 : μ251.1 P 1 = μ.1 P 1 := (F_253.1 P (ni hprP (fun P => P) (fun P => [26]) rfl) 1)
        have e_335 : μ251.1 23 9 = μ.1 23 9 := (F_253.1 23 (by decide) 9)
        have e_336 : μ251.1 23 9 = μ.1 23 9 := (F_253.1 23 (by decide) 9)
        have e_337 : μ251.1 26 11 = μ.1 26 11 := hs_258
        have e_338 : μ251.1 26 11 = μ.1 26 11 := hs_258
        have e_339 : μ251.1 P 1 = μ.1 P 1 := (F_253.1 P (ni hprP (fun P => P) (fun P => [26]) rfl) 1)
        have e_340 : μ251.1 P 1 = μ.1 P 1 := (F_253.1 P (ni hprP (fun P => P) (fun P => [26]) rfl) 1)
        have e_341 : μ251.1 26 11 = μ.1 26 11 := hs_258
        have e_342 : μ251.1 (P + 2) 3 = μ.1 (P + 2) 3 := (F_253.1 (P + 2) (ni hprP (fun P => P + 2) (fun P => [26]) rfl) 3)
        have e_343 : μ251.1 P 1 = μ.1 P 1 := (F_253.1 P (ni hprP (fun P => P) (fun P => [26]) rfl) 1)
        have e_344 : μ251.1 (P + 2) 3 = μ.1 (P + 2) 3 := (F_253.1 (P + 2) (ni hprP (fun P => P + 2) (fun P => [26]) rfl) 3)
        refine xc_vV G (b := 23) (rest := []) (As := [.int (iv 24), .int (iv 0)]) (c_X7_withExpression ω l μ251 24 0 P tt (by unfold ir; omega) (by unfold ir; omega) hI_254 (by omega) (by omega) hp_255 (by omega) (by omega) (by omega) (by omega) (Or.inr ⟨by omega, by omega⟩) (fun _ => by rw [show eff 24 0 = -1 from rfl]; have h9 := (hsp_327 ()).h.1; omega)) (wm 3 239 rfl rfl) (wm 4 1 rfl rfl) (wm 0 23 rfl rfl) rfl rfl (by decide) rfl (wm 1 12 rfl rfl) (wm 4 2 rfl rfl) (by decide) hR ⟨nfB hF (by decide), nlB hLo (by decide)⟩ (n := 2) rfl rfl (Nat.le_of_ble_eq_true rfl) hl.1 dX7_ownStatement_76 (fun μ345 ρ d0 H locs hp G => ?_)
        obtain ⟨F_346, hI_347, hp_348, hp_349, hp_350, hp_351, hp_352, hp_353, hs_354, hs_355, hs_356, hs_357, hs_358, hs_359, hs_360, hs_361, hs_362⟩ := hp
        have hn_363 : -1 ≤ μ345.1 26 10 ∧ μ345.1 26 10 ≤ 3000 := hI_347.nm.2.2.2.2.2.2.2.2.2.2.2.2
        have hk_364 := hI_347.pr (p := P) hprP
        unfold pk at hk_364
        have hc_365 : 16 ≤ μ345.2.1 (P + 1) ∧ μ345.2.1 (P + 1) ≤ 73024 := hI_347.rm.1 _ hprP.cap
        have hk_366 := hI_347.row (r := P + 2) (hprP.row)
        unfold rk at hk_366
        have htb_367 := hp_348.b
        replace hp_353 := fun _ : Unit => hp_353
        have hes_368 : ∀ _ : Unit, μ345.1 26 11 = 0 → ES μ251 μ345 P tt (2 * (8 - μ.1 23 9)) := fun _ h0 => ES.oe (hsp_327 ()) (((hp_353 ()) h0).e rfl) (by have h8 : μ251.1 P 1 = μ.1 P 1 := (F_253.1 P (ni hprP (fun P => P) (fun P => [26]) rfl) 1); have h9 : μ345.1 P 1 = μ345.1 P 1 := rfl; omega) (by omega)
        refine lv_goto (tgt := 215) hx hb dX7_ownStatement_79 (by decide) ?_
        refine lv_iconst (v := iv 1) hx hb dX7_ownStatement_215 rfl ?_
        clear hk_1 hc_2 hk_332 hk_364 hc_365 hk_366
        exact xr_i G (x := 1) hret hlk (by unfold ir; omega) (zr (by omega)) dX7_ownStatement_216 ⟨(Fr.tr (Fr.tr Fr.rf F_253 (si hprP (fun P => [26]) (fun P => [2, 3, 4, 23, 24, 25, 26, P, P + 1, P + 2, (P + 2) + 1, (P + 2) + 2, (P + 2) + 3]) rfl)) F_346 (si hprP (fun P => [2, 3, 4, 23, 24, 26, P, P + 1, P + 2, (P + 2) + 1, (P + 2) + 2, (P + 2) + 3]) (fun P => [2, 3, 4, 23, 24, 25, 26, P, P + 1, P + 2, (P + 2) + 1, (P + 2) + 2, (P + 2) + 3]) rfl)), hI_347, hp_348, (by omega), (by omega), (by omega), (by omega), (fun h0 _ => (ES.fl (K := [26]) (Fr.tr Fr.rf F_253 (by decide)) (npL_p (L := [26]) (by decide) hprP).1 (npL_p (L := [26]) (by decide) hprP).2.1 ((hes_368 ()) h0))), (fun h9 => absurd h9 (by omega)), ((hs_354.trans ((F_253.1 23 (by decide) 2).trans hP.symm))).trans hP, (hs_357.trans (F_253.1 23 (by decide) 7)), ((hs_358.trans ((F_253.1 23 (by decide) 8).trans htt.symm))).trans htt, (hs_359.trans (F_253.1 23 (by decide) 9)), (hs_361.trans hs_259), (hs_362.trans (F_253.1 P (ni hprP (fun P => P) (fun P => [26]) rfl) 7))⟩
  · refine lv_aload_n hx hb dX7_ownStatement_7 rfl (lv_at hl 0 rfl) ?_
    refine lv_sipush (v := iv 209) hx hb dX7_ownStatement_8 rfl ?_
    have hn_369 : -1 ≤ μ.1 26 10 ∧ μ.1 26 10 ≤ 3000 := hI.nm.2.2.2.2.2.2.2.2.2.2.2.2
    refine xc_iV G (b := 23) (rest := []) (As := [.int (iv 209)]) (c_X7_took_b ω l μ 209 (by unfold ir; omega) hI hTK (by omega)) (wm 3 160 rfl rfl) (wm 3 162 rfl rfl) (wm 0 9 rfl rfl) rfl rfl (by decide) rfl (wm 1 12 rfl rfl) (wm 3 163 rfl rfl) (by decide) hR ⟨nfB hF (by decide), nlB hLo (by decide)⟩ (n := 1) rfl rfl (Nat.le_of_ble_eq_true rfl) hl.1 dX7_ownStatement_11 (fun r_371 μ370 ρ d0 H locs hr_r_371 hp G => ?_)
    have hr_r_371 : -2147483648 ≤ r_371 ∧ r_371 ≤ 2147483647 := hr_r_371
    obtain ⟨F_372, hI_373, hp_374, hp_375, hp_376, hs_377, hs_378, hs_379, hs_380, hs_381⟩ := hp
    have hn_382 : -1 ≤ μ370.1 26 10 ∧ μ370.1 26 10 ≤ 3000 := hI_373.nm.2.2.2.2.2.2.2.2.2.2.2.2
    have htb_383 := hp_374.b
    refine xb_if_eq (tgt := 30) hx hb (by unfold ir; omega) dX7_ownStatement_14 (by decide) (fun c_14 => ?_) (fun c_14 => ?_)
    · refine lv_aload_n hx hb dX7_ownStatement_30 rfl (lv_at hl 0 rfl) ?_
      refine xa_geti G fd_X7 (a := 23) (x := tt) 8 rfl (by decide) rfl (wm 2 25 rfl rfl) ⟨rfl, rfl, rfl⟩ dX7_ownStatement_31 rfl ((F_372.1 23 (by decide) 8).trans htt.symm) ?_
      refine xb_if_ne (tgt := 54) hx hb (by unfold ir; omega) dX7_ownStatement_34 (by decide) (fun c_34 => absurd c_34 (by omega)) (fun c_34 => ?_)
      refine lv_aload_n hx hb dX7_ownStatement_37 rfl (lv_at hl 0 rfl) ?_
      refine lv_sipush (v := iv 210) hx hb dX7_ownStatement_38 rfl ?_
      have e_384 : μ370.1 26 11 = μ.1 26 11 := hs_377
      refine xc_iV G (b := 23) (rest := []) (As := [.int (iv 210)]) (c_X7_took_b ω l μ370 210 (by unfold ir; omega) hI_373 hp_374 (by omega)) (wm 3 160 rfl rfl) (wm 3 162 rfl rfl) (wm 0 9 rfl rfl) rfl rfl (by decide) rfl (wm 1 12 rfl rfl) (wm 3 163 rfl rfl) (by decide) hR ⟨nfB hF (by decide), nlB hLo (by decide)⟩ (n := 1) rfl rfl (Nat.le_of_ble_eq_true rfl) hl.1 dX7_ownStatement_41 (fun r_386 μ385 ρ d0 H locs hr_r_386 hp G => ?_)
      have hr_r_386 : -2147483648 ≤ r_386 ∧ r_386 ≤ 2147483647 := hr_r_386
      obtain ⟨F_387, hI_388, hp_389, hp_390, hp_391, hs_392, hs_393, hs_394, hs_395, hs_396⟩ := hp
      have hn_397 : -1 ≤ μ385.1 26 10 ∧ μ385.1 26 10 ≤ 3000 := hI_388.nm.2.2.2.2.2.2.2.2.2.2.2.2
      have htb_398 := hp_389.b
      refine xb_if_eq (tgt := 54) hx hb (by unfold ir; omega) dX7_ownStatement_44 (by decide) (fun c_44 => ?_) (fun c_44 => ?_)
      · refine lv_aload_n hx hb dX7_ownStatement_54 rfl (lv_at hl 0 rfl) ?_
        refine xa_geti G fd_X7 (a := 23) (x := tt) 8 rfl (by decide) rfl (wm 2 25 rfl rfl) ⟨rfl, rfl, rfl⟩ dX7_ownStatement_55 rfl ((F_387.1 23 (by decide) 8).trans ((F_372.1 23 (by decide) 8).trans htt.symm)) ?_
        refine lv_iconst (v := iv 1) hx hb dX7_ownStatement_58 rfl ?_
        refine xb_icmp_ne (tgt := 82) hx hb (by unfold ir; omega) (by unfold ir; omega) dX7_ownStatement_59 (by decide) (fun c_59 => ?_) (fun c_59 => absurd c_59 (by omega))
        refine lv_aload_n hx hb dX7_ownStatement_82 rfl (lv_at hl 0 rfl) ?_
        refine xa_geti G fd_X7 (a := 23) (x := tt) 8 rfl (by decide) rfl (wm 2 25 rfl rfl) ⟨rfl, rfl, rfl⟩ dX7_ownStatement_83 rfl ((F_387.1 23 (by decide) 8).trans ((F_372.1 23 (by decide) 8).trans htt.symm)) ?_
        refine lv_iconst (v := iv 1) hx hb dX7_ownStatement_86 rfl ?_
        refine xb_icmp_ne (tgt := 107) hx hb (by unfold ir; omega) (by unfold ir; omega) dX7_ownStatement_87 (by decide) (fun c_87 => ?_) (fun c_87 => absurd c_87 (by omega))
        refine lv_aload_n hx hb dX7_ownStatement_107 rfl (lv_at hl 0 rfl) ?_
        refine xa_geti G fd_X7 (a := 23) (x := tt) 8 rfl (by decide) rfl (wm 2 25 rfl rfl) ⟨rfl, rfl, rfl⟩ dX7_ownStatement_108 rfl ((F_387.1 23 (by decide) 8).trans ((F_372.1 23 (by decide) 8).trans htt.symm)) ?_
        refine lv_iconst (v := iv 2) hx hb dX7_ownStatement_111 rfl ?_
        refine xb_icmp_ne (tgt := 132) hx hb (by unfold ir; omega) (by unfold ir; omega) dX7_ownStatement_112 (by decide) (fun c_112 => ?_) (fun c_112 => absurd c_112 (by omega))
        refine lv_aload_n hx hb dX7_ownStatement_132 rfl (lv_at hl 0 rfl) ?_
        refine xa_geti G fd_X7 (a := 23) (x := tt) 8 rfl (by decide) rfl (wm 2 25 rfl rfl) ⟨rfl, rfl, rfl⟩ dX7_ownStatement_133 rfl ((F_387.1 23 (by decide) 8).trans ((F_372.1 23 (by decide) 8).trans htt.symm)) ?_
        refine lv_iconst (v := iv 3) hx hb dX7_ownStatement_136 rfl ?_
        refine xb_icmp_ne (tgt := 163) hx hb (by unfold ir; omega) (by unfold ir; omega) dX7_ownStatement_137 (by decide) (fun c_137 => ?_) (fun c_137 => absurd c_137 (by omega))
        refine lv_aload_n hx hb dX7_ownStatement_163 rfl (lv_at hl 0 rfl) ?_
        refine xa_geti G fd_X7 (a := 23) (x := tt) 8 rfl (by decide) rfl (wm 2 25 rfl rfl) ⟨rfl, rfl, rfl⟩ dX7_ownStatement_164 rfl ((F_387.1 23 (by decide) 8).trans ((F_372.1 23 (by decide) 8).trans htt.symm)) ?_
        refine lv_iconst (v := iv 3) hx hb dX7_ownStatement_167 rfl ?_
        refine xb_icmp_ne (tgt := 188) hx hb (by unfold ir; omega) (by unfold ir; omega) dX7_ownStatement_168 (by decide) (fun c_168 => ?_) (fun c_168 => absurd c_168 (by omega))
        refine lv_aload_n hx hb dX7_ownStatement_188 rfl (lv_at hl 0 rfl) ?_
        refine xa_geti G fd_X7 (a := 23) (x := tt) 8 rfl (by decide) rfl (wm 2 25 rfl rfl) ⟨rfl, rfl, rfl⟩ dX7_ownStatement_189 rfl ((F_387.1 23 (by decide) 8).trans ((F_372.1 23 (by decide) 8).trans htt.symm)) ?_
        refine lv_iconst (v := iv 3) hx hb dX7_ownStatement_192 rfl ?_
        refine xb_icmp_ne (tgt := 213) hx hb (by unfold ir; omega) (by unfold ir; omega) dX7_ownStatement_193 (by decide) (fun c_193 => ?_) (fun c_193 => absurd c_193 (by omega))
        refine lv_iconst (v := iv 0) hx hb dX7_ownStatement_213 rfl ?_
        clear hk_1 hc_2
        have e_399 : μ385.1 26 11 = μ.1 26 11 := (hs_392.trans hs_377)
        have e_400 : μ385.1 26 11 = μ.1 26 11 := (hs_392.trans hs_377)
        have e_401 : μ385.1 26 11 = μ.1 26 11 := (hs_392.trans hs_377)
        have e_402 : μ385.1 P 1 = μ.1 P 1 := ((F_387.1 P (ni hprP (fun P => P) (fun P => [26]) rfl) 1).trans (F_372.1 P (ni hprP (fun P => P) (fun P => [26]) rfl) 1))
        have e_403 : μ385.1 P 1 = μ.1 P 1 := ((F_387.1 P (ni hprP (fun P => P) (fun P => [26]) rfl) 1).trans (F_372.1 P (ni hprP (fun P => P) (fun P => [26]) rfl) 1))
        have e_404 : μ385.1 26 11 = μ.1 26 11 := (hs_392.trans hs_377)
        have e_405 : μ385.1 (P + 2) 3 = μ.1 (P + 2) 3 := ((F_387.1 (P + 2) (ni hprP (fun P => P + 2) (fun P => [26]) rfl) 3).trans (F_372.1 (P + 2) (ni hprP (fun P => P + 2) (fun P => [26]) rfl) 3))
        have e_406 : μ385.1 P 1 = μ.1 P 1 := ((F_387.1 P (ni hprP (fun P => P) (fun P => [26]) rfl) 1).trans (F_372.1 P (ni hprP (fun P => P) (fun P => [26]) rfl) 1))
        have e_407 : μ385.1 (P + 2) 3 = μ.1 (P + 2) 3 := ((F_387.1 (P + 2) (ni hprP (fun P => P + 2) (fun P => [26]) rfl) 3).trans (F_372.1 (P + 2) (ni hprP (fun P => P + 2) (fun P => [26]) rfl) 3))
        exact xr_i G (x := 0) hret hlk (by unfold ir; omega) (zr (by omega)) dX7_ownStatement_214 ⟨(Fr.tr (Fr.tr Fr.rf F_372 (si hprP (fun P => [26]) (fun P => [2, 3, 4, 23, 24, 25, 26, P, P + 1, P + 2, (P + 2) + 1, (P + 2) + 2, (P + 2) + 3]) rfl)) F_387 (si hprP (fun P => [26]) (fun P => [2, 3, 4, 23, 24, 25, 26, P, P + 1, P + 2, (P + 2) + 1, (P + 2) + 2, (P + 2) + 3]) rfl)), hI_388, hp_389, (by omega), (by omega), (by omega), (by omega), (fun h0 h1 => absurd h1 (by omega)), (fun _ => ⟨EXT.fr (L := [26]) (Fr.tr (Fr.tr Fr.rf F_372 (by decide)) F_387 (by decide)) (npL_p (L := [26]) (by decide) hprP).1 (npL_p (L := [26]) (by decide) hprP).2.1, ((F_387.1 P (ni hprP (fun P => P) (fun P => [26]) rfl) 1).trans (F_372.1 P (ni hprP (fun P => P) (fun P => [26]) rfl) 1))⟩), (((F_387.1 23 (by decide) 2).trans ((F_372.1 23 (by decide) 2).trans hP.symm))).trans hP, ((F_387.1 23 (by decide) 7).trans (F_372.1 23 (by decide) 7)), (((F_387.1 23 (by decide) 8).trans ((F_372.1 23 (by decide) 8).trans htt.symm))).trans htt, ((F_387.1 23 (by decide) 9).trans (F_372.1 23 (by decide) 9)), (hs_393.trans hs_378), ((F_387.1 P (ni hprP (fun P => P) (fun P => [26]) rfl) 7).trans (F_372.1 P (ni hprP (fun P => P) (fun P => [26]) rfl) 7))⟩
      · refine lv_aload_n hx hb dX7_ownStatement_47 rfl (lv_at hl 0 rfl) ?_
        have hsp_408 : ∀ _ : Unit, STP μ385 P tt := fun _ => (hst ()).fr (K := [26]) (Fr.tr (Fr.tr Fr.rf F_372 (by decide)) F_387 (by decide)) (npL_p (L := [26]) (by decide) hprP).1 (npL_p (L := [26]) (by decide) hprP).2.1
        have e_409 : μ385.1 23 2 = P := ((F_387.1 23 (by decide) 2).trans ((F_372.1 23 (by decide) 2).trans hP.symm))
        have e_410 : μ385.1 23 8 = tt := ((F_387.1 23 (by decide) 8).trans ((F_372.1 23 (by decide) 8).trans htt.symm))
        have e_411 : μ385.1 P 1 = μ.1 P 1 := ((F_387.1 P (ni hprP (fun P => P) (fun P => [26]) rfl) 1).trans (F_372.1 P (ni hprP (fun P => P) (fun P => [26]) rfl) 1))
        have e_412 : μ385.1 26 11 = μ.1 26 11 := (hs_392.trans hs_377)
        have hk_413 := hI.row (r := P + 2) (hprP.row)
        unfold rk at hk_413
        have e_414 : μ385.1 (P + 2) 3 = μ.1 (P + 2) 3 := ((F_387.1 (P + 2) (ni hprP (fun P => P + 2) (fun P => [26]) rfl) 3).trans (F_372.1 (P + 2) (ni hprP (fun P => P + 2) (fun P => [26]) rfl) 3))
        have e_415 : μ385.1 P 1 = μ.1 P 1 := ((F_387.1 P (ni hprP (fun P => P) (fun P => [26]) rfl) 1).trans (F_372.1 P (ni hprP (fun P => P) (fun P => [26]) rfl) 1))
        have e_416 : μ385.1 23 9 = μ.1 23 9 := ((F_387.1 23 (by decide) 9).trans (F_372.1 23 (by decide) 9))
        have e_417 : μ385.1 23 9 = μ.1 23 9 := ((F_387.1 23 (by decide) 9).trans (F_372.1 23 (by decide) 9))
        have e_418 : μ385.1 26 11 = μ.1 26 11 := (hs_392.trans hs_377)
        have e_419 : μ385.1 26 11 = μ.1 26 11 := (hs_392.trans hs_377)
        have e_420 : μ385.1 P 1 = μ.1 P 1 := ((F_387.1 P (ni hprP (fun P => P) (fun P => [26]) rfl) 1).trans (F_372.1 P (ni hprP (fun P => P) (fun P => [26]) rfl) 1))
        have e_421 : μ385.1 P 1 = μ.1 P 1 := ((F_387.1 P (ni hprP (fun P => P) (fun P => [26]) rfl) 1).trans (F_372.1 P (ni hprP (fun P => P) (fun P => [26]) rfl) 1))
        have e_422 : μ385.1 (P + 2) 3 = μ.1 (P + 2) 3 := ((F_387.1 (P + 2) (ni hprP (fun P => P + 2) (fun P => [26]) rfl) 3).trans (F_372.1 (P + 2) (ni hprP (fun P => P + 2) (fun P => [26]) rfl) 3))
        have e_423 : μ385.1 P 1 = μ.1 P 1 := ((F_387.1 P (ni hprP (fun P => P) (fun P => [26]) rfl) 1).trans (F_372.1 P (ni hprP (fun P => P) (fun P => [26]) rfl) 1))
        have e_424 : μ385.1 (P + 2) 3 = μ.1 (P + 2) 3 := ((F_387.1 (P + 2) (ni hprP (fun P => P + 2) (fun P => [26]) rfl) 3).trans (F_372.1 (P + 2) (ni hprP (fun P => P + 2) (fun P => [26]) rfl) 3))
        refine xc_vV G (b := 23) (rest := []) (As := []) (c_X7_tryCatch ω l μ385 F Lo kf P tt hI_388 (by omega) (by omega) hF hLo hK hp_389 (by omega) (by omega) (by omega) (by omega) (by omega) (by omega) hsp_408 (by omega)) (wm 4 148 rfl rfl) (wm 4 150 rfl rfl) (wm 0 51 rfl rfl) rfl rfl (by decide) rfl (wm 1 12 rfl rfl) (wm 4 151 rfl rfl) (by decide) hR ⟨sfr (F := F) (a := 2) (by decide), slo (L := Lo) (m := 3) (a := 48) (by decide)⟩ (n := 0) rfl rfl (Nat.le_of_ble_eq_true rfl) hl.1 dX7_ownStatement_48 (fun μ425 ρ d0 H locs hp G => ?_)
        obtain ⟨F_426, hI_427, hp_428, hp_429, hp_430, hp_431, hp_432, hp_433, hs_434, hs_435, hs_436, hs_437, hs_438, hs_439⟩ := hp
        have hn_440 : -1 ≤ μ425.1 26 10 ∧ μ425.1 26 10 ≤ 3000 := hI_427.nm.2.2.2.2.2.2.2.2.2.2.2.2
        have hk_441 := hI_427.pr (p := P) hprP
        unfold pk at hk_441
        have hc_442 : 16 ≤ μ425.2.1 (P + 1) ∧ μ425.2.1 (P + 1) ≤ 73024 := hI_427.rm.1 _ hprP.cap
        have hk_443 := hI_427.row (r := P + 2) (hprP.row)
        unfold rk at hk_443
        have htb_444 := hp_428.b
        replace hp_433 := fun _ : Unit => hp_433
        have hes_445 : ∀ _ : Unit, μ425.1 26 11 = 0 → ES μ385 μ425 P tt (2 * (8 - μ.1 23 9)) := fun _ h0 => ((hp_433 ()) h0).mn (by have h9 : μ385.1 23 9 = μ.1 23 9 := ((F_387.1 23 (by decide) 9).trans (F_372.1 23 (by decide) 9)); omega)
        refine lv_goto (tgt := 215) hx hb dX7_ownStatement_51 (by decide) ?_
        refine lv_iconst (v := iv 1) hx hb dX7_ownStatement_215 rfl ?_
        clear hk_1 hc_2 hk_413 hk_441 hc_442 hk_443
        exact xr_i G (x := 1) hret hlk (by unfold ir; omega) (zr (by omega)) dX7_ownStatement_216 ⟨(Fr.tr (Fr.tr (Fr.tr Fr.rf F_372 (si hprP (fun P => [26]) (fun P => [2, 3, 4, 23, 24, 25, 26, P, P + 1, P + 2, (P + 2) + 1, (P + 2) + 2, (P + 2) + 3]) rfl)) F_387 (si hprP (fun P => [26]) (fun P => [2, 3, 4, 23, 24, 25, 26, P, P + 1, P + 2, (P + 2) + 1, (P + 2) + 2, (P + 2) + 3]) rfl)) F_426 (si hprP (fun P => [2, 3, 4, 23, 24, 25, 26, P, P + 1, P + 2, (P + 2) + 1, (P + 2) + 2, (P + 2) + 3]) (fun P => [2, 3, 4, 23, 24, 25, 26, P, P + 1, P + 2, (P + 2) + 1, (P + 2) + 2, (P + 2) + 3]) rfl)), hI_427, hp_428, (by omega), (by omega), (by omega), (by omega), (fun h0 _ => (ES.fl (K := [26]) (Fr.tr (Fr.tr Fr.rf F_372 (by decide)) F_387 (by decide)) (npL_p (L := [26]) (by decide) hprP).1 (npL_p (L := [26]) (by decide) hprP).2.1 ((hes_445 ()) h0))), (fun h9 => absurd h9 (by omega)), ((hs_434.trans ((F_387.1 23 (by decide) 2).trans ((F_372.1 23 (by decide) 2).trans hP.symm)))).trans hP, (hs_435.trans ((F_387.1 23 (by decide) 7).trans (F_372.1 23 (by decide) 7))), ((hs_436.trans ((F_387.1 23 (by decide) 8).trans ((F_372.1 23 (by decide) 8).trans htt.symm)))).trans htt, (hs_437.trans ((F_387.1 23 (by decide) 9).trans (F_372.1 23 (by decide) 9))), (hs_438.trans (hs_393.trans hs_378)), (hs_439.trans ((F_387.1 P (ni hprP (fun P => P) (fun P => [26]) rfl) 7).trans (F_372.1 P (ni hprP (fun P => P) (fun P => [26]) rfl) 7)))⟩
    · refine lv_aload_n hx hb dX7_ownStatement_17 rfl (lv_at hl 0 rfl) ?_
      refine lv_bipush (v := iv 23) hx hb dX7_ownStatement_18 rfl ?_
      refine lv_aload_n hx hb dX7_ownStatement_20 rfl (lv_at hl 0 rfl) ?_
      have e_446 : μ370.1 26 11 = μ.1 26 11 := hs_377
      refine xc_iV G (b := 23) (rest := [.int (iv 23), .ref (oP ω 23)]) (As := []) (c_X7_nameOfFailing_b ω l μ370  hI_373 hp_374) (wm 4 112 rfl rfl) (wm 4 114 rfl rfl) (wm 0 44 rfl rfl) rfl rfl (by decide) rfl (wm 1 12 rfl rfl) (wm 4 115 rfl rfl) (by decide) hR ⟨nfB hF (by decide), nlB hLo (by decide)⟩ (n := 0) rfl rfl (Nat.le_of_ble_eq_true rfl) hl.1 dX7_ownStatement_21 (fun r_448 μ447 ρ d0 H locs hr_r_448 hp G => ?_)
      have hr_r_448 : -2147483648 ≤ r_448 ∧ r_448 ≤ 2147483647 := hr_r_448
      obtain ⟨F_449, hI_450, hp_451, hp_452, hp_453, hp_454, hs_455, hs_456, hs_457, hs_458, hs_459⟩ := hp
      have hn_460 : -1 ≤ μ447.1 26 10 ∧ μ447.1 26 10 ≤ 3000 := hI_450.nm.2.2.2.2.2.2.2.2.2.2.2.2
      have htb_461 := hp_451.b
      have hsp_462 : ∀ _ : Unit, STP μ447 P tt := fun _ => (hst ()).fr (K := [26, 2, 3, 4, 24]) (Fr.tr (Fr.tr Fr.rf F_372 (by decide)) F_449 (by decide)) (npL_p (L := [26, 2, 3, 4, 24]) (by decide) hprP).1 (npL_p (L := [26, 2, 3, 4, 24]) (by decide) hprP).2.1
      have e_463 : μ447.1 23 2 = P := ((F_449.1 23 (by decide) 2).trans ((F_372.1 23 (by decide) 2).trans hP.symm))
      have e_464 : μ447.1 23 8 = tt := ((F_449.1 23 (by decide) 8).trans ((F_372.1 23 (by decide) 8).trans htt.symm))
      have e_465 : μ447.1 P 1 = μ.1 P 1 := ((F_449.1 P (ni hprP (fun P => P) (fun P => [26, 2, 3, 4, 24]) rfl) 1).trans (F_372.1 P (ni hprP (fun P => P) (fun P => [26]) rfl) 1))
      have hk_466 := hI.row (r := P + 2) (hprP.row)
      unfold rk at hk_466
      have e_467 : μ447.1 (P + 2) 3 = μ.1 (P + 2) 3 := ((F_449.1 (P + 2) (ni hprP (fun P => P + 2) (fun P => [26, 2, 3, 4, 24]) rfl) 3).trans (F_372.1 (P + 2) (ni hprP (fun P => P + 2) (fun P => [26]) rfl) 3))
      have e_468 : μ447.1 P 1 = μ.1 P 1 := ((F_449.1 P (ni hprP (fun P => P) (fun P => [26, 2, 3, 4, 24]) rfl) 1).trans (F_372.1 P (ni hprP (fun P => P) (fun P => [26]) rfl) 1))
      have e_469 : μ447.1 23 9 = μ.1 23 9 := ((F_449.1 23 (by decide) 9).trans (F_372.1 23 (by decide) 9))
      have e_470 : μ447.1 23 9 = μ.1 23 9 := ((F_449.1 23 (by decide) 9).trans (F_372.1 23 (by decide) 9))
      have e_471 : μ447.1 P 1 = μ.1 P 1 := ((F_449.1 P (ni hprP (fun P => P) (fun P => [26, 2, 3, 4, 24]) rfl) 1).trans (F_372.1 P (ni hprP (fun P => P) (fun P => [26]) rfl) 1))
      have e_472 : μ447.1 P 1 = μ.1 P 1 := ((F_449.1 P (ni hprP (fun P => P) (fun P => [26, 2, 3, 4, 24]) rfl) 1).trans (F_372.1 P (ni hprP (fun P => P) (fun P => [26]) rfl) 1))
      have e_473 : μ447.1 (P + 2) 3 = μ.1 (P + 2) 3 := ((F_449.1 (P + 2) (ni hprP (fun P => P + 2) (fun P => [26, 2, 3, 4, 24]) rfl) 3).trans (F_372.1 (P + 2) (ni hprP (fun P => P + 2) (fun P => [26]) rfl) 3))
      have e_474 : μ447.1 P 1 = μ.1 P 1 := ((F_449.1 P (ni hprP (fun P => P) (fun P => [26, 2, 3, 4, 24]) rfl) 1).trans (F_372.1 P (ni hprP (fun P => P) (fun P => [26]) rfl) 1))
      have e_475 : μ447.1 (P + 2) 3 = μ.1 (P + 2) 3 := ((F_449.1 (P + 2) (ni hprP (fun P => P + 2) (fun P => [26, 2, 3, 4, 24]) rfl) 3).trans (F_372.1 (P + 2) (ni hprP (fun P => P + 2) (fun P => [26]) rfl) 3))
      refine xc_vV G (b := 23) (rest := []) (As := [.int (iv 23), .int (iv r_448)]) (c_X7_withExpression ω l μ447 23 r_448 P tt (by unfold ir; omega) (by unfold ir; omega) hI_450 (by omega) (by omega) hp_451 (by omega) (by omega) (by omega) (by omega) (Or.inr ⟨by omega, by omega⟩) (fun _ => by rw [show eff 23 r_448 = -1 from rfl]; have h9 := (hsp_462 ()).h.1; omega)) (wm 3 239 rfl rfl) (wm 4 1 rfl rfl) (wm 0 23 rfl rfl) rfl rfl (by decide) rfl (wm 1 12 rfl rfl) (wm 4 2 rfl rfl) (by decide) hR ⟨nfB hF (by decide), nlB hLo (by decide)⟩ (n := 2) rfl rfl (Nat.le_of_ble_eq_true rfl) hl.1 dX7_ownStatement_24 (fun μ476 ρ d0 H locs hp G => ?_)
      obtain ⟨F_477, hI_478, hp_479, hp_480, hp_481, hp_482, hp_483, hp_484, hs_485, hs_486, hs_487, hs_488, hs_489, hs_490, hs_491, hs_492, hs_493⟩ := hp
      have hn_494 : -1 ≤ μ476.1 26 10 ∧ μ476.1 26 10 ≤ 3000 := hI_478.nm.2.2.2.2.2.2.2.2.2.2.2.2
      have hk_495 := hI_478.pr (p := P) hprP
      unfold pk at hk_495
      have hc_496 : 16 ≤ μ476.2.1 (P + 1) ∧ μ476.2.1 (P + 1) ≤ 73024 := hI_478.rm.1 _ hprP.cap
      have hk_497 := hI_478.row (r := P + 2) (hprP.row)
      unfold rk at hk_497
      have htb_498 := hp_479.b
      replace hp_484 := fun _ : Unit => hp_484
      have hes_499 : ∀ _ : Unit, μ476.1 26 11 = 0 → ES μ447 μ476 P tt (2 * (8 - μ.1 23 9)) := fun _ h0 => ES.oe (hsp_462 ()) (((hp_484 ()) h0).e rfl) (by have h8 : μ447.1 P 1 = μ.1 P 1 := ((F_449.1 P (ni hprP (fun P => P) (fun P => [26, 2, 3, 4, 24]) rfl) 1).trans (F_372.1 P (ni hprP (fun P => P) (fun P => [26]) rfl) 1)); have h9 : μ476.1 P 1 = μ476.1 P 1 := rfl; omega) (by omega)
      refine lv_goto (tgt := 215) hx hb dX7_ownStatement_27 (by decide) ?_
      refine lv_iconst (v := iv 1) hx hb dX7_ownStatement_215 rfl ?_
      clear hk_1 hc_2 hk_466 hk_495 hc_496 hk_497
      exact xr_i G (x := 1) hret hlk (by unfold ir; omega) (zr (by omega)) dX7_ownStatement_216 ⟨(Fr.tr (Fr.tr (Fr.tr Fr.rf F_372 (si hprP (fun P => [26]) (fun P => [2, 3, 4, 23, 24, 25, 26, P, P + 1, P + 2, (P + 2) + 1, (P + 2) + 2, (P + 2) + 3]) rfl)) F_449 (si hprP (fun P => [26, 2, 3, 4, 24]) (fun P => [2, 3, 4, 23, 24, 25, 26, P, P + 1, P + 2, (P + 2) + 1, (P + 2) + 2, (P + 2) + 3]) rfl)) F_477 (si hprP (fun P => [2, 3, 4, 23, 24, 26, P, P + 1, P + 2, (P + 2) + 1, (P + 2) + 2, (P + 2) + 3]) (fun P => [2, 3, 4, 23, 24, 25, 26, P, P + 1, P + 2, (P + 2) + 1, (P + 2) + 2, (P + 2) + 3]) rfl)), hI_478, hp_479, (by omega), (by omega), (by omega), (by omega), (fun h0 _ => (ES.fl (K := [26, 2, 3, 4, 24]) (Fr.tr (Fr.tr Fr.rf F_372 (by decide)) F_449 (by decide)) (npL_p (L := [26, 2, 3, 4, 24]) (by decide) hprP).1 (npL_p (L := [26, 2, 3, 4, 24]) (by decide) hprP).2.1 ((hes_499 ()) h0))), (fun h9 => absurd h9 (by omega)), ((hs_485.trans ((F_449.1 23 (by decide) 2).trans ((F_372.1 23 (by decide) 2).trans hP.symm)))).trans hP, (hs_488.trans ((F_449.1 23 (by decide) 7).trans (F_372.1 23 (by decide) 7))), ((hs_489.trans ((F_449.1 23 (by decide) 8).trans ((F_372.1 23 (by decide) 8).trans htt.symm)))).trans htt, (hs_490.trans ((F_449.1 23 (by decide) 9).trans (F_372.1 23 (by decide) 9))), (hs_492.trans (hs_455.trans hs_378)), (hs_493.trans ((F_449.1 P (ni hprP (fun P => P) (fun P => [26, 2, 3, 4, 24]) rfl) 7).trans (F_372.1 P (ni hprP (fun P => P) (fun P => [26]) rfl) 7)))⟩

set_option maxHeartbeats 4000000 in
set_option maxRecDepth 100000 in
theorem c_X7_statement (ω : Om) (l : Launch) (μ : M3) (F : Nat) (Lo : Nat) (kf : Int) (P : Int) (tt : Int) (hI : IC μ) (hP : P = μ.1 23 2) (htt : tt = μ.1 23 8) (hF : 200 ≤ F) (hLo : 6000 ≤ Lo) (hK : ∀ (μ : M3) (P : Int) (tt : Int) (hI : IC μ) (hP : P = μ.1 23 2) (htt : tt = μ.1 23 8) (hTK : TK μ) (hB : 2 * μ.1 P 1 ≤ 5 * μ.1 26 10 + 103 + 80 * μ.1 26 11) (hKc : μ.1 (P + 2) 3 ≤ μ.1 P 1) (ht3 : 0 ≤ tt ∧ tt ≤ 3) (hdp : 0 ≤ μ.1 23 9 ∧ μ.1 23 9 ≤ 8) (hfu : 0 ≤ (kf - 1) ∧ 9 ≤ μ.1 23 9 + (kf - 1)) (hs1 : ∀ _ : Unit, μ.1 26 11 = 0 → HC μ P tt 0), CtV ω l yX7_block cX7_block 2 (F + 0) (Lo + 0) [.ref (oP ω 23)] μ (fun (μ' : M3) => (Fr [2, 3, 4, 23, 24, 25, 26, P, P + 1, P + 2, (P + 2) + 1, (P + 2) + 2, (P + 2) + 3] μ μ') ∧ (IC μ') ∧ (TK μ') ∧ (μ.1 26 11 ≤ μ'.1 26 11) ∧ (μ.1 26 10 ≤ μ'.1 26 10) ∧ (μ.1 P 1 ≤ μ'.1 P 1 ∧ 2 * μ'.1 P 1 ≤ 2 * μ.1 P 1 + 5 * (μ'.1 26 10 - μ.1 26 10) + (- 10 + 15 * μ'.1 26 11 - 5 * μ.1 26 11)) ∧ (μ'.1 (P + 2) 3 - μ.1 (P + 2) 3 ≤ μ'.1 P 1 - μ.1 P 1 ∧ μ.1 (P + 2) 3 ≤ μ'.1 (P + 2) 3) ∧ (μ'.1 26 11 = 0 → EX μ μ' P tt 0 (2 * (7 - μ.1 23 9))) ∧ (μ.1 23 9 ≤ 7 + 100 * μ'.1 26 11) ∧ (μ'.1 23 2 = μ.1 23 2) ∧ (μ'.1 23 7 = μ.1 23 7) ∧ (μ'.1 23 8 = μ.1 23 8) ∧ (μ'.1 23 9 = μ.1 23 9) ∧ (μ'.1 26 6 = μ.1 26 6) ∧ (μ'.1 P 7 = μ.1 P 7))) (hTK : TK μ) (hB : 2 * μ.1 P 1 ≤ 5 * μ.1 26 10 + 98 + 80 * μ.1 26 11) (hKc : μ.1 (P + 2) 3 ≤ μ.1 P 1) (ht3 : 0 ≤ tt ∧ tt ≤ 3) (hdp : 0 ≤ μ.1 23 9 ∧ μ.1 23 9 ≤ 8) (hs0 : μ.1 26 11 = 0) (hfu : 10 ≤ μ.1 23 9 + kf) (hs1 : ∀ _ : Unit, μ.1 26 11 = 0 → HC μ P tt 0) : CtV ω l yX7_statement cX7_statement 1 (F + 4) (Lo + 90) [.ref (oP ω 23)] μ (fun (μ' : M3) => (Fr [2, 3, 4, 23, 24, 25, 26, P, P + 1, P + 2, (P + 2) + 1, (P + 2) + 2, (P + 2) + 3] μ μ') ∧ (IC μ') ∧ (TK μ') ∧ (μ.1 26 11 ≤ μ'.1 26 11) ∧ (μ.1 26 10 ≤ μ'.1 26 10) ∧ (μ.1 P 1 ≤ μ'.1 P 1 ∧ 2 * μ'.1 P 1 ≤ 2 * μ.1 P 1 + 5 * (μ'.1 26 10 - μ.1 26 10) + (10 * μ'.1 26 11)) ∧ (μ'.1 (P + 2) 3 - μ.1 (P + 2) 3 ≤ μ'.1 P 1 - μ.1 P 1 ∧ μ.1 (P + 2) 3 ≤ μ'.1 (P + 2) 3) ∧ (μ'.1 26 11 = 0 → EX μ μ' P tt 0 (2 * (8 - μ.1 23 9))) ∧ (μ'.1 23 2 = μ.1 23 2) ∧ (μ'.1 23 7 = μ.1 23 7) ∧ (μ'.1 23 8 = μ.1 23 8) ∧ (μ'.1 23 9 = μ.1 23 9) ∧ (μ'.1 26 6 = μ.1 26 6) ∧ (μ'.1 P 7 = μ.1 P 7)) := by
  refine CtV.go (by decide) (Nat.le_of_ble_eq_true rfl) (fun ρ p e s m below meth c R ls G hR hret hlk hl => ?_)
  have hx := G.1.1
  have hb := G.1.2.1
  have hl : lv_has ls 1 [(0, .ref (oP ω 23))] := hl
  generalize s.drawn = d0 at G ⊢
  have hTKb := hTK.b
  have hprP : isPr P := by have h9 := G.sr0.2.2.2.2.2; rw [← hP] at h9; exact h9
  have hprP_d : 13 ≤ P ∧ P ≤ 101 := by rcases hprP with h9 | h9 | h9 | h9 | h9 <;> omega
  have hk_1 := hI.pr (p := P) hprP
  unfold pk at hk_1
  have hc_2 : 16 ≤ μ.2.1 (P + 1) ∧ μ.2.1 (P + 1) ≤ 73024 := hI.rm.1 _ hprP.cap
  refine lv_aload_n hx hb dX7_statement_0 rfl (lv_at hl 0 rfl) ?_
  refine lv_aload_n hx hb dX7_statement_1 rfl (lv_at hl 0 rfl) ?_
  refine xa_getr G fd_X7 (a := 23) (x := 26) 0 rfl (by decide) rfl (wm 2 17 rfl rfl) ⟨rfl, rfl, rfl⟩ dX7_statement_2 rfl (G.sk 23 rfl) (by decide) rfl ?_
  refine xa_getN G fd_X10 (host := "FourTongues") (a := 26) 13 rfl (by decide) (by decide) ⟨rfl, rfl, rfl⟩ dX7_statement_5 rfl (v := .int (iv (μ.1 26 13))) (by rw [show μ.1 26 13 = μ.1 26 13 from rfl]; rfl) ?_
  have hr_3 : -2147483648 ≤ μ.1 26 13 ∧ μ.1 26 13 ≤ 2147483647 := by have h9 := G.hr (a := 26) (k := 13) rfl; exact h9
  refine xa_puti G fd_X7 (a := 23) (x := μ.1 26 13) 10 (kz := 10) rfl rfl (by decide) rfl (by unfold ir; omega) (wm 2 27 rfl rfl) ⟨rfl, rfl, rfl, rfl⟩ rfl dX7_statement_8 rfl (fun H locs G => ?_)
  refine lv_aload_n hx hb dX7_statement_11 rfl (lv_at hl 0 rfl) ?_
  refine lv_iconst (v := iv 1) hx hb dX7_statement_12 rfl ?_
  refine lv_iconst (v := iv 0) hx hb dX7_statement_13 rfl ?_
  refine lv_iconst (v := iv 0) hx hb dX7_statement_14 rfl ?_
  have hI_4 : IC (sv μ 23 10 (μ.1 26 13)) := (IC.put hI (by decide +kernel))
  have e_5 : (sv μ 23 10 (μ.1 26 13)).1 23 2 = P := ((sv_n _ (by decide)).trans hP.symm)
  have e_6 : (sv μ 23 10 (μ.1 26 13)).1 P 1 = μ.1 P 1 := (sv_n _ (by omega))
  have e_7 : (sv μ 23 10 (μ.1 26 13)).1 P 1 = μ.1 P 1 := (sv_n _ (by omega))
  have e_8 : (sv μ 23 10 (μ.1 26 13)).1 P 1 = μ.1 P 1 := (sv_n _ (by omega))
  refine xc_iV G (b := 23) (rest := []) (As := [.int (iv 1), .int (iv 0), .int (iv 0)]) (c_X7_add ω l (sv μ 23 10 (μ.1 26 13)) 1 0 0 P (by unfold ir; omega) (by unfold ir; omega) (by unfold ir; omega) hI_4 (by omega) (by omega)) (wm 3 226 rfl rfl) (wm 3 228 rfl rfl) (wm 0 21 rfl rfl) rfl rfl (by decide) rfl (wm 1 12 rfl rfl) (wm 3 229 rfl rfl) (by decide) hR ⟨nfB hF (by decide), nlB hLo (by decide)⟩ (n := 3) rfl rfl (Nat.le_of_ble_eq_true rfl) hl.1 dX7_statement_15 (fun r_10 μ9 ρ d0 H locs hr_r_10 hp G => ?_)
  have hr_r_10 : -2147483648 ≤ r_10 ∧ r_10 ≤ 2147483647 := hr_r_10
  obtain ⟨F_11, hI_12, hp_13, hp_14, hs_15, hs_16⟩ := hp
  have hF9_ : Fr [23] μ (sv μ 23 10 (μ.1 26 13)) := (Fr.put Fr.rf (by decide))
  have hc9_ := (hs1 () hs0).fr (K := [23]) hF9_ (npL_p (L := [23]) (by decide) hprP).1 (npL_p (L := [23]) (by decide) hprP).2.1
  have hsp_ : ∀ _ : Unit, STP μ9 P tt := fun _ => STP.of hp_14 hc9_.1 hc9_.2.1 hc9_.2.2
  refine lv_pop hx hb dX7_statement_18 rfl ?_
  refine lv_aload_n hx hb dX7_statement_19 rfl (lv_at hl 0 rfl) ?_
  refine lv_sipush (v := iv 203) hx hb dX7_statement_20 rfl ?_
  have htk_17 : TK μ9 := hTK.fr (K := [P, P + 1, 23]) (Fr.tr (Fr.put Fr.rf (si hprP (fun P => [23]) (fun P => [P, P + 1, 23]) rfl 23 (List.mem_singleton.2 rfl))) F_11 (si hprP (fun P => [P, P + 1]) (fun P => [P, P + 1, 23]) rfl)) (ni hprP (fun P => 26) (fun P => [P, P + 1, 23]) rfl) (ni hprP (fun P => 28) (fun P => [P, P + 1, 23]) rfl) (ni hprP (fun P => 29) (fun P => [P, P + 1, 23]) rfl)
  have hn_18 : -1 ≤ μ.1 26 10 ∧ μ.1 26 10 ≤ 3000 := hI.nm.2.2.2.2.2.2.2.2.2.2.2.2
  have e_19 : μ9.1 26 10 = μ.1 26 10 := ((F_11.1 26 (ni hprP (fun P => 26) (fun P => [P, P + 1]) rfl) 10).trans (sv_n _ (fun h9 => absurd h9.1 (by decide))))
  have e_20 : μ9.1 26 11 = μ.1 26 11 := ((F_11.1 26 (ni hprP (fun P => 26) (fun P => [P, P + 1]) rfl) 11).trans (sv_n _ (fun h9 => absurd h9.1 (by decide))))
  refine xc_iV G (b := 23) (rest := []) (As := [.int (iv 203)]) (c_X7_took_b ω l μ9 203 (by unfold ir; omega) hI_12 htk_17 (by omega)) (wm 3 160 rfl rfl) (wm 3 162 rfl rfl) (wm 0 9 rfl rfl) rfl rfl (by decide) rfl (wm 1 12 rfl rfl) (wm 3 163 rfl rfl) (by decide) hR ⟨nfB hF (by decide), nlB hLo (by decide)⟩ (n := 1) rfl rfl (Nat.le_of_ble_eq_true rfl) hl.1 dX7_statement_23 (fun r_22 μ21 ρ d0 H locs hr_r_22 hp G => ?_)
  have hr_r_22 : -2147483648 ≤ r_22 ∧ r_22 ≤ 2147483647 := hr_r_22
  obtain ⟨F_23, hI_24, hp_25, hp_26, hp_27, hs_28, hs_29, hs_30, hs_31, hs_32⟩ := hp
  have hn_33 : -1 ≤ μ21.1 26 10 ∧ μ21.1 26 10 ≤ 3000 := hI_24.nm.2.2.2.2.2.2.2.2.2.2.2.2
  have htb_34 := hp_25.b
  refine xb_if_eq (tgt := 36) hx hb (by unfold ir; omega) dX7_statement_26 (by decide) (fun c_26 => ?_) (fun c_26 => ?_)
  · refine lv_aload_n hx hb dX7_statement_36 rfl (lv_at hl 0 rfl) ?_
    refine lv_sipush (v := iv 204) hx hb dX7_statement_37 rfl ?_
    have e_35 : μ21.1 26 11 = μ.1 26 11 := (hs_28.trans ((F_11.1 26 (ni hprP (fun P => 26) (fun P => [P, P + 1]) rfl) 11).trans (sv_n _ (fun h9 => absurd h9.1 (by decide)))))
    refine xc_iV G (b := 23) (rest := []) (As := [.int (iv 204)]) (c_X7_took_b ω l μ21 204 (by unfold ir; omega) hI_24 hp_25 (by omega)) (wm 3 160 rfl rfl) (wm 3 162 rfl rfl) (wm 0 9 rfl rfl) rfl rfl (by decide) rfl (wm 1 12 rfl rfl) (wm 3 163 rfl rfl) (by decide) hR ⟨nfB hF (by decide), nlB hLo (by decide)⟩ (n := 1) rfl rfl (Nat.le_of_ble_eq_true rfl) hl.1 dX7_statement_40 (fun r_37 μ36 ρ d0 H locs hr_r_37 hp G => ?_)
    have hr_r_37 : -2147483648 ≤ r_37 ∧ r_37 ≤ 2147483647 := hr_r_37
    obtain ⟨F_38, hI_39, hp_40, hp_41, hp_42, hs_43, hs_44, hs_45, hs_46, hs_47⟩ := hp
    have hn_48 : -1 ≤ μ36.1 26 10 ∧ μ36.1 26 10 ≤ 3000 := hI_39.nm.2.2.2.2.2.2.2.2.2.2.2.2
    have htb_49 := hp_40.b
    refine xb_if_eq (tgt := 53) hx hb (by unfold ir; omega) dX7_statement_43 (by decide) (fun c_43 => ?_) (fun c_43 => ?_)
    · refine lv_aload_n hx hb dX7_statement_53 rfl (lv_at hl 0 rfl) ?_
      refine lv_sipush (v := iv 206) hx hb dX7_statement_54 rfl ?_
      have e_50 : μ36.1 26 11 = μ.1 26 11 := (hs_43.trans (hs_28.trans ((F_11.1 26 (ni hprP (fun P => 26) (fun P => [P, P + 1]) rfl) 11).trans (sv_n _ (fun h9 => absurd h9.1 (by decide))))))
      refine xc_iV G (b := 23) (rest := []) (As := [.int (iv 206)]) (c_X7_took_b ω l μ36 206 (by unfold ir; omega) hI_39 hp_40 (by omega)) (wm 3 160 rfl rfl) (wm 3 162 rfl rfl) (wm 0 9 rfl rfl) rfl rfl (by decide) rfl (wm 1 12 rfl rfl) (wm 3 163 rfl rfl) (by decide) hR ⟨nfB hF (by decide), nlB hLo (by decide)⟩ (n := 1) rfl rfl (Nat.le_of_ble_eq_true rfl) hl.1 dX7_statement_57 (fun r_52 μ51 ρ d0 H locs hr_r_52 hp G => ?_)
      have hr_r_52 : -2147483648 ≤ r_52 ∧ r_52 ≤ 2147483647 := hr_r_52
      obtain ⟨F_53, hI_54, hp_55, hp_56, hp_57, hs_58, hs_59, hs_60, hs_61, hs_62⟩ := hp
      have hn_63 : -1 ≤ μ51.1 26 10 ∧ μ51.1 26 10 ≤ 3000 := hI_54.nm.2.2.2.2.2.2.2.2.2.2.2.2
      have htb_64 := hp_55.b
      refine xb_if_eq (tgt := 70) hx hb (by unfold ir; omega) dX7_statement_60 (by decide) (fun c_60 => ?_) (fun c_60 => ?_)
      · refine lv_aload_n hx hb dX7_statement_70 rfl (lv_at hl 0 rfl) ?_
        refine lv_sipush (v := iv 207) hx hb dX7_statement_71 rfl ?_
        have e_65 : μ51.1 26 11 = μ.1 26 11 := (hs_58.trans (hs_43.trans (hs_28.trans ((F_11.1 26 (ni hprP (fun P => 26) (fun P => [P, P + 1]) rfl) 11).trans (sv_n _ (fun h9 => absurd h9.1 (by decide)))))))
        refine xc_iV G (b := 23) (rest := []) (As := [.int (iv 207)]) (c_X7_took_b ω l μ51 207 (by unfold ir; omega) hI_54 hp_55 (by omega)) (wm 3 160 rfl rfl) (wm 3 162 rfl rfl) (wm 0 9 rfl rfl) rfl rfl (by decide) rfl (wm 1 12 rfl rfl) (wm 3 163 rfl rfl) (by decide) hR ⟨nfB hF (by decide), nlB hLo (by decide)⟩ (n := 1) rfl rfl (Nat.le_of_ble_eq_true rfl) hl.1 dX7_statement_74 (fun r_67 μ66 ρ d0 H locs hr_r_67 hp G => ?_)
        have hr_r_67 : -2147483648 ≤ r_67 ∧ r_67 ≤ 2147483647 := hr_r_67
        obtain ⟨F_68, hI_69, hp_70, hp_71, hp_72, hs_73, hs_74, hs_75, hs_76, hs_77⟩ := hp
        have hn_78 : -1 ≤ μ66.1 26 10 ∧ μ66.1 26 10 ≤ 3000 := hI_69.nm.2.2.2.2.2.2.2.2.2.2.2.2
        have htb_79 := hp_70.b
        refine xb_if_eq (tgt := 90) hx hb (by unfold ir; omega) dX7_statement_77 (by decide) (fun c_77 => ?_) (fun c_77 => ?_)
        · refine lv_aload_n hx hb dX7_statement_90 rfl (lv_at hl 0 rfl) ?_
          refine lv_sipush (v := iv 208) hx hb dX7_statement_91 rfl ?_
          have e_80 : μ66.1 26 11 = μ.1 26 11 := (hs_73.trans (hs_58.trans (hs_43.trans (hs_28.trans ((F_11.1 26 (ni hprP (fun P => 26) (fun P => [P, P + 1]) rfl) 11).trans (sv_n _ (fun h9 => absurd h9.1 (by decide))))))))
          refine xc_iV G (b := 23) (rest := []) (As := [.int (iv 208)]) (c_X7_took_b ω l μ66 208 (by unfold ir; omega) hI_69 hp_70 (by omega)) (wm 3 160 rfl rfl) (wm 3 162 rfl rfl) (wm 0 9 rfl rfl) rfl rfl (by decide) rfl (wm 1 12 rfl rfl) (wm 3 163 rfl rfl) (by decide) hR ⟨nfB hF (by decide), nlB hLo (by decide)⟩ (n := 1) rfl rfl (Nat.le_of_ble_eq_true rfl) hl.1 dX7_statement_94 (fun r_82 μ81 ρ d0 H locs hr_r_82 hp G => ?_)
          have hr_r_82 : -2147483648 ≤ r_82 ∧ r_82 ≤ 2147483647 := hr_r_82
          obtain ⟨F_83, hI_84, hp_85, hp_86, hp_87, hs_88, hs_89, hs_90, hs_91, hs_92⟩ := hp
          have hn_93 : -1 ≤ μ81.1 26 10 ∧ μ81.1 26 10 ≤ 3000 := hI_84.nm.2.2.2.2.2.2.2.2.2.2.2.2
          have htb_94 := hp_85.b
          refine xb_if_eq (tgt := 110) hx hb (by unfold ir; omega) dX7_statement_97 (by decide) (fun c_97 => ?_) (fun c_97 => ?_)
          · refine lv_aload_n hx hb dX7_statement_110 rfl (lv_at hl 0 rfl) ?_
            refine xa_getr G fd_X7 (a := 23) (x := 26) 0 rfl (by decide) rfl (wm 2 17 rfl rfl) ⟨rfl, rfl, rfl⟩ dX7_statement_111 rfl (G.sk 23 rfl) (by decide) rfl ?_
            refine xa_getN G fd_X10 (host := "FourTongues") (a := 26) 12 rfl (by decide) (by decide) ⟨rfl, rfl, rfl⟩ dX7_statement_114 rfl (v := .int (iv (μ81.1 26 12))) (by rw [show μ81.1 26 12 = μ81.1 26 12 from rfl]; rfl) ?_
            have hr_95 : -2147483648 ≤ μ81.1 26 12 ∧ μ81.1 26 12 ≤ 2147483647 := by have h9 := G.hr (a := 26) (k := 12) rfl; exact h9
            refine lv_iconst (v := iv 1) hx hb dX7_statement_117 rfl ?_
            refine xb_icmp_ne (tgt := 128) hx hb (by unfold ir; omega) (by unfold ir; omega) dX7_statement_118 (by decide) (fun c_118 => ?_) (fun c_118 => ?_)
            · refine lv_aload_n hx hb dX7_statement_128 rfl (lv_at hl 0 rfl) ?_
              have hsp_96 : ∀ _ : Unit, STP μ81 P tt := fun _ => (hsp_ ()).fr (K := [26]) (Fr.tr (Fr.tr (Fr.tr (Fr.tr (Fr.tr Fr.rf F_23 (by decide)) F_38 (by decide)) F_53 (by decide)) F_68 (by decide)) F_83 (by decide)) (npL_p (L := [26]) (by decide) hprP).1 (npL_p (L := [26]) (by decide) hprP).2.1
              have e_97 : μ81.1 23 2 = P := ((F_83.1 23 (by decide) 2).trans ((F_68.1 23 (by decide) 2).trans ((F_53.1 23 (by decide) 2).trans ((F_38.1 23 (by decide) 2).trans ((F_23.1 23 (by decide) 2).trans ((F_11.1 23 (ni hprP (fun P => 23) (fun P => [P, P + 1]) rfl) 2).trans ((sv_n _ (by decide)).trans hP.symm)))))))
              have e_98 : μ81.1 23 8 = tt := ((F_83.1 23 (by decide) 8).trans ((F_68.1 23 (by decide) 8).trans ((F_53.1 23 (by decide) 8).trans ((F_38.1 23 (by decide) 8).trans ((F_23.1 23 (by decide) 8).trans ((F_11.1 23 (ni hprP (fun P => 23) (fun P => [P, P + 1]) rfl) 8).trans ((sv_n _ (by decide)).trans htt.symm)))))))
              have e_99 : μ81.1 P 1 = (sv μ 23 10 (μ.1 26 13)).1 P 1 + 1 := ((F_83.1 P (ni hprP (fun P => P) (fun P => [26]) rfl) 1).trans ((F_68.1 P (ni hprP (fun P => P) (fun P => [26]) rfl) 1).trans ((F_53.1 P (ni hprP (fun P => P) (fun P => [26]) rfl) 1).trans ((F_38.1 P (ni hprP (fun P => P) (fun P => [26]) rfl) 1).trans ((F_23.1 P (ni hprP (fun P => P) (fun P => [26]) rfl) 1).trans hs_15)))))
              have e_100 : μ81.1 26 11 = μ.1 26 11 := (hs_88.trans (hs_73.trans (hs_58.trans (hs_43.trans (hs_28.trans ((F_11.1 26 (ni hprP (fun P => 26) (fun P => [P, P + 1]) rfl) 11).trans (sv_n _ (fun h9 => absurd h9.1 (by decide)))))))))
              have hk_101 := hI.row (r := P + 2) (hprP.row)
              unfold rk at hk_101
              have e_102 : μ81.1 (P + 2) 3 = μ.1 (P + 2) 3 := ((F_83.1 (P + 2) (ni hprP (fun P => P + 2) (fun P => [26]) rfl) 3).trans ((F_68.1 (P + 2) (ni hprP (fun P => P + 2) (fun P => [26]) rfl) 3).trans ((F_53.1 (P + 2) (ni hprP (fun P => P + 2) (fun P => [26]) rfl) 3).trans ((F_38.1 (P + 2) (ni hprP (fun P => P + 2) (fun P => [26]) rfl) 3).trans ((F_23.1 (P + 2) (ni hprP (fun P => P + 2) (fun P => [26]) rfl) 3).trans ((F_11.1 (P + 2) (ni hprP (fun P => P + 2) (fun P => [P, P + 1]) rfl) 3).trans (sv_n _ (by omega))))))))
              have e_103 : μ81.1 P 1 = (sv μ 23 10 (μ.1 26 13)).1 P 1 + 1 := ((F_83.1 P (ni hprP (fun P => P) (fun P => [26]) rfl) 1).trans ((F_68.1 P (ni hprP (fun P => P) (fun P => [26]) rfl) 1).trans ((F_53.1 P (ni hprP (fun P => P) (fun P => [26]) rfl) 1).trans ((F_38.1 P (ni hprP (fun P => P) (fun P => [26]) rfl) 1).trans ((F_23.1 P (ni hprP (fun P => P) (fun P => [26]) rfl) 1).trans hs_15)))))
              have e_104 : μ81.1 23 9 = μ.1 23 9 := ((F_83.1 23 (by decide) 9).trans ((F_68.1 23 (by decide) 9).trans ((F_53.1 23 (by decide) 9).trans ((F_38.1 23 (by decide) 9).trans ((F_23.1 23 (by decide) 9).trans ((F_11.1 23 (ni hprP (fun P => 23) (fun P => [P, P + 1]) rfl) 9).trans (sv_n _ (by decide))))))))
              have e_105 : μ81.1 23 9 = μ.1 23 9 := ((F_83.1 23 (by decide) 9).trans ((F_68.1 23 (by decide) 9).trans ((F_53.1 23 (by decide) 9).trans ((F_38.1 23 (by decide) 9).trans ((F_23.1 23 (by decide) 9).trans ((F_11.1 23 (ni hprP (fun P => 23) (fun P => [P, P + 1]) rfl) 9).trans (sv_n _ (by decide))))))))
              have e_106 : μ81.1 26 11 = μ.1 26 11 := (hs_88.trans (hs_73.trans (hs_58.trans (hs_43.trans (hs_28.trans ((F_11.1 26 (ni hprP (fun P => 26) (fun P => [P, P + 1]) rfl) 11).trans (sv_n _ (fun h9 => absurd h9.1 (by decide)))))))))
              have e_107 : μ81.1 26 11 = μ.1 26 11 := (hs_88.trans (hs_73.trans (hs_58.trans (hs_43.trans (hs_28.trans ((F_11.1 26 (ni hprP (fun P => 26) (fun P => [P, P + 1]) rfl) 11).trans (sv_n _ (fun h9 => absurd h9.1 (by decide)))))))))
              have e_108 : μ81.1 P 1 = (sv μ 23 10 (μ.1 26 13)).1 P 1 + 1 := ((F_83.1 P (ni hprP (fun P => P) (fun P => [26]) rfl) 1).trans ((F_68.1 P (ni hprP (fun P => P) (fun P => [26]) rfl) 1).trans ((F_53.1 P (ni hprP (fun P => P) (fun P => [26]) rfl) 1).trans ((F_38.1 P (ni hprP (fun P => P) (fun P => [26]) rfl) 1).trans ((F_23.1 P (ni hprP (fun P => P) (fun P => [26]) rfl) 1).trans hs_15)))))
              have e_109 : μ81.1 P 1 = (sv μ 23 10 (μ.1 26 13)).1 P 1 + 1 := ((F_83.1 P (ni hprP (fun P => P) (fun P => [26]) rfl) 1).trans ((F_68.1 P (ni hprP (fun P => P) (fun P => [26]) rfl) 1).trans ((F_53.1 P (ni hprP (fun P => P) (fun P => [26]) rfl) 1).trans ((F_38.1 P (ni hprP (fun P => P) (fun P => [26]) rfl) 1).trans ((F_23.1 P (ni hprP (fun P => P) (fun P => [26]) rfl) 1).trans hs_15)))))
              have e_110 : μ81.1 (P + 2) 3 = μ.1 (P + 2) 3 := ((F_83.1 (P + 2) (ni hprP (fun P => P + 2) (fun P => [26]) rfl) 3).trans ((F_68.1 (P + 2) (ni hprP (fun P => P + 2) (fun P => [26]) rfl) 3).trans ((F_53.1 (P + 2) (ni hprP (fun P => P + 2) (fun P => [26]) rfl) 3).trans ((F_38.1 (P + 2) (ni hprP (fun P => P + 2) (fun P => [26]) rfl) 3).trans ((F_23.1 (P + 2) (ni hprP (fun P => P + 2) (fun P => [26]) rfl) 3).trans ((F_11.1 (P + 2) (ni hprP (fun P => P + 2) (fun P => [P, P + 1]) rfl) 3).trans (sv_n _ (by omega))))))))
              have e_111 : μ81.1 P 1 = (sv μ 23 10 (μ.1 26 13)).1 P 1 + 1 := ((F_83.1 P (ni hprP (fun P => P) (fun P => [26]) rfl) 1).trans ((F_68.1 P (ni hprP (fun P => P) (fun P => [26]) rfl) 1).trans ((F_53.1 P (ni hprP (fun P => P) (fun P => [26]) rfl) 1).trans ((F_38.1 P (ni hprP (fun P => P) (fun P => [26]) rfl) 1).trans ((F_23.1 P (ni hprP (fun P => P) (fun P => [26]) rfl) 1).trans hs_15)))))
              have e_112 : μ81.1 (P + 2) 3 = μ.1 (P + 2) 3 := ((F_83.1 (P + 2) (ni hprP (fun P => P + 2) (fun P => [26]) rfl) 3).trans ((F_68.1 (P + 2) (ni hprP (fun P => P + 2) (fun P => [26]) rfl) 3).trans ((F_53.1 (P + 2) (ni hprP (fun P => P + 2) (fun P => [26]) rfl) 3).trans ((F_38.1 (P + 2) (ni hprP (fun P => P + 2) (fun P => [26]) rfl) 3).trans ((F_23.1 (P + 2) (ni hprP (fun P => P + 2) (fun P => [26]) rfl) 3).trans ((F_11.1 (P + 2) (ni hprP (fun P => P + 2) (fun P => [P, P + 1]) rfl) 3).trans (sv_n _ (by omega))))))))
              refine xc_iV G (b := 23) (rest := []) (As := []) (c_X7_ownStatement ω l μ81 F Lo kf P tt hI_84 (by omega) (by omega) hF hLo hK hp_85 (by omega) (by omega) (by omega) (by omega) (by omega) (by omega) hsp_96) (wm 4 144 rfl rfl) (wm 4 146 rfl rfl) (wm 0 50 rfl rfl) rfl rfl (by decide) rfl (wm 1 12 rfl rfl) (wm 4 147 rfl rfl) (by decide) hR ⟨sfr (F := F) (a := 3) (by decide), slo (L := Lo) (m := 1) (a := 70) (by decide)⟩ (n := 0) rfl rfl (Nat.le_of_ble_eq_true rfl) hl.1 dX7_statement_129 (fun r_114 μ113 ρ d0 H locs hr_r_114 hp G => ?_)
              have hr_r_114 : -2147483648 ≤ r_114 ∧ r_114 ≤ 2147483647 := hr_r_114
              obtain ⟨F_115, hI_116, hp_117, hp_118, hp_119, hp_120, hp_121, hp_122, hp_123, hs_124, hs_125, hs_126, hs_127, hs_128, hs_129⟩ := hp
              have hn_130 : -1 ≤ μ113.1 26 10 ∧ μ113.1 26 10 ≤ 3000 := hI_116.nm.2.2.2.2.2.2.2.2.2.2.2.2
              have hk_131 := hI_116.pr (p := P) hprP
              unfold pk at hk_131
              have hc_132 : 16 ≤ μ113.2.1 (P + 1) ∧ μ113.2.1 (P + 1) ≤ 73024 := hI_116.rm.1 _ hprP.cap
              have hk_133 := hI_116.row (r := P + 2) (hprP.row)
              unfold rk at hk_133
              have htb_134 := hp_117.b
              replace hp_122 := fun _ : Unit => hp_122
              replace hp_123 := fun _ : Unit => hp_123
              have htb9_ := (hp_117).b
              refine xb_if_ne (tgt := 142) hx hb (by unfold ir; omega) dX7_statement_132 (by decide) (fun c_132 => ?_) (fun c_132 => ?_)
              · have hes_135 : ∀ _ : Unit, μ113.1 26 11 = 0 → ES μ81 μ113 P tt (2 * (8 - μ.1 23 9)) := fun _ h0 => ((hp_122 ()) h0 (by omega)).mn (by have h9 : μ81.1 23 9 = μ.1 23 9 := ((F_83.1 23 (by decide) 9).trans ((F_68.1 23 (by decide) 9).trans ((F_53.1 23 (by decide) 9).trans ((F_38.1 23 (by decide) 9).trans ((F_23.1 23 (by decide) 9).trans ((F_11.1 23 (ni hprP (fun P => 23) (fun P => [P, P + 1]) rfl) 9).trans (sv_n _ (by decide)))))))); omega)
                clear hk_1 hc_2 hk_101 hk_131 hc_132 hk_133
                exact xr_v G hret hlk dX7_statement_142 ⟨(Fr.tr (Fr.tr (Fr.tr (Fr.tr (Fr.tr (Fr.tr (Fr.tr (Fr.put Fr.rf (si hprP (fun P => [23]) (fun P => [2, 3, 4, 23, 24, 25, 26, P, P + 1, P + 2, (P + 2) + 1, (P + 2) + 2, (P + 2) + 3]) rfl 23 (List.mem_singleton.2 rfl))) F_11 (si hprP (fun P => [P, P + 1]) (fun P => [2, 3, 4, 23, 24, 25, 26, P, P + 1, P + 2, (P + 2) + 1, (P + 2) + 2, (P + 2) + 3]) rfl)) F_23 (si hprP (fun P => [26]) (fun P => [2, 3, 4, 23, 24, 25, 26, P, P + 1, P + 2, (P + 2) + 1, (P + 2) + 2, (P + 2) + 3]) rfl)) F_38 (si hprP (fun P => [26]) (fun P => [2, 3, 4, 23, 24, 25, 26, P, P + 1, P + 2, (P + 2) + 1, (P + 2) + 2, (P + 2) + 3]) rfl)) F_53 (si hprP (fun P => [26]) (fun P => [2, 3, 4, 23, 24, 25, 26, P, P + 1, P + 2, (P + 2) + 1, (P + 2) + 2, (P + 2) + 3]) rfl)) F_68 (si hprP (fun P => [26]) (fun P => [2, 3, 4, 23, 24, 25, 26, P, P + 1, P + 2, (P + 2) + 1, (P + 2) + 2, (P + 2) + 3]) rfl)) F_83 (si hprP (fun P => [26]) (fun P => [2, 3, 4, 23, 24, 25, 26, P, P + 1, P + 2, (P + 2) + 1, (P + 2) + 2, (P + 2) + 3]) rfl)) F_115 (si hprP (fun P => [2, 3, 4, 23, 24, 25, 26, P, P + 1, P + 2, (P + 2) + 1, (P + 2) + 2, (P + 2) + 3]) (fun P => [2, 3, 4, 23, 24, 25, 26, P, P + 1, P + 2, (P + 2) + 1, (P + 2) + 2, (P + 2) + 3]) rfl)), hI_116, hp_117, (by omega), (by omega), (by omega), (by omega), (fun h0 => EX.fl (L := [23]) hF9_ (npL_p (L := [23]) (by decide) hprP).1 (npL_p (L := [23]) (by decide) hprP).2.1 (ES.ex hp_14 (ES.fl (K := [26]) (Fr.tr (Fr.tr (Fr.tr (Fr.tr (Fr.tr Fr.rf F_23 (by decide)) F_38 (by decide)) F_53 (by decide)) F_68 (by decide)) F_83 (by decide)) (npL_p (L := [26]) (by decide) hprP).1 (npL_p (L := [26]) (by decide) hprP).2.1 ((hes_135 ()) h0)))), ((hs_124.trans ((F_83.1 23 (by decide) 2).trans ((F_68.1 23 (by decide) 2).trans ((F_53.1 23 (by decide) 2).trans ((F_38.1 23 (by decide) 2).trans ((F_23.1 23 (by decide) 2).trans ((F_11.1 23 (ni hprP (fun P => 23) (fun P => [P, P + 1]) rfl) 2).trans ((sv_n _ (by decide)).trans hP.symm))))))))).trans hP, (hs_125.trans ((F_83.1 23 (by decide) 7).trans ((F_68.1 23 (by decide) 7).trans ((F_53.1 23 (by decide) 7).trans ((F_38.1 23 (by decide) 7).trans ((F_23.1 23 (by decide) 7).trans ((F_11.1 23 (ni hprP (fun P => 23) (fun P => [P, P + 1]) rfl) 7).trans (sv_n _ (by decide))))))))), ((hs_126.trans ((F_83.1 23 (by decide) 8).trans ((F_68.1 23 (by decide) 8).trans ((F_53.1 23 (by decide) 8).trans ((F_38.1 23 (by decide) 8).trans ((F_23.1 23 (by decide) 8).trans ((F_11.1 23 (ni hprP (fun P => 23) (fun P => [P, P + 1]) rfl) 8).trans ((sv_n _ (by decide)).trans htt.symm))))))))).trans htt, (hs_127.trans ((F_83.1 23 (by decide) 9).trans ((F_68.1 23 (by decide) 9).trans ((F_53.1 23 (by decide) 9).trans ((F_38.1 23 (by decide) 9).trans ((F_23.1 23 (by decide) 9).trans ((F_11.1 23 (ni hprP (fun P => 23) (fun P => [P, P + 1]) rfl) 9).trans (sv_n _ (by decide))))))))), (hs_128.trans (hs_89.trans (hs_74.trans (hs_59.trans (hs_44.trans (hs_29.trans ((F_11.1 26 (ni hprP (fun P => 26) (fun P => [P, P + 1]) rfl) 6).trans (sv_n _ (fun h9 => absurd h9.1 (by decide)))))))))), (hs_129.trans ((F_83.1 P (ni hprP (fun P => P) (fun P => [26]) rfl) 7).trans ((F_68.1 P (ni hprP (fun P => P) (fun P => [26]) rfl) 7).trans ((F_53.1 P (ni hprP (fun P => P) (fun P => [26]) rfl) 7).trans ((F_38.1 P (ni hprP (fun P => P) (fun P => [26]) rfl) 7).trans ((F_23.1 P (ni hprP (fun P => P) (fun P => [26]) rfl) 7).trans (hs_16.trans (sv_n _ (by omega)))))))))⟩
              · have hq0_ : q0 μ81 P μ113 := (hp_123 ()) (by omega)
                have hsq_ : ∀ _ : Unit, STP μ113 P tt := fun _ => (hsp_96 ()).q0 hq0_
                refine lv_aload_n hx hb dX7_statement_135 rfl (lv_at hl 0 rfl) ?_
                refine lv_bipush (v := iv 6) hx hb dX7_statement_136 rfl ?_
                refine lv_iconst (v := iv 0) hx hb dX7_statement_138 rfl ?_
                have e_136 : μ113.1 23 2 = P := (hs_124.trans ((F_83.1 23 (by decide) 2).trans ((F_68.1 23 (by decide) 2).trans ((F_53.1 23 (by decide) 2).trans ((F_38.1 23 (by decide) 2).trans ((F_23.1 23 (by decide) 2).trans ((F_11.1 23 (ni hprP (fun P => 23) (fun P => [P, P + 1]) rfl) 2).trans ((sv_n _ (by decide)).trans hP.symm))))))))
                have e_137 : μ113.1 23 8 = tt := (hs_126.trans ((F_83.1 23 (by decide) 8).trans ((F_68.1 23 (by decide) 8).trans ((F_53.1 23 (by decide) 8).trans ((F_38.1 23 (by decide) 8).trans ((F_23.1 23 (by decide) 8).trans ((F_11.1 23 (ni hprP (fun P => 23) (fun P => [P, P + 1]) rfl) 8).trans ((sv_n _ (by decide)).trans htt.symm))))))))
                have e_138 : μ113.1 23 9 = μ.1 23 9 := (hs_127.trans ((F_83.1 23 (by decide) 9).trans ((F_68.1 23 (by decide) 9).trans ((F_53.1 23 (by decide) 9).trans ((F_38.1 23 (by decide) 9).trans ((F_23.1 23 (by decide) 9).trans ((F_11.1 23 (ni hprP (fun P => 23) (fun P => [P, P + 1]) rfl) 9).trans (sv_n _ (by decide)))))))))
                have e_139 : μ113.1 23 9 = μ.1 23 9 := (hs_127.trans ((F_83.1 23 (by decide) 9).trans ((F_68.1 23 (by decide) 9).trans ((F_53.1 23 (by decide) 9).trans ((F_38.1 23 (by decide) 9).trans ((F_23.1 23 (by decide) 9).trans ((F_11.1 23 (ni hprP (fun P => 23) (fun P => [P, P + 1]) rfl) 9).trans (sv_n _ (by decide)))))))))
                refine xc_vV G (b := 23) (rest := []) (As := [.int (iv 6), .int (iv 0)]) (c_X7_withExpression ω l μ113 6 0 P tt (by unfold ir; omega) (by unfold ir; omega) hI_116 (by omega) (by omega) hp_117 (by omega) (by omega) (by omega) (by omega) (Or.inl (by unfold plain; omega)) (fun _ => by rw [show eff 6 0 = -1 from rfl]; have h9 := (hsq_ ()).h.1; omega)) (wm 3 239 rfl rfl) (wm 4 1 rfl rfl) (wm 0 23 rfl rfl) rfl rfl (by decide) rfl (wm 1 12 rfl rfl) (wm 4 2 rfl rfl) (by decide) hR ⟨nfB hF (by decide), nlB hLo (by decide)⟩ (n := 2) rfl rfl (Nat.le_of_ble_eq_true rfl) hl.1 dX7_statement_139 (fun μ140 ρ d0 H locs hp G => ?_)
                obtain ⟨F_141, hI_142, hp_143, hp_144, hp_145, hp_146, hp_147, hp_148, hs_149, hs_150, hs_151, hs_152, hs_153, hs_154, hs_155, hs_156, hs_157⟩ := hp
                have hn_158 : -1 ≤ μ140.1 26 10 ∧ μ140.1 26 10 ≤ 3000 := hI_142.nm.2.2.2.2.2.2.2.2.2.2.2.2
                have hk_159 := hI_142.pr (p := P) hprP
                unfold pk at hk_159
                have hc_160 : 16 ≤ μ140.2.1 (P + 1) ∧ μ140.2.1 (P + 1) ≤ 73024 := hI_142.rm.1 _ hprP.cap
                have hk_161 := hI_142.row (r := P + 2) (hprP.row)
                unfold rk at hk_161
                have htb_162 := hp_143.b
                replace hp_148 := fun _ : Unit => hp_148
                have hes_163 : ∀ _ : Unit, μ140.1 26 11 = 0 → ES μ113 μ140 P tt (2 * (8 - μ.1 23 9)) := fun _ h0 => ES.oe (hsq_ ()) (((hp_148 ()) h0).e rfl) (by have h8 : μ113.1 P 1 = μ113.1 P 1 := rfl; have h9 : μ140.1 P 1 = μ140.1 P 1 := rfl; omega) (by omega)
                clear hk_1 hc_2 hk_101 hk_131 hc_132 hk_133 hk_159 hc_160 hk_161
                exact xr_v G hret hlk dX7_statement_142 ⟨(Fr.tr (Fr.tr (Fr.tr (Fr.tr (Fr.tr (Fr.tr (Fr.tr (Fr.tr (Fr.put Fr.rf (si hprP (fun P => [23]) (fun P => [2, 3, 4, 23, 24, 25, 26, P, P + 1, P + 2, (P + 2) + 1, (P + 2) + 2, (P + 2) + 3]) rfl 23 (List.mem_singleton.2 rfl))) F_11 (si hprP (fun P => [P, P + 1]) (fun P => [2, 3, 4, 23, 24, 25, 26, P, P + 1, P + 2, (P + 2) + 1, (P + 2) + 2, (P + 2) + 3]) rfl)) F_23 (si hprP (fun P => [26]) (fun P => [2, 3, 4, 23, 24, 25, 26, P, P + 1, P + 2, (P + 2) + 1, (P + 2) + 2, (P + 2) + 3]) rfl)) F_38 (si hprP (fun P => [26]) (fun P => [2, 3, 4, 23, 24, 25, 26, P, P + 1, P + 2, (P + 2) + 1, (P + 2) + 2, (P + 2) + 3]) rfl)) F_53 (si hprP (fun P => [26]) (fun P => [2, 3, 4, 23, 24, 25, 26, P, P + 1, P + 2, (P + 2) + 1, (P + 2) + 2, (P + 2) + 3]) rfl)) F_68 (si hprP (fun P => [26]) (fun P => [2, 3, 4, 23, 24, 25, 26, P, P + 1, P + 2, (P + 2) + 1, (P + 2) + 2, (P + 2) + 3]) rfl)) F_83 (si hprP (fun P => [26]) (fun P => [2, 3, 4, 23, 24, 25, 26, P, P + 1, P + 2, (P + 2) + 1, (P + 2) + 2, (P + 2) + 3]) rfl)) F_115 (si hprP (fun P => [2, 3, 4, 23, 24, 25, 26, P, P + 1, P + 2, (P + 2) + 1, (P + 2) + 2, (P + 2) + 3]) (fun P => [2, 3, 4, 23, 24, 25, 26, P, P + 1, P + 2, (P + 2) + 1, (P + 2) + 2, (P + 2) + 3]) rfl)) F_141 (si hprP (fun P => [2, 3, 4, 23, 24, 26, P, P + 1, P + 2, (P + 2) + 1, (P + 2) + 2, (P + 2) + 3]) (fun P => [2, 3, 4, 23, 24, 25, 26, P, P + 1, P + 2, (P + 2) + 1, (P + 2) + 2, (P + 2) + 3]) rfl)), hI_142, hp_143, (by omega), (by omega), (by omega), (by omega), (fun h0 => EX.fl (L := [23]) hF9_ (npL_p (L := [23]) (by decide) hprP).1 (npL_p (L := [23]) (by decide) hprP).2.1 (ES.ex hp_14 (ES.fl (K := [26]) (Fr.tr (Fr.tr (Fr.tr (Fr.tr (Fr.tr Fr.rf F_23 (by decide)) F_38 (by decide)) F_53 (by decide)) F_68 (by decide)) F_83 (by decide)) (npL_p (L := [26]) (by decide) hprP).1 (npL_p (L := [26]) (by decide) hprP).2.1 (hq0_.fs ((hes_163 ()) h0))))), ((hs_149.trans (hs_124.trans ((F_83.1 23 (by decide) 2).trans ((F_68.1 23 (by decide) 2).trans ((F_53.1 23 (by decide) 2).trans ((F_38.1 23 (by decide) 2).trans ((F_23.1 23 (by decide) 2).trans ((F_11.1 23 (ni hprP (fun P => 23) (fun P => [P, P + 1]) rfl) 2).trans ((sv_n _ (by decide)).trans hP.symm)))))))))).trans hP, (hs_152.trans (hs_125.trans ((F_83.1 23 (by decide) 7).trans ((F_68.1 23 (by decide) 7).trans ((F_53.1 23 (by decide) 7).trans ((F_38.1 23 (by decide) 7).trans ((F_23.1 23 (by decide) 7).trans ((F_11.1 23 (ni hprP (fun P => 23) (fun P => [P, P + 1]) rfl) 7).trans (sv_n _ (by decide)))))))))), ((hs_153.trans (hs_126.trans ((F_83.1 23 (by decide) 8).trans ((F_68.1 23 (by decide) 8).trans ((F_53.1 23 (by decide) 8).trans ((F_38.1 23 (by decide) 8).trans ((F_23.1 23 (by decide) 8).trans ((F_11.1 23 (ni hprP (fun P => 23) (fun P => [P, P + 1]) rfl) 8).trans ((sv_n _ (by decide)).trans htt.symm)))))))))).trans htt, (hs_154.trans (hs_127.trans ((F_83.1 23 (by decide) 9).trans ((F_68.1 23 (by decide) 9).trans ((F_53.1 23 (by decide) 9).trans ((F_38.1 23 (by decide) 9).trans ((F_23.1 23 (by decide) 9).trans ((F_11.1 23 (ni hprP (fun P => 23) (fun P => [P, P + 1]) rfl) 9).trans (sv_n _ (by decide)))))))))), (hs_156.trans (hs_128.trans (hs_89.trans (hs_74.trans (hs_59.trans (hs_44.trans (hs_29.trans ((F_11.1 26 (ni hprP (fun P => 26) (fun P => [P, P + 1]) rfl) 6).trans (sv_n _ (fun h9 => absurd h9.1 (by decide))))))))))), (hs_157.trans (hs_129.trans ((F_83.1 P (ni hprP (fun P => P) (fun P => [26]) rfl) 7).trans ((F_68.1 P (ni hprP (fun P => P) (fun P => [26]) rfl) 7).trans ((F_53.1 P (ni hprP (fun P => P) (fun P => [26]) rfl) 7).trans ((F_38.1 P (ni hprP (fun P => P) (fun P => [26]) rfl) 7).trans ((F_23.1 P (ni hprP (fun P => P) (fun P => [26]) rfl) 7).trans (hs_16.trans (sv_n _ (by omega))))))))))⟩
            · refine lv_aload_n hx hb dX7_statement_121 rfl (lv_at hl 0 rfl) ?_
              have hsp_164 : ∀ _ : Unit, STP μ81 P tt := fun _ => (hsp_ ()).fr (K := [26]) (Fr.tr (Fr.tr (Fr.tr (Fr.tr (Fr.tr Fr.rf F_23 (by decide)) F_38 (by decide)) F_53 (by decide)) F_68 (by decide)) F_83 (by decide)) (npL_p (L := [26]) (by decide) hprP).1 (npL_p (L := [26]) (by decide) hprP).2.1
              have e_165 : μ81.1 23 2 = P := ((F_83.1 23 (by decide) 2).trans ((F_68.1 23 (by decide) 2).trans ((F_53.1 23 (by decide) 2).trans ((F_38.1 23 (by decide) 2).trans ((F_23.1 23 (by decide) 2).trans ((F_11.1 23 (ni hprP (fun P => 23) (fun P => [P, P + 1]) rfl) 2).trans ((sv_n _ (by decide)).trans hP.symm)))))))
              have e_166 : μ81.1 23 8 = tt := ((F_83.1 23 (by decide) 8).trans ((F_68.1 23 (by decide) 8).trans ((F_53.1 23 (by decide) 8).trans ((F_38.1 23 (by decide) 8).trans ((F_23.1 23 (by decide) 8).trans ((F_11.1 23 (ni hprP (fun P => 23) (fun P => [P, P + 1]) rfl) 8).trans ((sv_n _ (by decide)).trans htt.symm)))))))
              have e_167 : μ81.1 P 1 = (sv μ 23 10 (μ.1 26 13)).1 P 1 + 1 := ((F_83.1 P (ni hprP (fun P => P) (fun P => [26]) rfl) 1).trans ((F_68.1 P (ni hprP (fun P => P) (fun P => [26]) rfl) 1).trans ((F_53.1 P (ni hprP (fun P => P) (fun P => [26]) rfl) 1).trans ((F_38.1 P (ni hprP (fun P => P) (fun P => [26]) rfl) 1).trans ((F_23.1 P (ni hprP (fun P => P) (fun P => [26]) rfl) 1).trans hs_15)))))
              have e_168 : μ81.1 26 11 = μ.1 26 11 := (hs_88.trans (hs_73.trans (hs_58.trans (hs_43.trans (hs_28.trans ((F_11.1 26 (ni hprP (fun P => 26) (fun P => [P, P + 1]) rfl) 11).trans (sv_n _ (fun h9 => absurd h9.1 (by decide)))))))))
              have hk_169 := hI.row (r := P + 2) (hprP.row)
              unfold rk at hk_169
              have e_170 : μ81.1 (P + 2) 3 = μ.1 (P + 2) 3 := ((F_83.1 (P + 2) (ni hprP (fun P => P + 2) (fun P => [26]) rfl) 3).trans ((F_68.1 (P + 2) (ni hprP (fun P => P + 2) (fun P => [26]) rfl) 3).trans ((F_53.1 (P + 2) (ni hprP (fun P => P + 2) (fun P => [26]) rfl) 3).trans ((F_38.1 (P + 2) (ni hprP (fun P => P + 2) (fun P => [26]) rfl) 3).trans ((F_23.1 (P + 2) (ni hprP (fun P => P + 2) (fun P => [26]) rfl) 3).trans ((F_11.1 (P + 2) (ni hprP (fun P => P + 2) (fun P => [P, P + 1]) rfl) 3).trans (sv_n _ (by omega))))))))
              have e_171 : μ81.1 P 1 = (sv μ 23 10 (μ.1 26 13)).1 P 1 + 1 := ((F_83.1 P (ni hprP (fun P => P) (fun P => [26]) rfl) 1).trans ((F_68.1 P (ni hprP (fun P => P) (fun P => [26]) rfl) 1).trans ((F_53.1 P (ni hprP (fun P => P) (fun P => [26]) rfl) 1).trans ((F_38.1 P (ni hprP (fun P => P) (fun P => [26]) rfl) 1).trans ((F_23.1 P (ni hprP (fun P => P) (fun P => [26]) rfl) 1).trans hs_15)))))
              have e_172 : μ81.1 23 9 = μ.1 23 9 := ((F_83.1 23 (by decide) 9).trans ((F_68.1 23 (by decide) 9).trans ((F_53.1 23 (by decide) 9).trans ((F_38.1 23 (by decide) 9).trans ((F_23.1 23 (by decide) 9).trans ((F_11.1 23 (ni hprP (fun P => 23) (fun P => [P, P + 1]) rfl) 9).trans (sv_n _ (by decide))))))))
              have e_173 : μ81.1 23 9 = μ.1 23 9 := ((F_83.1 23 (by decide) 9).trans ((F_68.1 23 (by decide) 9).trans ((F_53.1 23 (by decide) 9).trans ((F_38.1 23 (by decide) 9).trans ((F_23.1 23 (by decide) 9).trans ((F_11.1 23 (ni hprP (fun P => 23) (fun P => [P, P + 1]) rfl) 9).trans (sv_n _ (by decide))))))))
              have e_174 : μ81.1 26 11 = μ.1 26 11 := (hs_88.trans (hs_73.trans (hs_58.trans (hs_43.trans (hs_28.trans ((F_11.1 26 (ni hprP (fun P => 26) (fun P => [P, P + 1]) rfl) 11).trans (sv_n _ (fun h9 => absurd h9.1 (by decide)))))))))
              have e_175 : μ81.1 26 11 = μ.1 26 11 := (hs_88.trans (hs_73.trans (hs_58.trans (hs_43.trans (hs_28.trans ((F_11.1 26 (ni hprP (fun P => 26) (fun P => [P, P + 1]) rfl) 11).trans (sv_n _ (fun h9 => absurd h9.1 (by decide)))))))))
              have e_176 : μ81.1 26 11 = μ.1 26 11 := (hs_88.trans (hs_73.trans (hs_58.trans (hs_43.trans (hs_28.trans ((F_11.1 26 (ni hprP (fun P => 26) (fun P => [P, P + 1]) rfl) 11).trans (sv_n _ (fun h9 => absurd h9.1 (by decide)))))))))
              have e_177 : μ81.1 P 1 = (sv μ 23 10 (μ.1 26 13)).1 P 1 + 1 := ((F_83.1 P (ni hprP (fun P => P) (fun P => [26]) rfl) 1).trans ((F_68.1 P (ni hprP (fun P => P) (fun P => [26]) rfl) 1).trans ((F_53.1 P (ni hprP (fun P => P) (fun P => [26]) rfl) 1).trans ((F_38.1 P (ni hprP (fun P => P) (fun P => [26]) rfl) 1).trans ((F_23.1 P (ni hprP (fun P => P) (fun P => [26]) rfl) 1).trans hs_15)))))
              have e_178 : μ81.1 P 1 = (sv μ 23 10 (μ.1 26 13)).1 P 1 + 1 := ((F_83.1 P (ni hprP (fun P => P) (fun P => [26]) rfl) 1).trans ((F_68.1 P (ni hprP (fun P => P) (fun P => [26]) rfl) 1).trans ((F_53.1 P (ni hprP (fun P => P) (fun P => [26]) rfl) 1).trans ((F_38.1 P (ni hprP (fun P => P) (fun P => [26]) rfl) 1).trans ((F_23.1 P (ni hprP (fun P => P) (fun P => [26]) rfl) 1).trans hs_15)))))
              have e_179 : μ81.1 (P + 2) 3 = μ.1 (P + 2) 3 := ((F_83.1 (P + 2) (ni hprP (fun P => P + 2) (fun P => [26]) rfl) 3).trans ((F_68.1 (P + 2) (ni hprP (fun P => P + 2) (fun P => [26]) rfl) 3).trans ((F_53.1 (P + 2) (ni hprP (fun P => P + 2) (fun P => [26]) rfl) 3).trans ((F_38.1 (P + 2) (ni hprP (fun P => P + 2) (fun P => [26]) rfl) 3).trans ((F_23.1 (P + 2) (ni hprP (fun P => P + 2) (fun P => [26]) rfl) 3).trans ((F_11.1 (P + 2) (ni hprP (fun P => P + 2) (fun P => [P, P + 1]) rfl) 3).trans (sv_n _ (by omega))))))))
              have e_180 : μ81.1 P 1 = (sv μ 23 10 (μ.1 26 13)).1 P 1 + 1 := ((F_83.1 P (ni hprP (fun P => P) (fun P => [26]) rfl) 1).trans ((F_68.1 P (ni hprP (fun P => P) (fun P => [26]) rfl) 1).trans ((F_53.1 P (ni hprP (fun P => P) (fun P => [26]) rfl) 1).trans ((F_38.1 P (ni hprP (fun P => P) (fun P => [26]) rfl) 1).trans ((F_23.1 P (ni hprP (fun P => P) (fun P => [26]) rfl) 1).trans hs_15)))))
              have e_181 : μ81.1 (P + 2) 3 = μ.1 (P + 2) 3 := ((F_83.1 (P + 2) (ni hprP (fun P => P + 2) (fun P => [26]) rfl) 3).trans ((F_68.1 (P + 2) (ni hprP (fun P => P + 2) (fun P => [26]) rfl) 3).trans ((F_53.1 (P + 2) (ni hprP (fun P => P + 2) (fun P => [26]) rfl) 3).trans ((F_38.1 (P + 2) (ni hprP (fun P => P + 2) (fun P => [26]) rfl) 3).trans ((F_23.1 (P + 2) (ni hprP (fun P => P + 2) (fun P => [26]) rfl) 3).trans ((F_11.1 (P + 2) (ni hprP (fun P => P + 2) (fun P => [P, P + 1]) rfl) 3).trans (sv_n _ (by omega))))))))
              refine xc_vV G (b := 23) (rest := []) (As := []) (c_X7_nameFirst ω l μ81 P tt hI_84 (by omega) (by omega) hp_85 (by omega) (by omega) (by omega) (by omega) (by omega) (by omega)) (wm 4 132 rfl rfl) (wm 4 134 rfl rfl) (wm 0 48 rfl rfl) rfl rfl (by decide) rfl (wm 1 12 rfl rfl) (wm 4 135 rfl rfl) (by decide) hR ⟨nfB hF (by decide), nlB hLo (by decide)⟩ (n := 0) rfl rfl (Nat.le_of_ble_eq_true rfl) hl.1 dX7_statement_122 (fun μ182 ρ d0 H locs hp G => ?_)
              obtain ⟨F_183, hI_184, hp_185, hp_186, hp_187, hp_188, hp_189, hp_190, hs_191, hs_192, hs_193, hs_194, hs_195, hs_196, hs_197, hs_198, hs_199⟩ := hp
              have hn_200 : -1 ≤ μ182.1 26 10 ∧ μ182.1 26 10 ≤ 3000 := hI_184.nm.2.2.2.2.2.2.2.2.2.2.2.2
              have hk_201 := hI_184.pr (p := P) hprP
              unfold pk at hk_201
              have hc_202 : 16 ≤ μ182.2.1 (P + 1) ∧ μ182.2.1 (P + 1) ≤ 73024 := hI_184.rm.1 _ hprP.cap
              have hk_203 := hI_184.row (r := P + 2) (hprP.row)
              unfold rk at hk_203
              have htb_204 := hp_185.b
              replace hp_190 := fun _ : Unit => hp_190
              have hes_205 : ∀ _ : Unit, μ182.1 26 11 = 0 → ES μ81 μ182 P tt (2 * (8 - μ.1 23 9)) := fun _ h0 => ES.oe (hsp_164 ()) (((hp_190 ()) h0).e rfl) (by have h8 : μ81.1 P 1 = (sv μ 23 10 (μ.1 26 13)).1 P 1 + 1 := ((F_83.1 P (ni hprP (fun P => P) (fun P => [26]) rfl) 1).trans ((F_68.1 P (ni hprP (fun P => P) (fun P => [26]) rfl) 1).trans ((F_53.1 P (ni hprP (fun P => P) (fun P => [26]) rfl) 1).trans ((F_38.1 P (ni hprP (fun P => P) (fun P => [26]) rfl) 1).trans ((F_23.1 P (ni hprP (fun P => P) (fun P => [26]) rfl) 1).trans hs_15))))); have h9 : μ182.1 P 1 = μ182.1 P 1 := rfl; omega) (by omega)
              refine lv_goto (tgt := 142) hx hb dX7_statement_125 (by decide) ?_
              clear hk_1 hc_2 hk_169 hk_201 hc_202 hk_203
              exact xr_v G hret hlk dX7_statement_142 ⟨(Fr.tr (Fr.tr (Fr.tr (Fr.tr (Fr.tr (Fr.tr (Fr.tr (Fr.put Fr.rf (si hprP (fun P => [23]) (fun P => [2, 3, 4, 23, 24, 25, 26, P, P + 1, P + 2, (P + 2) + 1, (P + 2) + 2, (P + 2) + 3]) rfl 23 (List.mem_singleton.2 rfl))) F_11 (si hprP (fun P => [P, P + 1]) (fun P => [2, 3, 4, 23, 24, 25, 26, P, P + 1, P + 2, (P + 2) + 1, (P + 2) + 2, (P + 2) + 3]) rfl)) F_23 (si hprP (fun P => [26]) (fun P => [2, 3, 4, 23, 24, 25, 26, P, P + 1, P + 2, (P + 2) + 1, (P + 2) + 2, (P + 2) + 3]) rfl)) F_38 (si hprP (fun P => [26]) (fun P => [2, 3, 4, 23, 24, 25, 26, P, P + 1, P + 2, (P + 2) + 1, (P + 2) + 2, (P + 2) + 3]) rfl)) F_53 (si hprP (fun P => [26]) (fun P => [2, 3, 4, 23, 24, 25, 26, P, P + 1, P + 2, (P + 2) + 1, (P + 2) + 2, (P + 2) + 3]) rfl)) F_68 (si hprP (fun P => [26]) (fun P => [2, 3, 4, 23, 24, 25, 26, P, P + 1, P + 2, (P + 2) + 1, (P + 2) + 2, (P + 2) + 3]) rfl)) F_83 (si hprP (fun P => [26]) (fun P => [2, 3, 4, 23, 24, 25, 26, P, P + 1, P + 2, (P + 2) + 1, (P + 2) + 2, (P + 2) + 3]) rfl)) F_183 (si hprP (fun P => [2, 3, 4, 23, 24, 26, P, P + 1, P + 2, (P + 2) + 1, (P + 2) + 2, (P + 2) + 3]) (fun P => [2, 3, 4, 23, 24, 25, 26, P, P + 1, P + 2, (P + 2) + 1, (P + 2) + 2, (P + 2) + 3]) rfl)), hI_184, hp_185, (by omega), (by omega), (by omega), (by omega), (fun h0 => EX.fl (L := [23]) hF9_ (npL_p (L := [23]) (by decide) hprP).1 (npL_p (L := [23]) (by decide) hprP).2.1 (ES.ex hp_14 (ES.fl (K := [26]) (Fr.tr (Fr.tr (Fr.tr (Fr.tr (Fr.tr Fr.rf F_23 (by decide)) F_38 (by decide)) F_53 (by decide)) F_68 (by decide)) F_83 (by decide)) (npL_p (L := [26]) (by decide) hprP).1 (npL_p (L := [26]) (by decide) hprP).2.1 ((hes_205 ()) h0)))), ((hs_191.trans ((F_83.1 23 (by decide) 2).trans ((F_68.1 23 (by decide) 2).trans ((F_53.1 23 (by decide) 2).trans ((F_38.1 23 (by decide) 2).trans ((F_23.1 23 (by decide) 2).trans ((F_11.1 23 (ni hprP (fun P => 23) (fun P => [P, P + 1]) rfl) 2).trans ((sv_n _ (by decide)).trans hP.symm))))))))).trans hP, (hs_194.trans ((F_83.1 23 (by decide) 7).trans ((F_68.1 23 (by decide) 7).trans ((F_53.1 23 (by decide) 7).trans ((F_38.1 23 (by decide) 7).trans ((F_23.1 23 (by decide) 7).trans ((F_11.1 23 (ni hprP (fun P => 23) (fun P => [P, P + 1]) rfl) 7).trans (sv_n _ (by decide))))))))), ((hs_195.trans ((F_83.1 23 (by decide) 8).trans ((F_68.1 23 (by decide) 8).trans ((F_53.1 23 (by decide) 8).trans ((F_38.1 23 (by decide) 8).trans ((F_23.1 23 (by decide) 8).trans ((F_11.1 23 (ni hprP (fun P => 23) (fun P => [P, P + 1]) rfl) 8).trans ((sv_n _ (by decide)).trans htt.symm))))))))).trans htt, (hs_196.trans ((F_83.1 23 (by decide) 9).trans ((F_68.1 23 (by decide) 9).trans ((F_53.1 23 (by decide) 9).trans ((F_38.1 23 (by decide) 9).trans ((F_23.1 23 (by decide) 9).trans ((F_11.1 23 (ni hprP (fun P => 23) (fun P => [P, P + 1]) rfl) 9).trans (sv_n _ (by decide))))))))), (hs_198.trans (hs_89.trans (hs_74.trans (hs_59.trans (hs_44.trans (hs_29.trans ((F_11.1 26 (ni hprP (fun P => 26) (fun P => [P, P + 1]) rfl) 6).trans (sv_n _ (fun h9 => absurd h9.1 (by decide)))))))))), (hs_199.trans ((F_83.1 P (ni hprP (fun P => P) (fun P => [26]) rfl) 7).trans ((F_68.1 P (ni hprP (fun P => P) (fun P => [26]) rfl) 7).trans ((F_53.1 P (ni hprP (fun P => P) (fun P => [26]) rfl) 7).trans ((F_38.1 P (ni hprP (fun P => P) (fun P => [26]) rfl) 7).trans ((F_23.1 P (ni hprP (fun P => P) (fun P => [26]) rfl) 7).trans (hs_16.trans (sv_n _ (by omega)))))))))⟩
          · refine lv_aload_n hx hb dX7_statement_100 rfl (lv_at hl 0 rfl) ?_
            refine lv_bipush (v := iv 22) hx hb dX7_statement_101 rfl ?_
            refine lv_iconst (v := iv 0) hx hb dX7_statement_103 rfl ?_
            have hsp_206 : ∀ _ : Unit, STP μ81 P tt := fun _ => (hsp_ ()).fr (K := [26]) (Fr.tr (Fr.tr (Fr.tr (Fr.tr (Fr.tr Fr.rf F_23 (by decide)) F_38 (by decide)) F_53 (by decide)) F_68 (by decide)) F_83 (by decide)) (npL_p (L := [26]) (by decide) hprP).1 (npL_p (L := [26]) (by decide) hprP).2.1
            have e_207 : μ81.1 23 2 = P := ((F_83.1 23 (by decide) 2).trans ((F_68.1 23 (by decide) 2).trans ((F_53.1 23 (by decide) 2).trans ((F_38.1 23 (by decide) 2).trans ((F_23.1 23 (by decide) 2).trans ((F_11.1 23 (ni hprP (fun P => 23) (fun P => [P, P + 1]) rfl) 2).trans ((sv_n _ (by decide)).trans hP.symm)))))))
            have e_208 : μ81.1 23 8 = tt := ((F_83.1 23 (by decide) 8).trans ((F_68.1 23 (by decide) 8).trans ((F_53.1 23 (by decide) 8).trans ((F_38.1 23 (by decide) 8).trans ((F_23.1 23 (by decide) 8).trans ((F_11.1 23 (ni hprP (fun P => 23) (fun P => [P, P + 1]) rfl) 8).trans ((sv_n _ (by decide)).trans htt.symm)))))))
            have e_209 : μ81.1 P 1 = (sv μ 23 10 (μ.1 26 13)).1 P 1 + 1 := ((F_83.1 P (ni hprP (fun P => P) (fun P => [26]) rfl) 1).trans ((F_68.1 P (ni hprP (fun P => P) (fun P => [26]) rfl) 1).trans ((F_53.1 P (ni hprP (fun P => P) (fun P => [26]) rfl) 1).trans ((F_38.1 P (ni hprP (fun P => P) (fun P => [26]) rfl) 1).trans ((F_23.1 P (ni hprP (fun P => P) (fun P => [26]) rfl) 1).trans hs_15)))))
            have e_210 : μ81.1 26 11 = μ.1 26 11 := (hs_88.trans (hs_73.trans (hs_58.trans (hs_43.trans (hs_28.trans ((F_11.1 26 (ni hprP (fun P => 26) (fun P => [P, P + 1]) rfl) 11).trans (sv_n _ (fun h9 => absurd h9.1 (by decide)))))))))
            have hk_211 := hI.row (r := P + 2) (hprP.row)
            unfold rk at hk_211
            have e_212 : μ81.1 (P + 2) 3 = μ.1 (P + 2) 3 := ((F_83.1 (P + 2) (ni hprP (fun P => P + 2) (fun P => [26]) rfl) 3).trans ((F_68.1 (P + 2) (ni hprP (fun P => P + 2) (fun P => [26]) rfl) 3).trans ((F_53.1 (P + 2) (ni hprP (fun P => P + 2) (fun P => [26]) rfl) 3).trans ((F_38.1 (P + 2) (ni hprP (fun P => P + 2) (fun P => [26]) rfl) 3).trans ((F_23.1 (P + 2) (ni hprP (fun P => P + 2) (fun P => [26]) rfl) 3).trans ((F_11.1 (P + 2) (ni hprP (fun P => P + 2) (fun P => [P, P + 1]) rfl) 3).trans (sv_n _ (by omega))))))))
            have e_213 : μ81.1 P 1 = (sv μ 23 10 (μ.1 26 13)).1 P 1 + 1 := ((F_83.1 P (ni hprP (fun P => P) (fun P => [26]) rfl) 1).trans ((F_68.1 P (ni hprP (fun P => P) (fun P => [26]) rfl) 1).trans ((F_53.1 P (ni hprP (fun P => P) (fun P => [26]) rfl) 1).trans ((F_38.1 P (ni hprP (fun P => P) (fun P => [26]) rfl) 1).trans ((F_23.1 P (ni hprP (fun P => P) (fun P => [26]) rfl) 1).trans hs_15)))))
            have e_214 : μ81.1 23 9 = μ.1 23 9 := ((F_83.1 23 (by decide) 9).trans ((F_68.1 23 (by decide) 9).trans ((F_53.1 23 (by decide) 9).trans ((F_38.1 23 (by decide) 9).trans ((F_23.1 23 (by decide) 9).trans ((F_11.1 23 (ni hprP (fun P => 23) (fun P => [P, P + 1]) rfl) 9).trans (sv_n _ (by decide))))))))
            have e_215 : μ81.1 23 9 = μ.1 23 9 := ((F_83.1 23 (by decide) 9).trans ((F_68.1 23 (by decide) 9).trans ((F_53.1 23 (by decide) 9).trans ((F_38.1 23 (by decide) 9).trans ((F_23.1 23 (by decide) 9).trans ((F_11.1 23 (ni hprP (fun P => 23) (fun P => [P, P + 1]) rfl) 9).trans (sv_n _ (by decide))))))))
            have e_216 : μ81.1 26 11 = μ.1 26 11 := (hs_88.trans (hs_73.trans (hs_58.trans (hs_43.trans (hs_28.trans ((F_11.1 26 (ni hprP (fun P => 26) (fun P => [P, P + 1]) rfl) 11).trans (sv_n _ (fun h9 => absurd h9.1 (by decide)))))))))
            have e_217 : μ81.1 26 11 = μ.1 26 11 := (hs_88.trans (hs_73.trans (hs_58.trans (hs_43.trans (hs_28.trans ((F_11.1 26 (ni hprP (fun P => 26) (fun P => [P, P + 1]) rfl) 11).trans (sv_n _ (fun h9 => absurd h9.1 (by decide)))))))))
            have e_218 : μ81.1 P 1 = (sv μ 23 10 (μ.1 26 13)).1 P 1 + 1 := ((F_83.1 P (ni hprP (fun P => P) (fun P => [26]) rfl) 1).trans ((F_68.1 P (ni hprP (fun P => P) (fun P => [26]) rfl) 1).trans ((F_53.1 P (ni hprP (fun P => P) (fun P => [26]) rfl) 1).trans ((F_38.1 P (ni hprP (fun P => P) (fun P => [26]) rfl) 1).trans ((F_23.1 P (ni hprP (fun P => P) (fun P => [26]) rfl) 1).trans hs_15)))))
            have e_219 : μ81.1 P 1 = (sv μ 23 10 (μ.1 26 13)).1 P 1 + 1 := ((F_83.1 P (ni hprP (fun P => P) (fun P => [26]) rfl) 1).trans ((F_68.1 P (ni hprP (fun P => P) (fun P => [26]) rfl) 1).trans ((F_53.1 P (ni hprP (fun P => P) (fun P => [26]) rfl) 1).trans ((F_38.1 P (ni hprP (fun P => P) (fun P => [26]) rfl) 1).trans ((F_23.1 P (ni hprP (fun P => P) (fun P => [26]) rfl) 1).trans hs_15)))))
            have e_220 : μ81.1 26 11 = μ.1 26 11 := (hs_88.trans (hs_73.trans (hs_58.trans (hs_43.trans (hs_28.trans ((F_11.1 26 (ni hprP (fun P => 26) (fun P => [P, P + 1]) rfl) 11).trans (sv_n _ (fun h9 => absurd h9.1 (by decide)))))))))
            have e_221 : μ81.1 (P + 2) 3 = μ.1 (P + 2) 3 := ((F_83.1 (P + 2) (ni hprP (fun P => P + 2) (fun P => [26]) rfl) 3).trans ((F_68.1 (P + 2) (ni hprP (fun P => P + 2) (fun P => [26]) rfl) 3).trans ((F_53.1 (P + 2) (ni hprP (fun P => P + 2) (fun P => [26]) rfl) 3).trans ((F_38.1 (P + 2) (ni hprP (fun P => P + 2) (fun P => [26]) rfl) 3).trans ((F_23.1 (P + 2) (ni hprP (fun P => P + 2) (fun P => [26]) rfl) 3).trans ((F_11.1 (P + 2) (ni hprP (fun P => P + 2) (fun P => [P, P + 1]) rfl) 3).trans (sv_n _ (by omega))))))))
            have e_222 : μ81.1 P 1 = (sv μ 23 10 (μ.1 26 13)).1 P 1 + 1 := ((F_83.1 P (ni hprP (fun P => P) (fun P => [26]) rfl) 1).trans ((F_68.1 P (ni hprP (fun P => P) (fun P => [26]) rfl) 1).trans ((F_53.1 P (ni hprP (fun P => P) (fun P => [26]) rfl) 1).trans ((F_38.1 P (ni hprP (fun P => P) (fun P => [26]) rfl) 1).trans ((F_23.1 P (ni hprP (fun P => P) (fun P => [26]) rfl) 1).trans hs_15)))))
            have e_223 : μ81.1 (P + 2) 3 = μ.1 (P + 2) 3 := ((F_83.1 (P + 2) (ni hprP (fun P => P + 2) (fun P => [26]) rfl) 3).trans ((F_68.1 (P + 2) (ni hprP (fun P => P + 2) (fun P => [26]) rfl) 3).trans ((F_53.1 (P + 2) (ni hprP (fun P => P + 2) (fun P => [26]) rfl) 3).trans ((F_38.1 (P + 2) (ni hprP (fun P => P + 2) (fun P => [26]) rfl) 3).trans ((F_23.1 (P + 2) (ni hprP (fun P => P + 2) (fun P => [26]) rfl) 3).trans ((F_11.1 (P + 2) (ni hprP (fun P => P + 2) (fun P => [P, P + 1]) rfl) 3).trans (sv_n _ (by omega))))))))
            refine xc_vV G (b := 23) (rest := []) (As := [.int (iv 22), .int (iv 0)]) (c_X7_withExpression ω l μ81 22 0 P tt (by unfold ir; omega) (by unfold ir; omega) hI_84 (by omega) (by omega) hp_85 (by omega) (by omega) (by omega) (by omega) (Or.inl (by unfold plain; omega)) (fun _ => by rw [show eff 22 0 = -1 from rfl]; have h9 := (hsp_206 ()).h.1; omega)) (wm 3 239 rfl rfl) (wm 4 1 rfl rfl) (wm 0 23 rfl rfl) rfl rfl (by decide) rfl (wm 1 12 rfl rfl) (wm 4 2 rfl rfl) (by decide) hR ⟨nfB hF (by decide), nlB hLo (by decide)⟩ (n := 2) rfl rfl (Nat.le_of_ble_eq_true rfl) hl.1 dX7_statement_104 (fun μ224 ρ d0 H locs hp G => ?_)
            obtain ⟨F_225, hI_226, hp_227, hp_228, hp_229, hp_230, hp_231, hp_232, hs_233, hs_234, hs_235, hs_236, hs_237, hs_238, hs_239, hs_240, hs_241⟩ := hp
            have hn_242 : -1 ≤ μ224.1 26 10 ∧ μ224.1 26 10 ≤ 3000 := hI_226.nm.2.2.2.2.2.2.2.2.2.2.2.2
            have hk_243 := hI_226.pr (p := P) hprP
            unfold pk at hk_243
            have hc_244 : 16 ≤ μ224.2.1 (P + 1) ∧ μ224.2.1 (P + 1) ≤ 73024 := hI_226.rm.1 _ hprP.cap
            have hk_245 := hI_226.row (r := P + 2) (hprP.row)
            unfold rk at hk_245
            have htb_246 := hp_227.b
            replace hp_232 := fun _ : Unit => hp_232
            have hes_247 : ∀ _ : Unit, μ224.1 26 11 = 0 → ES μ81 μ224 P tt (2 * (8 - μ.1 23 9)) := fun _ h0 => ES.oe (hsp_206 ()) (((hp_232 ()) h0).e rfl) (by have h8 : μ81.1 P 1 = (sv μ 23 10 (μ.1 26 13)).1 P 1 + 1 := ((F_83.1 P (ni hprP (fun P => P) (fun P => [26]) rfl) 1).trans ((F_68.1 P (ni hprP (fun P => P) (fun P => [26]) rfl) 1).trans ((F_53.1 P (ni hprP (fun P => P) (fun P => [26]) rfl) 1).trans ((F_38.1 P (ni hprP (fun P => P) (fun P => [26]) rfl) 1).trans ((F_23.1 P (ni hprP (fun P => P) (fun P => [26]) rfl) 1).trans hs_15))))); have h9 : μ224.1 P 1 = μ224.1 P 1 := rfl; omega) (by omega)
            refine lv_goto (tgt := 142) hx hb dX7_statement_107 (by decide) ?_
            clear hk_1 hc_2 hk_211 hk_243 hc_244 hk_245
            exact xr_v G hret hlk dX7_statement_142 ⟨(Fr.tr (Fr.tr (Fr.tr (Fr.tr (Fr.tr (Fr.tr (Fr.tr (Fr.put Fr.rf (si hprP (fun P => [23]) (fun P => [2, 3, 4, 23, 24, 25, 26, P, P + 1, P + 2, (P + 2) + 1, (P + 2) + 2, (P + 2) + 3]) rfl 23 (List.mem_singleton.2 rfl))) F_11 (si hprP (fun P => [P, P + 1]) (fun P => [2, 3, 4, 23, 24, 25, 26, P, P + 1, P + 2, (P + 2) + 1, (P + 2) + 2, (P + 2) + 3]) rfl)) F_23 (si hprP (fun P => [26]) (fun P => [2, 3, 4, 23, 24, 25, 26, P, P + 1, P + 2, (P + 2) + 1, (P + 2) + 2, (P + 2) + 3]) rfl)) F_38 (si hprP (fun P => [26]) (fun P => [2, 3, 4, 23, 24, 25, 26, P, P + 1, P + 2, (P + 2) + 1, (P + 2) + 2, (P + 2) + 3]) rfl)) F_53 (si hprP (fun P => [26]) (fun P => [2, 3, 4, 23, 24, 25, 26, P, P + 1, P + 2, (P + 2) + 1, (P + 2) + 2, (P + 2) + 3]) rfl)) F_68 (si hprP (fun P => [26]) (fun P => [2, 3, 4, 23, 24, 25, 26, P, P + 1, P + 2, (P + 2) + 1, (P + 2) + 2, (P + 2) + 3]) rfl)) F_83 (si hprP (fun P => [26]) (fun P => [2, 3, 4, 23, 24, 25, 26, P, P + 1, P + 2, (P + 2) + 1, (P + 2) + 2, (P + 2) + 3]) rfl)) F_225 (si hprP (fun P => [2, 3, 4, 23, 24, 26, P, P + 1, P + 2, (P + 2) + 1, (P + 2) + 2, (P + 2) + 3]) (fun P => [2, 3, 4, 23, 24, 25, 26, P, P + 1, P + 2, (P + 2) + 1, (P + 2) + 2, (P + 2) + 3]) rfl)), hI_226, hp_227, (by omega), (by omega), (by omega), (by omega), (fun h0 => EX.fl (L := [23]) hF9_ (npL_p (L := [23]) (by decide) hprP).1 (npL_p (L := [23]) (by decide) hprP).2.1 (ES.ex hp_14 (ES.fl (K := [26]) (Fr.tr (Fr.tr (Fr.tr (Fr.tr (Fr.tr Fr.rf F_23 (by decide)) F_38 (by decide)) F_53 (by decide)) F_68 (by decide)) F_83 (by decide)) (npL_p (L := [26]) (by decide) hprP).1 (npL_p (L := [26]) (by decide) hprP).2.1 ((hes_247 ()) h0)))), ((hs_233.trans ((F_83.1 23 (by decide) 2).trans ((F_68.1 23 (by decide) 2).trans ((F_53.1 23 (by decide) 2).trans ((F_38.1 23 (by decide) 2).trans ((F_23.1 23 (by decide) 2).trans ((F_11.1 23 (ni hprP (fun P => 23) (fun P => [P, P + 1]) rfl) 2).trans ((sv_n _ (by decide)).trans hP.symm))))))))).trans hP, (hs_236.trans ((F_83.1 23 (by decide) 7).trans ((F_68.1 23 (by decide) 7).trans ((F_53.1 23 (by decide) 7).trans ((F_38.1 23 (by decide) 7).trans ((F_23.1 23 (by decide) 7).trans ((F_11.1 23 (ni hprP (fun P => 23) (fun P => [P, P + 1]) rfl) 7).trans (sv_n _ (by decide))))))))), ((hs_237.trans ((F_83.1 23 (by decide) 8).trans ((F_68.1 23 (by decide) 8).trans ((F_53.1 23 (by decide) 8).trans ((F_38.1 23 (by decide) 8).trans ((F_23.1 23 (by decide) 8).trans ((F_11.1 23 (ni hprP (fun P => 23) (fun P => [P, P + 1]) rfl) 8).trans ((sv_n _ (by decide)).trans htt.symm))))))))).trans htt, (hs_238.trans ((F_83.1 23 (by decide) 9).trans ((F_68.1 23 (by decide) 9).trans ((F_53.1 23 (by decide) 9).trans ((F_38.1 23 (by decide) 9).trans ((F_23.1 23 (by decide) 9).trans ((F_11.1 23 (ni hprP (fun P => 23) (fun P => [P, P + 1]) rfl) 9).trans (sv_n _ (by decide))))))))), (hs_240.trans (hs_89.trans (hs_74.trans (hs_59.trans (hs_44.trans (hs_29.trans ((F_11.1 26 (ni hprP (fun P => 26) (fun P => [P, P + 1]) rfl) 6).trans (sv_n _ (fun h9 => absurd h9.1 (by decide)))))))))), (hs_241.trans ((F_83.1 P (ni hprP (fun P => P) (fun P => [26]) rfl) 7).trans ((F_68.1 P (ni hprP (fun P => P) (fun P => [26]) rfl) 7).trans ((F_53.1 P (ni hprP (fun P => P) (fun P => [26]) rfl) 7).trans ((F_38.1 P (ni hprP (fun P => P) (fun P => [26]) rfl) 7).trans ((F_23.1 P (ni hprP (fun P => P) (fun P => [26]) rfl) 7).trans (hs_16.trans (sv_n _ (by omega)))))))))⟩
        · refine lv_aload_n hx hb dX7_statement_80 rfl (lv_at hl 0 rfl) ?_
          refine lv_bipush (v := iv 21) hx hb dX7_statement_81 rfl ?_
          refine lv_iconst (v := iv 0) hx hb dX7_statement_83 rfl ?_
          have hsp_248 : ∀ _ : Unit, STP μ66 P tt := fun _ => (hsp_ ()).fr (K := [26]) (Fr.tr (Fr.tr (Fr.tr (Fr.tr Fr.rf F_23 (by decide)) F_38 (by decide)) F_53 (by decide)) F_68 (by decide)) (npL_p (L := [26]) (by decide) hprP).1 (npL_p (L := [26]) (by decide) hprP).2.1
          have e_249 : μ66.1 23 2 = P := ((F_68.1 23 (by decide) 2).trans ((F_53.1 23 (by decide) 2).trans ((F_38.1 23 (by decide) 2).trans ((F_23.1 23 (by decide) 2).trans ((F_11.1 23 (ni hprP (fun P => 23) (fun P => [P, P + 1]) rfl) 2).trans ((sv_n _ (by decide)).trans hP.symm))))))
          have e_250 : μ66.1 23 8 = tt := ((F_68.1 23 (by decide) 8).trans ((F_53.1 23 (by decide) 8).trans ((F_38.1 23 (by decide) 8).trans ((F_23.1 23 (by decide) 8).trans ((F_11.1 23 (ni hprP (fun P => 23) (fun P => [P, P + 1]) rfl) 8).trans ((sv_n _ (by decide)).trans htt.symm))))))
          have e_251 : μ66.1 P 1 = (sv μ 23 10 (μ.1 26 13)).1 P 1 + 1 := ((F_68.1 P (ni hprP (fun P => P) (fun P => [26]) rfl) 1).trans ((F_53.1 P (ni hprP (fun P => P) (fun P => [26]) rfl) 1).trans ((F_38.1 P (ni hprP (fun P => P) (fun P => [26]) rfl) 1).trans ((F_23.1 P (ni hprP (fun P => P) (fun P => [26]) rfl) 1).trans hs_15))))
          have e_252 : μ66.1 26 11 = μ.1 26 11 := (hs_73.trans (hs_58.trans (hs_43.trans (hs_28.trans ((F_11.1 26 (ni hprP (fun P => 26) (fun P => [P, P + 1]) rfl) 11).trans (sv_n _ (fun h9 => absurd h9.1 (by decide))))))))
          have hk_253 := hI.row (r := P + 2) (hprP.row)
          unfold rk at hk_253
          have e_254 : μ66.1 (P + 2) 3 = μ.1 (P + 2) 3 := ((F_68.1 (P + 2) (ni hprP (fun P => P + 2) (fun P => [26]) rfl) 3).trans ((F_53.1 (P + 2) (ni hprP (fun P => P + 2) (fun P => [26]) rfl) 3).trans ((F_38.1 (P + 2) (ni hprP (fun P => P + 2) (fun P => [26]) rfl) 3).trans ((F_23.1 (P + 2) (ni hprP (fun P => P + 2) (fun P => [26]) rfl) 3).trans ((F_11.1 (P + 2) (ni hprP (fun P => P + 2) (fun P => [P, P + 1]) rfl) 3).trans (sv_n _ (by omega)))))))
          have e_255 : μ66.1 P 1 = (sv μ 23 10 (μ.1 26 13)).1 P 1 + 1 := ((F_68.1 P (ni hprP (fun P => P) (fun P => [26]) rfl) 1).trans ((F_53.1 P (ni hprP (fun P => P) (fun P => [26]) rfl) 1).trans ((F_38.1 P (ni hprP (fun P => P) (fun P => [26]) rfl) 1).trans ((F_23.1 P (ni hprP (fun P => P) (fun P => [26]) rfl) 1).trans hs_15))))
          have e_256 : μ66.1 23 9 = μ.1 23 9 := ((F_68.1 23 (by decide) 9).trans ((F_53.1 23 (by decide) 9).trans ((F_38.1 23 (by decide) 9).trans ((F_23.1 23 (by decide) 9).trans ((F_11.1 23 (ni hprP (fun P => 23) (fun P => [P, P + 1]) rfl) 9).trans (sv_n _ (by decide)))))))
          have e_257 : μ66.1 23 9 = μ.1 23 9 := ((F_68.1 23 (by decide) 9).trans ((F_53.1 23 (by decide) 9).trans ((F_38.1 23 (by decide) 9).trans ((F_23.1 23 (by decide) 9).trans ((F_11.1 23 (ni hprP (fun P => 23) (fun P => [P, P + 1]) rfl) 9).trans (sv_n _ (by decide)))))))
          have e_258 : μ66.1 26 11 = μ.1 26 11 := (hs_73.trans (hs_58.trans (hs_43.trans (hs_28.trans ((F_11.1 26 (ni hprP (fun P => 26) (fun P => [P, P + 1]) rfl) 11).trans (sv_n _ (fun h9 => absurd h9.1 (by decide))))))))
          have e_259 : μ66.1 26 11 = μ.1 26 11 := (hs_73.trans (hs_58.trans (hs_43.trans (hs_28.trans ((F_11.1 26 (ni hprP (fun P => 26) (fun P => [P, P + 1]) rfl) 11).trans (sv_n _ (fun h9 => absurd h9.1 (by decide))))))))
          have e_260 : μ66.1 P 1 = (sv μ 23 10 (μ.1 26 13)).1 P 1 + 1 := ((F_68.1 P (ni hprP (fun P => P) (fun P => [26]) rfl) 1).trans ((F_53.1 P (ni hprP (fun P => P) (fun P => [26]) rfl) 1).trans ((F_38.1 P (ni hprP (fun P => P) (fun P => [26]) rfl) 1).trans ((F_23.1 P (ni hprP (fun P => P) (fun P => [26]) rfl) 1).trans hs_15))))
          have e_261 : μ66.1 P 1 = (sv μ 23 10 (μ.1 26 13)).1 P 1 + 1 := ((F_68.1 P (ni hprP (fun P => P) (fun P => [26]) rfl) 1).trans ((F_53.1 P (ni hprP (fun P => P) (fun P => [26]) rfl) 1).trans ((F_38.1 P (ni hprP (fun P => P) (fun P => [26]) rfl) 1).trans ((F_23.1 P (ni hprP (fun P => P) (fun P => [26]) rfl) 1).trans hs_15))))
          have e_262 : μ66.1 26 11 = μ.1 26 11 := (hs_73.trans (hs_58.trans (hs_43.trans (hs_28.trans ((F_11.1 26 (ni hprP (fun P => 26) (fun P => [P, P + 1]) rfl) 11).trans (sv_n _ (fun h9 => absurd h9.1 (by decide))))))))
          have e_263 : μ66.1 (P + 2) 3 = μ.1 (P + 2) 3 := ((F_68.1 (P + 2) (ni hprP (fun P => P + 2) (fun P => [26]) rfl) 3).trans ((F_53.1 (P + 2) (ni hprP (fun P => P + 2) (fun P => [26]) rfl) 3).trans ((F_38.1 (P + 2) (ni hprP (fun P => P + 2) (fun P => [26]) rfl) 3).trans ((F_23.1 (P + 2) (ni hprP (fun P => P + 2) (fun P => [26]) rfl) 3).trans ((F_11.1 (P + 2) (ni hprP (fun P => P + 2) (fun P => [P, P + 1]) rfl) 3).trans (sv_n _ (by omega)))))))
          have e_264 : μ66.1 P 1 = (sv μ 23 10 (μ.1 26 13)).1 P 1 + 1 := ((F_68.1 P (ni hprP (fun P => P) (fun P => [26]) rfl) 1).trans ((F_53.1 P (ni hprP (fun P => P) (fun P => [26]) rfl) 1).trans ((F_38.1 P (ni hprP (fun P => P) (fun P => [26]) rfl) 1).trans ((F_23.1 P (ni hprP (fun P => P) (fun P => [26]) rfl) 1).trans hs_15))))
          have e_265 : μ66.1 (P + 2) 3 = μ.1 (P + 2) 3 := ((F_68.1 (P + 2) (ni hprP (fun P => P + 2) (fun P => [26]) rfl) 3).trans ((F_53.1 (P + 2) (ni hprP (fun P => P + 2) (fun P => [26]) rfl) 3).trans ((F_38.1 (P + 2) (ni hprP (fun P => P + 2) (fun P => [26]) rfl) 3).trans ((F_23.1 (P + 2) (ni hprP (fun P => P + 2) (fun P => [26]) rfl) 3).trans ((F_11.1 (P + 2) (ni hprP (fun P => P + 2) (fun P => [P, P + 1]) rfl) 3).trans (sv_n _ (by omega)))))))
          refine xc_vV G (b := 23) (rest := []) (As := [.int (iv 21), .int (iv 0)]) (c_X7_withExpression ω l μ66 21 0 P tt (by unfold ir; omega) (by unfold ir; omega) hI_69 (by omega) (by omega) hp_70 (by omega) (by omega) (by omega) (by omega) (Or.inl (by unfold plain; omega)) (fun _ => by rw [show eff 21 0 = -1 from rfl]; have h9 := (hsp_248 ()).h.1; omega)) (wm 3 239 rfl rfl) (wm 4 1 rfl rfl) (wm 0 23 rfl rfl) rfl rfl (by decide) rfl (wm 1 12 rfl rfl) (wm 4 2 rfl rfl) (by decide) hR ⟨nfB hF (by decide), nlB hLo (by decide)⟩ (n := 2) rfl rfl (Nat.le_of_ble_eq_true rfl) hl.1 dX7_statement_84 (fun μ266 ρ d0 H locs hp G => ?_)
          obtain ⟨F_267, hI_268, hp_269, hp_270, hp_271, hp_272, hp_273, hp_274, hs_275, hs_276, hs_277, hs_278, hs_279, hs_280, hs_281, hs_282, hs_283⟩ := hp
          have hn_284 : -1 ≤ μ266.1 26 10 ∧ μ266.1 26 10 ≤ 3000 := hI_268.nm.2.2.2.2.2.2.2.2.2.2.2.2
          have hk_285 := hI_268.pr (p := P) hprP
          unfold pk at hk_285
          have hc_286 : 16 ≤ μ266.2.1 (P + 1) ∧ μ266.2.1 (P + 1) ≤ 73024 := hI_268.rm.1 _ hprP.cap
          have hk_287 := hI_268.row (r := P + 2) (hprP.row)
          unfold rk at hk_287
          have htb_288 := hp_269.b
          replace hp_274 := fun _ : Unit => hp_274
          have hes_289 : ∀ _ : Unit, μ266.1 26 11 = 0 → ES μ66 μ266 P tt (2 * (8 - μ.1 23 9)) := fun _ h0 => ES.oe (hsp_248 ()) (((hp_274 ()) h0).e rfl) (by have h8 : μ66.1 P 1 = (sv μ 23 10 (μ.1 26 13)).1 P 1 + 1 := ((F_68.1 P (ni hprP (fun P => P) (fun P => [26]) rfl) 1).trans ((F_53.1 P (ni hprP (fun P => P) (fun P => [26]) rfl) 1).trans ((F_38.1 P (ni hprP (fun P => P) (fun P => [26]) rfl) 1).trans ((F_23.1 P (ni hprP (fun P => P) (fun P => [26]) rfl) 1).trans hs_15)))); have h9 : μ266.1 P 1 = μ266.1 P 1 := rfl; omega) (by omega)
          refine lv_goto (tgt := 142) hx hb dX7_statement_87 (by decide) ?_
          clear hk_1 hc_2 hk_253 hk_285 hc_286 hk_287
          exact xr_v G hret hlk dX7_statement_142 ⟨(Fr.tr (Fr.tr (Fr.tr (Fr.tr (Fr.tr (Fr.tr (Fr.put Fr.rf (si hprP (fun P => [23]) (fun P => [2, 3, 4, 23, 24, 25, 26, P, P + 1, P + 2, (P + 2) + 1, (P + 2) + 2, (P + 2) + 3]) rfl 23 (List.mem_singleton.2 rfl))) F_11 (si hprP (fun P => [P, P + 1]) (fun P => [2, 3, 4, 23, 24, 25, 26, P, P + 1, P + 2, (P + 2) + 1, (P + 2) + 2, (P + 2) + 3]) rfl)) F_23 (si hprP (fun P => [26]) (fun P => [2, 3, 4, 23, 24, 25, 26, P, P + 1, P + 2, (P + 2) + 1, (P + 2) + 2, (P + 2) + 3]) rfl)) F_38 (si hprP (fun P => [26]) (fun P => [2, 3, 4, 23, 24, 25, 26, P, P + 1, P + 2, (P + 2) + 1, (P + 2) + 2, (P + 2) + 3]) rfl)) F_53 (si hprP (fun P => [26]) (fun P => [2, 3, 4, 23, 24, 25, 26, P, P + 1, P + 2, (P + 2) + 1, (P + 2) + 2, (P + 2) + 3]) rfl)) F_68 (si hprP (fun P => [26]) (fun P => [2, 3, 4, 23, 24, 25, 26, P, P + 1, P + 2, (P + 2) + 1, (P + 2) + 2, (P + 2) + 3]) rfl)) F_267 (si hprP (fun P => [2, 3, 4, 23, 24, 26, P, P + 1, P + 2, (P + 2) + 1, (P + 2) + 2, (P + 2) + 3]) (fun P => [2, 3, 4, 23, 24, 25, 26, P, P + 1, P + 2, (P + 2) + 1, (P + 2) + 2, (P + 2) + 3]) rfl)), hI_268, hp_269, (by omega), (by omega), (by omega), (by omega), (fun h0 => EX.fl (L := [23]) hF9_ (npL_p (L := [23]) (by decide) hprP).1 (npL_p (L := [23]) (by decide) hprP).2.1 (ES.ex hp_14 (ES.fl (K := [26]) (Fr.tr (Fr.tr (Fr.tr (Fr.tr Fr.rf F_23 (by decide)) F_38 (by decide)) F_53 (by decide)) F_68 (by decide)) (npL_p (L := [26]) (by decide) hprP).1 (npL_p (L := [26]) (by decide) hprP).2.1 ((hes_289 ()) h0)))), ((hs_275.trans ((F_68.1 23 (by decide) 2).trans ((F_53.1 23 (by decide) 2).trans ((F_38.1 23 (by decide) 2).trans ((F_23.1 23 (by decide) 2).trans ((F_11.1 23 (ni hprP (fun P => 23) (fun P => [P, P + 1]) rfl) 2).trans ((sv_n _ (by decide)).trans hP.symm)))))))).trans hP, (hs_278.trans ((F_68.1 23 (by decide) 7).trans ((F_53.1 23 (by decide) 7).trans ((F_38.1 23 (by decide) 7).trans ((F_23.1 23 (by decide) 7).trans ((F_11.1 23 (ni hprP (fun P => 23) (fun P => [P, P + 1]) rfl) 7).trans (sv_n _ (by decide)))))))), ((hs_279.trans ((F_68.1 23 (by decide) 8).trans ((F_53.1 23 (by decide) 8).trans ((F_38.1 23 (by decide) 8).trans ((F_23.1 23 (by decide) 8).trans ((F_11.1 23 (ni hprP (fun P => 23) (fun P => [P, P + 1]) rfl) 8).trans ((sv_n _ (by decide)).trans htt.symm)))))))).trans htt, (hs_280.trans ((F_68.1 23 (by decide) 9).trans ((F_53.1 23 (by decide) 9).trans ((F_38.1 23 (by decide) 9).trans ((F_23.1 23 (by decide) 9).trans ((F_11.1 23 (ni hprP (fun P => 23) (fun P => [P, P + 1]) rfl) 9).trans (sv_n _ (by decide)))))))), (hs_282.trans (hs_74.trans (hs_59.trans (hs_44.trans (hs_29.trans ((F_11.1 26 (ni hprP (fun P => 26) (fun P => [P, P + 1]) rfl) 6).trans (sv_n _ (fun h9 => absurd h9.1 (by decide))))))))), (hs_283.trans ((F_68.1 P (ni hprP (fun P => P) (fun P => [26]) rfl) 7).trans ((F_53.1 P (ni hprP (fun P => P) (fun P => [26]) rfl) 7).trans ((F_38.1 P (ni hprP (fun P => P) (fun P => [26]) rfl) 7).trans ((F_23.1 P (ni hprP (fun P => P) (fun P => [26]) rfl) 7).trans (hs_16.trans (sv_n _ (by omega))))))))⟩
      · refine lv_aload_n hx hb dX7_statement_63 rfl (lv_at hl 0 rfl) ?_
        have hsp_290 : ∀ _ : Unit, STP μ51 P tt := fun _ => (hsp_ ()).fr (K := [26]) (Fr.tr (Fr.tr (Fr.tr Fr.rf F_23 (by decide)) F_38 (by decide)) F_53 (by decide)) (npL_p (L := [26]) (by decide) hprP).1 (npL_p (L := [26]) (by decide) hprP).2.1
        have e_291 : μ51.1 23 2 = P := ((F_53.1 23 (by decide) 2).trans ((F_38.1 23 (by decide) 2).trans ((F_23.1 23 (by decide) 2).trans ((F_11.1 23 (ni hprP (fun P => 23) (fun P => [P, P + 1]) rfl) 2).trans ((sv_n _ (by decide)).trans hP.symm)))))
        have e_292 : μ51.1 23 8 = tt := ((F_53.1 23 (by decide) 8).trans ((F_38.1 23 (by decide) 8).trans ((F_23.1 23 (by decide) 8).trans ((F_11.1 23 (ni hprP (fun P => 23) (fun P => [P, P + 1]) rfl) 8).trans ((sv_n _ (by decide)).trans htt.symm)))))
        have e_293 : μ51.1 P 1 = (sv μ 23 10 (μ.1 26 13)).1 P 1 + 1 := ((F_53.1 P (ni hprP (fun P => P) (fun P => [26]) rfl) 1).trans ((F_38.1 P (ni hprP (fun P => P) (fun P => [26]) rfl) 1).trans ((F_23.1 P (ni hprP (fun P => P) (fun P => [26]) rfl) 1).trans hs_15)))
        have e_294 : μ51.1 26 11 = μ.1 26 11 := (hs_58.trans (hs_43.trans (hs_28.trans ((F_11.1 26 (ni hprP (fun P => 26) (fun P => [P, P + 1]) rfl) 11).trans (sv_n _ (fun h9 => absurd h9.1 (by decide)))))))
        have hk_295 := hI.row (r := P + 2) (hprP.row)
        unfold rk at hk_295
        have e_296 : μ51.1 (P + 2) 3 = μ.1 (P + 2) 3 := ((F_53.1 (P + 2) (ni hprP (fun P => P + 2) (fun P => [26]) rfl) 3).trans ((F_38.1 (P + 2) (ni hprP (fun P => P + 2) (fun P => [26]) rfl) 3).trans ((F_23.1 (P + 2) (ni hprP (fun P => P + 2) (fun P => [26]) rfl) 3).trans ((F_11.1 (P + 2) (ni hprP (fun P => P + 2) (fun P => [P, P + 1]) rfl) 3).trans (sv_n _ (by omega))))))
        have e_297 : μ51.1 P 1 = (sv μ 23 10 (μ.1 26 13)).1 P 1 + 1 := ((F_53.1 P (ni hprP (fun P => P) (fun P => [26]) rfl) 1).trans ((F_38.1 P (ni hprP (fun P => P) (fun P => [26]) rfl) 1).trans ((F_23.1 P (ni hprP (fun P => P) (fun P => [26]) rfl) 1).trans hs_15)))
        have e_298 : μ51.1 23 9 = μ.1 23 9 := ((F_53.1 23 (by decide) 9).trans ((F_38.1 23 (by decide) 9).trans ((F_23.1 23 (by decide) 9).trans ((F_11.1 23 (ni hprP (fun P => 23) (fun P => [P, P + 1]) rfl) 9).trans (sv_n _ (by decide))))))
        have e_299 : μ51.1 23 9 = μ.1 23 9 := ((F_53.1 23 (by decide) 9).trans ((F_38.1 23 (by decide) 9).trans ((F_23.1 23 (by decide) 9).trans ((F_11.1 23 (ni hprP (fun P => 23) (fun P => [P, P + 1]) rfl) 9).trans (sv_n _ (by decide))))))
        have e_300 : μ51.1 26 11 = μ.1 26 11 := (hs_58.trans (hs_43.trans (hs_28.trans ((F_11.1 26 (ni hprP (fun P => 26) (fun P => [P, P + 1]) rfl) 11).trans (sv_n _ (fun h9 => absurd h9.1 (by decide)))))))
        have e_301 : μ51.1 26 11 = μ.1 26 11 := (hs_58.trans (hs_43.trans (hs_28.trans ((F_11.1 26 (ni hprP (fun P => 26) (fun P => [P, P + 1]) rfl) 11).trans (sv_n _ (fun h9 => absurd h9.1 (by decide)))))))
        have e_302 : μ51.1 P 1 = (sv μ 23 10 (μ.1 26 13)).1 P 1 + 1 := ((F_53.1 P (ni hprP (fun P => P) (fun P => [26]) rfl) 1).trans ((F_38.1 P (ni hprP (fun P => P) (fun P => [26]) rfl) 1).trans ((F_23.1 P (ni hprP (fun P => P) (fun P => [26]) rfl) 1).trans hs_15)))
        have e_303 : μ51.1 P 1 = (sv μ 23 10 (μ.1 26 13)).1 P 1 + 1 := ((F_53.1 P (ni hprP (fun P => P) (fun P => [26]) rfl) 1).trans ((F_38.1 P (ni hprP (fun P => P) (fun P => [26]) rfl) 1).trans ((F_23.1 P (ni hprP (fun P => P) (fun P => [26]) rfl) 1).trans hs_15)))
        have e_304 : μ51.1 (P + 2) 3 = μ.1 (P + 2) 3 := ((F_53.1 (P + 2) (ni hprP (fun P => P + 2) (fun P => [26]) rfl) 3).trans ((F_38.1 (P + 2) (ni hprP (fun P => P + 2) (fun P => [26]) rfl) 3).trans ((F_23.1 (P + 2) (ni hprP (fun P => P + 2) (fun P => [26]) rfl) 3).trans ((F_11.1 (P + 2) (ni hprP (fun P => P + 2) (fun P => [P, P + 1]) rfl) 3).trans (sv_n _ (by omega))))))
        have e_305 : μ51.1 P 1 = (sv μ 23 10 (μ.1 26 13)).1 P 1 + 1 := ((F_53.1 P (ni hprP (fun P => P) (fun P => [26]) rfl) 1).trans ((F_38.1 P (ni hprP (fun P => P) (fun P => [26]) rfl) 1).trans ((F_23.1 P (ni hprP (fun P => P) (fun P => [26]) rfl) 1).trans hs_15)))
        have e_306 : μ51.1 (P + 2) 3 = μ.1 (P + 2) 3 := ((F_53.1 (P + 2) (ni hprP (fun P => P + 2) (fun P => [26]) rfl) 3).trans ((F_38.1 (P + 2) (ni hprP (fun P => P + 2) (fun P => [26]) rfl) 3).trans ((F_23.1 (P + 2) (ni hprP (fun P => P + 2) (fun P => [26]) rfl) 3).trans ((F_11.1 (P + 2) (ni hprP (fun P => P + 2) (fun P => [P, P + 1]) rfl) 3).trans (sv_n _ (by omega))))))
        refine xc_vV G (b := 23) (rest := []) (As := []) (c_X7_whileTrue ω l μ51 F Lo kf P tt hI_54 (by omega) (by omega) hF hLo hK hp_55 (by omega) (by omega) (by omega) (by omega) (by omega) (by omega) hsp_290) (wm 4 128 rfl rfl) (wm 4 130 rfl rfl) (wm 0 47 rfl rfl) rfl rfl (by decide) rfl (wm 1 12 rfl rfl) (wm 4 131 rfl rfl) (by decide) hR ⟨sfr (F := F) (a := 1) (by decide), slo (L := Lo) (m := 3) (a := 21) (by decide)⟩ (n := 0) rfl rfl (Nat.le_of_ble_eq_true rfl) hl.1 dX7_statement_64 (fun μ307 ρ d0 H locs hp G => ?_)
        obtain ⟨F_308, hI_309, hp_310, hp_311, hp_312, hp_313, hp_314, hp_315, hs_316, hs_317, hs_318, hs_319, hs_320, hs_321⟩ := hp
        have hn_322 : -1 ≤ μ307.1 26 10 ∧ μ307.1 26 10 ≤ 3000 := hI_309.nm.2.2.2.2.2.2.2.2.2.2.2.2
        have hk_323 := hI_309.pr (p := P) hprP
        unfold pk at hk_323
        have hc_324 : 16 ≤ μ307.2.1 (P + 1) ∧ μ307.2.1 (P + 1) ≤ 73024 := hI_309.rm.1 _ hprP.cap
        have hk_325 := hI_309.row (r := P + 2) (hprP.row)
        unfold rk at hk_325
        have htb_326 := hp_310.b
        replace hp_315 := fun _ : Unit => hp_315
        have hes_327 : ∀ _ : Unit, μ307.1 26 11 = 0 → ES μ51 μ307 P tt (2 * (8 - μ.1 23 9)) := fun _ h0 => ((hp_315 ()) h0).mn (by have h9 : μ51.1 23 9 = μ.1 23 9 := ((F_53.1 23 (by decide) 9).trans ((F_38.1 23 (by decide) 9).trans ((F_23.1 23 (by decide) 9).trans ((F_11.1 23 (ni hprP (fun P => 23) (fun P => [P, P + 1]) rfl) 9).trans (sv_n _ (by decide)))))); omega)
        refine lv_goto (tgt := 142) hx hb dX7_statement_67 (by decide) ?_
        clear hk_1 hc_2 hk_295 hk_323 hc_324 hk_325
        exact xr_v G hret hlk dX7_statement_142 ⟨(Fr.tr (Fr.tr (Fr.tr (Fr.tr (Fr.tr (Fr.put Fr.rf (si hprP (fun P => [23]) (fun P => [2, 3, 4, 23, 24, 25, 26, P, P + 1, P + 2, (P + 2) + 1, (P + 2) + 2, (P + 2) + 3]) rfl 23 (List.mem_singleton.2 rfl))) F_11 (si hprP (fun P => [P, P + 1]) (fun P => [2, 3, 4, 23, 24, 25, 26, P, P + 1, P + 2, (P + 2) + 1, (P + 2) + 2, (P + 2) + 3]) rfl)) F_23 (si hprP (fun P => [26]) (fun P => [2, 3, 4, 23, 24, 25, 26, P, P + 1, P + 2, (P + 2) + 1, (P + 2) + 2, (P + 2) + 3]) rfl)) F_38 (si hprP (fun P => [26]) (fun P => [2, 3, 4, 23, 24, 25, 26, P, P + 1, P + 2, (P + 2) + 1, (P + 2) + 2, (P + 2) + 3]) rfl)) F_53 (si hprP (fun P => [26]) (fun P => [2, 3, 4, 23, 24, 25, 26, P, P + 1, P + 2, (P + 2) + 1, (P + 2) + 2, (P + 2) + 3]) rfl)) F_308 (si hprP (fun P => [2, 3, 4, 23, 24, 25, 26, P, P + 1, P + 2, (P + 2) + 1, (P + 2) + 2, (P + 2) + 3]) (fun P => [2, 3, 4, 23, 24, 25, 26, P, P + 1, P + 2, (P + 2) + 1, (P + 2) + 2, (P + 2) + 3]) rfl)), hI_309, hp_310, (by omega), (by omega), (by omega), (by omega), (fun h0 => EX.fl (L := [23]) hF9_ (npL_p (L := [23]) (by decide) hprP).1 (npL_p (L := [23]) (by decide) hprP).2.1 (ES.ex hp_14 (ES.fl (K := [26]) (Fr.tr (Fr.tr (Fr.tr Fr.rf F_23 (by decide)) F_38 (by decide)) F_53 (by decide)) (npL_p (L := [26]) (by decide) hprP).1 (npL_p (L := [26]) (by decide) hprP).2.1 ((hes_327 ()) h0)))), ((hs_316.trans ((F_53.1 23 (by decide) 2).trans ((F_38.1 23 (by decide) 2).trans ((F_23.1 23 (by decide) 2).trans ((F_11.1 23 (ni hprP (fun P => 23) (fun P => [P, P + 1]) rfl) 2).trans ((sv_n _ (by decide)).trans hP.symm))))))).trans hP, (hs_317.trans ((F_53.1 23 (by decide) 7).trans ((F_38.1 23 (by decide) 7).trans ((F_23.1 23 (by decide) 7).trans ((F_11.1 23 (ni hprP (fun P => 23) (fun P => [P, P + 1]) rfl) 7).trans (sv_n _ (by decide))))))), ((hs_318.trans ((F_53.1 23 (by decide) 8).trans ((F_38.1 23 (by decide) 8).trans ((F_23.1 23 (by decide) 8).trans ((F_11.1 23 (ni hprP (fun P => 23) (fun P => [P, P + 1]) rfl) 8).trans ((sv_n _ (by decide)).trans htt.symm))))))).trans htt, (hs_319.trans ((F_53.1 23 (by decide) 9).trans ((F_38.1 23 (by decide) 9).trans ((F_23.1 23 (by decide) 9).trans ((F_11.1 23 (ni hprP (fun P => 23) (fun P => [P, P + 1]) rfl) 9).trans (sv_n _ (by decide))))))), (hs_320.trans (hs_59.trans (hs_44.trans (hs_29.trans ((F_11.1 26 (ni hprP (fun P => 26) (fun P => [P, P + 1]) rfl) 6).trans (sv_n _ (fun h9 => absurd h9.1 (by decide)))))))), (hs_321.trans ((F_53.1 P (ni hprP (fun P => P) (fun P => [26]) rfl) 7).trans ((F_38.1 P (ni hprP (fun P => P) (fun P => [26]) rfl) 7).trans ((F_23.1 P (ni hprP (fun P => P) (fun P => [26]) rfl) 7).trans (hs_16.trans (sv_n _ (by omega)))))))⟩
    · refine lv_aload_n hx hb dX7_statement_46 rfl (lv_at hl 0 rfl) ?_
      have hsp_328 : ∀ _ : Unit, STP μ36 P tt := fun _ => (hsp_ ()).fr (K := [26]) (Fr.tr (Fr.tr Fr.rf F_23 (by decide)) F_38 (by decide)) (npL_p (L := [26]) (by decide) hprP).1 (npL_p (L := [26]) (by decide) hprP).2.1
      have e_329 : μ36.1 23 2 = P := ((F_38.1 23 (by decide) 2).trans ((F_23.1 23 (by decide) 2).trans ((F_11.1 23 (ni hprP (fun P => 23) (fun P => [P, P + 1]) rfl) 2).trans ((sv_n _ (by decide)).trans hP.symm))))
      have e_330 : μ36.1 23 8 = tt := ((F_38.1 23 (by decide) 8).trans ((F_23.1 23 (by decide) 8).trans ((F_11.1 23 (ni hprP (fun P => 23) (fun P => [P, P + 1]) rfl) 8).trans ((sv_n _ (by decide)).trans htt.symm))))
      have e_331 : μ36.1 P 1 = (sv μ 23 10 (μ.1 26 13)).1 P 1 + 1 := ((F_38.1 P (ni hprP (fun P => P) (fun P => [26]) rfl) 1).trans ((F_23.1 P (ni hprP (fun P => P) (fun P => [26]) rfl) 1).trans hs_15))
      have e_332 : μ36.1 26 11 = μ.1 26 11 := (hs_43.trans (hs_28.trans ((F_11.1 26 (ni hprP (fun P => 26) (fun P => [P, P + 1]) rfl) 11).trans (sv_n _ (fun h9 => absurd h9.1 (by decide))))))
      have hk_333 := hI.row (r := P + 2) (hprP.row)
      unfold rk at hk_333
      have e_334 : μ36.1 (P + 2) 3 = μ.1 (P + 2) 3 := ((F_38.1 (P + 2) (ni hprP (fun P => P + 2) (fun P => [26]) rfl) 3).trans ((F_23.1 (P + 2) (ni hprP (fun P => P + 2) (fun P => [26]) rfl) 3).trans ((F_11.1 (P + 2) (ni hprP (fun P => P + 2) (fun P => [P, P + 1]) rfl) 3).trans (sv_n _ (by omega)))))
      have e_335 : μ36.1 P 1 = (sv μ 23 10 (μ.1 26 13)).1 P 1 + 1 := ((F_38.1 P (ni hprP (fun P => P) (fun P => [26]) rfl) 1).trans ((F_23.1 P (ni hprP (fun P => P) (fun P => [26]) rfl) 1).trans hs_15))
      have e_336 : μ36.1 23 9 = μ.1 23 9 := ((F_38.1 23 (by decide) 9).trans ((F_23.1 23 (by decide) 9).trans ((F_11.1 23 (ni hprP (fun P => 23) (fun P => [P, P + 1]) rfl) 9).trans (sv_n _ (by decide)))))
      have e_337 : μ36.1 23 9 = μ.1 23 9 := ((F_38.1 23 (by decide) 9).trans ((F_23.1 23 (by decide) 9).trans ((F_11.1 23 (ni hprP (fun P => 23) (fun P => [P, P + 1]) rfl) 9).trans (sv_n _ (by decide)))))
      have e_338 : μ36.1 26 11 = μ.1 26 11 := (hs_43.trans (hs_28.trans ((F_11.1 26 (ni hprP (fun P => 26) (fun P => [P, P + 1]) rfl) 11).trans (sv_n _ (fun h9 => absurd h9.1 (by decide))))))
      have e_339 : μ36.1 26 11 = μ.1 26 11 := (hs_43.trans (hs_28.trans ((F_11.1 26 (ni hprP (fun P => 26) (fun P => [P, P + 1]) rfl) 11).trans (sv_n _ (fun h9 => absurd h9.1 (by decide))))))
      have e_340 : μ36.1 P 1 = (sv μ 23 10 (μ.1 26 13)).1 P 1 + 1 := ((F_38.1 P (ni hprP (fun P => P) (fun P => [26]) rfl) 1).trans ((F_23.1 P (ni hprP (fun P => P) (fun P => [26]) rfl) 1).trans hs_15))
      have e_341 : μ36.1 P 1 = (sv μ 23 10 (μ.1 26 13)).1 P 1 + 1 := ((F_38.1 P (ni hprP (fun P => P) (fun P => [26]) rfl) 1).trans ((F_23.1 P (ni hprP (fun P => P) (fun P => [26]) rfl) 1).trans hs_15))
      have e_342 : μ36.1 (P + 2) 3 = μ.1 (P + 2) 3 := ((F_38.1 (P + 2) (ni hprP (fun P => P + 2) (fun P => [26]) rfl) 3).trans ((F_23.1 (P + 2) (ni hprP (fun P => P + 2) (fun P => [26]) rfl) 3).trans ((F_11.1 (P + 2) (ni hprP (fun P => P + 2) (fun P => [P, P + 1]) rfl) 3).trans (sv_n _ (by omega)))))
      have e_343 : μ36.1 P 1 = (sv μ 23 10 (μ.1 26 13)).1 P 1 + 1 := ((F_38.1 P (ni hprP (fun P => P) (fun P => [26]) rfl) 1).trans ((F_23.1 P (ni hprP (fun P => P) (fun P => [26]) rfl) 1).trans hs_15))
      have e_344 : μ36.1 (P + 2) 3 = μ.1 (P + 2) 3 := ((F_38.1 (P + 2) (ni hprP (fun P => P + 2) (fun P => [26]) rfl) 3).trans ((F_23.1 (P + 2) (ni hprP (fun P => P + 2) (fun P => [26]) rfl) 3).trans ((F_11.1 (P + 2) (ni hprP (fun P => P + 2) (fun P => [P, P + 1]) rfl) 3).trans (sv_n _ (by omega)))))
      refine xc_vV G (b := 23) (rest := []) (As := []) (c_X7_ifElse ω l μ36 F Lo kf P tt hI_39 (by omega) (by omega) hF hLo hK hp_40 (by omega) (by omega) (by omega) (by omega) (by omega) (by omega) hsp_328) (wm 4 120 rfl rfl) (wm 4 122 rfl rfl) (wm 0 45 rfl rfl) rfl rfl (by decide) rfl (wm 1 12 rfl rfl) (wm 4 123 rfl rfl) (by decide) hR ⟨sfr (F := F) (a := 1) (by decide), slo (L := Lo) (m := 3) (a := 21) (by decide)⟩ (n := 0) rfl rfl (Nat.le_of_ble_eq_true rfl) hl.1 dX7_statement_47 (fun μ345 ρ d0 H locs hp G => ?_)
      obtain ⟨F_346, hI_347, hp_348, hp_349, hp_350, hp_351, hp_352, hp_353, hs_354, hs_355, hs_356, hs_357, hs_358, hs_359⟩ := hp
      have hn_360 : -1 ≤ μ345.1 26 10 ∧ μ345.1 26 10 ≤ 3000 := hI_347.nm.2.2.2.2.2.2.2.2.2.2.2.2
      have hk_361 := hI_347.pr (p := P) hprP
      unfold pk at hk_361
      have hc_362 : 16 ≤ μ345.2.1 (P + 1) ∧ μ345.2.1 (P + 1) ≤ 73024 := hI_347.rm.1 _ hprP.cap
      have hk_363 := hI_347.row (r := P + 2) (hprP.row)
      unfold rk at hk_363
      have htb_364 := hp_348.b
      replace hp_353 := fun _ : Unit => hp_353
      have hes_365 : ∀ _ : Unit, μ345.1 26 11 = 0 → ES μ36 μ345 P tt (2 * (8 - μ.1 23 9)) := fun _ h0 => ((hp_353 ()) h0).mn (by have h9 : μ36.1 23 9 = μ.1 23 9 := ((F_38.1 23 (by decide) 9).trans ((F_23.1 23 (by decide) 9).trans ((F_11.1 23 (ni hprP (fun P => 23) (fun P => [P, P + 1]) rfl) 9).trans (sv_n _ (by decide))))); omega)
      refine lv_goto (tgt := 142) hx hb dX7_statement_50 (by decide) ?_
      clear hk_1 hc_2 hk_333 hk_361 hc_362 hk_363
      exact xr_v G hret hlk dX7_statement_142 ⟨(Fr.tr (Fr.tr (Fr.tr (Fr.tr (Fr.put Fr.rf (si hprP (fun P => [23]) (fun P => [2, 3, 4, 23, 24, 25, 26, P, P + 1, P + 2, (P + 2) + 1, (P + 2) + 2, (P + 2) + 3]) rfl 23 (List.mem_singleton.2 rfl))) F_11 (si hprP (fun P => [P, P + 1]) (fun P => [2, 3, 4, 23, 24, 25, 26, P, P + 1, P + 2, (P + 2) + 1, (P + 2) + 2, (P + 2) + 3]) rfl)) F_23 (si hprP (fun P => [26]) (fun P => [2, 3, 4, 23, 24, 25, 26, P, P + 1, P + 2, (P + 2) + 1, (P + 2) + 2, (P + 2) + 3]) rfl)) F_38 (si hprP (fun P => [26]) (fun P => [2, 3, 4, 23, 24, 25, 26, P, P + 1, P + 2, (P + 2) + 1, (P + 2) + 2, (P + 2) + 3]) rfl)) F_346 (si hprP (fun P => [2, 3, 4, 23, 24, 25, 26, P, P + 1, P + 2, (P + 2) + 1, (P + 2) + 2, (P + 2) + 3]) (fun P => [2, 3, 4, 23, 24, 25, 26, P, P + 1, P + 2, (P + 2) + 1, (P + 2) + 2, (P + 2) + 3]) rfl)), hI_347, hp_348, (by omega), (by omega), (by omega), (by omega), (fun h0 => EX.fl (L := [23]) hF9_ (npL_p (L := [23]) (by decide) hprP).1 (npL_p (L := [23]) (by decide) hprP).2.1 (ES.ex hp_14 (ES.fl (K := [26]) (Fr.tr (Fr.tr Fr.rf F_23 (by decide)) F_38 (by decide)) (npL_p (L := [26]) (by decide) hprP).1 (npL_p (L := [26]) (by decide) hprP).2.1 ((hes_365 ()) h0)))), ((hs_354.trans ((F_38.1 23 (by decide) 2).trans ((F_23.1 23 (by decide) 2).trans ((F_11.1 23 (ni hprP (fun P => 23) (fun P => [P, P + 1]) rfl) 2).trans ((sv_n _ (by decide)).trans hP.symm)))))).trans hP, (hs_355.trans ((F_38.1 23 (by decide) 7).trans ((F_23.1 23 (by decide) 7).trans ((F_11.1 23 (ni hprP (fun P => 23) (fun P => [P, P + 1]) rfl) 7).trans (sv_n _ (by decide)))))), ((hs_356.trans ((F_38.1 23 (by decide) 8).trans ((F_23.1 23 (by decide) 8).trans ((F_11.1 23 (ni hprP (fun P => 23) (fun P => [P, P + 1]) rfl) 8).trans ((sv_n _ (by decide)).trans htt.symm)))))).trans htt, (hs_357.trans ((F_38.1 23 (by decide) 9).trans ((F_23.1 23 (by decide) 9).trans ((F_11.1 23 (ni hprP (fun P => 23) (fun P => [P, P + 1]) rfl) 9).trans (sv_n _ (by decide)))))), (hs_358.trans (hs_44.trans (hs_29.trans ((F_11.1 26 (ni hprP (fun P => 26) (fun P => [P, P + 1]) rfl) 6).trans (sv_n _ (fun h9 => absurd h9.1 (by decide))))))), (hs_359.trans ((F_38.1 P (ni hprP (fun P => P) (fun P => [26]) rfl) 7).trans ((F_23.1 P (ni hprP (fun P => P) (fun P => [26]) rfl) 7).trans (hs_16.trans (sv_n _ (by omega))))))⟩
  · refine lv_aload_n hx hb dX7_statement_29 rfl (lv_at hl 0 rfl) ?_
    have hsp_366 : ∀ _ : Unit, STP μ21 P tt := fun _ => (hsp_ ()).fr (K := [26]) (Fr.tr Fr.rf F_23 (by decide)) (npL_p (L := [26]) (by decide) hprP).1 (npL_p (L := [26]) (by decide) hprP).2.1
    have e_367 : μ21.1 23 2 = P := ((F_23.1 23 (by decide) 2).trans ((F_11.1 23 (ni hprP (fun P => 23) (fun P => [P, P + 1]) rfl) 2).trans ((sv_n _ (by decide)).trans hP.symm)))
    have e_368 : μ21.1 23 8 = tt := ((F_23.1 23 (by decide) 8).trans ((F_11.1 23 (ni hprP (fun P => 23) (fun P => [P, P + 1]) rfl) 8).trans ((sv_n _ (by decide)).trans htt.symm)))
    have e_369 : μ21.1 P 1 = (sv μ 23 10 (μ.1 26 13)).1 P 1 + 1 := ((F_23.1 P (ni hprP (fun P => P) (fun P => [26]) rfl) 1).trans hs_15)
    have e_370 : μ21.1 26 11 = μ.1 26 11 := (hs_28.trans ((F_11.1 26 (ni hprP (fun P => 26) (fun P => [P, P + 1]) rfl) 11).trans (sv_n _ (fun h9 => absurd h9.1 (by decide)))))
    have hk_371 := hI.row (r := P + 2) (hprP.row)
    unfold rk at hk_371
    have e_372 : μ21.1 (P + 2) 3 = μ.1 (P + 2) 3 := ((F_23.1 (P + 2) (ni hprP (fun P => P + 2) (fun P => [26]) rfl) 3).trans ((F_11.1 (P + 2) (ni hprP (fun P => P + 2) (fun P => [P, P + 1]) rfl) 3).trans (sv_n _ (by omega))))
    have e_373 : μ21.1 P 1 = (sv μ 23 10 (μ.1 26 13)).1 P 1 + 1 := ((F_23.1 P (ni hprP (fun P => P) (fun P => [26]) rfl) 1).trans hs_15)
    have e_374 : μ21.1 23 9 = μ.1 23 9 := ((F_23.1 23 (by decide) 9).trans ((F_11.1 23 (ni hprP (fun P => 23) (fun P => [P, P + 1]) rfl) 9).trans (sv_n _ (by decide))))
    have e_375 : μ21.1 23 9 = μ.1 23 9 := ((F_23.1 23 (by decide) 9).trans ((F_11.1 23 (ni hprP (fun P => 23) (fun P => [P, P + 1]) rfl) 9).trans (sv_n _ (by decide))))
    have e_376 : μ21.1 26 11 = μ.1 26 11 := (hs_28.trans ((F_11.1 26 (ni hprP (fun P => 26) (fun P => [P, P + 1]) rfl) 11).trans (sv_n _ (fun h9 => absurd h9.1 (by decide)))))
    have e_377 : μ21.1 26 11 = μ.1 26 11 := (hs_28.trans ((F_11.1 26 (ni hprP (fun P => 26) (fun P => [P, P + 1]) rfl) 11).trans (sv_n _ (fun h9 => absurd h9.1 (by decide)))))
    have e_378 : μ21.1 P 1 = (sv μ 23 10 (μ.1 26 13)).1 P 1 + 1 := ((F_23.1 P (ni hprP (fun P => P) (fun P => [26]) rfl) 1).trans hs_15)
    have e_379 : μ21.1 P 1 = (sv μ 23 10 (μ.1 26 13)).1 P 1 + 1 := ((F_23.1 P (ni hprP (fun P => P) (fun P => [26]) rfl) 1).trans hs_15)
    have e_380 : μ21.1 (P + 2) 3 = μ.1 (P + 2) 3 := ((F_23.1 (P + 2) (ni hprP (fun P => P + 2) (fun P => [26]) rfl) 3).trans ((F_11.1 (P + 2) (ni hprP (fun P => P + 2) (fun P => [P, P + 1]) rfl) 3).trans (sv_n _ (by omega))))
    have e_381 : μ21.1 P 1 = (sv μ 23 10 (μ.1 26 13)).1 P 1 + 1 := ((F_23.1 P (ni hprP (fun P => P) (fun P => [26]) rfl) 1).trans hs_15)
    have e_382 : μ21.1 (P + 2) 3 = μ.1 (P + 2) 3 := ((F_23.1 (P + 2) (ni hprP (fun P => P + 2) (fun P => [26]) rfl) 3).trans ((F_11.1 (P + 2) (ni hprP (fun P => P + 2) (fun P => [P, P + 1]) rfl) 3).trans (sv_n _ (by omega))))
    refine xc_vV G (b := 23) (rest := []) (As := []) (c_X7_let ω l μ21 P tt hI_24 (by omega) (by omega) hp_25 (by omega) (by omega) (by omega) (by omega)) (wm 3 235 rfl rfl) (wm 3 237 rfl rfl) (wm 0 22 rfl rfl) rfl rfl (by decide) rfl (wm 1 12 rfl rfl) (wm 3 238 rfl rfl) (by decide) hR ⟨nfB hF (by decide), nlB hLo (by decide)⟩ (n := 0) rfl rfl (Nat.le_of_ble_eq_true rfl) hl.1 dX7_statement_30 (fun μ383 ρ d0 H locs hp G => ?_)
    obtain ⟨F_384, hI_385, hp_386, hp_387, hp_388, hp_389, hp_390, hp_391, hs_392, hs_393, hs_394, hs_395, hs_396, hs_397⟩ := hp
    have hn_398 : -1 ≤ μ383.1 26 10 ∧ μ383.1 26 10 ≤ 3000 := hI_385.nm.2.2.2.2.2.2.2.2.2.2.2.2
    have hk_399 := hI_385.pr (p := P) hprP
    unfold pk at hk_399
    have hc_400 : 16 ≤ μ383.2.1 (P + 1) ∧ μ383.2.1 (P + 1) ≤ 73024 := hI_385.rm.1 _ hprP.cap
    have hk_401 := hI_385.row (r := P + 2) (hprP.row)
    unfold rk at hk_401
    have htb_402 := hp_386.b
    replace hp_391 := fun _ : Unit => hp_391
    have hes_403 : ∀ _ : Unit, μ383.1 26 11 = 0 → ES μ21 μ383 P tt (2 * (8 - μ.1 23 9)) := fun _ h0 => ES.oe (hsp_366 ()) (((hp_391 ()) h0).e rfl) (by have h8 : μ21.1 P 1 = (sv μ 23 10 (μ.1 26 13)).1 P 1 + 1 := ((F_23.1 P (ni hprP (fun P => P) (fun P => [26]) rfl) 1).trans hs_15); have h9 : μ383.1 P 1 = μ383.1 P 1 := rfl; omega) (by omega)
    refine lv_goto (tgt := 142) hx hb dX7_statement_33 (by decide) ?_
    clear hk_1 hc_2 hk_371 hk_399 hc_400 hk_401
    exact xr_v G hret hlk dX7_statement_142 ⟨(Fr.tr (Fr.tr (Fr.tr (Fr.put Fr.rf (si hprP (fun P => [23]) (fun P => [2, 3, 4, 23, 24, 25, 26, P, P + 1, P + 2, (P + 2) + 1, (P + 2) + 2, (P + 2) + 3]) rfl 23 (List.mem_singleton.2 rfl))) F_11 (si hprP (fun P => [P, P + 1]) (fun P => [2, 3, 4, 23, 24, 25, 26, P, P + 1, P + 2, (P + 2) + 1, (P + 2) + 2, (P + 2) + 3]) rfl)) F_23 (si hprP (fun P => [26]) (fun P => [2, 3, 4, 23, 24, 25, 26, P, P + 1, P + 2, (P + 2) + 1, (P + 2) + 2, (P + 2) + 3]) rfl)) F_384 (si hprP (fun P => [2, 3, 4, 23, 24, 25, 26, P, P + 1, P + 2, (P + 2) + 1, (P + 2) + 2, (P + 2) + 3]) (fun P => [2, 3, 4, 23, 24, 25, 26, P, P + 1, P + 2, (P + 2) + 1, (P + 2) + 2, (P + 2) + 3]) rfl)), hI_385, hp_386, (by omega), (by omega), (by omega), (by omega), (fun h0 => EX.fl (L := [23]) hF9_ (npL_p (L := [23]) (by decide) hprP).1 (npL_p (L := [23]) (by decide) hprP).2.1 (ES.ex hp_14 (ES.fl (K := [26]) (Fr.tr Fr.rf F_23 (by decide)) (npL_p (L := [26]) (by decide) hprP).1 (npL_p (L := [26]) (by decide) hprP).2.1 ((hes_403 ()) h0)))), ((hs_392.trans ((F_23.1 23 (by decide) 2).trans ((F_11.1 23 (ni hprP (fun P => 23) (fun P => [P, P + 1]) rfl) 2).trans ((sv_n _ (by decide)).trans hP.symm))))).trans hP, (hs_393.trans ((F_23.1 23 (by decide) 7).trans ((F_11.1 23 (ni hprP (fun P => 23) (fun P => [P, P + 1]) rfl) 7).trans (sv_n _ (by decide))))), ((hs_394.trans ((F_23.1 23 (by decide) 8).trans ((F_11.1 23 (ni hprP (fun P => 23) (fun P => [P, P + 1]) rfl) 8).trans ((sv_n _ (by decide)).trans htt.symm))))).trans htt, (hs_395.trans ((F_23.1 23 (by decide) 9).trans ((F_11.1 23 (ni hprP (fun P => 23) (fun P => [P, P + 1]) rfl) 9).trans (sv_n _ (by decide))))), (hs_396.trans (hs_29.trans ((F_11.1 26 (ni hprP (fun P => 26) (fun P => [P, P + 1]) rfl) 6).trans (sv_n _ (fun h9 => absurd h9.1 (by decide)))))), (hs_397.trans ((F_23.1 P (ni hprP (fun P => P) (fun P => [26]) rfl) 7).trans (hs_16.trans (sv_n _ (by omega)))))⟩

set_option maxHeartbeats 4000000 in
set_option maxRecDepth 100000 in
theorem c_X7_block (ω : Om) (l : Launch) (μ : M3) (F : Nat) (Lo : Nat) (kf : Int) (P : Int) (tt : Int) (hI : IC μ) (hP : P = μ.1 23 2) (htt : tt = μ.1 23 8) (hF : 200 ≤ F) (hLo : 6000 ≤ Lo) (hK : ∀ (μ : M3) (P : Int) (tt : Int) (hI : IC μ) (hP : P = μ.1 23 2) (htt : tt = μ.1 23 8) (hTK : TK μ) (hB : 2 * μ.1 P 1 ≤ 5 * μ.1 26 10 + 103 + 80 * μ.1 26 11) (hKc : μ.1 (P + 2) 3 ≤ μ.1 P 1) (ht3 : 0 ≤ tt ∧ tt ≤ 3) (hdp : 0 ≤ μ.1 23 9 ∧ μ.1 23 9 ≤ 8) (hfu : 0 ≤ (kf - 1) ∧ 9 ≤ μ.1 23 9 + (kf - 1)) (hs1 : ∀ _ : Unit, μ.1 26 11 = 0 → HC μ P tt 0), CtV ω l yX7_block cX7_block 2 (F + 0) (Lo + 0) [.ref (oP ω 23)] μ (fun (μ' : M3) => (Fr [2, 3, 4, 23, 24, 25, 26, P, P + 1, P + 2, (P + 2) + 1, (P + 2) + 2, (P + 2) + 3] μ μ') ∧ (IC μ') ∧ (TK μ') ∧ (μ.1 26 11 ≤ μ'.1 26 11) ∧ (μ.1 26 10 ≤ μ'.1 26 10) ∧ (μ.1 P 1 ≤ μ'.1 P 1 ∧ 2 * μ'.1 P 1 ≤ 2 * μ.1 P 1 + 5 * (μ'.1 26 10 - μ.1 26 10) + (- 10 + 15 * μ'.1 26 11 - 5 * μ.1 26 11)) ∧ (μ'.1 (P + 2) 3 - μ.1 (P + 2) 3 ≤ μ'.1 P 1 - μ.1 P 1 ∧ μ.1 (P + 2) 3 ≤ μ'.1 (P + 2) 3) ∧ (μ'.1 26 11 = 0 → EX μ μ' P tt 0 (2 * (7 - μ.1 23 9))) ∧ (μ.1 23 9 ≤ 7 + 100 * μ'.1 26 11) ∧ (μ'.1 23 2 = μ.1 23 2) ∧ (μ'.1 23 7 = μ.1 23 7) ∧ (μ'.1 23 8 = μ.1 23 8) ∧ (μ'.1 23 9 = μ.1 23 9) ∧ (μ'.1 26 6 = μ.1 26 6) ∧ (μ'.1 P 7 = μ.1 P 7))) (hTK : TK μ) (hB : 2 * μ.1 P 1 ≤ 5 * μ.1 26 10 + 103 + 80 * μ.1 26 11) (hKc : μ.1 (P + 2) 3 ≤ μ.1 P 1) (ht3 : 0 ≤ tt ∧ tt ≤ 3) (hdp : 0 ≤ μ.1 23 9 ∧ μ.1 23 9 ≤ 8) (hfu : 9 ≤ μ.1 23 9 + kf) (hs1 : ∀ _ : Unit, μ.1 26 11 = 0 → HC μ P tt 0) : CtV ω l yX7_block cX7_block 2 (F + 5) (Lo + 110) [.ref (oP ω 23)] μ (fun (μ' : M3) => (Fr [2, 3, 4, 23, 24, 25, 26, P, P + 1, P + 2, (P + 2) + 1, (P + 2) + 2, (P + 2) + 3] μ μ') ∧ (IC μ') ∧ (TK μ') ∧ (μ.1 26 11 ≤ μ'.1 26 11) ∧ (μ.1 26 10 ≤ μ'.1 26 10) ∧ (μ.1 P 1 ≤ μ'.1 P 1 ∧ 2 * μ'.1 P 1 ≤ 2 * μ.1 P 1 + 5 * (μ'.1 26 10 - μ.1 26 10) + (- 10 + 15 * μ'.1 26 11 - 5 * μ.1 26 11)) ∧ (μ'.1 (P + 2) 3 - μ.1 (P + 2) 3 ≤ μ'.1 P 1 - μ.1 P 1 ∧ μ.1 (P + 2) 3 ≤ μ'.1 (P + 2) 3) ∧ (μ'.1 26 11 = 0 → EX μ μ' P tt 0 (2 * (7 - μ.1 23 9))) ∧ (μ.1 23 9 ≤ 7 + 100 * μ'.1 26 11) ∧ (μ'.1 23 2 = μ.1 23 2) ∧ (μ'.1 23 7 = μ.1 23 7) ∧ (μ'.1 23 8 = μ.1 23 8) ∧ (μ'.1 23 9 = μ.1 23 9) ∧ (μ'.1 26 6 = μ.1 26 6) ∧ (μ'.1 P 7 = μ.1 P 7)) := by
  refine CtV.go (by decide) (Nat.le_of_ble_eq_true rfl) (fun ρ p e s m below meth c R ls G hR hret hlk hl => ?_)
  have hx := G.1.1
  have hb := G.1.2.1
  have hl : lv_has ls 2 [(0, .ref (oP ω 23))] := hl
  generalize s.drawn = d0 at G ⊢
  have hTKb := hTK.b
  have hprP : isPr P := by have h9 := G.sr0.2.2.2.2.2; rw [← hP] at h9; exact h9
  have hprP_d : 13 ≤ P ∧ P ≤ 101 := by rcases hprP with h9 | h9 | h9 | h9 | h9 <;> omega
  have hk_1 := hI.pr (p := P) hprP
  unfold pk at hk_1
  have hc_2 : 16 ≤ μ.2.1 (P + 1) ∧ μ.2.1 (P + 1) ≤ 73024 := hI.rm.1 _ hprP.cap
  have hX0_ : ∀ _ : Unit, μ.1 26 11 = 0 → EX μ μ P tt 0 0 := fun _ _ => EX.rf (by omega) (Int.le_refl 0)
  have hXH_ : ∀ _ : Unit, μ.1 26 11 = 0 → HC μ P tt 0 := hs1
  refine lv_aload_n hx hb dX7_block_0 rfl (lv_at hl 0 rfl) ?_
  refine lv_bipush (v := iv 123) hx hb dX7_block_1 rfl ?_
  have hn_3 : -1 ≤ μ.1 26 10 ∧ μ.1 26 10 ≤ 3000 := hI.nm.2.2.2.2.2.2.2.2.2.2.2.2
  refine xc_vV G (b := 23) (rest := []) (As := [.int (iv 123)]) (c_X7_needOpen_b ω l μ 123 (by unfold ir; omega) hI hTK (by omega) (by omega)) (wm 3 197 rfl rfl) (wm 3 199 rfl rfl) (wm 0 14 rfl rfl) rfl rfl (by decide) rfl (wm 1 12 rfl rfl) (wm 3 200 rfl rfl) (by decide) hR ⟨nfB hF (by decide), nlB hLo (by decide)⟩ (n := 1) rfl rfl (Nat.le_of_ble_eq_true rfl) hl.1 dX7_block_3 (fun μ4 ρ d0 H locs hp G => ?_)
  obtain ⟨F_5, hI_6, hp_7, hp_8, hp_9, hp_10, hs_11, hs_12, hs_13, hs_14, hs_15, hs_16, hs_17, hs_18, hs_19, hs_20, hs_21⟩ := hp
  have hn_22 : -1 ≤ μ4.1 26 10 ∧ μ4.1 26 10 ≤ 3000 := hI_6.nm.2.2.2.2.2.2.2.2.2.2.2.2
  have htb_23 := hp_7.b
  refine lv_iconst (v := iv 0) hx hb dX7_block_6 rfl ?_
  refine lv_istore_n (lv' := [(1, .int (iv 0)), (0, .ref (oP ω 23))]) hx hb dX7_block_7 rfl hl (by decide) rfl (fun ls hl => ?_)
  have e_24 : μ4.1 P 1 = μ.1 P 1 := (F_5.1 P (ni hprP (fun P => P) (fun P => [26, 23]) rfl) 1)
  have e_25 : μ4.1 P 1 = μ.1 P 1 := (F_5.1 P (ni hprP (fun P => P) (fun P => [26, 23]) rfl) 1)
  have e_26 : μ4.1 (P + 2) 3 = μ.1 (P + 2) 3 := (F_5.1 (P + 2) (ni hprP (fun P => P + 2) (fun P => [26, 23]) rfl) 3)
  have e_27 : μ4.1 P 1 = μ.1 P 1 := (F_5.1 P (ni hprP (fun P => P) (fun P => [26, 23]) rfl) 1)
  have e_28 : μ4.1 (P + 2) 3 = μ.1 (P + 2) 3 := (F_5.1 (P + 2) (ni hprP (fun P => P + 2) (fun P => [26, 23]) rfl) 3)
  have hk_29 := hI.row (r := P + 2) (hprP.row)
  unfold rk at hk_29
  have e_30 : μ4.1 23 9 = μ.1 23 9 + 1 := hs_11
  have htE_31 : ∀ _ : Unit, μ4.1 26 11 = 0 → EX μ μ4 P tt 0 0 := fun _ h0 => EX.fr (L := [26, 23]) (hX0_ () (by have h9 : μ.1 26 11 = μ.1 26 11 := rfl; have h8 : μ4.1 26 11 = μ4.1 26 11 := rfl; omega)) (Fr.tr Fr.rf F_5 (by decide)) (npL_p (L := [26, 23]) (by decide) hprP).1 (npL_p (L := [26, 23]) (by decide) hprP).2.1
  have htH_32 : ∀ _ : Unit, μ4.1 26 11 = 0 → HC μ4 P tt 0 := fun _ h0 => HC.fr (K := [26, 23]) (hXH_ () (by have h9 : μ.1 26 11 = μ.1 26 11 := rfl; have h8 : μ4.1 26 11 = μ4.1 26 11 := rfl; omega)) (Fr.tr Fr.rf F_5 (by decide)) (npL_p (L := [26, 23]) (by decide) hprP).1 (npL_p (L := [26, 23]) (by decide) hprP).2.1
  refine xl (fun n_9 μ' ls => ∃ (i9 : Int), (Fr [2, 3, 4, 23, 24, 25, 26, P, P + 1, P + 2, (P + 2) + 1, (P + 2) + 2, (P + 2) + 3] μ4 μ') ∧ (-2147483648 ≤ i9 ∧ i9 ≤ 2147483647) ∧ (0 ≤ i9) ∧ (i9 ≤ 3000) ∧ (TK μ') ∧ (μ.1 26 11 ≤ μ'.1 26 11) ∧ (μ.1 26 10 ≤ μ'.1 26 10) ∧ (μ.1 P 1 ≤ μ'.1 P 1 ∧ 2 * μ'.1 P 1 ≤ 2 * μ.1 P 1 + 5 * (μ'.1 26 10 - μ.1 26 10) + (- 5 + 10 * μ'.1 26 11 - 5 * μ.1 26 11)) ∧ (μ'.1 (P + 2) 3 - μ.1 (P + 2) 3 ≤ μ'.1 P 1 - μ.1 P 1 ∧ μ.1 (P + 2) 3 ≤ μ'.1 (P + 2) 3) ∧ (μ'.1 23 9 = μ.1 23 9 + 1) ∧ (μ.1 23 9 ≤ 7 + 100 * μ'.1 26 11) ∧ (μ'.1 26 11 = 0 → EX μ μ' P tt 0 (2 * (7 - μ.1 23 9))) ∧ (μ'.1 26 11 = 0 → HC μ' P tt 0) ∧ (μ'.1 23 2 = P) ∧ (μ'.1 23 7 = μ.1 23 7) ∧ (μ'.1 23 8 = tt) ∧ (μ'.1 26 6 = μ.1 26 6) ∧ (μ'.1 P 7 = μ.1 P 7) ∧ (IC μ') ∧ n_9 = Int.toNat (3000 - i9) ∧ lv_has ls 2 [(1, .int (iv i9)), (0, .ref (oP ω 23))]) (fun n_9 ρ μL33 d0 H locs ls hI_l G ih => ?_) _ _ _ _ _ _ _ ⟨0, Fr.rf, (by omega), (by omega), (by omega), hp_7, (by omega), (by omega), (by omega), (by omega), (by omega), (by omega), (fun h0 => ((htE_31 ()) h0).mn (by omega)), (htH_32 ()), (hs_16.trans hP.symm), hs_19, (hs_20.trans htt.symm), hs_12, (F_5.1 P (ni hprP (fun P => P) (fun P => [26, 23]) rfl) 7), hI_6, rfl, lv_sub hl [0, 1] rfl⟩ G
  obtain ⟨i9, FL34, hi_36, hi_37, hi_38, hi_39, hi_40, hi_41, hi_42, hi_43, hi_44, hi_45, hi_46, hi_47, hi_48, hi_49, hi_50, hi_51, hi_52, hi_53, hn35, hl⟩ := hI_l
  have htb_54 := hi_39.b
  replace hi_46 := fun _ : Unit => hi_46
  replace hi_47 := fun _ : Unit => hi_47
  refine lv_iload_n hx hb dX7_block_8 rfl (lv_at hl 0 rfl) ?_
  refine lv_sipush (v := iv 3000) hx hb dX7_block_9 rfl ?_
  refine xb_icmp_ge (tgt := 48) hx hb (by unfold ir; omega) (by unfold ir; omega) dX7_block_12 (by decide) (fun c_12 => ?_) (fun c_12 => ?_)
  · refine lv_aload_n hx hb dX7_block_48 rfl (lv_at hl 1 rfl) ?_
    refine lv_bipush (v := iv 125) hx hb dX7_block_49 rfl ?_
    have hn_55 : -1 ≤ μL33.1 26 10 ∧ μL33.1 26 10 ≤ 3000 := hi_53.nm.2.2.2.2.2.2.2.2.2.2.2.2
    refine xc_vV G (b := 23) (rest := []) (As := [.int (iv 125)]) (c_X7_needClosed_b ω l μL33 125 (by unfold ir; omega) hi_53 hi_39 (by omega) (by omega)) (wm 3 214 rfl rfl) (wm 3 216 rfl rfl) (wm 0 18 rfl rfl) rfl rfl (by decide) rfl (wm 1 12 rfl rfl) (wm 3 217 rfl rfl) (by decide) hR ⟨nfB hF (by decide), nlB hLo (by decide)⟩ (n := 1) rfl rfl (Nat.le_of_ble_eq_true rfl) hl.1 dX7_block_51 (fun μ56 ρ d0 H locs hp G => ?_)
    obtain ⟨F_57, hI_58, hp_59, hp_60, hp_61, hs_62, hs_63, hs_64, hs_65, hs_66, hs_67, hs_68, hs_69, hs_70, hs_71, hs_72⟩ := hp
    have hn_73 : -1 ≤ μ56.1 26 10 ∧ μ56.1 26 10 ≤ 3000 := hI_58.nm.2.2.2.2.2.2.2.2.2.2.2.2
    have htb_74 := hp_59.b
    clear hk_1 hc_2 hk_29
    have htE_75 : ∀ _ : Unit, μ56.1 26 11 = 0 → EX μ μ56 P tt 0 (2 * (7 - μ.1 23 9)) := fun _ h0 => EX.fr (L := [26, 23]) (hi_46 () (by have h9 : μL33.1 26 11 = μL33.1 26 11 := rfl; have h8 : μ56.1 26 11 = μ56.1 26 11 := rfl; omega)) (Fr.tr Fr.rf F_57 (by decide)) (npL_p (L := [26, 23]) (by decide) hprP).1 (npL_p (L := [26, 23]) (by decide) hprP).2.1
    have e_76 : μ56.1 P 1 = μL33.1 P 1 := (F_57.1 P (ni hprP (fun P => P) (fun P => [26, 23]) rfl) 1)
    have e_77 : μ56.1 P 1 = μL33.1 P 1 := (F_57.1 P (ni hprP (fun P => P) (fun P => [26, 23]) rfl) 1)
    have e_78 : μ56.1 (P + 2) 3 = μL33.1 (P + 2) 3 := (F_57.1 (P + 2) (ni hprP (fun P => P + 2) (fun P => [26, 23]) rfl) 3)
    have e_79 : μ56.1 P 1 = μL33.1 P 1 := (F_57.1 P (ni hprP (fun P => P) (fun P => [26, 23]) rfl) 1)
    have e_80 : μ56.1 (P + 2) 3 = μL33.1 (P + 2) 3 := (F_57.1 (P + 2) (ni hprP (fun P => P + 2) (fun P => [26, 23]) rfl) 3)
    have e_81 : μ56.1 23 9 = μL33.1 23 9 - 1 := hs_62
    exact xr_v G hret hlk dX7_block_54 ⟨(Fr.tr (Fr.tr (Fr.tr Fr.rf F_5 (si hprP (fun P => [26, 23]) (fun P => [2, 3, 4, 23, 24, 25, 26, P, P + 1, P + 2, (P + 2) + 1, (P + 2) + 2, (P + 2) + 3]) rfl)) FL34 (si hprP (fun P => [2, 3, 4, 23, 24, 25, 26, P, P + 1, P + 2, (P + 2) + 1, (P + 2) + 2, (P + 2) + 3]) (fun P => [2, 3, 4, 23, 24, 25, 26, P, P + 1, P + 2, (P + 2) + 1, (P + 2) + 2, (P + 2) + 3]) rfl)) F_57 (si hprP (fun P => [26, 23]) (fun P => [2, 3, 4, 23, 24, 25, 26, P, P + 1, P + 2, (P + 2) + 1, (P + 2) + 2, (P + 2) + 3]) rfl)), hI_58, hp_59, (by omega), (by omega), (by omega), (by omega), (htE_75 ()), (by omega), ((hs_67.trans hi_48)).trans hP, (hs_70.trans hi_49), ((hs_71.trans hi_50)).trans htt, (by omega), (hs_63.trans hi_51), ((F_57.1 P (ni hprP (fun P => P) (fun P => [26, 23]) rfl) 7).trans hi_52)⟩
  · refine lv_aload_n hx hb dX7_block_15 rfl (lv_at hl 1 rfl) ?_
    refine xa_getr G fd_X7 (a := 23) (x := 26) 0 rfl (by decide) rfl (wm 2 17 rfl rfl) ⟨rfl, rfl, rfl⟩ dX7_block_16 rfl (G.sk 23 rfl) (by decide) rfl ?_
    refine xa_getN G fd_X10 (host := "FourTongues") (a := 26) 12 rfl (by decide) (by decide) ⟨rfl, rfl, rfl⟩ dX7_block_19 rfl (v := .int (iv (μL33.1 26 12))) (by rw [show μL33.1 26 12 = μL33.1 26 12 from rfl]; rfl) ?_
    have hr_82 : -2147483648 ≤ μL33.1 26 12 ∧ μL33.1 26 12 ≤ 2147483647 := by have h9 := G.hr (a := 26) (k := 12) rfl; exact h9
    refine lv_bipush (v := iv 125) hx hb dX7_block_22 rfl ?_
    refine xb_icmp_eq (tgt := 48) hx hb (by unfold ir; omega) (by unfold ir; omega) dX7_block_24 (by decide) (fun c_24 => ?_) (fun c_24 => ?_)
    · refine lv_aload_n hx hb dX7_block_48 rfl (lv_at hl 1 rfl) ?_
      refine lv_bipush (v := iv 125) hx hb dX7_block_49 rfl ?_
      have hn_83 : -1 ≤ μL33.1 26 10 ∧ μL33.1 26 10 ≤ 3000 := hi_53.nm.2.2.2.2.2.2.2.2.2.2.2.2
      refine xc_vV G (b := 23) (rest := []) (As := [.int (iv 125)]) (c_X7_needClosed_b ω l μL33 125 (by unfold ir; omega) hi_53 hi_39 (by omega) (by omega)) (wm 3 214 rfl rfl) (wm 3 216 rfl rfl) (wm 0 18 rfl rfl) rfl rfl (by decide) rfl (wm 1 12 rfl rfl) (wm 3 217 rfl rfl) (by decide) hR ⟨nfB hF (by decide), nlB hLo (by decide)⟩ (n := 1) rfl rfl (Nat.le_of_ble_eq_true rfl) hl.1 dX7_block_51 (fun μ84 ρ d0 H locs hp G => ?_)
      obtain ⟨F_85, hI_86, hp_87, hp_88, hp_89, hs_90, hs_91, hs_92, hs_93, hs_94, hs_95, hs_96, hs_97, hs_98, hs_99, hs_100⟩ := hp
      have hn_101 : -1 ≤ μ84.1 26 10 ∧ μ84.1 26 10 ≤ 3000 := hI_86.nm.2.2.2.2.2.2.2.2.2.2.2.2
      have htb_102 := hp_87.b
      clear hk_1 hc_2 hk_29
      have htE_103 : ∀ _ : Unit, μ84.1 26 11 = 0 → EX μ μ84 P tt 0 (2 * (7 - μ.1 23 9)) := fun _ h0 => EX.fr (L := [26, 23]) (hi_46 () (by have h9 : μL33.1 26 11 = μL33.1 26 11 := rfl; have h8 : μ84.1 26 11 = μ84.1 26 11 := rfl; omega)) (Fr.tr Fr.rf F_85 (by decide)) (npL_p (L := [26, 23]) (by decide) hprP).1 (npL_p (L := [26, 23]) (by decide) hprP).2.1
      have e_104 : μ84.1 P 1 = μL33.1 P 1 := (F_85.1 P (ni hprP (fun P => P) (fun P => [26, 23]) rfl) 1)
      have e_105 : μ84.1 P 1 = μL33.1 P 1 := (F_85.1 P (ni hprP (fun P => P) (fun P => [26, 23]) rfl) 1)
      have e_106 : μ84.1 (P + 2) 3 = μL33.1 (P + 2) 3 := (F_85.1 (P + 2) (ni hprP (fun P => P + 2) (fun P => [26, 23]) rfl) 3)
      have e_107 : μ84.1 P 1 = μL33.1 P 1 := (F_85.1 P (ni hprP (fun P => P) (fun P => [26, 23]) rfl) 1)
      have e_108 : μ84.1 (P + 2) 3 = μL33.1 (P + 2) 3 := (F_85.1 (P + 2) (ni hprP (fun P => P + 2) (fun P => [26, 23]) rfl) 3)
      have e_109 : μ84.1 23 9 = μL33.1 23 9 - 1 := hs_90
      exact xr_v G hret hlk dX7_block_54 ⟨(Fr.tr (Fr.tr (Fr.tr Fr.rf F_5 (si hprP (fun P => [26, 23]) (fun P => [2, 3, 4, 23, 24, 25, 26, P, P + 1, P + 2, (P + 2) + 1, (P + 2) + 2, (P + 2) + 3]) rfl)) FL34 (si hprP (fun P => [2, 3, 4, 23, 24, 25, 26, P, P + 1, P + 2, (P + 2) + 1, (P + 2) + 2, (P + 2) + 3]) (fun P => [2, 3, 4, 23, 24, 25, 26, P, P + 1, P + 2, (P + 2) + 1, (P + 2) + 2, (P + 2) + 3]) rfl)) F_85 (si hprP (fun P => [26, 23]) (fun P => [2, 3, 4, 23, 24, 25, 26, P, P + 1, P + 2, (P + 2) + 1, (P + 2) + 2, (P + 2) + 3]) rfl)), hI_86, hp_87, (by omega), (by omega), (by omega), (by omega), (htE_103 ()), (by omega), ((hs_95.trans hi_48)).trans hP, (hs_98.trans hi_49), ((hs_99.trans hi_50)).trans htt, (by omega), (hs_91.trans hi_51), ((F_85.1 P (ni hprP (fun P => P) (fun P => [26, 23]) rfl) 7).trans hi_52)⟩
    · refine lv_aload_n hx hb dX7_block_27 rfl (lv_at hl 1 rfl) ?_
      refine xa_getr G fd_X7 (a := 23) (x := 26) 0 rfl (by decide) rfl (wm 2 17 rfl rfl) ⟨rfl, rfl, rfl⟩ dX7_block_28 rfl (G.sk 23 rfl) (by decide) rfl ?_
      refine xa_getN G fd_X10 (host := "FourTongues") (a := 26) 12 rfl (by decide) (by decide) ⟨rfl, rfl, rfl⟩ dX7_block_31 rfl (v := .int (iv (μL33.1 26 12))) (by rw [show μL33.1 26 12 = μL33.1 26 12 from rfl]; rfl) ?_
      refine lv_iconst (v := iv 3) hx hb dX7_block_34 rfl ?_
      refine xb_icmp_eq (tgt := 48) hx hb (by unfold ir; omega) (by unfold ir; omega) dX7_block_35 (by decide) (fun c_35 => ?_) (fun c_35 => ?_)
      · refine lv_aload_n hx hb dX7_block_48 rfl (lv_at hl 1 rfl) ?_
        refine lv_bipush (v := iv 125) hx hb dX7_block_49 rfl ?_
        have hn_110 : -1 ≤ μL33.1 26 10 ∧ μL33.1 26 10 ≤ 3000 := hi_53.nm.2.2.2.2.2.2.2.2.2.2.2.2
        refine xc_vV G (b := 23) (rest := []) (As := [.int (iv 125)]) (c_X7_needClosed_b ω l μL33 125 (by unfold ir; omega) hi_53 hi_39 (by omega) (by omega)) (wm 3 214 rfl rfl) (wm 3 216 rfl rfl) (wm 0 18 rfl rfl) rfl rfl (by decide) rfl (wm 1 12 rfl rfl) (wm 3 217 rfl rfl) (by decide) hR ⟨nfB hF (by decide), nlB hLo (by decide)⟩ (n := 1) rfl rfl (Nat.le_of_ble_eq_true rfl) hl.1 dX7_block_51 (fun μ111 ρ d0 H locs hp G => ?_)
        obtain ⟨F_112, hI_113, hp_114, hp_115, hp_116, hs_117, hs_118, hs_119, hs_120, hs_121, hs_122, hs_123, hs_124, hs_125, hs_126, hs_127⟩ := hp
        have hn_128 : -1 ≤ μ111.1 26 10 ∧ μ111.1 26 10 ≤ 3000 := hI_113.nm.2.2.2.2.2.2.2.2.2.2.2.2
        have htb_129 := hp_114.b
        clear hk_1 hc_2 hk_29
        have htE_130 : ∀ _ : Unit, μ111.1 26 11 = 0 → EX μ μ111 P tt 0 (2 * (7 - μ.1 23 9)) := fun _ h0 => EX.fr (L := [26, 23]) (hi_46 () (by have h9 : μL33.1 26 11 = μL33.1 26 11 := rfl; have h8 : μ111.1 26 11 = μ111.1 26 11 := rfl; omega)) (Fr.tr Fr.rf F_112 (by decide)) (npL_p (L := [26, 23]) (by decide) hprP).1 (npL_p (L := [26, 23]) (by decide) hprP).2.1
        have e_131 : μ111.1 P 1 = μL33.1 P 1 := (F_112.1 P (ni hprP (fun P => P) (fun P => [26, 23]) rfl) 1)
        have e_132 : μ111.1 P 1 = μL33.1 P 1 := (F_112.1 P (ni hprP (fun P => P) (fun P => [26, 23]) rfl) 1)
        have e_133 : μ111.1 (P + 2) 3 = μL33.1 (P + 2) 3 := (F_112.1 (P + 2) (ni hprP (fun P => P + 2) (fun P => [26, 23]) rfl) 3)
        have e_134 : μ111.1 P 1 = μL33.1 P 1 := (F_112.1 P (ni hprP (fun P => P) (fun P => [26, 23]) rfl) 1)
        have e_135 : μ111.1 (P + 2) 3 = μL33.1 (P + 2) 3 := (F_112.1 (P + 2) (ni hprP (fun P => P + 2) (fun P => [26, 23]) rfl) 3)
        have e_136 : μ111.1 23 9 = μL33.1 23 9 - 1 := hs_117
        exact xr_v G hret hlk dX7_block_54 ⟨(Fr.tr (Fr.tr (Fr.tr Fr.rf F_5 (si hprP (fun P => [26, 23]) (fun P => [2, 3, 4, 23, 24, 25, 26, P, P + 1, P + 2, (P + 2) + 1, (P + 2) + 2, (P + 2) + 3]) rfl)) FL34 (si hprP (fun P => [2, 3, 4, 23, 24, 25, 26, P, P + 1, P + 2, (P + 2) + 1, (P + 2) + 2, (P + 2) + 3]) (fun P => [2, 3, 4, 23, 24, 25, 26, P, P + 1, P + 2, (P + 2) + 1, (P + 2) + 2, (P + 2) + 3]) rfl)) F_112 (si hprP (fun P => [26, 23]) (fun P => [2, 3, 4, 23, 24, 25, 26, P, P + 1, P + 2, (P + 2) + 1, (P + 2) + 2, (P + 2) + 3]) rfl)), hI_113, hp_114, (by omega), (by omega), (by omega), (by omega), (htE_130 ()), (by omega), ((hs_122.trans hi_48)).trans hP, (hs_125.trans hi_49), ((hs_126.trans hi_50)).trans htt, (by omega), (hs_118.trans hi_51), ((F_112.1 P (ni hprP (fun P => P) (fun P => [26, 23]) rfl) 7).trans hi_52)⟩
      · refine lv_aload_n hx hb dX7_block_38 rfl (lv_at hl 1 rfl) ?_
        have hs9_ : μL33.1 26 11 = 0 := (hi_39).k.resolve_right (by omega)
        have e_137 : μL33.1 23 2 = P := hi_48
        have e_138 : μL33.1 23 8 = tt := hi_50
        have hk_139 := hi_53.pr (p := P) hprP
        unfold pk at hk_139
        have hc_140 : 16 ≤ μL33.2.1 (P + 1) ∧ μL33.2.1 (P + 1) ≤ 73024 := hi_53.rm.1 _ hprP.cap
        have hn_141 : -1 ≤ μL33.1 26 10 ∧ μL33.1 26 10 ≤ 3000 := hi_53.nm.2.2.2.2.2.2.2.2.2.2.2.2
        have hk_142 := hi_53.row (r := P + 2) (hprP.row)
        unfold rk at hk_142
        refine xc_vV G (b := 23) (rest := []) (As := []) (c_X7_statement ω l μL33 F Lo kf P tt hi_53 (by omega) (by omega) hF hLo hK hi_39 (by omega) (by omega) (by omega) (by omega) hs9_ (by omega) (fun _ => (hi_47 ()))) (wm 3 222 rfl rfl) (wm 3 224 rfl rfl) (wm 0 20 rfl rfl) rfl rfl (by decide) rfl (wm 1 12 rfl rfl) (wm 3 225 rfl rfl) (by decide) hR ⟨sfr (F := F) (a := 4) (by decide), slo (L := Lo) (m := 1) (a := 90) (by decide)⟩ (n := 0) rfl rfl (Nat.le_of_ble_eq_true rfl) hl.1 dX7_block_39 (fun μ143 ρ d0 H locs hp G => ?_)
        obtain ⟨F_144, hI_145, hp_146, hp_147, hp_148, hp_149, hp_150, hp_151, hs_152, hs_153, hs_154, hs_155, hs_156, hs_157⟩ := hp
        have hn_158 : -1 ≤ μ143.1 26 10 ∧ μ143.1 26 10 ≤ 3000 := hI_145.nm.2.2.2.2.2.2.2.2.2.2.2.2
        have hk_159 := hI_145.pr (p := P) hprP
        unfold pk at hk_159
        have hc_160 : 16 ≤ μ143.2.1 (P + 1) ∧ μ143.2.1 (P + 1) ≤ 73024 := hI_145.rm.1 _ hprP.cap
        have hk_161 := hI_145.row (r := P + 2) (hprP.row)
        unfold rk at hk_161
        have htb_162 := hp_146.b
        replace hp_151 := fun _ : Unit => hp_151
        have hXE_163 : ∀ _ : Unit, μ143.1 26 11 = 0 → EX μ μ143 P tt 0 (2 * (7 - μ.1 23 9)) := fun _ h0 => (EX.tr ((hi_46 ()) hs9_) (((hp_151 ()) h0).mn (N := (2 * (7 - μ.1 23 9))) (by have h9 : μL33.1 23 9 = μL33.1 23 9 := rfl; omega))).e rfl
        have hXH_164 : ∀ _ : Unit, μ143.1 26 11 = 0 → HC μ143 P tt 0 := fun _ h0 => HC.ex ((hi_47 ()) hs9_) ((hp_151 ()) h0)
        refine lv_iinc (v := iv (i9 + 1)) (lv' := [(1, .int (iv (i9 + 1))), (0, .ref (oP ω 23))]) hx hb dX7_block_42 hl (k := 0) rfl (by rw [show Int32.ofInt 1 = iv 1 from rfl, iv_add]) (by decide) rfl (fun ls hl => ?_)
        refine lv_goto (tgt := 8) hx hb dX7_block_45 (by decide) ?_
        have e_165 : μ143.1 23 9 = μL33.1 23 9 := hs_155
        exact ih _ _ _ _ _ _ _ (by omega) ⟨i9 + 1, (Fr.tr FL34 F_144 (si hprP (fun P => [2, 3, 4, 23, 24, 25, 26, P, P + 1, P + 2, (P + 2) + 1, (P + 2) + 2, (P + 2) + 3]) (fun P => [2, 3, 4, 23, 24, 25, 26, P, P + 1, P + 2, (P + 2) + 1, (P + 2) + 2, (P + 2) + 3]) rfl)), (by omega), (by omega), (by omega), hp_146, (by omega), (by omega), (by omega), (by omega), (by omega), (by omega), (hXE_163 ()), (hXH_164 ()), (hs_152.trans hi_48), (hs_153.trans hi_49), (hs_154.trans hi_50), (hs_156.trans hi_51), (hs_157.trans hi_52), hI_145, rfl, lv_sub hl [0, 1] rfl⟩ G
