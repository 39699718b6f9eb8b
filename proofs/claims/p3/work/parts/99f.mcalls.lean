abbrev cX12_callsBy : ByteArray := prog_14_method_125_code
def yX12_callsBy : MethodName := ⟨RX12, "callsBy", "(I)V"⟩
abbrev cX12_calls : ByteArray := prog_14_method_126_code
def yX12_calls : MethodName := ⟨RX12, "calls", "(III)V"⟩
theorem dX12_callsBy_0 : decode cX12_callsBy 0 = .ok (.aload_n 0, 1) := by decide +kernel
theorem dX12_callsBy_1 : decode cX12_callsBy 1 = .ok (.getfield 574, 3) := by decide +kernel
theorem dX12_callsBy_4 : decode cX12_callsBy 4 = .ok (.iload_n 1, 1) := by decide +kernel
theorem dX12_callsBy_5 : decode cX12_callsBy 5 = .ok (.isub, 1) := by decide +kernel
theorem dX12_callsBy_6 : decode cX12_callsBy 6 = .ok (.iconst 1, 1) := by decide +kernel
theorem dX12_callsBy_7 : decode cX12_callsBy 7 = .ok (.isub, 1) := by decide +kernel
theorem dX12_callsBy_8 : decode cX12_callsBy 8 = .ok (.istore_n 2, 1) := by decide +kernel
theorem dX12_callsBy_9 : decode cX12_callsBy 9 = .ok (.aload_n 0, 1) := by decide +kernel
theorem dX12_callsBy_10 : decode cX12_callsBy 10 = .ok (.getfield 82, 3) := by decide +kernel
theorem dX12_callsBy_13 : decode cX12_callsBy 13 = .ok (.iload_n 2, 1) := by decide +kernel
theorem dX12_callsBy_14 : decode cX12_callsBy 14 = .ok (.baload, 1) := by decide +kernel
theorem dX12_callsBy_15 : decode cX12_callsBy 15 = .ok (.iconst 3, 1) := by decide +kernel
theorem dX12_callsBy_16 : decode cX12_callsBy 16 = .ok (.if_icmp .eq 29, 3) := by decide +kernel
theorem dX12_callsBy_19 : decode cX12_callsBy 19 = .ok (.aload_n 0, 1) := by decide +kernel
theorem dX12_callsBy_20 : decode cX12_callsBy 20 = .ok (.getfield 82, 3) := by decide +kernel
theorem dX12_callsBy_23 : decode cX12_callsBy 23 = .ok (.iload_n 2, 1) := by decide +kernel
theorem dX12_callsBy_24 : decode cX12_callsBy 24 = .ok (.baload, 1) := by decide +kernel
theorem dX12_callsBy_25 : decode cX12_callsBy 25 = .ok (.ifCond .ne 7, 3) := by decide +kernel
theorem dX12_callsBy_28 : decode cX12_callsBy 28 = .ok (.iconst 3, 1) := by decide +kernel
theorem dX12_callsBy_29 : decode cX12_callsBy 29 = .ok (.goto 4, 3) := by decide +kernel
theorem dX12_callsBy_32 : decode cX12_callsBy 32 = .ok (.iconst 4, 1) := by decide +kernel
theorem dX12_callsBy_33 : decode cX12_callsBy 33 = .ok (.istore_n 3, 1) := by decide +kernel
theorem dX12_callsBy_34 : decode cX12_callsBy 34 = .ok (.aload_n 0, 1) := by decide +kernel
theorem dX12_callsBy_35 : decode cX12_callsBy 35 = .ok (.iload_n 2, 1) := by decide +kernel
theorem dX12_callsBy_36 : decode cX12_callsBy 36 = .ok (.putfield 574, 3) := by decide +kernel
theorem dX12_callsBy_39 : decode cX12_callsBy 39 = .ok (.aload_n 0, 1) := by decide +kernel
theorem dX12_callsBy_40 : decode cX12_callsBy 40 = .ok (.iload_n 3, 1) := by decide +kernel
theorem dX12_callsBy_41 : decode cX12_callsBy 41 = .ok (.invokevirtual 678, 3) := by decide +kernel
theorem dX12_callsBy_44 : decode cX12_callsBy 44 = .ok (.return_, 1) := by decide +kernel
theorem dX12_callsBy_45 : decode cX12_callsBy 45 = .ok (.aload_n 0, 1) := by decide +kernel
theorem dX12_callsBy_46 : decode cX12_callsBy 46 = .ok (.getfield 85, 3) := by decide +kernel
theorem dX12_callsBy_49 : decode cX12_callsBy 49 = .ok (.iload_n 2, 1) := by decide +kernel
theorem dX12_callsBy_50 : decode cX12_callsBy 50 = .ok (.laload, 1) := by decide +kernel
theorem dX12_callsBy_51 : decode cX12_callsBy 51 = .ok (.l2i, 1) := by decide +kernel
theorem dX12_callsBy_52 : decode cX12_callsBy 52 = .ok (.istore_n 3, 1) := by decide +kernel
theorem dX12_callsBy_53 : decode cX12_callsBy 53 = .ok (.iload_n 2, 1) := by decide +kernel
theorem dX12_callsBy_54 : decode cX12_callsBy 54 = .ok (.istore 4, 2) := by decide +kernel
theorem dX12_callsBy_56 : decode cX12_callsBy 56 = .ok (.iload 4, 2) := by decide +kernel
theorem dX12_callsBy_58 : decode cX12_callsBy 58 = .ok (.aload_n 0, 1) := by decide +kernel
theorem dX12_callsBy_59 : decode cX12_callsBy 59 = .ok (.getfield 574, 3) := by decide +kernel
theorem dX12_callsBy_62 : decode cX12_callsBy 62 = .ok (.iconst 1, 1) := by decide +kernel
theorem dX12_callsBy_63 : decode cX12_callsBy 63 = .ok (.isub, 1) := by decide +kernel
theorem dX12_callsBy_64 : decode cX12_callsBy 64 = .ok (.if_icmp .ge 41, 3) := by decide +kernel
theorem dX12_callsBy_67 : decode cX12_callsBy 67 = .ok (.aload_n 0, 1) := by decide +kernel
theorem dX12_callsBy_68 : decode cX12_callsBy 68 = .ok (.getfield 82, 3) := by decide +kernel
theorem dX12_callsBy_71 : decode cX12_callsBy 71 = .ok (.iload 4, 2) := by decide +kernel
theorem dX12_callsBy_73 : decode cX12_callsBy 73 = .ok (.aload_n 0, 1) := by decide +kernel
theorem dX12_callsBy_74 : decode cX12_callsBy 74 = .ok (.getfield 82, 3) := by decide +kernel
theorem dX12_callsBy_77 : decode cX12_callsBy 77 = .ok (.iload 4, 2) := by decide +kernel
theorem dX12_callsBy_79 : decode cX12_callsBy 79 = .ok (.iconst 1, 1) := by decide +kernel
theorem dX12_callsBy_80 : decode cX12_callsBy 80 = .ok (.iadd, 1) := by decide +kernel
theorem dX12_callsBy_81 : decode cX12_callsBy 81 = .ok (.baload, 1) := by decide +kernel
theorem dX12_callsBy_82 : decode cX12_callsBy 82 = .ok (.bastore, 1) := by decide +kernel
theorem dX12_callsBy_83 : decode cX12_callsBy 83 = .ok (.aload_n 0, 1) := by decide +kernel
theorem dX12_callsBy_84 : decode cX12_callsBy 84 = .ok (.getfield 85, 3) := by decide +kernel
theorem dX12_callsBy_87 : decode cX12_callsBy 87 = .ok (.iload 4, 2) := by decide +kernel
theorem dX12_callsBy_89 : decode cX12_callsBy 89 = .ok (.aload_n 0, 1) := by decide +kernel
theorem dX12_callsBy_90 : decode cX12_callsBy 90 = .ok (.getfield 85, 3) := by decide +kernel
theorem dX12_callsBy_93 : decode cX12_callsBy 93 = .ok (.iload 4, 2) := by decide +kernel
theorem dX12_callsBy_95 : decode cX12_callsBy 95 = .ok (.iconst 1, 1) := by decide +kernel
theorem dX12_callsBy_96 : decode cX12_callsBy 96 = .ok (.iadd, 1) := by decide +kernel
theorem dX12_callsBy_97 : decode cX12_callsBy 97 = .ok (.laload, 1) := by decide +kernel
theorem dX12_callsBy_98 : decode cX12_callsBy 98 = .ok (.lastore, 1) := by decide +kernel
theorem dX12_callsBy_99 : decode cX12_callsBy 99 = .ok (.iinc 4 1, 3) := by decide +kernel
theorem dX12_callsBy_102 : decode cX12_callsBy 102 = .ok (.goto (-46), 3) := by decide +kernel
theorem dX12_callsBy_105 : decode cX12_callsBy 105 = .ok (.aload_n 0, 1) := by decide +kernel
theorem dX12_callsBy_106 : decode cX12_callsBy 106 = .ok (.dup, 1) := by decide +kernel
theorem dX12_callsBy_107 : decode cX12_callsBy 107 = .ok (.getfield 574, 3) := by decide +kernel
theorem dX12_callsBy_110 : decode cX12_callsBy 110 = .ok (.iconst 1, 1) := by decide +kernel
theorem dX12_callsBy_111 : decode cX12_callsBy 111 = .ok (.isub, 1) := by decide +kernel
theorem dX12_callsBy_112 : decode cX12_callsBy 112 = .ok (.putfield 574, 3) := by decide +kernel
theorem dX12_callsBy_115 : decode cX12_callsBy 115 = .ok (.iload_n 3, 1) := by decide +kernel
theorem dX12_callsBy_116 : decode cX12_callsBy 116 = .ok (.bipush 64, 2) := by decide +kernel
theorem dX12_callsBy_118 : decode cX12_callsBy 118 = .ok (.idiv, 1) := by decide +kernel
theorem dX12_callsBy_119 : decode cX12_callsBy 119 = .ok (.istore 4, 2) := by decide +kernel
theorem dX12_callsBy_121 : decode cX12_callsBy 121 = .ok (.aload_n 0, 1) := by decide +kernel
theorem dX12_callsBy_122 : decode cX12_callsBy 122 = .ok (.iload 4, 2) := by decide +kernel
theorem dX12_callsBy_124 : decode cX12_callsBy 124 = .ok (.iload_n 3, 1) := by decide +kernel
theorem dX12_callsBy_125 : decode cX12_callsBy 125 = .ok (.bipush 64, 2) := by decide +kernel
theorem dX12_callsBy_127 : decode cX12_callsBy 127 = .ok (.irem, 1) := by decide +kernel
theorem dX12_callsBy_128 : decode cX12_callsBy 128 = .ok (.aload_n 0, 1) := by decide +kernel
theorem dX12_callsBy_129 : decode cX12_callsBy 129 = .ok (.getfield 42, 3) := by decide +kernel
theorem dX12_callsBy_132 : decode cX12_callsBy 132 = .ok (.iload 4, 2) := by decide +kernel
theorem dX12_callsBy_134 : decode cX12_callsBy 134 = .ok (.iaload, 1) := by decide +kernel
theorem dX12_callsBy_135 : decode cX12_callsBy 135 = .ok (.if_icmp .ge 10, 3) := by decide +kernel
theorem dX12_callsBy_138 : decode cX12_callsBy 138 = .ok (.iload_n 3, 1) := by decide +kernel
theorem dX12_callsBy_139 : decode cX12_callsBy 139 = .ok (.bipush 64, 2) := by decide +kernel
theorem dX12_callsBy_141 : decode cX12_callsBy 141 = .ok (.irem, 1) := by decide +kernel
theorem dX12_callsBy_142 : decode cX12_callsBy 142 = .ok (.goto 4, 3) := by decide +kernel
theorem dX12_callsBy_145 : decode cX12_callsBy 145 = .ok (.iconst (-1), 1) := by decide +kernel
theorem dX12_callsBy_146 : decode cX12_callsBy 146 = .ok (.iload_n 1, 1) := by decide +kernel
theorem dX12_callsBy_147 : decode cX12_callsBy 147 = .ok (.invokevirtual 735, 3) := by decide +kernel
theorem dX12_callsBy_150 : decode cX12_callsBy 150 = .ok (.return_, 1) := by decide +kernel
theorem dX12_calls_0 : decode cX12_calls 0 = .ok (.aload_n 0, 1) := by decide +kernel
theorem dX12_calls_1 : decode cX12_calls 1 = .ok (.getfield 574, 3) := by decide +kernel
theorem dX12_calls_4 : decode cX12_calls 4 = .ok (.iload_n 3, 1) := by decide +kernel
theorem dX12_calls_5 : decode cX12_calls 5 = .ok (.isub, 1) := by decide +kernel
theorem dX12_calls_6 : decode cX12_calls 6 = .ok (.istore 4, 2) := by decide +kernel
theorem dX12_calls_8 : decode cX12_calls 8 = .ok (.aload_n 0, 1) := by decide +kernel
theorem dX12_calls_9 : decode cX12_calls 9 = .ok (.invokevirtual 609, 3) := by decide +kernel
theorem dX12_calls_12 : decode cX12_calls 12 = .ok (.istore 5, 2) := by decide +kernel
theorem dX12_calls_14 : decode cX12_calls 14 = .ok (.aload_n 0, 1) := by decide +kernel
theorem dX12_calls_15 : decode cX12_calls 15 = .ok (.iload 4, 2) := by decide +kernel
theorem dX12_calls_17 : decode cX12_calls 17 = .ok (.putfield 574, 3) := by decide +kernel
theorem dX12_calls_20 : decode cX12_calls 20 = .ok (.iload_n 2, 1) := by decide +kernel
theorem dX12_calls_21 : decode cX12_calls 21 = .ok (.iconst (-1), 1) := by decide +kernel
theorem dX12_calls_22 : decode cX12_calls 22 = .ok (.if_icmp .ne 9, 3) := by decide +kernel
theorem dX12_calls_25 : decode cX12_calls 25 = .ok (.aload_n 0, 1) := by decide +kernel
theorem dX12_calls_26 : decode cX12_calls 26 = .ok (.iconst 3, 1) := by decide +kernel
theorem dX12_calls_27 : decode cX12_calls 27 = .ok (.invokevirtual 678, 3) := by decide +kernel
theorem dX12_calls_30 : decode cX12_calls 30 = .ok (.return_, 1) := by decide +kernel
theorem dX12_calls_31 : decode cX12_calls 31 = .ok (.aload_n 0, 1) := by decide +kernel
theorem dX12_calls_32 : decode cX12_calls 32 = .ok (.getfield 580, 3) := by decide +kernel
theorem dX12_calls_35 : decode cX12_calls 35 = .ok (.bipush 24, 2) := by decide +kernel
theorem dX12_calls_37 : decode cX12_calls 37 = .ok (.if_icmp .ne 10, 3) := by decide +kernel
theorem dX12_calls_40 : decode cX12_calls 40 = .ok (.aload_n 0, 1) := by decide +kernel
theorem dX12_calls_41 : decode cX12_calls 41 = .ok (.bipush 6, 2) := by decide +kernel
theorem dX12_calls_43 : decode cX12_calls 43 = .ok (.invokevirtual 678, 3) := by decide +kernel
theorem dX12_calls_46 : decode cX12_calls 46 = .ok (.return_, 1) := by decide +kernel
theorem dX12_calls_47 : decode cX12_calls 47 = .ok (.aload_n 0, 1) := by decide +kernel
theorem dX12_calls_48 : decode cX12_calls 48 = .ok (.getfield 36, 3) := by decide +kernel
theorem dX12_calls_51 : decode cX12_calls 51 = .ok (.bipush 40, 2) := by decide +kernel
theorem dX12_calls_53 : decode cX12_calls 53 = .ok (.iload_n 1, 1) := by decide +kernel
theorem dX12_calls_54 : decode cX12_calls 54 = .ok (.imul, 1) := by decide +kernel
theorem dX12_calls_55 : decode cX12_calls 55 = .ok (.iload_n 2, 1) := by decide +kernel
theorem dX12_calls_56 : decode cX12_calls 56 = .ok (.iadd, 1) := by decide +kernel
theorem dX12_calls_57 : decode cX12_calls 57 = .ok (.iaload, 1) := by decide +kernel
theorem dX12_calls_58 : decode cX12_calls 58 = .ok (.istore 6, 2) := by decide +kernel
theorem dX12_calls_60 : decode cX12_calls 60 = .ok (.iconst 0, 1) := by decide +kernel
theorem dX12_calls_61 : decode cX12_calls 61 = .ok (.istore 7, 2) := by decide +kernel
theorem dX12_calls_63 : decode cX12_calls 63 = .ok (.iload 7, 2) := by decide +kernel
theorem dX12_calls_65 : decode cX12_calls 65 = .ok (.iload_n 3, 1) := by decide +kernel
theorem dX12_calls_66 : decode cX12_calls 66 = .ok (.if_icmp .ge 78, 3) := by decide +kernel
theorem dX12_calls_69 : decode cX12_calls 69 = .ok (.iload_n 1, 1) := by decide +kernel
theorem dX12_calls_70 : decode cX12_calls 70 = .ok (.iload 5, 2) := by decide +kernel
theorem dX12_calls_72 : decode cX12_calls 72 = .ok (.if_icmp .eq 72, 3) := by decide +kernel
theorem dX12_calls_75 : decode cX12_calls 75 = .ok (.aload_n 0, 1) := by decide +kernel
theorem dX12_calls_76 : decode cX12_calls 76 = .ok (.invokevirtual 606, 3) := by decide +kernel
theorem dX12_calls_79 : decode cX12_calls 79 = .ok (.ifCond .ne 4, 3) := by decide +kernel
theorem dX12_calls_82 : decode cX12_calls 82 = .ok (.return_, 1) := by decide +kernel
theorem dX12_calls_83 : decode cX12_calls 83 = .ok (.aload_n 0, 1) := by decide +kernel
theorem dX12_calls_84 : decode cX12_calls 84 = .ok (.iload 5, 2) := by decide +kernel
theorem dX12_calls_86 : decode cX12_calls 86 = .ok (.iload_n 1, 1) := by decide +kernel
theorem dX12_calls_87 : decode cX12_calls 87 = .ok (.aload_n 0, 1) := by decide +kernel
theorem dX12_calls_88 : decode cX12_calls 88 = .ok (.getfield 82, 3) := by decide +kernel
theorem dX12_calls_91 : decode cX12_calls 91 = .ok (.iload 4, 2) := by decide +kernel
theorem dX12_calls_93 : decode cX12_calls 93 = .ok (.iload 7, 2) := by decide +kernel
theorem dX12_calls_95 : decode cX12_calls 95 = .ok (.iadd, 1) := by decide +kernel
theorem dX12_calls_96 : decode cX12_calls 96 = .ok (.baload, 1) := by decide +kernel
theorem dX12_calls_97 : decode cX12_calls 97 = .ok (.aload_n 0, 1) := by decide +kernel
theorem dX12_calls_98 : decode cX12_calls 98 = .ok (.getfield 85, 3) := by decide +kernel
theorem dX12_calls_101 : decode cX12_calls 101 = .ok (.iload 4, 2) := by decide +kernel
theorem dX12_calls_103 : decode cX12_calls 103 = .ok (.iload 7, 2) := by decide +kernel
theorem dX12_calls_105 : decode cX12_calls 105 = .ok (.iadd, 1) := by decide +kernel
theorem dX12_calls_106 : decode cX12_calls 106 = .ok (.laload, 1) := by decide +kernel
theorem dX12_calls_107 : decode cX12_calls 107 = .ok (.invokevirtual 675, 3) := by decide +kernel
theorem dX12_calls_110 : decode cX12_calls 110 = .ok (.aload_n 0, 1) := by decide +kernel
theorem dX12_calls_111 : decode cX12_calls 111 = .ok (.getfield 534, 3) := by decide +kernel
theorem dX12_calls_114 : decode cX12_calls 114 = .ok (.ifCond .ne 10, 3) := by decide +kernel
theorem dX12_calls_117 : decode cX12_calls 117 = .ok (.aload_n 0, 1) := by decide +kernel
theorem dX12_calls_118 : decode cX12_calls 118 = .ok (.bipush 9, 2) := by decide +kernel
theorem dX12_calls_120 : decode cX12_calls 120 = .ok (.invokevirtual 678, 3) := by decide +kernel
theorem dX12_calls_123 : decode cX12_calls 123 = .ok (.return_, 1) := by decide +kernel
theorem dX12_calls_124 : decode cX12_calls 124 = .ok (.aload_n 0, 1) := by decide +kernel
theorem dX12_calls_125 : decode cX12_calls 125 = .ok (.getfield 85, 3) := by decide +kernel
theorem dX12_calls_128 : decode cX12_calls 128 = .ok (.iload 4, 2) := by decide +kernel
theorem dX12_calls_130 : decode cX12_calls 130 = .ok (.iload 7, 2) := by decide +kernel
theorem dX12_calls_132 : decode cX12_calls 132 = .ok (.iadd, 1) := by decide +kernel
theorem dX12_calls_133 : decode cX12_calls 133 = .ok (.aload_n 0, 1) := by decide +kernel
theorem dX12_calls_134 : decode cX12_calls 134 = .ok (.getfield 538, 3) := by decide +kernel
theorem dX12_calls_137 : decode cX12_calls 137 = .ok (.lastore, 1) := by decide +kernel
theorem dX12_calls_138 : decode cX12_calls 138 = .ok (.iinc 7 1, 3) := by decide +kernel
theorem dX12_calls_141 : decode cX12_calls 141 = .ok (.goto (-78), 3) := by decide +kernel
theorem dX12_calls_144 : decode cX12_calls 144 = .ok (.iload_n 1, 1) := by decide +kernel
theorem dX12_calls_145 : decode cX12_calls 145 = .ok (.iload 5, 2) := by decide +kernel
theorem dX12_calls_147 : decode cX12_calls 147 = .ok (.if_icmp .eq 13, 3) := by decide +kernel
theorem dX12_calls_150 : decode cX12_calls 150 = .ok (.aload_n 0, 1) := by decide +kernel
theorem dX12_calls_151 : decode cX12_calls 151 = .ok (.dup, 1) := by decide +kernel
theorem dX12_calls_152 : decode cX12_calls 152 = .ok (.getfield 757, 3) := by decide +kernel
theorem dX12_calls_155 : decode cX12_calls 155 = .ok (.iconst 1, 1) := by decide +kernel
theorem dX12_calls_156 : decode cX12_calls 156 = .ok (.iadd, 1) := by decide +kernel
theorem dX12_calls_157 : decode cX12_calls 157 = .ok (.putfield 757, 3) := by decide +kernel
theorem dX12_calls_160 : decode cX12_calls 160 = .ok (.aload_n 0, 1) := by decide +kernel
theorem dX12_calls_161 : decode cX12_calls 161 = .ok (.iload_n 1, 1) := by decide +kernel
theorem dX12_calls_162 : decode cX12_calls 162 = .ok (.iload_n 2, 1) := by decide +kernel
theorem dX12_calls_163 : decode cX12_calls 163 = .ok (.invokevirtual 760, 3) := by decide +kernel
theorem dX12_calls_166 : decode cX12_calls 166 = .ok (.iconst 0, 1) := by decide +kernel
theorem dX12_calls_167 : decode cX12_calls 167 = .ok (.istore 7, 2) := by decide +kernel
theorem dX12_calls_169 : decode cX12_calls 169 = .ok (.iload 7, 2) := by decide +kernel
theorem dX12_calls_171 : decode cX12_calls 171 = .ok (.iload_n 3, 1) := by decide +kernel
theorem dX12_calls_172 : decode cX12_calls 172 = .ok (.if_icmp .ge 42, 3) := by decide +kernel
theorem dX12_calls_175 : decode cX12_calls 175 = .ok (.iload 7, 2) := by decide +kernel
theorem dX12_calls_177 : decode cX12_calls 177 = .ok (.iload 6, 2) := by decide +kernel
theorem dX12_calls_179 : decode cX12_calls 179 = .ok (.if_icmp .ge 35, 3) := by decide +kernel
theorem dX12_calls_182 : decode cX12_calls 182 = .ok (.aload_n 0, 1) := by decide +kernel
theorem dX12_calls_183 : decode cX12_calls 183 = .ok (.iload 7, 2) := by decide +kernel
theorem dX12_calls_185 : decode cX12_calls 185 = .ok (.aload_n 0, 1) := by decide +kernel
theorem dX12_calls_186 : decode cX12_calls 186 = .ok (.getfield 82, 3) := by decide +kernel
theorem dX12_calls_189 : decode cX12_calls 189 = .ok (.iload 4, 2) := by decide +kernel
theorem dX12_calls_191 : decode cX12_calls 191 = .ok (.iload 7, 2) := by decide +kernel
theorem dX12_calls_193 : decode cX12_calls 193 = .ok (.iadd, 1) := by decide +kernel
theorem dX12_calls_194 : decode cX12_calls 194 = .ok (.baload, 1) := by decide +kernel
theorem dX12_calls_195 : decode cX12_calls 195 = .ok (.aload_n 0, 1) := by decide +kernel
theorem dX12_calls_196 : decode cX12_calls 196 = .ok (.getfield 85, 3) := by decide +kernel
theorem dX12_calls_199 : decode cX12_calls 199 = .ok (.iload 4, 2) := by decide +kernel
theorem dX12_calls_201 : decode cX12_calls 201 = .ok (.iload 7, 2) := by decide +kernel
theorem dX12_calls_203 : decode cX12_calls 203 = .ok (.iadd, 1) := by decide +kernel
theorem dX12_calls_204 : decode cX12_calls 204 = .ok (.laload, 1) := by decide +kernel
theorem dX12_calls_205 : decode cX12_calls 205 = .ok (.invokevirtual 654, 3) := by decide +kernel
theorem dX12_calls_208 : decode cX12_calls 208 = .ok (.iinc 7 1, 3) := by decide +kernel
theorem dX12_calls_211 : decode cX12_calls 211 = .ok (.goto (-42), 3) := by decide +kernel
theorem dX12_calls_214 : decode cX12_calls 214 = .ok (.return_, 1) := by decide +kernel
set_option maxHeartbeats 4000000 in
set_option maxRecDepth 100000 in
theorem c_X12_calls (ω : Om) (l : Launch) (μ : M3) (x1 : Int) (x2 : Int) (x3 : Int) (n : Int) (hx1 : ir x1) (hx2 : ir x2) (hx3 : ir x3) (hn : n = μ.1 111 47) (hMZ : MZ μ) (h1 : 1 ≤ n ∧ n ≤ 24) (h94 : μ.1 111 94 = 0) (hq1 : 0 ≤ x1 ∧ x1 ≤ 3) (hq2 : x2 = -1 ∨ (0 ≤ x2 ∧ x2 < μ.1 122 x1)) (hq3 : 0 ≤ x3 ∧ μ.1 131 (n - 1) + x3 ≤ μ.1 111 53) (hTQ : TQ μ (1 - x3)) : CtV ω l yX12_calls cX12_calls 8 183 4972 [.ref (oP ω 111), .int (iv x1), .int (iv x2), .int (iv x3)] μ (fun (μ' : M3) => (FrM [111, 129, 133, 134, 135, 136, 137, 138, 139, 140, 141, 142, 143, 149, 150, 151, 152, 153, 154, 155, 156, 157, 158, 159, 127, 128, 130, 131, 132] μ μ') ∧ (∀ j, j ∉ ([47, 53, 61, 81, 82, 83, 84, 90, 91, 93, 94, 95, 96, 97, 98, 99, 48, 89] : List Int) → μ'.1 111 j = μ.1 111 j) ∧ (RES μ' (RX μ + 29000))) := by
  refine CtV.go (by decide) (Nat.le_of_ble_eq_true rfl) (fun ρ p e s m below meth c R ls G hR hret hlk hl => ?_)
  have hx := G.1.1
  have hb := G.1.2.1
  have hl : lv_has ls 8 [(0, .ref (oP ω 111)), (1, .int (iv x1)), (2, .int (iv x2)), (3, .int (iv x3))] := hl
  generalize s.drawn = d0 at G ⊢
  have hr_x1 : -2147483648 ≤ x1 ∧ x1 ≤ 2147483647 := hx1
  have hr_x2 : -2147483648 ≤ x2 ∧ x2 ≤ 2147483647 := hx2
  have hr_x3 : -2147483648 ≤ x3 ∧ x3 ≤ 2147483647 := hx3
  have hzn_ := hMZ.n
  rw [← hn] at hzn_
  obtain ⟨hz47, hzFB, hzFL, hz81, hz82, hz84, hz65, hz4, hz104⟩ := hzn_
  have htq_ := hTQ.n hMZ (by omega)
  rw [← hn] at htq_
  have hfr_ := (hMZ.2.2.1 (n - 1) (by omega) (by omega)).1.1
  have hzB := FB_1 (μ := μ) (n := n) (by omega)
  have hzL := FL_1 (μ := μ) (n := n) (by omega)
  have hfn_ := (hMZ.1.2.1 x1 hq1.1 hq1.2).1
  refine lv_aload_n hx hb dX12_calls_0 rfl (lv_at hl 0 rfl) ?_
  refine xa_geti G fd_X12 (a := 111) (x := μ.1 111 53) 53 rfl (by decide) rfl (wm 7 202 rfl rfl) ⟨rfl, rfl, rfl⟩ dX12_calls_1 rfl rfl ?_
  have hr_1 : -2147483648 ≤ μ.1 111 53 ∧ μ.1 111 53 ≤ 2147483647 := by have h9 := G.hr (a := 111) (k := 53) rfl; exact h9
  refine lv_iload_n hx hb dX12_calls_4 rfl (lv_at hl 3 rfl) ?_
  refine xb_isub hx hb dX12_calls_5 ?_
  refine lv_istore (lv' := [(4, .int (iv ((μ.1 111 53) - x3))), (0, .ref (oP ω 111)), (1, .int (iv x1)), (2, .int (iv x2)), (3, .int (iv x3))]) hx hb dX12_calls_6 hl (by decide) rfl (fun ls hl => ?_)
  refine lv_aload_n hx hb dX12_calls_8 rfl (lv_at hl 1 rfl) ?_
  have e_2 : μ.1 111 47 = n := hn.symm
  refine xc_iV G (b := 111) (rest := []) (As := []) (c_X12_now ω l μ n (by omega) (by omega)) (wm 10 163 rfl rfl) (wm 10 165 rfl rfl) (wm 0 204 rfl rfl) rfl rfl (by decide) rfl (wm 1 18 rfl rfl) (wm 10 166 rfl rfl) (by decide) hR (by decide) (n := 0) rfl rfl (Nat.le_of_ble_eq_true rfl) hl.1 dX12_calls_9 (fun r_4 μ3 ρ d0 H locs hr_r_4 hp G => ?_)
  have hr_r_4 : -2147483648 ≤ r_4 ∧ r_4 ≤ 2147483647 := hr_r_4
  obtain ⟨hsm_5, hp_6⟩ := hp
  have hsm_5 := Eq.symm hsm_5
  subst hsm_5
  refine xb_ti (y := μ.1 127 (n - 1)) hp_6 ?_
  have hr_7 : -2147483648 ≤ μ.1 127 (n - 1) ∧ μ.1 127 (n - 1) ≤ 2147483647 := by omega
  refine lv_istore (lv' := [(5, .int (iv (μ.1 127 (n - 1)))), (4, .int (iv ((μ.1 111 53) - x3))), (0, .ref (oP ω 111)), (1, .int (iv x1)), (2, .int (iv x2)), (3, .int (iv x3))]) hx hb dX12_calls_12 hl (by decide) rfl (fun ls hl => ?_)
  refine lv_aload_n hx hb dX12_calls_14 rfl (lv_at hl 2 rfl) ?_
  refine lv_iload hx hb dX12_calls_15 (lv_at hl 1 rfl) ?_
  refine xa_puti G fd_X12 (a := 111) (x := (μ.1 111 53) - x3) 53 (kz := 53) rfl rfl (by decide) rfl (by unfold ir; omega) (wm 7 202 rfl rfl) ⟨rfl, rfl, rfl, rfl⟩ rfl dX12_calls_17 rfl (fun H locs G => ?_)
  refine lv_iload_n hx hb dX12_calls_20 rfl (lv_at hl 4 rfl) ?_
  refine lv_iconst (v := iv (-1)) hx hb dX12_calls_21 rfl ?_
  refine xb_icmp_ne (tgt := 31) hx hb (by unfold ir; omega) (by unfold ir; omega) dX12_calls_22 (by decide) (fun c_22 => ?_) (fun c_22 => ?_)
  · refine lv_aload_n hx hb dX12_calls_31 rfl (lv_at hl 2 rfl) ?_
    refine xa_geti G fd_X12 (a := 111) (x := n) 47 rfl (by decide) rfl (wm 7 196 rfl rfl) ⟨rfl, rfl, rfl⟩ dX12_calls_32 rfl ((sv_n _ (by decide)).trans hn.symm) ?_
    have hr_8 : -2147483648 ≤ n ∧ n ≤ 2147483647 := by have h9 := G.hr (a := 111) (k := 47) rfl; rw [show (sv μ 111 53 ((μ.1 111 53) - x3)).1 111 47 = n from ((sv_n _ (by decide)).trans hn.symm)] at h9; exact h9
    refine lv_bipush (v := iv 24) hx hb dX12_calls_35 rfl ?_
    refine xb_icmp_ne (tgt := 47) hx hb (by unfold ir; omega) (by unfold ir; omega) dX12_calls_37 (by decide) (fun c_37 => ?_) (fun c_37 => ?_)
    · have hmn_ := (hq2.resolve_left (by omega))
      obtain ⟨E9, row9⟩ := (hMZ.1.2.1 x1 hq1.1 hq1.2).2 x2 hmn_.1 hmn_.2
      have hr9 := row9.2.2.1
      refine lv_aload_n hx hb dX12_calls_47 rfl (lv_at hl 2 rfl) ?_
      refine xa_getr G fd_X12 (a := 111) (x := 120) 25 rfl (by decide) rfl (wm 7 174 rfl rfl) ⟨rfl, rfl, rfl⟩ dX12_calls_48 rfl (G.sk 118 rfl) (by decide) rfl ?_
      refine lv_bipush (v := iv 40) hx hb dX12_calls_51 rfl ?_
      refine lv_iload_n hx hb dX12_calls_53 rfl (lv_at hl 3 rfl) ?_
      refine xb_imul hx hb dX12_calls_54 ?_
      refine lv_iload_n hx hb dX12_calls_55 rfl (lv_at hl 4 rfl) ?_
      refine xb_iadd hx hb dX12_calls_56 ?_
      refine xa_iald G (a := 120) (i := (40 * x1) + x2) rfl (by have h9 := G.lc (a := 120) (n := 200) 58 rfl; omega) dX12_calls_57 rfl ?_
      refine xb_ti (y := μ.1 120 ((40 * x1) + x2)) (sv_n _ (fun h9 => absurd h9.1 (by decide))) ?_
      have hr_9 : -2147483648 ≤ μ.1 120 ((40 * x1) + x2) ∧ μ.1 120 ((40 * x1) + x2) ≤ 2147483647 := by have h9 := G.hr (a := 120) (k := (40 * x1) + x2) rfl; rw [(sv_n _ (fun h9 => absurd h9.1 (by decide)))] at h9; exact h9
      refine lv_istore (lv' := [(6, .int (iv (μ.1 120 ((40 * x1) + x2)))), (5, .int (iv (μ.1 127 (n - 1)))), (4, .int (iv ((μ.1 111 53) - x3))), (0, .ref (oP ω 111)), (1, .int (iv x1)), (2, .int (iv x2)), (3, .int (iv x3))]) hx hb dX12_calls_58 hl (by decide) rfl (fun ls hl => ?_)
      refine lv_iconst (v := iv 0) hx hb dX12_calls_60 rfl ?_
      refine lv_istore (lv' := [(7, .int (iv 0)), (6, .int (iv (μ.1 120 ((40 * x1) + x2)))), (5, .int (iv (μ.1 127 (n - 1)))), (4, .int (iv ((μ.1 111 53) - x3))), (0, .ref (oP ω 111)), (1, .int (iv x1)), (2, .int (iv x2)), (3, .int (iv x3))]) hx hb dX12_calls_61 hl (by decide) rfl (fun ls hl => ?_)
      have e_10 : (sv μ 111 53 ((μ.1 111 53) - x3)).1 111 83 = μ.1 111 83 := (sv_n _ (by decide))
      have e_11 : (sv μ 111 53 ((μ.1 111 53) - x3)).1 111 94 = μ.1 111 94 := (sv_n _ (by decide))
      have hMZ_12 : MZ (sv μ 111 53 ((μ.1 111 53) - x3)) := MZ.mn1 hMZ (n := n) (s := μ.1 131 (n - 1)) (hn.symm) (by have h9 : μ.1 131 (n - 1) = μ.1 131 (n - 1) := rfl; exact h9) (by omega) (by have h9 : μ.1 111 53 = μ.1 111 53 := rfl; omega)
      refine xl (fun n_9 μ' ls => ∃ (k9 : Int), (FrM [111, 136] (sv μ 111 53 ((μ.1 111 53) - x3)) μ') ∧ (-2147483648 ≤ k9 ∧ k9 ≤ 2147483647) ∧ (∀ j, j ∉ ([83, 84, 93, 94, 98, 99] : List Int) → μ'.1 111 j = (sv μ 111 53 ((μ.1 111 53) - x3)).1 111 j) ∧ (0 ≤ k9) ∧ (μ.1 111 83 ≤ μ'.1 111 83) ∧ (μ'.1 111 94 = 0) ∧ (MZ μ') ∧ (∀ j, 0 ≤ j → j < μ.1 111 53 → VV (μ.1 111 65) (μ.1 111 82) (μ.1 135 j) (μ'.1 136 j)) ∧ n_9 = Int.toNat (x3 - k9) ∧ lv_has ls 8 [(7, .int (iv k9)), (6, .int (iv (μ.1 120 ((40 * x1) + x2)))), (5, .int (iv (μ.1 127 (n - 1)))), (4, .int (iv ((μ.1 111 53) - x3))), (0, .ref (oP ω 111)), (1, .int (iv x1)), (2, .int (iv x2)), (3, .int (iv x3))]) (fun n_9 ρ μL13 d0 H locs ls hI_l G ih => ?_) _ _ _ _ _ _ _ ⟨0, FrM.rf, (by omega), (fun j hj => rfl), (by omega), (by omega), (by omega), hMZ_12, (fun j h1 h2 => hMZ.stv j h1 h2), rfl, lv_sub hl [0, 1, 2, 3, 4, 5, 6, 7] rfl⟩ G
      obtain ⟨k9, FL14, hi_16, hi_17, hi_18, hi_19, hi_20, hi_21, hi_22, hn15, hl⟩ := hI_l
      have hzl_ := hi_21.n
      have e_23 : μL13.1 111 47 = n := ((hi_17 47 (by decide)).trans ((sv_n _ (by decide)).trans hn.symm))
      have e_24 : μL13.1 111 82 = μ.1 111 82 := ((hi_17 82 (by decide)).trans (sv_n _ (by decide)))
      have e_25 : μL13.1 111 53 = (μ.1 111 53) - x3 := ((hi_17 53 (by decide)).trans (sv_s _ _ _ _))
      refine lv_iload hx hb dX12_calls_63 (lv_at hl 0 rfl) ?_
      refine lv_iload_n hx hb dX12_calls_65 rfl (lv_at hl 7 rfl) ?_
      refine xb_icmp_ge (tgt := 144) hx hb (by unfold ir; omega) (by unfold ir; omega) dX12_calls_66 (by decide) (fun c_66 => ?_) (fun c_66 => ?_)
      · refine lv_iload_n hx hb dX12_calls_144 rfl (lv_at hl 5 rfl) ?_
        refine lv_iload hx hb dX12_calls_145 (lv_at hl 2 rfl) ?_
        refine xb_icmp_eq (tgt := 160) hx hb (by unfold ir; omega) (by unfold ir; omega) dX12_calls_147 (by decide) (fun c_147 => ?_) (fun c_147 => ?_)
        · refine lv_aload_n hx hb dX12_calls_160 rfl (lv_at hl 4 rfl) ?_
          refine lv_iload_n hx hb dX12_calls_161 rfl (lv_at hl 5 rfl) ?_
          refine lv_iload_n hx hb dX12_calls_162 rfl (lv_at hl 6 rfl) ?_
          have hmn2_ := (hq2.resolve_left (by omega))
          have hrx_26 := RX.eq (μ := μ) (ν := μL13) (Eqa.fr (L := [111, 136]) (FrM.tr (FrM.put FrM.rf (by decide)) FL14 (by decide)) (by decide)) (Eqf.fd (L := [53, 83, 84, 93, 94, 98, 99]) (fun j hj => ((hi_17 j (fun h9 => hj ((by decide : ∀ x ∈ ([83, 84, 93, 94, 98, 99] : List Int), x ∈ ([53, 83, 84, 93, 94, 98, 99] : List Int)) j h9))).trans (sv_n _ (fun h9 => hj (by rw [h9.2]; decide))))) (by decide))
          have e_27 : μL13.1 111 47 = n := ((hi_17 47 (by decide)).trans ((sv_n _ (by decide)).trans hn.symm))
          have hA1_28 : A1 μL13 := TQ.a1 hTQ (Eqa.fr (L := [111, 136]) (FrM.tr (FrM.put FrM.rf (by decide)) FL14 (by decide)) (by decide)) (Eqf.fd (L := [53, 83, 84, 93, 94, 98, 99]) (fun j hj => ((hi_17 j (fun h9 => hj ((by decide : ∀ x ∈ ([83, 84, 93, 94, 98, 99] : List Int), x ∈ ([53, 83, 84, 93, 94, 98, 99] : List Int)) j h9))).trans (sv_n _ (fun h9 => hj (by rw [h9.2]; decide))))) (by decide)) (by have h9 : μL13.1 111 53 = (μ.1 111 53) - x3 := ((hi_17 53 (by decide)).trans (sv_s _ _ _ _)); omega)
          refine xc_vV G (b := 111) (rest := []) (As := [.int (iv x1), .int (iv x2)]) (c_X12_enters ω l μL13 x1 x2 n (by unfold ir; omega) (by unfold ir; omega) (by omega) hi_21 (by omega) hq1 (by rw [(show μL13.1 122 x1 = μ.1 122 x1 from ((FL14.1 122 (by decide) x1).trans (sv_n _ (fun h9 => absurd h9.1 (by decide)))))]; exact hmn2_) (fun _ => hA1_28) (fun h9 => absurd h9 (by omega)) (by omega)) (wm 10 105 rfl rfl) (wm 10 107 rfl rfl) (wm 0 190 rfl rfl) rfl rfl (by decide) rfl (wm 1 18 rfl rfl) (wm 10 108 rfl rfl) (by decide) hR (by decide) (n := 2) rfl rfl (Nat.le_of_ble_eq_true rfl) hl.1 dX12_calls_163 (fun μ29 ρ d0 H locs hp G => ?_)
          obtain ⟨F_30, hp_31, hp_32, hp_33, hs_34⟩ := hp
          refine lv_iconst (v := iv 0) hx hb dX12_calls_166 rfl ?_
          refine lv_istore (lv' := [(7, .int (iv 0)), (6, .int (iv (μ.1 120 ((40 * x1) + x2)))), (5, .int (iv (μ.1 127 (n - 1)))), (4, .int (iv ((μ.1 111 53) - x3))), (0, .ref (oP ω 111)), (1, .int (iv x1)), (2, .int (iv x2)), (3, .int (iv x3))]) hx hb dX12_calls_167 hl (by decide) rfl (fun ls hl => ?_)
          refine xl (fun n_9 μ' ls => ∃ (k9 : Int), (FrM [133, 134] μ29 μ') ∧ (-2147483648 ≤ k9 ∧ k9 ≤ 2147483647) ∧ (0 ≤ k9) ∧ (MZ μ') ∧ (RES μ' (RX μ + 29000)) ∧ n_9 = Int.toNat (x3 - k9) ∧ lv_has ls 8 [(7, .int (iv k9)), (6, .int (iv (μ.1 120 ((40 * x1) + x2)))), (5, .int (iv (μ.1 127 (n - 1)))), (4, .int (iv ((μ.1 111 53) - x3))), (0, .ref (oP ω 111)), (1, .int (iv x1)), (2, .int (iv x2)), (3, .int (iv x3))]) (fun n_9 ρ μL35 d0 H locs ls hI_l G ih => ?_) _ _ _ _ _ _ _ ⟨0, FrM.rf, (by omega), (by omega), hp_33.1, (hp_33.le (by omega)), rfl, lv_sub hl [0, 1, 2, 3, 4, 5, 6, 7] rfl⟩ G
          obtain ⟨k9, FL36, hi_38, hi_39, hi_40, hi_41, hn37, hl⟩ := hI_l
          refine lv_iload hx hb dX12_calls_169 (lv_at hl 0 rfl) ?_
          refine lv_iload_n hx hb dX12_calls_171 rfl (lv_at hl 7 rfl) ?_
          refine xb_icmp_ge (tgt := 214) hx hb (by unfold ir; omega) (by unfold ir; omega) dX12_calls_172 (by decide) (fun c_172 => ?_) (fun c_172 => ?_)
          · exact xr_v G hret hlk dX12_calls_214 ⟨(FrM.tr (FrM.tr (FrM.tr (FrM.put FrM.rf (by decide)) FL14 (by decide)) F_30 (by decide)) FL36 (by decide)), (fun j hj => ((FL36.1 111 (by decide) j).trans ((hp_31 j (fun h9 => hj ((by decide : ∀ x ∈ ([47, 48] : List Int), x ∈ ([47, 53, 61, 81, 82, 83, 84, 90, 91, 93, 94, 95, 96, 97, 98, 99, 48, 89] : List Int)) j h9))).trans ((hi_17 j (fun h9 => hj ((by decide : ∀ x ∈ ([83, 84, 93, 94, 98, 99] : List Int), x ∈ ([47, 53, 61, 81, 82, 83, 84, 90, 91, 93, 94, 95, 96, 97, 98, 99, 48, 89] : List Int)) j h9))).trans (sv_n _ (fun h9 => hj (by rw [h9.2]; decide))))))), hi_41⟩
          · refine lv_iload hx hb dX12_calls_175 (lv_at hl 0 rfl) ?_
            refine lv_iload hx hb dX12_calls_177 (lv_at hl 1 rfl) ?_
            refine xb_icmp_ge (tgt := 214) hx hb (by unfold ir; omega) (by unfold ir; omega) dX12_calls_179 (by decide) (fun c_179 => ?_) (fun c_179 => ?_)
            · exact xr_v G hret hlk dX12_calls_214 ⟨(FrM.tr (FrM.tr (FrM.tr (FrM.put FrM.rf (by decide)) FL14 (by decide)) F_30 (by decide)) FL36 (by decide)), (fun j hj => ((FL36.1 111 (by decide) j).trans ((hp_31 j (fun h9 => hj ((by decide : ∀ x ∈ ([47, 48] : List Int), x ∈ ([47, 53, 61, 81, 82, 83, 84, 90, 91, 93, 94, 95, 96, 97, 98, 99, 48, 89] : List Int)) j h9))).trans ((hi_17 j (fun h9 => hj ((by decide : ∀ x ∈ ([83, 84, 93, 94, 98, 99] : List Int), x ∈ ([47, 53, 61, 81, 82, 83, 84, 90, 91, 93, 94, 95, 96, 97, 98, 99, 48, 89] : List Int)) j h9))).trans (sv_n _ (fun h9 => hj (by rw [h9.2]; decide))))))), hi_41⟩
            · refine lv_aload_n hx hb dX12_calls_182 rfl (lv_at hl 4 rfl) ?_
              refine lv_iload hx hb dX12_calls_183 (lv_at hl 0 rfl) ?_
              refine lv_aload_n hx hb dX12_calls_185 rfl (lv_at hl 4 rfl) ?_
              refine xa_getr G fd_X12 (a := 111) (x := 135) 51 rfl (by decide) rfl (wm 7 200 rfl rfl) ⟨rfl, rfl, rfl⟩ dX12_calls_186 rfl (G.sk 133 rfl) (by decide) rfl ?_
              refine lv_iload hx hb dX12_calls_189 (lv_at hl 3 rfl) ?_
              refine lv_iload hx hb dX12_calls_191 (lv_at hl 0 rfl) ?_
              refine xb_iadd hx hb dX12_calls_193 ?_
              refine xa_bald G (a := 135) (i := ((μ.1 111 53) - x3) + k9) rfl (by have h9 := G.lc (a := 135) (n := 9000) 73 rfl; omega) dX12_calls_194 rfl ?_
              refine xb_ti (y := μ.1 135 (((μ.1 111 53) - x3) + k9)) ((FL36.1 135 (by decide) (((μ.1 111 53) - x3) + k9)).trans ((F_30.1 135 (by decide) (((μ.1 111 53) - x3) + k9)).trans ((FL14.1 135 (by decide) (((μ.1 111 53) - x3) + k9)).trans (sv_n _ (fun h9 => absurd h9.1 (by decide)))))) ?_
              have hr_42 : -2147483648 ≤ μ.1 135 (((μ.1 111 53) - x3) + k9) ∧ μ.1 135 (((μ.1 111 53) - x3) + k9) ≤ 2147483647 := by have h9 := G.hr3 (a := 135) (k := ((μ.1 111 53) - x3) + k9) rfl; rw [((FL36.1 135 (by decide) (((μ.1 111 53) - x3) + k9)).trans ((F_30.1 135 (by decide) (((μ.1 111 53) - x3) + k9)).trans ((FL14.1 135 (by decide) (((μ.1 111 53) - x3) + k9)).trans (sv_n _ (fun h9 => absurd h9.1 (by decide))))))] at h9; exact h9
              refine lv_aload_n hx hb dX12_calls_195 rfl (lv_at hl 4 rfl) ?_
              refine xa_getr G fd_X12 (a := 111) (x := 136) 52 rfl (by decide) rfl (wm 7 201 rfl rfl) ⟨rfl, rfl, rfl⟩ dX12_calls_196 rfl (G.sk 134 rfl) (by decide) rfl ?_
              refine lv_iload hx hb dX12_calls_199 (lv_at hl 3 rfl) ?_
              refine lv_iload hx hb dX12_calls_201 (lv_at hl 0 rfl) ?_
              refine xb_iadd hx hb dX12_calls_203 ?_
              refine xa_lald G (a := 136) (i := ((μ.1 111 53) - x3) + k9) rfl (by have h9 := G.lc (a := 136) (n := 9000) 74 rfl; omega) dX12_calls_204 rfl ?_
              refine xb_tl (y := μL13.1 136 (((μ.1 111 53) - x3) + k9)) ((FL36.1 136 (by decide) (((μ.1 111 53) - x3) + k9)).trans (F_30.1 136 (by decide) (((μ.1 111 53) - x3) + k9))) ?_
              have hj_43 : jr (μL13.1 136 (((μ.1 111 53) - x3) + k9)) := (by have h9 := G.hj (a := 136) (k := ((μ.1 111 53) - x3) + k9) rfl; rw [((FL36.1 136 (by decide) (((μ.1 111 53) - x3) + k9)).trans (F_30.1 136 (by decide) (((μ.1 111 53) - x3) + k9)))] at h9; exact h9)
              have e_44 : μL35.1 111 47 = n + 1 := ((FL36.1 111 (by decide) 47).trans hs_34)
              refine xc_vV G (b := 111) (rest := []) (As := [.int (iv k9), .int (iv (μ.1 135 (((μ.1 111 53) - x3) + k9))), .long (jv (μL13.1 136 (((μ.1 111 53) - x3) + k9)))]) (c_X12_puts ω l μL35 k9 (μ.1 135 (((μ.1 111 53) - x3) + k9)) (μL13.1 136 (((μ.1 111 53) - x3) + k9)) (n + 1) (by unfold ir; omega) (by unfold ir; omega) hj_43 (by omega) hi_40 (by omega) (by omega) (by rw [(show μL35.1 111 65 = μ.1 111 65 from ((FL36.1 111 (by decide) 65).trans ((hp_31 65 (by decide)).trans ((hi_17 65 (by decide)).trans (sv_n _ (by decide)))))), (show μL35.1 111 82 = μ.1 111 82 from ((FL36.1 111 (by decide) 82).trans ((hp_31 82 (by decide)).trans ((hi_17 82 (by decide)).trans (sv_n _ (by decide))))))]; exact hi_22 (((μ.1 111 53) - x3) + k9) (by omega) (by omega))) (wm 10 110 rfl rfl) (wm 10 112 rfl rfl) (wm 0 191 rfl rfl) rfl rfl (by decide) rfl (wm 1 18 rfl rfl) (wm 10 113 rfl rfl) (by decide) hR (by decide) (n := 3) rfl rfl (Nat.le_of_ble_eq_true rfl) hl.1 dX12_calls_205 (fun μ45 ρ d0 H locs hp G => ?_)
              obtain ⟨F_46, hp_47⟩ := hp
              refine lv_iinc (v := iv (k9 + 1)) (lv' := [(7, .int (iv (k9 + 1))), (6, .int (iv (μ.1 120 ((40 * x1) + x2)))), (5, .int (iv (μ.1 127 (n - 1)))), (4, .int (iv ((μ.1 111 53) - x3))), (0, .ref (oP ω 111)), (1, .int (iv x1)), (2, .int (iv x2)), (3, .int (iv x3))]) hx hb dX12_calls_208 hl (k := 0) rfl (by rw [show Int32.ofInt 1 = iv 1 from rfl, iv_add]) (by decide) rfl (fun ls hl => ?_)
              refine lv_goto (tgt := 169) hx hb dX12_calls_211 (by decide) ?_
              exact ih _ _ _ _ _ _ _ (by omega) ⟨k9 + 1, (FrM.tr FL36 F_46 (by decide)), (by omega), (by omega), hp_47, (RES.pt hi_41 hp_47 (Eqa.fr (L := [133, 134]) (FrM.tr FrM.rf F_46 (by decide)) (by decide)) (Eqf.fd (L := []) (fun j hj => (F_46.1 111 (by decide) j)) (by decide))), rfl, lv_sub hl [0, 1, 2, 3, 4, 5, 6, 7] rfl⟩ G
        · refine lv_aload_n hx hb dX12_calls_150 rfl (lv_at hl 4 rfl) ?_
          refine lv_dup hx hb dX12_calls_151 rfl ?_
          refine xa_geti G fd_X12 (a := 111) (x := μ.1 111 89) 89 rfl (by decide) rfl (wm 7 238 rfl rfl) ⟨rfl, rfl, rfl⟩ dX12_calls_152 rfl ((hi_17 89 (by decide)).trans (sv_n _ (by decide))) ?_
          have hr_48 : -2147483648 ≤ μ.1 111 89 ∧ μ.1 111 89 ≤ 2147483647 := by have h9 := G.hr (a := 111) (k := 89) rfl; rw [show μL13.1 111 89 = μ.1 111 89 from ((hi_17 89 (by decide)).trans (sv_n _ (by decide)))] at h9; exact h9
          refine lv_iconst (v := iv 1) hx hb dX12_calls_155 rfl ?_
          refine xb_iadd hx hb dX12_calls_156 ?_
          refine xb_topi (fun y_49 hr_y_49 he_y_49 => ?_)
          have hr_y_49 : -2147483648 ≤ y_49 ∧ y_49 ≤ 2147483647 := hr_y_49
          refine xa_puti G fd_X12 (a := 111) (x := y_49) 89 (kz := 89) rfl rfl (by decide) rfl (by unfold ir; omega) (wm 7 238 rfl rfl) ⟨rfl, rfl, rfl, rfl⟩ rfl dX12_calls_157 rfl (fun H locs G => ?_)
          refine lv_aload_n hx hb dX12_calls_160 rfl (lv_at hl 4 rfl) ?_
          refine lv_iload_n hx hb dX12_calls_161 rfl (lv_at hl 5 rfl) ?_
          refine lv_iload_n hx hb dX12_calls_162 rfl (lv_at hl 6 rfl) ?_
          have e_50 : (sv μL13 111 89 y_49).1 111 94 = μL13.1 111 94 := (sv_n _ (by decide))
          have hmn2_ := (hq2.resolve_left (by omega))
          have e_51 : (sv μL13 111 89 y_49).1 111 83 = μL13.1 111 83 := (sv_n _ (by decide))
          have hrx_52 := RX.eq (μ := μ) (ν := (sv μL13 111 89 y_49)) (Eqa.fr (L := [111, 136]) (FrM.put (FrM.tr (FrM.put FrM.rf (by decide)) FL14 (by decide)) (by decide)) (by decide)) (Eqf.fd (L := [53, 83, 84, 89, 93, 94, 98, 99]) (fun j hj => ((sv_n _ (fun h9 => hj (by rw [h9.2]; decide))).trans ((hi_17 j (fun h9 => hj ((by decide : ∀ x ∈ ([83, 84, 93, 94, 98, 99] : List Int), x ∈ ([53, 83, 84, 89, 93, 94, 98, 99] : List Int)) j h9))).trans (sv_n _ (fun h9 => hj (by rw [h9.2]; decide)))))) (by decide))
          have e_53 : (sv μL13 111 89 y_49).1 111 94 = μL13.1 111 94 := (sv_n _ (by decide))
          have e_54 : (sv μL13 111 89 y_49).1 111 47 = n := ((sv_n _ (by decide)).trans ((hi_17 47 (by decide)).trans ((sv_n _ (by decide)).trans hn.symm)))
          have hMZ_55 : MZ (sv μL13 111 89 y_49) := MZ.f hi_21 (by decide)
          have hA1_56 : A1 (sv μL13 111 89 y_49) := TQ.a1 hTQ (Eqa.fr (L := [111, 136]) (FrM.put (FrM.tr (FrM.put FrM.rf (by decide)) FL14 (by decide)) (by decide)) (by decide)) (Eqf.fd (L := [53, 83, 84, 89, 93, 94, 98, 99]) (fun j hj => ((sv_n _ (fun h9 => hj (by rw [h9.2]; decide))).trans ((hi_17 j (fun h9 => hj ((by decide : ∀ x ∈ ([83, 84, 93, 94, 98, 99] : List Int), x ∈ ([53, 83, 84, 89, 93, 94, 98, 99] : List Int)) j h9))).trans (sv_n _ (fun h9 => hj (by rw [h9.2]; decide)))))) (by decide)) (by have h9 : (sv μL13 111 89 y_49).1 111 53 = (μ.1 111 53) - x3 := ((sv_n _ (by decide)).trans ((hi_17 53 (by decide)).trans (sv_s _ _ _ _))); omega)
          have e_57 : (sv μL13 111 89 y_49).1 111 94 = μL13.1 111 94 := (sv_n _ (by decide))
          refine xc_vV G (b := 111) (rest := []) (As := [.int (iv x1), .int (iv x2)]) (c_X12_enters ω l (sv μL13 111 89 y_49) x1 x2 n (by unfold ir; omega) (by unfold ir; omega) (by omega) hMZ_55 (by omega) hq1 (by rw [(show (sv μL13 111 89 y_49).1 122 x1 = μ.1 122 x1 from ((sv_n _ (fun h9 => absurd h9.1 (by decide))).trans ((FL14.1 122 (by decide) x1).trans (sv_n _ (fun h9 => absurd h9.1 (by decide))))))]; exact hmn2_) (fun _ => hA1_56) (fun h9 => absurd h9 (by omega)) (by omega)) (wm 10 105 rfl rfl) (wm 10 107 rfl rfl) (wm 0 190 rfl rfl) rfl rfl (by decide) rfl (wm 1 18 rfl rfl) (wm 10 108 rfl rfl) (by decide) hR (by decide) (n := 2) rfl rfl (Nat.le_of_ble_eq_true rfl) hl.1 dX12_calls_163 (fun μ58 ρ d0 H locs hp G => ?_)
          obtain ⟨F_59, hp_60, hp_61, hp_62, hs_63⟩ := hp
          refine lv_iconst (v := iv 0) hx hb dX12_calls_166 rfl ?_
          refine lv_istore (lv' := [(7, .int (iv 0)), (6, .int (iv (μ.1 120 ((40 * x1) + x2)))), (5, .int (iv (μ.1 127 (n - 1)))), (4, .int (iv ((μ.1 111 53) - x3))), (0, .ref (oP ω 111)), (1, .int (iv x1)), (2, .int (iv x2)), (3, .int (iv x3))]) hx hb dX12_calls_167 hl (by decide) rfl (fun ls hl => ?_)
          refine xl (fun n_9 μ' ls => ∃ (k9 : Int), (FrM [133, 134] μ58 μ') ∧ (-2147483648 ≤ k9 ∧ k9 ≤ 2147483647) ∧ (0 ≤ k9) ∧ (MZ μ') ∧ (RES μ' (RX μ + 29000)) ∧ n_9 = Int.toNat (x3 - k9) ∧ lv_has ls 8 [(7, .int (iv k9)), (6, .int (iv (μ.1 120 ((40 * x1) + x2)))), (5, .int (iv (μ.1 127 (n - 1)))), (4, .int (iv ((μ.1 111 53) - x3))), (0, .ref (oP ω 111)), (1, .int (iv x1)), (2, .int (iv x2)), (3, .int (iv x3))]) (fun n_9 ρ μL64 d0 H locs ls hI_l G ih => ?_) _ _ _ _ _ _ _ ⟨0, FrM.rf, (by omega), (by omega), hp_62.1, (hp_62.le (by omega)), rfl, lv_sub hl [0, 1, 2, 3, 4, 5, 6, 7] rfl⟩ G
          obtain ⟨k9, FL65, hi_67, hi_68, hi_69, hi_70, hn66, hl⟩ := hI_l
          refine lv_iload hx hb dX12_calls_169 (lv_at hl 0 rfl) ?_
          refine lv_iload_n hx hb dX12_calls_171 rfl (lv_at hl 7 rfl) ?_
          refine xb_icmp_ge (tgt := 214) hx hb (by unfold ir; omega) (by unfold ir; omega) dX12_calls_172 (by decide) (fun c_172 => ?_) (fun c_172 => ?_)
          · exact xr_v G hret hlk dX12_calls_214 ⟨(FrM.tr (FrM.tr (FrM.put (FrM.tr (FrM.put FrM.rf (by decide)) FL14 (by decide)) (by decide)) F_59 (by decide)) FL65 (by decide)), (fun j hj => ((FL65.1 111 (by decide) j).trans ((hp_60 j (fun h9 => hj ((by decide : ∀ x ∈ ([47, 48] : List Int), x ∈ ([47, 53, 61, 81, 82, 83, 84, 90, 91, 93, 94, 95, 96, 97, 98, 99, 48, 89] : List Int)) j h9))).trans ((sv_n _ (fun h9 => hj (by rw [h9.2]; decide))).trans ((hi_17 j (fun h9 => hj ((by decide : ∀ x ∈ ([83, 84, 93, 94, 98, 99] : List Int), x ∈ ([47, 53, 61, 81, 82, 83, 84, 90, 91, 93, 94, 95, 96, 97, 98, 99, 48, 89] : List Int)) j h9))).trans (sv_n _ (fun h9 => hj (by rw [h9.2]; decide)))))))), hi_70⟩
          · refine lv_iload hx hb dX12_calls_175 (lv_at hl 0 rfl) ?_
            refine lv_iload hx hb dX12_calls_177 (lv_at hl 1 rfl) ?_
            refine xb_icmp_ge (tgt := 214) hx hb (by unfold ir; omega) (by unfold ir; omega) dX12_calls_179 (by decide) (fun c_179 => ?_) (fun c_179 => ?_)
            · exact xr_v G hret hlk dX12_calls_214 ⟨(FrM.tr (FrM.tr (FrM.put (FrM.tr (FrM.put FrM.rf (by decide)) FL14 (by decide)) (by decide)) F_59 (by decide)) FL65 (by decide)), (fun j hj => ((FL65.1 111 (by decide) j).trans ((hp_60 j (fun h9 => hj ((by decide : ∀ x ∈ ([47, 48] : List Int), x ∈ ([47, 53, 61, 81, 82, 83, 84, 90, 91, 93, 94, 95, 96, 97, 98, 99, 48, 89] : List Int)) j h9))).trans ((sv_n _ (fun h9 => hj (by rw [h9.2]; decide))).trans ((hi_17 j (fun h9 => hj ((by decide : ∀ x ∈ ([83, 84, 93, 94, 98, 99] : List Int), x ∈ ([47, 53, 61, 81, 82, 83, 84, 90, 91, 93, 94, 95, 96, 97, 98, 99, 48, 89] : List Int)) j h9))).trans (sv_n _ (fun h9 => hj (by rw [h9.2]; decide)))))))), hi_70⟩
            · refine lv_aload_n hx hb dX12_calls_182 rfl (lv_at hl 4 rfl) ?_
              refine lv_iload hx hb dX12_calls_183 (lv_at hl 0 rfl) ?_
              refine lv_aload_n hx hb dX12_calls_185 rfl (lv_at hl 4 rfl) ?_
              refine xa_getr G fd_X12 (a := 111) (x := 135) 51 rfl (by decide) rfl (wm 7 200 rfl rfl) ⟨rfl, rfl, rfl⟩ dX12_calls_186 rfl (G.sk 133 rfl) (by decide) rfl ?_
              refine lv_iload hx hb dX12_calls_189 (lv_at hl 3 rfl) ?_
              refine lv_iload hx hb dX12_calls_191 (lv_at hl 0 rfl) ?_
              refine xb_iadd hx hb dX12_calls_193 ?_
              refine xa_bald G (a := 135) (i := ((μ.1 111 53) - x3) + k9) rfl (by have h9 := G.lc (a := 135) (n := 9000) 73 rfl; omega) dX12_calls_194 rfl ?_
              refine xb_ti (y := μ.1 135 (((μ.1 111 53) - x3) + k9)) ((FL65.1 135 (by decide) (((μ.1 111 53) - x3) + k9)).trans ((F_59.1 135 (by decide) (((μ.1 111 53) - x3) + k9)).trans ((sv_n _ (fun h9 => absurd h9.1 (by decide))).trans ((FL14.1 135 (by decide) (((μ.1 111 53) - x3) + k9)).trans (sv_n _ (fun h9 => absurd h9.1 (by decide))))))) ?_
              have hr_71 : -2147483648 ≤ μ.1 135 (((μ.1 111 53) - x3) + k9) ∧ μ.1 135 (((μ.1 111 53) - x3) + k9) ≤ 2147483647 := by have h9 := G.hr3 (a := 135) (k := ((μ.1 111 53) - x3) + k9) rfl; rw [((FL65.1 135 (by decide) (((μ.1 111 53) - x3) + k9)).trans ((F_59.1 135 (by decide) (((μ.1 111 53) - x3) + k9)).trans ((sv_n _ (fun h9 => absurd h9.1 (by decide))).trans ((FL14.1 135 (by decide) (((μ.1 111 53) - x3) + k9)).trans (sv_n _ (fun h9 => absurd h9.1 (by decide)))))))] at h9; exact h9
              refine lv_aload_n hx hb dX12_calls_195 rfl (lv_at hl 4 rfl) ?_
              refine xa_getr G fd_X12 (a := 111) (x := 136) 52 rfl (by decide) rfl (wm 7 201 rfl rfl) ⟨rfl, rfl, rfl⟩ dX12_calls_196 rfl (G.sk 134 rfl) (by decide) rfl ?_
              refine lv_iload hx hb dX12_calls_199 (lv_at hl 3 rfl) ?_
              refine lv_iload hx hb dX12_calls_201 (lv_at hl 0 rfl) ?_
              refine xb_iadd hx hb dX12_calls_203 ?_
              refine xa_lald G (a := 136) (i := ((μ.1 111 53) - x3) + k9) rfl (by have h9 := G.lc (a := 136) (n := 9000) 74 rfl; omega) dX12_calls_204 rfl ?_
              refine xb_tl (y := μL13.1 136 (((μ.1 111 53) - x3) + k9)) ((FL65.1 136 (by decide) (((μ.1 111 53) - x3) + k9)).trans ((F_59.1 136 (by decide) (((μ.1 111 53) - x3) + k9)).trans (sv_n _ (fun h9 => absurd h9.1 (by decide))))) ?_
              have hj_72 : jr (μL13.1 136 (((μ.1 111 53) - x3) + k9)) := (by have h9 := G.hj (a := 136) (k := ((μ.1 111 53) - x3) + k9) rfl; rw [((FL65.1 136 (by decide) (((μ.1 111 53) - x3) + k9)).trans ((F_59.1 136 (by decide) (((μ.1 111 53) - x3) + k9)).trans (sv_n _ (fun h9 => absurd h9.1 (by decide)))))] at h9; exact h9)
              have e_73 : μL64.1 111 47 = n + 1 := ((FL65.1 111 (by decide) 47).trans hs_63)
              refine xc_vV G (b := 111) (rest := []) (As := [.int (iv k9), .int (iv (μ.1 135 (((μ.1 111 53) - x3) + k9))), .long (jv (μL13.1 136 (((μ.1 111 53) - x3) + k9)))]) (c_X12_puts ω l μL64 k9 (μ.1 135 (((μ.1 111 53) - x3) + k9)) (μL13.1 136 (((μ.1 111 53) - x3) + k9)) (n + 1) (by unfold ir; omega) (by unfold ir; omega) hj_72 (by omega) hi_69 (by omega) (by omega) (by rw [(show μL64.1 111 65 = μ.1 111 65 from ((FL65.1 111 (by decide) 65).trans ((hp_60 65 (by decide)).trans ((sv_n _ (by decide)).trans ((hi_17 65 (by decide)).trans (sv_n _ (by decide))))))), (show μL64.1 111 82 = μ.1 111 82 from ((FL65.1 111 (by decide) 82).trans ((hp_60 82 (by decide)).trans ((sv_n _ (by decide)).trans ((hi_17 82 (by decide)).trans (sv_n _ (by decide)))))))]; exact hi_22 (((μ.1 111 53) - x3) + k9) (by omega) (by omega))) (wm 10 110 rfl rfl) (wm 10 112 rfl rfl) (wm 0 191 rfl rfl) rfl rfl (by decide) rfl (wm 1 18 rfl rfl) (wm 10 113 rfl rfl) (by decide) hR (by decide) (n := 3) rfl rfl (Nat.le_of_ble_eq_true rfl) hl.1 dX12_calls_205 (fun μ74 ρ d0 H locs hp G => ?_)
              obtain ⟨F_75, hp_76⟩ := hp
              refine lv_iinc (v := iv (k9 + 1)) (lv' := [(7, .int (iv (k9 + 1))), (6, .int (iv (μ.1 120 ((40 * x1) + x2)))), (5, .int (iv (μ.1 127 (n - 1)))), (4, .int (iv ((μ.1 111 53) - x3))), (0, .ref (oP ω 111)), (1, .int (iv x1)), (2, .int (iv x2)), (3, .int (iv x3))]) hx hb dX12_calls_208 hl (k := 0) rfl (by rw [show Int32.ofInt 1 = iv 1 from rfl, iv_add]) (by decide) rfl (fun ls hl => ?_)
              refine lv_goto (tgt := 169) hx hb dX12_calls_211 (by decide) ?_
              exact ih _ _ _ _ _ _ _ (by omega) ⟨k9 + 1, (FrM.tr FL65 F_75 (by decide)), (by omega), (by omega), hp_76, (RES.pt hi_70 hp_76 (Eqa.fr (L := [133, 134]) (FrM.tr FrM.rf F_75 (by decide)) (by decide)) (Eqf.fd (L := []) (fun j hj => (F_75.1 111 (by decide) j)) (by decide))), rfl, lv_sub hl [0, 1, 2, 3, 4, 5, 6, 7] rfl⟩ G
      · refine lv_iload_n hx hb dX12_calls_69 rfl (lv_at hl 5 rfl) ?_
        refine lv_iload hx hb dX12_calls_70 (lv_at hl 2 rfl) ?_
        refine xb_icmp_eq (tgt := 144) hx hb (by unfold ir; omega) (by unfold ir; omega) dX12_calls_72 (by decide) (fun c_72 => ?_) (fun c_72 => ?_)
        · refine lv_iload_n hx hb dX12_calls_144 rfl (lv_at hl 5 rfl) ?_
          refine lv_iload hx hb dX12_calls_145 (lv_at hl 2 rfl) ?_
          refine xb_icmp_eq (tgt := 160) hx hb (by unfold ir; omega) (by unfold ir; omega) dX12_calls_147 (by decide) (fun c_147 => ?_) (fun c_147 => ?_)
          · refine lv_aload_n hx hb dX12_calls_160 rfl (lv_at hl 4 rfl) ?_
            refine lv_iload_n hx hb dX12_calls_161 rfl (lv_at hl 5 rfl) ?_
            refine lv_iload_n hx hb dX12_calls_162 rfl (lv_at hl 6 rfl) ?_
            have hmn2_ := (hq2.resolve_left (by omega))
            have hrx_77 := RX.eq (μ := μ) (ν := μL13) (Eqa.fr (L := [111, 136]) (FrM.tr (FrM.put FrM.rf (by decide)) FL14 (by decide)) (by decide)) (Eqf.fd (L := [53, 83, 84, 93, 94, 98, 99]) (fun j hj => ((hi_17 j (fun h9 => hj ((by decide : ∀ x ∈ ([83, 84, 93, 94, 98, 99] : List Int), x ∈ ([53, 83, 84, 93, 94, 98, 99] : List Int)) j h9))).trans (sv_n _ (fun h9 => hj (by rw [h9.2]; decide))))) (by decide))
            have e_78 : μL13.1 111 47 = n := ((hi_17 47 (by decide)).trans ((sv_n _ (by decide)).trans hn.symm))
            have hA1_79 : A1 μL13 := TQ.a1 hTQ (Eqa.fr (L := [111, 136]) (FrM.tr (FrM.put FrM.rf (by decide)) FL14 (by decide)) (by decide)) (Eqf.fd (L := [53, 83, 84, 93, 94, 98, 99]) (fun j hj => ((hi_17 j (fun h9 => hj ((by decide : ∀ x ∈ ([83, 84, 93, 94, 98, 99] : List Int), x ∈ ([53, 83, 84, 93, 94, 98, 99] : List Int)) j h9))).trans (sv_n _ (fun h9 => hj (by rw [h9.2]; decide))))) (by decide)) (by have h9 : μL13.1 111 53 = (μ.1 111 53) - x3 := ((hi_17 53 (by decide)).trans (sv_s _ _ _ _)); omega)
            refine xc_vV G (b := 111) (rest := []) (As := [.int (iv x1), .int (iv x2)]) (c_X12_enters ω l μL13 x1 x2 n (by unfold ir; omega) (by unfold ir; omega) (by omega) hi_21 (by omega) hq1 (by rw [(show μL13.1 122 x1 = μ.1 122 x1 from ((FL14.1 122 (by decide) x1).trans (sv_n _ (fun h9 => absurd h9.1 (by decide)))))]; exact hmn2_) (fun _ => hA1_79) (fun h9 => absurd h9 (by omega)) (by omega)) (wm 10 105 rfl rfl) (wm 10 107 rfl rfl) (wm 0 190 rfl rfl) rfl rfl (by decide) rfl (wm 1 18 rfl rfl) (wm 10 108 rfl rfl) (by decide) hR (by decide) (n := 2) rfl rfl (Nat.le_of_ble_eq_true rfl) hl.1 dX12_calls_163 (fun μ80 ρ d0 H locs hp G => ?_)
            obtain ⟨F_81, hp_82, hp_83, hp_84, hs_85⟩ := hp
            refine lv_iconst (v := iv 0) hx hb dX12_calls_166 rfl ?_
            refine lv_istore (lv' := [(7, .int (iv 0)), (6, .int (iv (μ.1 120 ((40 * x1) + x2)))), (5, .int (iv (μ.1 127 (n - 1)))), (4, .int (iv ((μ.1 111 53) - x3))), (0, .ref (oP ω 111)), (1, .int (iv x1)), (2, .int (iv x2)), (3, .int (iv x3))]) hx hb dX12_calls_167 hl (by decide) rfl (fun ls hl => ?_)
            refine xl (fun n_9 μ' ls => ∃ (k9 : Int), (FrM [133, 134] μ80 μ') ∧ (-2147483648 ≤ k9 ∧ k9 ≤ 2147483647) ∧ (0 ≤ k9) ∧ (MZ μ') ∧ (RES μ' (RX μ + 29000)) ∧ n_9 = Int.toNat (x3 - k9) ∧ lv_has ls 8 [(7, .int (iv k9)), (6, .int (iv (μ.1 120 ((40 * x1) + x2)))), (5, .int (iv (μ.1 127 (n - 1)))), (4, .int (iv ((μ.1 111 53) - x3))), (0, .ref (oP ω 111)), (1, .int (iv x1)), (2, .int (iv x2)), (3, .int (iv x3))]) (fun n_9 ρ μL86 d0 H locs ls hI_l G ih => ?_) _ _ _ _ _ _ _ ⟨0, FrM.rf, (by omega), (by omega), hp_84.1, (hp_84.le (by omega)), rfl, lv_sub hl [0, 1, 2, 3, 4, 5, 6, 7] rfl⟩ G
            obtain ⟨k9, FL87, hi_89, hi_90, hi_91, hi_92, hn88, hl⟩ := hI_l
            refine lv_iload hx hb dX12_calls_169 (lv_at hl 0 rfl) ?_
            refine lv_iload_n hx hb dX12_calls_171 rfl (lv_at hl 7 rfl) ?_
            refine xb_icmp_ge (tgt := 214) hx hb (by unfold ir; omega) (by unfold ir; omega) dX12_calls_172 (by decide) (fun c_172 => ?_) (fun c_172 => ?_)
            · exact xr_v G hret hlk dX12_calls_214 ⟨(FrM.tr (FrM.tr (FrM.tr (FrM.put FrM.rf (by decide)) FL14 (by decide)) F_81 (by decide)) FL87 (by decide)), (fun j hj => ((FL87.1 111 (by decide) j).trans ((hp_82 j (fun h9 => hj ((by decide : ∀ x ∈ ([47, 48] : List Int), x ∈ ([47, 53, 61, 81, 82, 83, 84, 90, 91, 93, 94, 95, 96, 97, 98, 99, 48, 89] : List Int)) j h9))).trans ((hi_17 j (fun h9 => hj ((by decide : ∀ x ∈ ([83, 84, 93, 94, 98, 99] : List Int), x ∈ ([47, 53, 61, 81, 82, 83, 84, 90, 91, 93, 94, 95, 96, 97, 98, 99, 48, 89] : List Int)) j h9))).trans (sv_n _ (fun h9 => hj (by rw [h9.2]; decide))))))), hi_92⟩
            · refine lv_iload hx hb dX12_calls_175 (lv_at hl 0 rfl) ?_
              refine lv_iload hx hb dX12_calls_177 (lv_at hl 1 rfl) ?_
              refine xb_icmp_ge (tgt := 214) hx hb (by unfold ir; omega) (by unfold ir; omega) dX12_calls_179 (by decide) (fun c_179 => ?_) (fun c_179 => ?_)
              · exact xr_v G hret hlk dX12_calls_214 ⟨(FrM.tr (FrM.tr (FrM.tr (FrM.put FrM.rf (by decide)) FL14 (by decide)) F_81 (by decide)) FL87 (by decide)), (fun j hj => ((FL87.1 111 (by decide) j).trans ((hp_82 j (fun h9 => hj ((by decide : ∀ x ∈ ([47, 48] : List Int), x ∈ ([47, 53, 61, 81, 82, 83, 84, 90, 91, 93, 94, 95, 96, 97, 98, 99, 48, 89] : List Int)) j h9))).trans ((hi_17 j (fun h9 => hj ((by decide : ∀ x ∈ ([83, 84, 93, 94, 98, 99] : List Int), x ∈ ([47, 53, 61, 81, 82, 83, 84, 90, 91, 93, 94, 95, 96, 97, 98, 99, 48, 89] : List Int)) j h9))).trans (sv_n _ (fun h9 => hj (by rw [h9.2]; decide))))))), hi_92⟩
              · refine lv_aload_n hx hb dX12_calls_182 rfl (lv_at hl 4 rfl) ?_
                refine lv_iload hx hb dX12_calls_183 (lv_at hl 0 rfl) ?_
                refine lv_aload_n hx hb dX12_calls_185 rfl (lv_at hl 4 rfl) ?_
                refine xa_getr G fd_X12 (a := 111) (x := 135) 51 rfl (by decide) rfl (wm 7 200 rfl rfl) ⟨rfl, rfl, rfl⟩ dX12_calls_186 rfl (G.sk 133 rfl) (by decide) rfl ?_
                refine lv_iload hx hb dX12_calls_189 (lv_at hl 3 rfl) ?_
                refine lv_iload hx hb dX12_calls_191 (lv_at hl 0 rfl) ?_
                refine xb_iadd hx hb dX12_calls_193 ?_
                refine xa_bald G (a := 135) (i := ((μ.1 111 53) - x3) + k9) rfl (by have h9 := G.lc (a := 135) (n := 9000) 73 rfl; omega) dX12_calls_194 rfl ?_
                refine xb_ti (y := μ.1 135 (((μ.1 111 53) - x3) + k9)) ((FL87.1 135 (by decide) (((μ.1 111 53) - x3) + k9)).trans ((F_81.1 135 (by decide) (((μ.1 111 53) - x3) + k9)).trans ((FL14.1 135 (by decide) (((μ.1 111 53) - x3) + k9)).trans (sv_n _ (fun h9 => absurd h9.1 (by decide)))))) ?_
                have hr_93 : -2147483648 ≤ μ.1 135 (((μ.1 111 53) - x3) + k9) ∧ μ.1 135 (((μ.1 111 53) - x3) + k9) ≤ 2147483647 := by have h9 := G.hr3 (a := 135) (k := ((μ.1 111 53) - x3) + k9) rfl; rw [((FL87.1 135 (by decide) (((μ.1 111 53) - x3) + k9)).trans ((F_81.1 135 (by decide) (((μ.1 111 53) - x3) + k9)).trans ((FL14.1 135 (by decide) (((μ.1 111 53) - x3) + k9)).trans (sv_n _ (fun h9 => absurd h9.1 (by decide))))))] at h9; exact h9
                refine lv_aload_n hx hb dX12_calls_195 rfl (lv_at hl 4 rfl) ?_
                refine xa_getr G fd_X12 (a := 111) (x := 136) 52 rfl (by decide) rfl (wm 7 201 rfl rfl) ⟨rfl, rfl, rfl⟩ dX12_calls_196 rfl (G.sk 134 rfl) (by decide) rfl ?_
                refine lv_iload hx hb dX12_calls_199 (lv_at hl 3 rfl) ?_
                refine lv_iload hx hb dX12_calls_201 (lv_at hl 0 rfl) ?_
                refine xb_iadd hx hb dX12_calls_203 ?_
                refine xa_lald G (a := 136) (i := ((μ.1 111 53) - x3) + k9) rfl (by have h9 := G.lc (a := 136) (n := 9000) 74 rfl; omega) dX12_calls_204 rfl ?_
                refine xb_tl (y := μL13.1 136 (((μ.1 111 53) - x3) + k9)) ((FL87.1 136 (by decide) (((μ.1 111 53) - x3) + k9)).trans (F_81.1 136 (by decide) (((μ.1 111 53) - x3) + k9))) ?_
                have hj_94 : jr (μL13.1 136 (((μ.1 111 53) - x3) + k9)) := (by have h9 := G.hj (a := 136) (k := ((μ.1 111 53) - x3) + k9) rfl; rw [((FL87.1 136 (by decide) (((μ.1 111 53) - x3) + k9)).trans (F_81.1 136 (by decide) (((μ.1 111 53) - x3) + k9)))] at h9; exact h9)
                have e_95 : μL86.1 111 47 = n + 1 := ((FL87.1 111 (by decide) 47).trans hs_85)
                refine xc_vV G (b := 111) (rest := []) (As := [.int (iv k9), .int (iv (μ.1 135 (((μ.1 111 53) - x3) + k9))), .long (jv (μL13.1 136 (((μ.1 111 53) - x3) + k9)))]) (c_X12_puts ω l μL86 k9 (μ.1 135 (((μ.1 111 53) - x3) + k9)) (μL13.1 136 (((μ.1 111 53) - x3) + k9)) (n + 1) (by unfold ir; omega) (by unfold ir; omega) hj_94 (by omega) hi_91 (by omega) (by omega) (by rw [(show μL86.1 111 65 = μ.1 111 65 from ((FL87.1 111 (by decide) 65).trans ((hp_82 65 (by decide)).trans ((hi_17 65 (by decide)).trans (sv_n _ (by decide)))))), (show μL86.1 111 82 = μ.1 111 82 from ((FL87.1 111 (by decide) 82).trans ((hp_82 82 (by decide)).trans ((hi_17 82 (by decide)).trans (sv_n _ (by decide))))))]; exact hi_22 (((μ.1 111 53) - x3) + k9) (by omega) (by omega))) (wm 10 110 rfl rfl) (wm 10 112 rfl rfl) (wm 0 191 rfl rfl) rfl rfl (by decide) rfl (wm 1 18 rfl rfl) (wm 10 113 rfl rfl) (by decide) hR (by decide) (n := 3) rfl rfl (Nat.le_of_ble_eq_true rfl) hl.1 dX12_calls_205 (fun μ96 ρ d0 H locs hp G => ?_)
                obtain ⟨F_97, hp_98⟩ := hp
                refine lv_iinc (v := iv (k9 + 1)) (lv' := [(7, .int (iv (k9 + 1))), (6, .int (iv (μ.1 120 ((40 * x1) + x2)))), (5, .int (iv (μ.1 127 (n - 1)))), (4, .int (iv ((μ.1 111 53) - x3))), (0, .ref (oP ω 111)), (1, .int (iv x1)), (2, .int (iv x2)), (3, .int (iv x3))]) hx hb dX12_calls_208 hl (k := 0) rfl (by rw [show Int32.ofInt 1 = iv 1 from rfl, iv_add]) (by decide) rfl (fun ls hl => ?_)
                refine lv_goto (tgt := 169) hx hb dX12_calls_211 (by decide) ?_
                exact ih _ _ _ _ _ _ _ (by omega) ⟨k9 + 1, (FrM.tr FL87 F_97 (by decide)), (by omega), (by omega), hp_98, (RES.pt hi_92 hp_98 (Eqa.fr (L := [133, 134]) (FrM.tr FrM.rf F_97 (by decide)) (by decide)) (Eqf.fd (L := []) (fun j hj => (F_97.1 111 (by decide) j)) (by decide))), rfl, lv_sub hl [0, 1, 2, 3, 4, 5, 6, 7] rfl⟩ G
          · refine lv_aload_n hx hb dX12_calls_150 rfl (lv_at hl 4 rfl) ?_
            refine lv_dup hx hb dX12_calls_151 rfl ?_
            refine xa_geti G fd_X12 (a := 111) (x := μ.1 111 89) 89 rfl (by decide) rfl (wm 7 238 rfl rfl) ⟨rfl, rfl, rfl⟩ dX12_calls_152 rfl ((hi_17 89 (by decide)).trans (sv_n _ (by decide))) ?_
            have hr_99 : -2147483648 ≤ μ.1 111 89 ∧ μ.1 111 89 ≤ 2147483647 := by have h9 := G.hr (a := 111) (k := 89) rfl; rw [show μL13.1 111 89 = μ.1 111 89 from ((hi_17 89 (by decide)).trans (sv_n _ (by decide)))] at h9; exact h9
            refine lv_iconst (v := iv 1) hx hb dX12_calls_155 rfl ?_
            refine xb_iadd hx hb dX12_calls_156 ?_
            refine xb_topi (fun y_100 hr_y_100 he_y_100 => ?_)
            have hr_y_100 : -2147483648 ≤ y_100 ∧ y_100 ≤ 2147483647 := hr_y_100
            refine xa_puti G fd_X12 (a := 111) (x := y_100) 89 (kz := 89) rfl rfl (by decide) rfl (by unfold ir; omega) (wm 7 238 rfl rfl) ⟨rfl, rfl, rfl, rfl⟩ rfl dX12_calls_157 rfl (fun H locs G => ?_)
            refine lv_aload_n hx hb dX12_calls_160 rfl (lv_at hl 4 rfl) ?_
            refine lv_iload_n hx hb dX12_calls_161 rfl (lv_at hl 5 rfl) ?_
            refine lv_iload_n hx hb dX12_calls_162 rfl (lv_at hl 6 rfl) ?_
            have e_101 : (sv μL13 111 89 y_100).1 111 94 = μL13.1 111 94 := (sv_n _ (by decide))
            have hmn2_ := (hq2.resolve_left (by omega))
            have e_102 : (sv μL13 111 89 y_100).1 111 83 = μL13.1 111 83 := (sv_n _ (by decide))
            have hrx_103 := RX.eq (μ := μ) (ν := (sv μL13 111 89 y_100)) (Eqa.fr (L := [111, 136]) (FrM.put (FrM.tr (FrM.put FrM.rf (by decide)) FL14 (by decide)) (by decide)) (by decide)) (Eqf.fd (L := [53, 83, 84, 89, 93, 94, 98, 99]) (fun j hj => ((sv_n _ (fun h9 => hj (by rw [h9.2]; decide))).trans ((hi_17 j (fun h9 => hj ((by decide : ∀ x ∈ ([83, 84, 93, 94, 98, 99] : List Int), x ∈ ([53, 83, 84, 89, 93, 94, 98, 99] : List Int)) j h9))).trans (sv_n _ (fun h9 => hj (by rw [h9.2]; decide)))))) (by decide))
            have e_104 : (sv μL13 111 89 y_100).1 111 94 = μL13.1 111 94 := (sv_n _ (by decide))
            have e_105 : (sv μL13 111 89 y_100).1 111 47 = n := ((sv_n _ (by decide)).trans ((hi_17 47 (by decide)).trans ((sv_n _ (by decide)).trans hn.symm)))
            have hMZ_106 : MZ (sv μL13 111 89 y_100) := MZ.f hi_21 (by decide)
            have hA1_107 : A1 (sv μL13 111 89 y_100) := TQ.a1 hTQ (Eqa.fr (L := [111, 136]) (FrM.put (FrM.tr (FrM.put FrM.rf (by decide)) FL14 (by decide)) (by decide)) (by decide)) (Eqf.fd (L := [53, 83, 84, 89, 93, 94, 98, 99]) (fun j hj => ((sv_n _ (fun h9 => hj (by rw [h9.2]; decide))).trans ((hi_17 j (fun h9 => hj ((by decide : ∀ x ∈ ([83, 84, 93, 94, 98, 99] : List Int), x ∈ ([53, 83, 84, 89, 93, 94, 98, 99] : List Int)) j h9))).trans (sv_n _ (fun h9 => hj (by rw [h9.2]; decide)))))) (by decide)) (by have h9 : (sv μL13 111 89 y_100).1 111 53 = (μ.1 111 53) - x3 := ((sv_n _ (by decide)).trans ((hi_17 53 (by decide)).trans (sv_s _ _ _ _))); omega)
            have e_108 : (sv μL13 111 89 y_100).1 111 94 = μL13.1 111 94 := (sv_n _ (by decide))
            refine xc_vV G (b := 111) (rest := []) (As := [.int (iv x1), .int (iv x2)]) (c_X12_enters ω l (sv μL13 111 89 y_100) x1 x2 n (by unfold ir; omega) (by unfold ir; omega) (by omega) hMZ_106 (by omega) hq1 (by rw [(show (sv μL13 111 89 y_100).1 122 x1 = μ.1 122 x1 from ((sv_n _ (fun h9 => absurd h9.1 (by decide))).trans ((FL14.1 122 (by decide) x1).trans (sv_n _ (fun h9 => absurd h9.1 (by decide))))))]; exact hmn2_) (fun _ => hA1_107) (fun h9 => absurd h9 (by omega)) (by omega)) (wm 10 105 rfl rfl) (wm 10 107 rfl rfl) (wm 0 190 rfl rfl) rfl rfl (by decide) rfl (wm 1 18 rfl rfl) (wm 10 108 rfl rfl) (by decide) hR (by decide) (n := 2) rfl rfl (Nat.le_of_ble_eq_true rfl) hl.1 dX12_calls_163 (fun μ109 ρ d0 H locs hp G => ?_)
            obtain ⟨F_110, hp_111, hp_112, hp_113, hs_114⟩ := hp
            refine lv_iconst (v := iv 0) hx hb dX12_calls_166 rfl ?_
            refine lv_istore (lv' := [(7, .int (iv 0)), (6, .int (iv (μ.1 120 ((40 * x1) + x2)))), (5, .int (iv (μ.1 127 (n - 1)))), (4, .int (iv ((μ.1 111 53) - x3))), (0, .ref (oP ω 111)), (1, .int (iv x1)), (2, .int (iv x2)), (3, .int (iv x3))]) hx hb dX12_calls_167 hl (by decide) rfl (fun ls hl => ?_)
            refine xl (fun n_9 μ' ls => ∃ (k9 : Int), (FrM [133, 134] μ109 μ') ∧ (-2147483648 ≤ k9 ∧ k9 ≤ 2147483647) ∧ (0 ≤ k9) ∧ (MZ μ') ∧ (RES μ' (RX μ + 29000)) ∧ n_9 = Int.toNat (x3 - k9) ∧ lv_has ls 8 [(7, .int (iv k9)), (6, .int (iv (μ.1 120 ((40 * x1) + x2)))), (5, .int (iv (μ.1 127 (n - 1)))), (4, .int (iv ((μ.1 111 53) - x3))), (0, .ref (oP ω 111)), (1, .int (iv x1)), (2, .int (iv x2)), (3, .int (iv x3))]) (fun n_9 ρ μL115 d0 H locs ls hI_l G ih => ?_) _ _ _ _ _ _ _ ⟨0, FrM.rf, (by omega), (by omega), hp_113.1, (hp_113.le (by omega)), rfl, lv_sub hl [0, 1, 2, 3, 4, 5, 6, 7] rfl⟩ G
            obtain ⟨k9, FL116, hi_118, hi_119, hi_120, hi_121, hn117, hl⟩ := hI_l
            refine lv_iload hx hb dX12_calls_169 (lv_at hl 0 rfl) ?_
            refine lv_iload_n hx hb dX12_calls_171 rfl (lv_at hl 7 rfl) ?_
            refine xb_icmp_ge (tgt := 214) hx hb (by unfold ir; omega) (by unfold ir; omega) dX12_calls_172 (by decide) (fun c_172 => ?_) (fun c_172 => ?_)
            · exact xr_v G hret hlk dX12_calls_214 ⟨(FrM.tr (FrM.tr (FrM.put (FrM.tr (FrM.put FrM.rf (by decide)) FL14 (by decide)) (by decide)) F_110 (by decide)) FL116 (by decide)), (fun j hj => ((FL116.1 111 (by decide) j).trans ((hp_111 j (fun h9 => hj ((by decide : ∀ x ∈ ([47, 48] : List Int), x ∈ ([47, 53, 61, 81, 82, 83, 84, 90, 91, 93, 94, 95, 96, 97, 98, 99, 48, 89] : List Int)) j h9))).trans ((sv_n _ (fun h9 => hj (by rw [h9.2]; decide))).trans ((hi_17 j (fun h9 => hj ((by decide : ∀ x ∈ ([83, 84, 93, 94, 98, 99] : List Int), x ∈ ([47, 53, 61, 81, 82, 83, 84, 90, 91, 93, 94, 95, 96, 97, 98, 99, 48, 89] : List Int)) j h9))).trans (sv_n _ (fun h9 => hj (by rw [h9.2]; decide)))))))), hi_121⟩
            · refine lv_iload hx hb dX12_calls_175 (lv_at hl 0 rfl) ?_
              refine lv_iload hx hb dX12_calls_177 (lv_at hl 1 rfl) ?_
              refine xb_icmp_ge (tgt := 214) hx hb (by unfold ir; omega) (by unfold ir; omega) dX12_calls_179 (by decide) (fun c_179 => ?_) (fun c_179 => ?_)
              · exact xr_v G hret hlk dX12_calls_214 ⟨(FrM.tr (FrM.tr (FrM.put (FrM.tr (FrM.put FrM.rf (by decide)) FL14 (by decide)) (by decide)) F_110 (by decide)) FL116 (by decide)), (fun j hj => ((FL116.1 111 (by decide) j).trans ((hp_111 j (fun h9 => hj ((by decide : ∀ x ∈ ([47, 48] : List Int), x ∈ ([47, 53, 61, 81, 82, 83, 84, 90, 91, 93, 94, 95, 96, 97, 98, 99, 48, 89] : List Int)) j h9))).trans ((sv_n _ (fun h9 => hj (by rw [h9.2]; decide))).trans ((hi_17 j (fun h9 => hj ((by decide : ∀ x ∈ ([83, 84, 93, 94, 98, 99] : List Int), x ∈ ([47, 53, 61, 81, 82, 83, 84, 90, 91, 93, 94, 95, 96, 97, 98, 99, 48, 89] : List Int)) j h9))).trans (sv_n _ (fun h9 => hj (by rw [h9.2]; decide)))))))), hi_121⟩
              · refine lv_aload_n hx hb dX12_calls_182 rfl (lv_at hl 4 rfl) ?_
                refine lv_iload hx hb dX12_calls_183 (lv_at hl 0 rfl) ?_
                refine lv_aload_n hx hb dX12_calls_185 rfl (lv_at hl 4 rfl) ?_
                refine xa_getr G fd_X12 (a := 111) (x := 135) 51 rfl (by decide) rfl (wm 7 200 rfl rfl) ⟨rfl, rfl, rfl⟩ dX12_calls_186 rfl (G.sk 133 rfl) (by decide) rfl ?_
                refine lv_iload hx hb dX12_calls_189 (lv_at hl 3 rfl) ?_
                refine lv_iload hx hb dX12_calls_191 (lv_at hl 0 rfl) ?_
                refine xb_iadd hx hb dX12_calls_193 ?_
                refine xa_bald G (a := 135) (i := ((μ.1 111 53) - x3) + k9) rfl (by have h9 := G.lc (a := 135) (n := 9000) 73 rfl; omega) dX12_calls_194 rfl ?_
                refine xb_ti (y := μ.1 135 (((μ.1 111 53) - x3) + k9)) ((FL116.1 135 (by decide) (((μ.1 111 53) - x3) + k9)).trans ((F_110.1 135 (by decide) (((μ.1 111 53) - x3) + k9)).trans ((sv_n _ (fun h9 => absurd h9.1 (by decide))).trans ((FL14.1 135 (by decide) (((μ.1 111 53) - x3) + k9)).trans (sv_n _ (fun h9 => absurd h9.1 (by decide))))))) ?_
                have hr_122 : -2147483648 ≤ μ.1 135 (((μ.1 111 53) - x3) + k9) ∧ μ.1 135 (((μ.1 111 53) - x3) + k9) ≤ 2147483647 := by have h9 := G.hr3 (a := 135) (k := ((μ.1 111 53) - x3) + k9) rfl; rw [((FL116.1 135 (by decide) (((μ.1 111 53) - x3) + k9)).trans ((F_110.1 135 (by decide) (((μ.1 111 53) - x3) + k9)).trans ((sv_n _ (fun h9 => absurd h9.1 (by decide))).trans ((FL14.1 135 (by decide) (((μ.1 111 53) - x3) + k9)).trans (sv_n _ (fun h9 => absurd h9.1 (by decide)))))))] at h9; exact h9
                refine lv_aload_n hx hb dX12_calls_195 rfl (lv_at hl 4 rfl) ?_
                refine xa_getr G fd_X12 (a := 111) (x := 136) 52 rfl (by decide) rfl (wm 7 201 rfl rfl) ⟨rfl, rfl, rfl⟩ dX12_calls_196 rfl (G.sk 134 rfl) (by decide) rfl ?_
                refine lv_iload hx hb dX12_calls_199 (lv_at hl 3 rfl) ?_
                refine lv_iload hx hb dX12_calls_201 (lv_at hl 0 rfl) ?_
                refine xb_iadd hx hb dX12_calls_203 ?_
                refine xa_lald G (a := 136) (i := ((μ.1 111 53) - x3) + k9) rfl (by have h9 := G.lc (a := 136) (n := 9000) 74 rfl; omega) dX12_calls_204 rfl ?_
                refine xb_tl (y := μL13.1 136 (((μ.1 111 53) - x3) + k9)) ((FL116.1 136 (by decide) (((μ.1 111 53) - x3) + k9)).trans ((F_110.1 136 (by decide) (((μ.1 111 53) - x3) + k9)).trans (sv_n _ (fun h9 => absurd h9.1 (by decide))))) ?_
                have hj_123 : jr (μL13.1 136 (((μ.1 111 53) - x3) + k9)) := (by have h9 := G.hj (a := 136) (k := ((μ.1 111 53) - x3) + k9) rfl; rw [((FL116.1 136 (by decide) (((μ.1 111 53) - x3) + k9)).trans ((F_110.1 136 (by decide) (((μ.1 111 53) - x3) + k9)).trans (sv_n _ (fun h9 => absurd h9.1 (by decide)))))] at h9; exact h9)
                have e_124 : μL115.1 111 47 = n + 1 := ((FL116.1 111 (by decide) 47).trans hs_114)
                refine xc_vV G (b := 111) (rest := []) (As := [.int (iv k9), .int (iv (μ.1 135 (((μ.1 111 53) - x3) + k9))), .long (jv (μL13.1 136 (((μ.1 111 53) - x3) + k9)))]) (c_X12_puts ω l μL115 k9 (μ.1 135 (((μ.1 111 53) - x3) + k9)) (μL13.1 136 (((μ.1 111 53) - x3) + k9)) (n + 1) (by unfold ir; omega) (by unfold ir; omega) hj_123 (by omega) hi_120 (by omega) (by omega) (by rw [(show μL115.1 111 65 = μ.1 111 65 from ((FL116.1 111 (by decide) 65).trans ((hp_111 65 (by decide)).trans ((sv_n _ (by decide)).trans ((hi_17 65 (by decide)).trans (sv_n _ (by decide))))))), (show μL115.1 111 82 = μ.1 111 82 from ((FL116.1 111 (by decide) 82).trans ((hp_111 82 (by decide)).trans ((sv_n _ (by decide)).trans ((hi_17 82 (by decide)).trans (sv_n _ (by decide)))))))]; exact hi_22 (((μ.1 111 53) - x3) + k9) (by omega) (by omega))) (wm 10 110 rfl rfl) (wm 10 112 rfl rfl) (wm 0 191 rfl rfl) rfl rfl (by decide) rfl (wm 1 18 rfl rfl) (wm 10 113 rfl rfl) (by decide) hR (by decide) (n := 3) rfl rfl (Nat.le_of_ble_eq_true rfl) hl.1 dX12_calls_205 (fun μ125 ρ d0 H locs hp G => ?_)
                obtain ⟨F_126, hp_127⟩ := hp
                refine lv_iinc (v := iv (k9 + 1)) (lv' := [(7, .int (iv (k9 + 1))), (6, .int (iv (μ.1 120 ((40 * x1) + x2)))), (5, .int (iv (μ.1 127 (n - 1)))), (4, .int (iv ((μ.1 111 53) - x3))), (0, .ref (oP ω 111)), (1, .int (iv x1)), (2, .int (iv x2)), (3, .int (iv x3))]) hx hb dX12_calls_208 hl (k := 0) rfl (by rw [show Int32.ofInt 1 = iv 1 from rfl, iv_add]) (by decide) rfl (fun ls hl => ?_)
                refine lv_goto (tgt := 169) hx hb dX12_calls_211 (by decide) ?_
                exact ih _ _ _ _ _ _ _ (by omega) ⟨k9 + 1, (FrM.tr FL116 F_126 (by decide)), (by omega), (by omega), hp_127, (RES.pt hi_121 hp_127 (Eqa.fr (L := [133, 134]) (FrM.tr FrM.rf F_126 (by decide)) (by decide)) (Eqf.fd (L := []) (fun j hj => (F_126.1 111 (by decide) j)) (by decide))), rfl, lv_sub hl [0, 1, 2, 3, 4, 5, 6, 7] rfl⟩ G
        · refine lv_aload_n hx hb dX12_calls_75 rfl (lv_at hl 4 rfl) ?_
          refine xc_iV G (b := 111) (rest := []) (As := []) (c_X12_step ω l μL13 (μL13.1 111 83) (by omega) hi_21) (wm 10 122 rfl rfl) (wm 10 124 rfl rfl) (wm 0 194 rfl rfl) rfl rfl (by decide) rfl (wm 1 18 rfl rfl) (wm 10 125 rfl rfl) (by decide) hR (by decide) (n := 0) rfl rfl (Nat.le_of_ble_eq_true rfl) hl.1 dX12_calls_76 (fun r_129 μ128 ρ d0 H locs hr_r_129 hp G => ?_)
          have hr_r_129 : -2147483648 ≤ r_129 ∧ r_129 ≤ 2147483647 := hr_r_129
          obtain ⟨F_130, hp_131, hp_132, hp_133⟩ := hp
          refine xb_if_ne (tgt := 83) hx hb (by unfold ir; omega) dX12_calls_79 (by decide) (fun c_79 => ?_) (fun c_79 => ?_)
          · refine lv_aload_n hx hb dX12_calls_83 rfl (lv_at hl 4 rfl) ?_
            refine lv_iload hx hb dX12_calls_84 (lv_at hl 2 rfl) ?_
            refine lv_iload_n hx hb dX12_calls_86 rfl (lv_at hl 5 rfl) ?_
            refine lv_aload_n hx hb dX12_calls_87 rfl (lv_at hl 4 rfl) ?_
            refine xa_getr G fd_X12 (a := 111) (x := 135) 51 rfl (by decide) rfl (wm 7 200 rfl rfl) ⟨rfl, rfl, rfl⟩ dX12_calls_88 rfl (G.sk 133 rfl) (by decide) rfl ?_
            refine lv_iload hx hb dX12_calls_91 (lv_at hl 3 rfl) ?_
            refine lv_iload hx hb dX12_calls_93 (lv_at hl 0 rfl) ?_
            refine xb_iadd hx hb dX12_calls_95 ?_
            refine xa_bald G (a := 135) (i := ((μ.1 111 53) - x3) + k9) rfl (by have h9 := G.lc (a := 135) (n := 9000) 73 rfl; omega) dX12_calls_96 rfl ?_
            refine xb_ti (y := μ.1 135 (((μ.1 111 53) - x3) + k9)) ((F_130.1 135 (by decide) (((μ.1 111 53) - x3) + k9)).trans ((FL14.1 135 (by decide) (((μ.1 111 53) - x3) + k9)).trans (sv_n _ (fun h9 => absurd h9.1 (by decide))))) ?_
            have hr_134 : -2147483648 ≤ μ.1 135 (((μ.1 111 53) - x3) + k9) ∧ μ.1 135 (((μ.1 111 53) - x3) + k9) ≤ 2147483647 := by have h9 := G.hr3 (a := 135) (k := ((μ.1 111 53) - x3) + k9) rfl; rw [((F_130.1 135 (by decide) (((μ.1 111 53) - x3) + k9)).trans ((FL14.1 135 (by decide) (((μ.1 111 53) - x3) + k9)).trans (sv_n _ (fun h9 => absurd h9.1 (by decide)))))] at h9; exact h9
            refine lv_aload_n hx hb dX12_calls_97 rfl (lv_at hl 4 rfl) ?_
            refine xa_getr G fd_X12 (a := 111) (x := 136) 52 rfl (by decide) rfl (wm 7 201 rfl rfl) ⟨rfl, rfl, rfl⟩ dX12_calls_98 rfl (G.sk 134 rfl) (by decide) rfl ?_
            refine lv_iload hx hb dX12_calls_101 (lv_at hl 3 rfl) ?_
            refine lv_iload hx hb dX12_calls_103 (lv_at hl 0 rfl) ?_
            refine xb_iadd hx hb dX12_calls_105 ?_
            refine xa_lald G (a := 136) (i := ((μ.1 111 53) - x3) + k9) rfl (by have h9 := G.lc (a := 136) (n := 9000) 74 rfl; omega) dX12_calls_106 rfl ?_
            refine xb_tl (y := μL13.1 136 (((μ.1 111 53) - x3) + k9)) (F_130.1 136 (by decide) (((μ.1 111 53) - x3) + k9)) ?_
            have hj_135 : jr (μL13.1 136 (((μ.1 111 53) - x3) + k9)) := (by have h9 := G.hj (a := 136) (k := ((μ.1 111 53) - x3) + k9) rfl; rw [(F_130.1 136 (by decide) (((μ.1 111 53) - x3) + k9))] at h9; exact h9)
            have e_136 : μ128.1 127 (n - 1) = μ.1 127 (n - 1) := ((F_130.1 127 (by decide) (n - 1)).trans ((FL14.1 127 (by decide) (n - 1)).trans (sv_n _ (fun h9 => absurd h9.1 (by decide)))))
            have e_137 : μ128.1 127 (n - 1) = μ.1 127 (n - 1) := ((F_130.1 127 (by decide) (n - 1)).trans ((FL14.1 127 (by decide) (n - 1)).trans (sv_n _ (fun h9 => absurd h9.1 (by decide)))))
            refine xc_vV G (b := 111) (rest := []) (As := [.int (iv (μ.1 127 (n - 1))), .int (iv x1), .int (iv (μ.1 135 (((μ.1 111 53) - x3) + k9))), .long (jv (μL13.1 136 (((μ.1 111 53) - x3) + k9)))]) (c_X12_turnsValue ω l μ128 (μ.1 127 (n - 1)) x1 (μ.1 135 (((μ.1 111 53) - x3) + k9)) (μL13.1 136 (((μ.1 111 53) - x3) + k9)) (by unfold ir; omega) (by unfold ir; omega) (by unfold ir; omega) hj_135 (by omega) (by omega)) (wm 10 179 rfl rfl) (wm 10 181 rfl rfl) (wm 0 208 rfl rfl) rfl rfl (by decide) rfl (wm 1 18 rfl rfl) (wm 10 182 rfl rfl) (by decide) hR (by decide) (n := 4) rfl rfl (Nat.le_of_ble_eq_true rfl) hl.1 dX12_calls_107 (fun μ138 ρ d0 H locs hp G => ?_)
            obtain ⟨F_139, hp_140, hp_141⟩ := hp
            refine lv_aload_n hx hb dX12_calls_110 rfl (lv_at hl 4 rfl) ?_
            refine xa_geti G fd_X12 (a := 111) (x := μ138.1 111 98) 98 rfl (by decide) rfl (wm 8 7 rfl rfl) ⟨rfl, rfl, rfl⟩ dX12_calls_111 rfl rfl ?_
            have hr_142 : -2147483648 ≤ μ138.1 111 98 ∧ μ138.1 111 98 ≤ 2147483647 := by have h9 := G.hr (a := 111) (k := 98) rfl; exact h9
            refine xb_if_ne (tgt := 124) hx hb (by unfold ir; omega) dX12_calls_114 (by decide) (fun c_114 => ?_) (fun c_114 => ?_)
            · refine lv_aload_n hx hb dX12_calls_124 rfl (lv_at hl 4 rfl) ?_
              refine xa_getr G fd_X12 (a := 111) (x := 136) 52 rfl (by decide) rfl (wm 7 201 rfl rfl) ⟨rfl, rfl, rfl⟩ dX12_calls_125 rfl (G.sk 134 rfl) (by decide) rfl ?_
              refine lv_iload hx hb dX12_calls_128 (lv_at hl 3 rfl) ?_
              refine lv_iload hx hb dX12_calls_130 (lv_at hl 0 rfl) ?_
              refine xb_iadd hx hb dX12_calls_132 ?_
              refine lv_aload_n hx hb dX12_calls_133 rfl (lv_at hl 4 rfl) ?_
              refine xa_getl G fd_X12 (a := 111) (x := μ138.1 111 99) 99 rfl (by decide) rfl (wm 8 8 rfl rfl) ⟨rfl, rfl, rfl⟩ dX12_calls_134 rfl rfl ?_
              have hj_143 : jr (μ138.1 111 99) := by have h9 := G.hj (a := 111) (k := 99) rfl; exact h9
              refine xa_last G (a := 136) (i := ((μ.1 111 53) - x3) + k9) (x := μ138.1 111 99) rfl (by have h9 := G.lc (a := 136) (n := 9000) 74 rfl; omega) hj_143 dX12_calls_137 rfl (fun H locs G => ?_)
              refine lv_iinc (v := iv (k9 + 1)) (lv' := [(7, .int (iv (k9 + 1))), (6, .int (iv (μ.1 120 ((40 * x1) + x2)))), (5, .int (iv (μ.1 127 (n - 1)))), (4, .int (iv ((μ.1 111 53) - x3))), (0, .ref (oP ω 111)), (1, .int (iv x1)), (2, .int (iv x2)), (3, .int (iv x3))]) hx hb dX12_calls_138 hl (k := 0) rfl (by rw [show Int32.ofInt 1 = iv 1 from rfl, iv_add]) (by decide) rfl (fun ls hl => ?_)
              refine lv_goto (tgt := 63) hx hb dX12_calls_141 (by decide) ?_
              have e_144 : (sv μ138 136 (((μ.1 111 53) - x3) + k9) (μ138.1 111 99)).1 111 83 = μ128.1 111 83 := ((sv_n _ (fun h9 => absurd h9.1 (by decide))).trans (hp_140 83 (by decide)))
              have e_145 : (sv μ138 136 (((μ.1 111 53) - x3) + k9) (μ138.1 111 99)).1 111 94 = μ128.1 111 94 := ((sv_n _ (fun h9 => absurd h9.1 (by decide))).trans (hp_140 94 (by decide)))
              have hMZ_146 : MZ μ138 := MZ.cg hp_132 F_139 (by decide) (Eqf.fd hp_140 (by decide))
              have hMZ_147 : MZ (sv μ138 136 (((μ.1 111 53) - x3) + k9) (μ138.1 111 99)) := MZ.p6 hMZ_146 (by have h9 : μ138.1 111 53 = (μ.1 111 53) - x3 := ((hp_140 53 (by decide)).trans ((hp_131 53 (by decide)).trans ((hi_17 53 (by decide)).trans (sv_s _ _ _ _)))); omega)
              exact ih _ _ _ _ _ _ _ (by omega) ⟨k9 + 1, (FrM.put (FrM.tr (FrM.tr FL14 F_130 (by decide)) F_139 (by decide)) (by decide)), (by omega), (fun j hj => ((sv_n _ (fun h9 => absurd h9.1 (by decide))).trans ((hp_140 j (fun h9 => hj ((by decide : ∀ x ∈ ([98, 99] : List Int), x ∈ ([83, 84, 93, 94, 98, 99] : List Int)) j h9))).trans ((hp_131 j (fun h9 => hj ((by decide : ∀ x ∈ ([83, 84, 93, 94] : List Int), x ∈ ([83, 84, 93, 94, 98, 99] : List Int)) j h9))).trans (hi_17 j (fun h9 => hj ((by decide : ∀ x ∈ ([83, 84, 93, 94, 98, 99] : List Int), x ∈ ([83, 84, 93, 94, 98, 99] : List Int)) j h9))))))), (by omega), (by omega), (by omega), hMZ_147, (fun j h1 h2 => (Classical.em (j = ((μ.1 111 53) - x3) + k9)).elim (fun h9 => by rw [h9, show (sv μ138 136 (((μ.1 111 53) - x3) + k9) (μ138.1 111 99)).1 136 (((μ.1 111 53) - x3) + k9) = μ138.1 111 99 from (sv_s _ _ _ _)]; rcases Classical.em (μ.1 135 (((μ.1 111 53) - x3) + k9) = 1) with h8 | h8; (rw [h8]; exact VV.n1); (rw [show μ138.1 111 99 = μL13.1 136 (((μ.1 111 53) - x3) + k9) from (hp_141 h8).2]; exact hi_22 _ (by omega) (by omega))) (fun h9 => by rw [show (sv μ138 136 (((μ.1 111 53) - x3) + k9) (μ138.1 111 99)).1 136 j = μL13.1 136 j from ((sv_n _ (by omega)).trans ((F_139.1 136 (by decide) j).trans (F_130.1 136 (by decide) j)))]; exact hi_22 j h1 h2)), rfl, lv_sub hl [0, 1, 2, 3, 4, 5, 6, 7] rfl⟩ G
            · refine lv_aload_n hx hb dX12_calls_117 rfl (lv_at hl 4 rfl) ?_
              refine lv_bipush (v := iv 9) hx hb dX12_calls_118 rfl ?_
              have e_148 : μ138.1 111 4 = μ.1 111 4 := ((hp_140 4 (by decide)).trans ((hp_131 4 (by decide)).trans ((hi_17 4 (by decide)).trans (sv_n _ (by decide)))))
              have e_149 : μ138.1 111 83 = μ128.1 111 83 := (hp_140 83 (by decide))
              have hrx_150 := RX.eq (μ := μ) (ν := μ138) (Eqa.fr (L := [111, 136]) (FrM.tr (FrM.tr (FrM.tr (FrM.put FrM.rf (by decide)) FL14 (by decide)) F_130 (by decide)) F_139 (by decide)) (by decide)) (Eqf.fd (L := [53, 83, 84, 93, 94, 98, 99]) (fun j hj => ((hp_140 j (fun h9 => hj ((by decide : ∀ x ∈ ([98, 99] : List Int), x ∈ ([53, 83, 84, 93, 94, 98, 99] : List Int)) j h9))).trans ((hp_131 j (fun h9 => hj ((by decide : ∀ x ∈ ([83, 84, 93, 94] : List Int), x ∈ ([53, 83, 84, 93, 94, 98, 99] : List Int)) j h9))).trans ((hi_17 j (fun h9 => hj ((by decide : ∀ x ∈ ([83, 84, 93, 94, 98, 99] : List Int), x ∈ ([53, 83, 84, 93, 94, 98, 99] : List Int)) j h9))).trans (sv_n _ (fun h9 => hj (by rw [h9.2]; decide))))))) (by decide))
              have e_151 : μ138.1 111 94 = μ128.1 111 94 := (hp_140 94 (by decide))
              have e_152 : μ138.1 111 47 = n := ((hp_140 47 (by decide)).trans ((hp_131 47 (by decide)).trans ((hi_17 47 (by decide)).trans ((sv_n _ (by decide)).trans hn.symm))))
              have hMZ_153 : MZ μ138 := MZ.cg hp_132 F_139 (by decide) (Eqf.fd hp_140 (by decide))
              have e_154 : μ138.1 111 94 = μ128.1 111 94 := (hp_140 94 (by decide))
              have hA1_155 : A1 μ138 := TQ.a1 hTQ (Eqa.fr (L := [111, 136]) (FrM.tr (FrM.tr (FrM.tr (FrM.put FrM.rf (by decide)) FL14 (by decide)) F_130 (by decide)) F_139 (by decide)) (by decide)) (Eqf.fd (L := [53, 83, 84, 93, 94, 98, 99]) (fun j hj => ((hp_140 j (fun h9 => hj ((by decide : ∀ x ∈ ([98, 99] : List Int), x ∈ ([53, 83, 84, 93, 94, 98, 99] : List Int)) j h9))).trans ((hp_131 j (fun h9 => hj ((by decide : ∀ x ∈ ([83, 84, 93, 94] : List Int), x ∈ ([53, 83, 84, 93, 94, 98, 99] : List Int)) j h9))).trans ((hi_17 j (fun h9 => hj ((by decide : ∀ x ∈ ([83, 84, 93, 94, 98, 99] : List Int), x ∈ ([53, 83, 84, 93, 94, 98, 99] : List Int)) j h9))).trans (sv_n _ (fun h9 => hj (by rw [h9.2]; decide))))))) (by decide)) (by have h9 : μ138.1 111 53 = (μ.1 111 53) - x3 := ((hp_140 53 (by decide)).trans ((hp_131 53 (by decide)).trans ((hi_17 53 (by decide)).trans (sv_s _ _ _ _)))); omega)
              refine xc_vV G (b := 111) (rest := []) (As := [.int (iv 9)]) (c_X12_arises_a ω l μ138 9 n (by unfold ir; omega) (by omega) hMZ_153 (by omega) (by omega) (fun _ => by omega) (fun _ => hA1_155)) (wm 10 199 rfl rfl) (wm 10 201 rfl rfl) (wm 0 213 rfl rfl) rfl rfl (by decide) rfl (wm 1 18 rfl rfl) (wm 10 202 rfl rfl) (by decide) hR (by decide) (n := 1) rfl rfl (Nat.le_of_ble_eq_true rfl) hl.1 dX12_calls_120 (fun μ156 ρ d0 H locs hp G => ?_)
              obtain ⟨F_157, hp_158, hp_159⟩ := hp
              exact xr_v G hret hlk dX12_calls_123 ⟨(FrM.tr (FrM.tr (FrM.tr (FrM.tr (FrM.put FrM.rf (by decide)) FL14 (by decide)) F_130 (by decide)) F_139 (by decide)) F_157 (by decide)), (fun j hj => ((hp_158 j (fun h9 => hj ((by decide : ∀ x ∈ ([47, 53, 61, 81, 82, 83, 84, 90, 91, 93, 94, 95, 96, 97, 98, 99] : List Int), x ∈ ([47, 53, 61, 81, 82, 83, 84, 90, 91, 93, 94, 95, 96, 97, 98, 99, 48, 89] : List Int)) j h9))).trans ((hp_140 j (fun h9 => hj ((by decide : ∀ x ∈ ([98, 99] : List Int), x ∈ ([47, 53, 61, 81, 82, 83, 84, 90, 91, 93, 94, 95, 96, 97, 98, 99, 48, 89] : List Int)) j h9))).trans ((hp_131 j (fun h9 => hj ((by decide : ∀ x ∈ ([83, 84, 93, 94] : List Int), x ∈ ([47, 53, 61, 81, 82, 83, 84, 90, 91, 93, 94, 95, 96, 97, 98, 99, 48, 89] : List Int)) j h9))).trans ((hi_17 j (fun h9 => hj ((by decide : ∀ x ∈ ([83, 84, 93, 94, 98, 99] : List Int), x ∈ ([47, 53, 61, 81, 82, 83, 84, 90, 91, 93, 94, 95, 96, 97, 98, 99, 48, 89] : List Int)) j h9))).trans (sv_n _ (fun h9 => hj (by rw [h9.2]; decide)))))))), (hp_159.le (by omega))⟩
          · exact xr_v G hret hlk dX12_calls_82 ⟨(FrM.tr (FrM.tr (FrM.put FrM.rf (by decide)) FL14 (by decide)) F_130 (by decide)), (fun j hj => ((hp_131 j (fun h9 => hj ((by decide : ∀ x ∈ ([83, 84, 93, 94] : List Int), x ∈ ([47, 53, 61, 81, 82, 83, 84, 90, 91, 93, 94, 95, 96, 97, 98, 99, 48, 89] : List Int)) j h9))).trans ((hi_17 j (fun h9 => hj ((by decide : ∀ x ∈ ([83, 84, 93, 94, 98, 99] : List Int), x ∈ ([47, 53, 61, 81, 82, 83, 84, 90, 91, 93, 94, 95, 96, 97, 98, 99, 48, 89] : List Int)) j h9))).trans (sv_n _ (fun h9 => hj (by rw [h9.2]; decide)))))), (RES.ov hp_132 (by omega))⟩
    · refine lv_aload_n hx hb dX12_calls_40 rfl (lv_at hl 2 rfl) ?_
      refine lv_bipush (v := iv 6) hx hb dX12_calls_41 rfl ?_
      have e_160 : (sv μ 111 53 ((μ.1 111 53) - x3)).1 111 4 = μ.1 111 4 := (sv_n _ (by decide))
      have e_161 : (sv μ 111 53 ((μ.1 111 53) - x3)).1 111 83 = μ.1 111 83 := (sv_n _ (by decide))
      have hrx_162 := RX.eq (μ := μ) (ν := (sv μ 111 53 ((μ.1 111 53) - x3))) (Eqa.fr (L := [111]) (FrM.put FrM.rf (by decide)) (by decide)) (Eqf.fd (L := [53]) (fun j hj => (sv_n _ (fun h9 => hj (by rw [h9.2]; decide)))) (by decide))
      have e_163 : (sv μ 111 53 ((μ.1 111 53) - x3)).1 111 94 = μ.1 111 94 := (sv_n _ (by decide))
      have e_164 : (sv μ 111 53 ((μ.1 111 53) - x3)).1 111 47 = n := ((sv_n _ (by decide)).trans hn.symm)
      have hMZ_165 : MZ (sv μ 111 53 ((μ.1 111 53) - x3)) := MZ.mn1 hMZ (n := n) (s := μ.1 131 (n - 1)) (hn.symm) (by have h9 : μ.1 131 (n - 1) = μ.1 131 (n - 1) := rfl; exact h9) (by omega) (by have h9 : μ.1 111 53 = μ.1 111 53 := rfl; omega)
      have e_166 : (sv μ 111 53 ((μ.1 111 53) - x3)).1 111 94 = μ.1 111 94 := (sv_n _ (by decide))
      have hA1_167 : A1 (sv μ 111 53 ((μ.1 111 53) - x3)) := TQ.a1 hTQ (Eqa.fr (L := [111]) (FrM.put FrM.rf (by decide)) (by decide)) (Eqf.fd (L := [53]) (fun j hj => (sv_n _ (fun h9 => hj (by rw [h9.2]; decide)))) (by decide)) (by have h9 : (sv μ 111 53 ((μ.1 111 53) - x3)).1 111 53 = (μ.1 111 53) - x3 := (sv_s _ _ _ _); omega)
      refine xc_vV G (b := 111) (rest := []) (As := [.int (iv 6)]) (c_X12_arises_a ω l (sv μ 111 53 ((μ.1 111 53) - x3)) 6 n (by unfold ir; omega) (by omega) hMZ_165 (by omega) (by omega) (fun _ => by omega) (fun _ => hA1_167)) (wm 10 199 rfl rfl) (wm 10 201 rfl rfl) (wm 0 213 rfl rfl) rfl rfl (by decide) rfl (wm 1 18 rfl rfl) (wm 10 202 rfl rfl) (by decide) hR (by decide) (n := 1) rfl rfl (Nat.le_of_ble_eq_true rfl) hl.1 dX12_calls_43 (fun μ168 ρ d0 H locs hp G => ?_)
      obtain ⟨F_169, hp_170, hp_171⟩ := hp
      exact xr_v G hret hlk dX12_calls_46 ⟨(FrM.tr (FrM.put FrM.rf (by decide)) F_169 (by decide)), (fun j hj => ((hp_170 j (fun h9 => hj ((by decide : ∀ x ∈ ([47, 53, 61, 81, 82, 83, 84, 90, 91, 93, 94, 95, 96, 97, 98, 99] : List Int), x ∈ ([47, 53, 61, 81, 82, 83, 84, 90, 91, 93, 94, 95, 96, 97, 98, 99, 48, 89] : List Int)) j h9))).trans (sv_n _ (fun h9 => hj (by rw [h9.2]; decide))))), (hp_171.le (by omega))⟩
  · refine lv_aload_n hx hb dX12_calls_25 rfl (lv_at hl 2 rfl) ?_
    refine lv_iconst (v := iv 3) hx hb dX12_calls_26 rfl ?_
    have e_172 : (sv μ 111 53 ((μ.1 111 53) - x3)).1 111 4 = μ.1 111 4 := (sv_n _ (by decide))
    have e_173 : (sv μ 111 53 ((μ.1 111 53) - x3)).1 111 83 = μ.1 111 83 := (sv_n _ (by decide))
    have hrx_174 := RX.eq (μ := μ) (ν := (sv μ 111 53 ((μ.1 111 53) - x3))) (Eqa.fr (L := [111]) (FrM.put FrM.rf (by decide)) (by decide)) (Eqf.fd (L := [53]) (fun j hj => (sv_n _ (fun h9 => hj (by rw [h9.2]; decide)))) (by decide))
    have e_175 : (sv μ 111 53 ((μ.1 111 53) - x3)).1 111 94 = μ.1 111 94 := (sv_n _ (by decide))
    have e_176 : (sv μ 111 53 ((μ.1 111 53) - x3)).1 111 47 = n := ((sv_n _ (by decide)).trans hn.symm)
    have hMZ_177 : MZ (sv μ 111 53 ((μ.1 111 53) - x3)) := MZ.mn1 hMZ (n := n) (s := μ.1 131 (n - 1)) (hn.symm) (by have h9 : μ.1 131 (n - 1) = μ.1 131 (n - 1) := rfl; exact h9) (by omega) (by have h9 : μ.1 111 53 = μ.1 111 53 := rfl; omega)
    have e_178 : (sv μ 111 53 ((μ.1 111 53) - x3)).1 111 94 = μ.1 111 94 := (sv_n _ (by decide))
    have hA1_179 : A1 (sv μ 111 53 ((μ.1 111 53) - x3)) := TQ.a1 hTQ (Eqa.fr (L := [111]) (FrM.put FrM.rf (by decide)) (by decide)) (Eqf.fd (L := [53]) (fun j hj => (sv_n _ (fun h9 => hj (by rw [h9.2]; decide)))) (by decide)) (by have h9 : (sv μ 111 53 ((μ.1 111 53) - x3)).1 111 53 = (μ.1 111 53) - x3 := (sv_s _ _ _ _); omega)
    refine xc_vV G (b := 111) (rest := []) (As := [.int (iv 3)]) (c_X12_arises_a ω l (sv μ 111 53 ((μ.1 111 53) - x3)) 3 n (by unfold ir; omega) (by omega) hMZ_177 (by omega) (by omega) (fun _ => by omega) (fun _ => hA1_179)) (wm 10 199 rfl rfl) (wm 10 201 rfl rfl) (wm 0 213 rfl rfl) rfl rfl (by decide) rfl (wm 1 18 rfl rfl) (wm 10 202 rfl rfl) (by decide) hR (by decide) (n := 1) rfl rfl (Nat.le_of_ble_eq_true rfl) hl.1 dX12_calls_27 (fun μ180 ρ d0 H locs hp G => ?_)
    obtain ⟨F_181, hp_182, hp_183⟩ := hp
    exact xr_v G hret hlk dX12_calls_30 ⟨(FrM.tr (FrM.put FrM.rf (by decide)) F_181 (by decide)), (fun j hj => ((hp_182 j (fun h9 => hj ((by decide : ∀ x ∈ ([47, 53, 61, 81, 82, 83, 84, 90, 91, 93, 94, 95, 96, 97, 98, 99] : List Int), x ∈ ([47, 53, 61, 81, 82, 83, 84, 90, 91, 93, 94, 95, 96, 97, 98, 99, 48, 89] : List Int)) j h9))).trans (sv_n _ (fun h9 => hj (by rw [h9.2]; decide))))), (hp_183.le (by omega))⟩

set_option maxHeartbeats 4000000 in
set_option maxRecDepth 100000 in
theorem c_X12_callsBy (ω : Om) (l : Launch) (μ : M3) (x1 : Int) (n : Int) (hx1 : ir x1) (hn : n = μ.1 111 47) (hMZ : MZ μ) (h1 : 1 ≤ n ∧ n ≤ 24) (h94 : μ.1 111 94 = 0) (hq3 : 0 ≤ x1 ∧ μ.1 131 (n - 1) + x1 + 1 ≤ μ.1 111 53) (hTQ : TQ μ (-x1)) : CtV ω l yX12_callsBy cX12_callsBy 5 184 4999 [.ref (oP ω 111), .int (iv x1)] μ (fun (μ' : M3) => (FrM [111, 129, 133, 134, 135, 136, 137, 138, 139, 140, 141, 142, 143, 149, 150, 151, 152, 153, 154, 155, 156, 157, 158, 159, 127, 128, 130, 131, 132] μ μ') ∧ (∀ j, j ∉ ([47, 53, 61, 81, 82, 83, 84, 90, 91, 93, 94, 95, 96, 97, 98, 99, 48, 89] : List Int) → μ'.1 111 j = μ.1 111 j) ∧ (RES μ' (RX μ + 29000))) := by
  refine CtV.go (by decide) (Nat.le_of_ble_eq_true rfl) (fun ρ p e s m below meth c R ls G hR hret hlk hl => ?_)
  have hx := G.1.1
  have hb := G.1.2.1
  have hl : lv_has ls 5 [(0, .ref (oP ω 111)), (1, .int (iv x1))] := hl
  generalize s.drawn = d0 at G ⊢
  have hr_x1 : -2147483648 ≤ x1 ∧ x1 ≤ 2147483647 := hx1
  have hzn_ := hMZ.n
  rw [← hn] at hzn_
  obtain ⟨hz47, hzFB, hzFL, hz81, hz82, hz84, hz65, hz4, hz104⟩ := hzn_
  have htq_ := hTQ.n hMZ (by omega)
  rw [← hn] at htq_
  have hfr_ := (hMZ.2.2.1 (n - 1) (by omega) (by omega)).1.1
  have hzB := FB_1 (μ := μ) (n := n) (by omega)
  have hzL := FL_1 (μ := μ) (n := n) (by omega)
  refine lv_aload_n hx hb dX12_callsBy_0 rfl (lv_at hl 0 rfl) ?_
  refine xa_geti G fd_X12 (a := 111) (x := μ.1 111 53) 53 rfl (by decide) rfl (wm 7 202 rfl rfl) ⟨rfl, rfl, rfl⟩ dX12_callsBy_1 rfl rfl ?_
  have hr_1 : -2147483648 ≤ μ.1 111 53 ∧ μ.1 111 53 ≤ 2147483647 := by have h9 := G.hr (a := 111) (k := 53) rfl; exact h9
  refine lv_iload_n hx hb dX12_callsBy_4 rfl (lv_at hl 1 rfl) ?_
  refine xb_isub hx hb dX12_callsBy_5 ?_
  refine lv_iconst (v := iv 1) hx hb dX12_callsBy_6 rfl ?_
  refine xb_isub hx hb dX12_callsBy_7 ?_
  refine lv_istore_n (lv' := [(2, .int (iv (((μ.1 111 53) - x1) - 1))), (0, .ref (oP ω 111)), (1, .int (iv x1))]) hx hb dX12_callsBy_8 rfl hl (by decide) rfl (fun ls hl => ?_)
  refine lv_aload_n hx hb dX12_callsBy_9 rfl (lv_at hl 1 rfl) ?_
  refine xa_getr G fd_X12 (a := 111) (x := 135) 51 rfl (by decide) rfl (wm 7 200 rfl rfl) ⟨rfl, rfl, rfl⟩ dX12_callsBy_10 rfl (G.sk 133 rfl) (by decide) rfl ?_
  refine lv_iload_n hx hb dX12_callsBy_13 rfl (lv_at hl 0 rfl) ?_
  refine xa_bald G (a := 135) (i := ((μ.1 111 53) - x1) - 1) rfl (by have h9 := G.lc (a := 135) (n := 9000) 73 rfl; omega) dX12_callsBy_14 rfl ?_
  refine xb_ti (y := μ.1 135 ((μ.1 111 53) - x1 - 1)) rfl ?_
  have hr_2 : -2147483648 ≤ μ.1 135 ((μ.1 111 53) - x1 - 1) ∧ μ.1 135 ((μ.1 111 53) - x1 - 1) ≤ 2147483647 := by have h9 := G.hr3 (a := 135) (k := ((μ.1 111 53) - x1) - 1) rfl; exact h9
  refine lv_iconst (v := iv 3) hx hb dX12_callsBy_15 rfl ?_
  refine xb_icmp_eq (tgt := 45) hx hb (by unfold ir; omega) (by unfold ir; omega) dX12_callsBy_16 (by decide) (fun c_16 => ?_) (fun c_16 => ?_)
  · have hs0_ := hMZ.stv (((μ.1 111 53) - x1) - 1) (by omega) (by omega)
    have hs3_ := hs0_.2.2.1 (by omega)
    refine lv_aload_n hx hb dX12_callsBy_45 rfl (lv_at hl 1 rfl) ?_
    refine xa_getr G fd_X12 (a := 111) (x := 136) 52 rfl (by decide) rfl (wm 7 201 rfl rfl) ⟨rfl, rfl, rfl⟩ dX12_callsBy_46 rfl (G.sk 134 rfl) (by decide) rfl ?_
    refine lv_iload_n hx hb dX12_callsBy_49 rfl (lv_at hl 0 rfl) ?_
    refine xa_lald G (a := 136) (i := ((μ.1 111 53) - x1) - 1) rfl (by have h9 := G.lc (a := 136) (n := 9000) 74 rfl; omega) dX12_callsBy_50 rfl ?_
    refine xb_tl (y := μ.1 136 ((μ.1 111 53) - x1 - 1)) rfl ?_
    have hj_3 : jr (μ.1 136 ((μ.1 111 53) - x1 - 1)) := (by have h9 := G.hj (a := 136) (k := ((μ.1 111 53) - x1) - 1) rfl; exact h9)
    refine xb_l2i hx hb dX12_callsBy_51 ?_
    refine xb_topi (fun y_4 hr_y_4 he_y_4 => ?_)
    have hr_y_4 : -2147483648 ≤ y_4 ∧ y_4 ≤ 2147483647 := hr_y_4
    have hli_y_4 : ir (μ.1 136 ((μ.1 111 53) - x1 - 1)) → y_4 = μ.1 136 ((μ.1 111 53) - x1 - 1) := fun h9 => (iv_eq hr_y_4 h9).mp he_y_4
    unfold ir at hli_y_4
    refine xb_ti (y := μ.1 136 ((μ.1 111 53) - x1 - 1)) (hli_y_4 (by omega)) ?_
    have hr_5 : -2147483648 ≤ μ.1 136 ((μ.1 111 53) - x1 - 1) ∧ μ.1 136 ((μ.1 111 53) - x1 - 1) ≤ 2147483647 := by omega
    refine lv_istore_n (lv' := [(3, .int (iv (μ.1 136 ((μ.1 111 53) - x1 - 1)))), (2, .int (iv (((μ.1 111 53) - x1) - 1))), (0, .ref (oP ω 111)), (1, .int (iv x1))]) hx hb dX12_callsBy_52 rfl hl (by decide) rfl (fun ls hl => ?_)
    refine lv_iload_n hx hb dX12_callsBy_53 rfl (lv_at hl 1 rfl) ?_
    refine lv_istore (lv' := [(4, .int (iv (((μ.1 111 53) - x1) - 1))), (3, .int (iv (μ.1 136 ((μ.1 111 53) - x1 - 1)))), (2, .int (iv (((μ.1 111 53) - x1) - 1))), (0, .ref (oP ω 111)), (1, .int (iv x1))]) hx hb dX12_callsBy_54 hl (by decide) rfl (fun ls hl => ?_)
    refine xl (fun n_9 μ' ls => ∃ (k9 : Int), (FrM [135, 136] μ μ') ∧ (-2147483648 ≤ k9 ∧ k9 ≤ 2147483647) ∧ (((μ.1 111 53) - x1) - 1 ≤ k9 ∧ k9 ≤ μ.1 111 53 - 1) ∧ (∀ j, 0 ≤ j → j < μ.1 111 53 → VV (μ.1 111 65) (μ.1 111 82) (μ'.1 135 j) (μ'.1 136 j)) ∧ n_9 = Int.toNat (μ.1 111 53 - k9) ∧ lv_has ls 5 [(4, .int (iv k9)), (3, .int (iv (μ.1 136 ((μ.1 111 53) - x1 - 1)))), (2, .int (iv (((μ.1 111 53) - x1) - 1))), (0, .ref (oP ω 111)), (1, .int (iv x1))]) (fun n_9 ρ μL6 d0 H locs ls hI_l G ih => ?_) _ _ _ _ _ _ _ ⟨((μ.1 111 53) - x1) - 1, FrM.rf, (by omega), (by omega), (fun j h1 h2 => hMZ.stv j h1 h2), rfl, lv_sub hl [0, 1, 2, 3, 4] rfl⟩ G
    obtain ⟨k9, FL7, hi_9, hi_10, hi_11, hn8, hl⟩ := hI_l
    have hMZ_12 : MZ μL6 := MZ.stk hMZ (Eqa.fr (L := [135, 136]) (FrM.tr FrM.rf FL7 (by decide)) (by decide)) (Eqf.fd (L := []) (fun j hj => (FL7.1 111 (by decide) j)) (by decide)) hi_11
    refine lv_iload hx hb dX12_callsBy_56 (lv_at hl 0 rfl) ?_
    refine lv_aload_n hx hb dX12_callsBy_58 rfl (lv_at hl 3 rfl) ?_
    refine xa_geti G fd_X12 (a := 111) (x := μ.1 111 53) 53 rfl (by decide) rfl (wm 7 202 rfl rfl) ⟨rfl, rfl, rfl⟩ dX12_callsBy_59 rfl (FL7.1 111 (by decide) 53) ?_
    refine lv_iconst (v := iv 1) hx hb dX12_callsBy_62 rfl ?_
    refine xb_isub hx hb dX12_callsBy_63 ?_
    refine xb_icmp_ge (tgt := 105) hx hb (by unfold ir; omega) (by unfold ir; omega) dX12_callsBy_64 (by decide) (fun c_64 => ?_) (fun c_64 => ?_)
    · have ht64_ := td64b hs3_
      refine lv_aload_n hx hb dX12_callsBy_105 rfl (lv_at hl 3 rfl) ?_
      refine lv_dup hx hb dX12_callsBy_106 rfl ?_
      refine xa_geti G fd_X12 (a := 111) (x := μ.1 111 53) 53 rfl (by decide) rfl (wm 7 202 rfl rfl) ⟨rfl, rfl, rfl⟩ dX12_callsBy_107 rfl (FL7.1 111 (by decide) 53) ?_
      refine lv_iconst (v := iv 1) hx hb dX12_callsBy_110 rfl ?_
      refine xb_isub hx hb dX12_callsBy_111 ?_
      refine xa_puti G fd_X12 (a := 111) (x := (μ.1 111 53) - 1) 53 (kz := 53) rfl rfl (by decide) rfl (by unfold ir; omega) (wm 7 202 rfl rfl) ⟨rfl, rfl, rfl, rfl⟩ rfl dX12_callsBy_112 rfl (fun H locs G => ?_)
      refine lv_iload_n hx hb dX12_callsBy_115 rfl (lv_at hl 1 rfl) ?_
      refine lv_bipush (v := iv 64) hx hb dX12_callsBy_116 rfl ?_
      refine xb_idiv hx hb (by unfold ir; omega) (by omega) dX12_callsBy_118 ?_
      refine lv_istore (lv' := [(4, .int (iv ((μ.1 136 ((μ.1 111 53) - x1 - 1)).tdiv 64))), (3, .int (iv (μ.1 136 ((μ.1 111 53) - x1 - 1)))), (2, .int (iv (((μ.1 111 53) - x1) - 1))), (0, .ref (oP ω 111)), (1, .int (iv x1))]) hx hb dX12_callsBy_119 hl (by decide) rfl (fun ls hl => ?_)
      refine lv_aload_n hx hb dX12_callsBy_121 rfl (lv_at hl 3 rfl) ?_
      refine lv_iload hx hb dX12_callsBy_122 (lv_at hl 0 rfl) ?_
      refine lv_iload_n hx hb dX12_callsBy_124 rfl (lv_at hl 1 rfl) ?_
      refine lv_bipush (v := iv 64) hx hb dX12_callsBy_125 rfl ?_
      refine xb_irem hx hb (by unfold ir; omega) (by omega) dX12_callsBy_127 ?_
      refine lv_aload_n hx hb dX12_callsBy_128 rfl (lv_at hl 3 rfl) ?_
      refine xa_getr G fd_X12 (a := 111) (x := 122) 27 rfl (by decide) rfl (wm 7 176 rfl rfl) ⟨rfl, rfl, rfl⟩ dX12_callsBy_129 rfl (G.sk 120 rfl) (by decide) rfl ?_
      refine lv_iload hx hb dX12_callsBy_132 (lv_at hl 0 rfl) ?_
      refine xa_iald G (a := 122) (i := (μ.1 136 ((μ.1 111 53) - x1 - 1)).tdiv 64) rfl (by have h9 := G.lc (a := 122) (n := 5) 60 rfl; omega) dX12_callsBy_134 rfl ?_
      refine xb_ti (y := μ.1 122 ((μ.1 136 ((μ.1 111 53) - x1 - 1)).tdiv 64)) ((sv_n _ (fun h9 => absurd h9.1 (by decide))).trans (FL7.1 122 (by decide) ((μ.1 136 ((μ.1 111 53) - x1 - 1)).tdiv 64))) ?_
      have hr_13 : -2147483648 ≤ μ.1 122 ((μ.1 136 ((μ.1 111 53) - x1 - 1)).tdiv 64) ∧ μ.1 122 ((μ.1 136 ((μ.1 111 53) - x1 - 1)).tdiv 64) ≤ 2147483647 := by have h9 := G.hr (a := 122) (k := (μ.1 136 ((μ.1 111 53) - x1 - 1)).tdiv 64) rfl; rw [((sv_n _ (fun h9 => absurd h9.1 (by decide))).trans (FL7.1 122 (by decide) ((μ.1 136 ((μ.1 111 53) - x1 - 1)).tdiv 64)))] at h9; exact h9
      refine xb_icmp_ge (tgt := 145) hx hb (by unfold ir; omega) (by unfold ir; omega) dX12_callsBy_135 (by decide) (fun c_135 => ?_) (fun c_135 => ?_)
      · refine lv_iconst (v := iv (-1)) hx hb dX12_callsBy_145 rfl ?_
        refine lv_iload_n hx hb dX12_callsBy_146 rfl (lv_at hl 4 rfl) ?_
        have e_14 : (sv μL6 111 53 ((μ.1 111 53) - 1)).1 111 83 = μ.1 111 83 := ((sv_n _ (by decide)).trans (FL7.1 111 (by decide) 83))
        have hrx_15 := RX.eq (μ := μ) (ν := (sv μL6 111 53 ((μ.1 111 53) - 1))) (Eqa.fr (L := [111, 135, 136]) (FrM.put (FrM.tr FrM.rf FL7 (by decide)) (by decide)) (by decide)) (Eqf.fd (L := [53]) (fun j hj => ((sv_n _ (fun h9 => hj (by rw [h9.2]; decide))).trans (FL7.1 111 (by decide) j))) (by decide))
        have e_16 : (sv μL6 111 53 ((μ.1 111 53) - 1)).1 111 94 = μ.1 111 94 := ((sv_n _ (by decide)).trans (FL7.1 111 (by decide) 94))
        have e_17 : (sv μL6 111 53 ((μ.1 111 53) - 1)).1 111 47 = n := ((sv_n _ (by decide)).trans ((FL7.1 111 (by decide) 47).trans hn.symm))
        have hMZ_18 : MZ (sv μL6 111 53 ((μ.1 111 53) - 1)) := MZ.mn1 hMZ_12 (n := n) (s := μ.1 131 (n - 1)) (((FL7.1 111 (by decide) 47).trans hn.symm)) (by have h9 : μL6.1 131 (n - 1) = μ.1 131 (n - 1) := (FL7.1 131 (by decide) (n - 1)); exact h9) (by omega) (by have h9 : μL6.1 111 53 = μ.1 111 53 := (FL7.1 111 (by decide) 53); omega)
        have e_19 : (sv μL6 111 53 ((μ.1 111 53) - 1)).1 111 94 = μ.1 111 94 := ((sv_n _ (by decide)).trans (FL7.1 111 (by decide) 94))
        have e_20 : (sv μL6 111 53 ((μ.1 111 53) - 1)).1 111 53 = (μ.1 111 53) - 1 := (sv_s _ _ _ _)
        have e_21 : (sv μL6 111 53 ((μ.1 111 53) - 1)).1 111 53 = (μ.1 111 53) - 1 := (sv_s _ _ _ _)
        have e_22 : (sv μL6 111 53 ((μ.1 111 53) - 1)).1 131 (n - 1) = μ.1 131 (n - 1) := ((sv_n _ (fun h9 => absurd h9.1 (by decide))).trans (FL7.1 131 (by decide) (n - 1)))
        have e_23 : (sv μL6 111 53 ((μ.1 111 53) - 1)).1 111 53 = (μ.1 111 53) - 1 := (sv_s _ _ _ _)
        refine xc_vV G (b := 111) (rest := []) (As := [.int (iv ((μ.1 136 ((μ.1 111 53) - x1 - 1)).tdiv 64)), .int (iv (-1)), .int (iv x1)]) (c_X12_calls ω l (sv μL6 111 53 ((μ.1 111 53) - 1)) ((μ.1 136 ((μ.1 111 53) - x1 - 1)).tdiv 64) (-1) x1 n (by unfold ir; omega) (by unfold ir; omega) (by unfold ir; omega) (by omega) hMZ_18 (by omega) (by omega) (by omega) (Or.inl rfl) (by omega) (TQ.mv hTQ (Eqa.fr (L := [111, 135, 136]) (FrM.put (FrM.tr FrM.rf FL7 (by decide)) (by decide)) (by decide)) (Eqf.fd (L := [53]) (fun j hj => ((sv_n _ (fun h9 => hj (by rw [h9.2]; decide))).trans (FL7.1 111 (by decide) j))) (by decide)) (by have h9 : (sv μL6 111 53 ((μ.1 111 53) - 1)).1 111 53 = (μ.1 111 53) - 1 := (sv_s _ _ _ _); omega))) (wm 11 19 rfl rfl) (wm 11 21 rfl rfl) (wm 0 228 rfl rfl) rfl rfl (by decide) rfl (wm 1 18 rfl rfl) (wm 11 22 rfl rfl) (by decide) hR (by decide) (n := 3) rfl rfl (Nat.le_of_ble_eq_true rfl) hl.1 dX12_callsBy_147 (fun μ24 ρ d0 H locs hp G => ?_)
        obtain ⟨F_25, hp_26, hp_27⟩ := hp
        exact xr_v G hret hlk dX12_callsBy_150 ⟨(FrM.tr (FrM.put (FrM.tr FrM.rf FL7 (by decide)) (by decide)) F_25 (by decide)), (fun j hj => ((hp_26 j (fun h9 => hj ((by decide : ∀ x ∈ ([47, 53, 61, 81, 82, 83, 84, 90, 91, 93, 94, 95, 96, 97, 98, 99, 48, 89] : List Int), x ∈ ([47, 53, 61, 81, 82, 83, 84, 90, 91, 93, 94, 95, 96, 97, 98, 99, 48, 89] : List Int)) j h9))).trans ((sv_n _ (fun h9 => hj (by rw [h9.2]; decide))).trans (FL7.1 111 (by decide) j)))), (hp_27.le (by omega))⟩
      · refine lv_iload_n hx hb dX12_callsBy_138 rfl (lv_at hl 1 rfl) ?_
        refine lv_bipush (v := iv 64) hx hb dX12_callsBy_139 rfl ?_
        refine xb_irem hx hb (by unfold ir; omega) (by omega) dX12_callsBy_141 ?_
        refine lv_goto (tgt := 146) hx hb dX12_callsBy_142 (by decide) ?_
        refine lv_iload_n hx hb dX12_callsBy_146 rfl (lv_at hl 4 rfl) ?_
        have e_28 : (sv μL6 111 53 ((μ.1 111 53) - 1)).1 111 83 = μ.1 111 83 := ((sv_n _ (by decide)).trans (FL7.1 111 (by decide) 83))
        have hrx_29 := RX.eq (μ := μ) (ν := (sv μL6 111 53 ((μ.1 111 53) - 1))) (Eqa.fr (L := [111, 135, 136]) (FrM.put (FrM.tr FrM.rf FL7 (by decide)) (by decide)) (by decide)) (Eqf.fd (L := [53]) (fun j hj => ((sv_n _ (fun h9 => hj (by rw [h9.2]; decide))).trans (FL7.1 111 (by decide) j))) (by decide))
        have e_30 : (sv μL6 111 53 ((μ.1 111 53) - 1)).1 111 94 = μ.1 111 94 := ((sv_n _ (by decide)).trans (FL7.1 111 (by decide) 94))
        have e_31 : (sv μL6 111 53 ((μ.1 111 53) - 1)).1 111 47 = n := ((sv_n _ (by decide)).trans ((FL7.1 111 (by decide) 47).trans hn.symm))
        have hMZ_32 : MZ (sv μL6 111 53 ((μ.1 111 53) - 1)) := MZ.mn1 hMZ_12 (n := n) (s := μ.1 131 (n - 1)) (((FL7.1 111 (by decide) 47).trans hn.symm)) (by have h9 : μL6.1 131 (n - 1) = μ.1 131 (n - 1) := (FL7.1 131 (by decide) (n - 1)); exact h9) (by omega) (by have h9 : μL6.1 111 53 = μ.1 111 53 := (FL7.1 111 (by decide) 53); omega)
        have e_33 : (sv μL6 111 53 ((μ.1 111 53) - 1)).1 111 94 = μ.1 111 94 := ((sv_n _ (by decide)).trans (FL7.1 111 (by decide) 94))
        have e_34 : (sv μL6 111 53 ((μ.1 111 53) - 1)).1 111 53 = (μ.1 111 53) - 1 := (sv_s _ _ _ _)
        have e_35 : (sv μL6 111 53 ((μ.1 111 53) - 1)).1 111 53 = (μ.1 111 53) - 1 := (sv_s _ _ _ _)
        have e_36 : (sv μL6 111 53 ((μ.1 111 53) - 1)).1 131 (n - 1) = μ.1 131 (n - 1) := ((sv_n _ (fun h9 => absurd h9.1 (by decide))).trans (FL7.1 131 (by decide) (n - 1)))
        have e_37 : (sv μL6 111 53 ((μ.1 111 53) - 1)).1 111 53 = (μ.1 111 53) - 1 := (sv_s _ _ _ _)
        refine xc_vV G (b := 111) (rest := []) (As := [.int (iv ((μ.1 136 ((μ.1 111 53) - x1 - 1)).tdiv 64)), .int (iv ((μ.1 136 ((μ.1 111 53) - x1 - 1)).tmod 64)), .int (iv x1)]) (c_X12_calls ω l (sv μL6 111 53 ((μ.1 111 53) - 1)) ((μ.1 136 ((μ.1 111 53) - x1 - 1)).tdiv 64) ((μ.1 136 ((μ.1 111 53) - x1 - 1)).tmod 64) x1 n (by unfold ir; omega) (by unfold ir; omega) (by unfold ir; omega) (by omega) hMZ_32 (by omega) (by omega) (by omega) (Or.inr ⟨by omega, by rw [(show (sv μL6 111 53 ((μ.1 111 53) - 1)).1 122 ((μ.1 136 ((μ.1 111 53) - x1 - 1)).tdiv 64) = μ.1 122 ((μ.1 136 ((μ.1 111 53) - x1 - 1)).tdiv 64) from ((sv_n _ (fun h9 => absurd h9.1 (by decide))).trans (FL7.1 122 (by decide) ((μ.1 136 ((μ.1 111 53) - x1 - 1)).tdiv 64))))]; omega⟩) (by omega) (TQ.mv hTQ (Eqa.fr (L := [111, 135, 136]) (FrM.put (FrM.tr FrM.rf FL7 (by decide)) (by decide)) (by decide)) (Eqf.fd (L := [53]) (fun j hj => ((sv_n _ (fun h9 => hj (by rw [h9.2]; decide))).trans (FL7.1 111 (by decide) j))) (by decide)) (by have h9 : (sv μL6 111 53 ((μ.1 111 53) - 1)).1 111 53 = (μ.1 111 53) - 1 := (sv_s _ _ _ _); omega))) (wm 11 19 rfl rfl) (wm 11 21 rfl rfl) (wm 0 228 rfl rfl) rfl rfl (by decide) rfl (wm 1 18 rfl rfl) (wm 11 22 rfl rfl) (by decide) hR (by decide) (n := 3) rfl rfl (Nat.le_of_ble_eq_true rfl) hl.1 dX12_callsBy_147 (fun μ38 ρ d0 H locs hp G => ?_)
        obtain ⟨F_39, hp_40, hp_41⟩ := hp
        exact xr_v G hret hlk dX12_callsBy_150 ⟨(FrM.tr (FrM.put (FrM.tr FrM.rf FL7 (by decide)) (by decide)) F_39 (by decide)), (fun j hj => ((hp_40 j (fun h9 => hj ((by decide : ∀ x ∈ ([47, 53, 61, 81, 82, 83, 84, 90, 91, 93, 94, 95, 96, 97, 98, 99, 48, 89] : List Int), x ∈ ([47, 53, 61, 81, 82, 83, 84, 90, 91, 93, 94, 95, 96, 97, 98, 99, 48, 89] : List Int)) j h9))).trans ((sv_n _ (fun h9 => hj (by rw [h9.2]; decide))).trans (FL7.1 111 (by decide) j)))), (hp_41.le (by omega))⟩
    · have hsk_ := (hi_11 (k9 + 1) (by omega) (by omega)).1
      refine lv_aload_n hx hb dX12_callsBy_67 rfl (lv_at hl 3 rfl) ?_
      refine xa_getr G fd_X12 (a := 111) (x := 135) 51 rfl (by decide) rfl (wm 7 200 rfl rfl) ⟨rfl, rfl, rfl⟩ dX12_callsBy_68 rfl (G.sk 133 rfl) (by decide) rfl ?_
      refine lv_iload hx hb dX12_callsBy_71 (lv_at hl 0 rfl) ?_
      refine lv_aload_n hx hb dX12_callsBy_73 rfl (lv_at hl 3 rfl) ?_
      refine xa_getr G fd_X12 (a := 111) (x := 135) 51 rfl (by decide) rfl (wm 7 200 rfl rfl) ⟨rfl, rfl, rfl⟩ dX12_callsBy_74 rfl (G.sk 133 rfl) (by decide) rfl ?_
      refine lv_iload hx hb dX12_callsBy_77 (lv_at hl 0 rfl) ?_
      refine lv_iconst (v := iv 1) hx hb dX12_callsBy_79 rfl ?_
      refine xb_iadd hx hb dX12_callsBy_80 ?_
      refine xa_bald G (a := 135) (i := k9 + 1) rfl (by have h9 := G.lc (a := 135) (n := 9000) 73 rfl; omega) dX12_callsBy_81 rfl ?_
      have hr_42 : -2147483648 ≤ μL6.1 135 (k9 + 1) ∧ μL6.1 135 (k9 + 1) ≤ 2147483647 := by have h9 := G.hr3 (a := 135) (k := k9 + 1) rfl; exact h9
      refine xa_bast G (a := 135) (i := k9) (x := μL6.1 135 (k9 + 1)) rfl (by have h9 := G.lc (a := 135) (n := 9000) 73 rfl; omega) (by omega) dX12_callsBy_82 rfl (fun H locs G => ?_)
      refine lv_aload_n hx hb dX12_callsBy_83 rfl (lv_at hl 3 rfl) ?_
      refine xa_getr G fd_X12 (a := 111) (x := 136) 52 rfl (by decide) rfl (wm 7 201 rfl rfl) ⟨rfl, rfl, rfl⟩ dX12_callsBy_84 rfl (G.sk 134 rfl) (by decide) rfl ?_
      refine lv_iload hx hb dX12_callsBy_87 (lv_at hl 0 rfl) ?_
      refine lv_aload_n hx hb dX12_callsBy_89 rfl (lv_at hl 3 rfl) ?_
      refine xa_getr G fd_X12 (a := 111) (x := 136) 52 rfl (by decide) rfl (wm 7 201 rfl rfl) ⟨rfl, rfl, rfl⟩ dX12_callsBy_90 rfl (G.sk 134 rfl) (by decide) rfl ?_
      refine lv_iload hx hb dX12_callsBy_93 (lv_at hl 0 rfl) ?_
      refine lv_iconst (v := iv 1) hx hb dX12_callsBy_95 rfl ?_
      refine xb_iadd hx hb dX12_callsBy_96 ?_
      refine xa_lald G (a := 136) (i := k9 + 1) rfl (by have h9 := G.lc (a := 136) (n := 9000) 74 rfl; omega) dX12_callsBy_97 rfl ?_
      refine xb_tl (y := μL6.1 136 (k9 + 1)) (sv_n _ (fun h9 => absurd h9.1 (by decide))) ?_
      have hj_43 : jr (μL6.1 136 (k9 + 1)) := (by have h9 := G.hj (a := 136) (k := k9 + 1) rfl; rw [(sv_n _ (fun h9 => absurd h9.1 (by decide)))] at h9; exact h9)
      refine xa_last G (a := 136) (i := k9) (x := μL6.1 136 (k9 + 1)) rfl (by have h9 := G.lc (a := 136) (n := 9000) 74 rfl; omega) hj_43 dX12_callsBy_98 rfl (fun H locs G => ?_)
      refine lv_iinc (v := iv (k9 + 1)) (lv' := [(4, .int (iv (k9 + 1))), (3, .int (iv (μ.1 136 ((μ.1 111 53) - x1 - 1)))), (2, .int (iv (((μ.1 111 53) - x1) - 1))), (0, .ref (oP ω 111)), (1, .int (iv x1))]) hx hb dX12_callsBy_99 hl (k := 0) rfl (by rw [show Int32.ofInt 1 = iv 1 from rfl, iv_add]) (by decide) rfl (fun ls hl => ?_)
      refine lv_goto (tgt := 56) hx hb dX12_callsBy_102 (by decide) ?_
      exact ih _ _ _ _ _ _ _ (by omega) ⟨k9 + 1, (FrM.put (FrM.put FL7 (by decide)) (by decide)), (by omega), (by omega), (fun j h1 h2 => (Classical.em (j = k9)).elim (fun h9 => by rw [h9, show (sv (sv μL6 135 k9 (μL6.1 135 (k9 + 1))) 136 k9 (μL6.1 136 (k9 + 1))).1 135 k9 = μL6.1 135 (k9 + 1) from ((sv_n _ (fun h9 => absurd h9.1 (by decide))).trans (sv_s _ _ _ _)), show (sv (sv μL6 135 k9 (μL6.1 135 (k9 + 1))) 136 k9 (μL6.1 136 (k9 + 1))).1 136 k9 = μL6.1 136 (k9 + 1) from (sv_s _ _ _ _)]; exact hi_11 (k9 + 1) (by omega) (by omega)) (fun h9 => by rw [show (sv (sv μL6 135 k9 (μL6.1 135 (k9 + 1))) 136 k9 (μL6.1 136 (k9 + 1))).1 135 j = μL6.1 135 j from ((sv_n _ (by omega)).trans (sv_n _ (by omega))), show (sv (sv μL6 135 k9 (μL6.1 135 (k9 + 1))) 136 k9 (μL6.1 136 (k9 + 1))).1 136 j = μL6.1 136 j from ((sv_n _ (by omega)).trans (sv_n _ (by omega)))]; exact hi_11 j h1 h2)), rfl, lv_sub hl [0, 1, 2, 3, 4] rfl⟩ G
  · refine lv_aload_n hx hb dX12_callsBy_19 rfl (lv_at hl 1 rfl) ?_
    refine xa_getr G fd_X12 (a := 111) (x := 135) 51 rfl (by decide) rfl (wm 7 200 rfl rfl) ⟨rfl, rfl, rfl⟩ dX12_callsBy_20 rfl (G.sk 133 rfl) (by decide) rfl ?_
    refine lv_iload_n hx hb dX12_callsBy_23 rfl (lv_at hl 0 rfl) ?_
    refine xa_bald G (a := 135) (i := ((μ.1 111 53) - x1) - 1) rfl (by have h9 := G.lc (a := 135) (n := 9000) 73 rfl; omega) dX12_callsBy_24 rfl ?_
    refine xb_ti (y := μ.1 135 ((μ.1 111 53) - x1 - 1)) rfl ?_
    refine xb_if_ne (tgt := 32) hx hb (by unfold ir; omega) dX12_callsBy_25 (by decide) (fun c_25 => ?_) (fun c_25 => ?_)
    · refine lv_iconst (v := iv 4) hx hb dX12_callsBy_32 rfl ?_
      refine lv_istore_n (lv' := [(3, .int (iv 4)), (2, .int (iv (((μ.1 111 53) - x1) - 1))), (0, .ref (oP ω 111)), (1, .int (iv x1))]) hx hb dX12_callsBy_33 rfl hl (by decide) rfl (fun ls hl => ?_)
      refine lv_aload_n hx hb dX12_callsBy_34 rfl (lv_at hl 2 rfl) ?_
      refine lv_iload_n hx hb dX12_callsBy_35 rfl (lv_at hl 1 rfl) ?_
      refine xa_puti G fd_X12 (a := 111) (x := ((μ.1 111 53) - x1) - 1) 53 (kz := 53) rfl rfl (by decide) rfl (by unfold ir; omega) (wm 7 202 rfl rfl) ⟨rfl, rfl, rfl, rfl⟩ rfl dX12_callsBy_36 rfl (fun H locs G => ?_)
      refine lv_aload_n hx hb dX12_callsBy_39 rfl (lv_at hl 2 rfl) ?_
      refine lv_iload_n hx hb dX12_callsBy_40 rfl (lv_at hl 0 rfl) ?_
      have e_44 : (sv μ 111 53 (((μ.1 111 53) - x1) - 1)).1 111 4 = μ.1 111 4 := (sv_n _ (by decide))
      have e_45 : (sv μ 111 53 (((μ.1 111 53) - x1) - 1)).1 111 83 = μ.1 111 83 := (sv_n _ (by decide))
      have hrx_46 := RX.eq (μ := μ) (ν := (sv μ 111 53 (((μ.1 111 53) - x1) - 1))) (Eqa.fr (L := [111]) (FrM.put FrM.rf (by decide)) (by decide)) (Eqf.fd (L := [53]) (fun j hj => (sv_n _ (fun h9 => hj (by rw [h9.2]; decide)))) (by decide))
      have e_47 : (sv μ 111 53 (((μ.1 111 53) - x1) - 1)).1 111 94 = μ.1 111 94 := (sv_n _ (by decide))
      have e_48 : (sv μ 111 53 (((μ.1 111 53) - x1) - 1)).1 111 47 = n := ((sv_n _ (by decide)).trans hn.symm)
      have hMZ_49 : MZ (sv μ 111 53 (((μ.1 111 53) - x1) - 1)) := MZ.mn1 hMZ (n := n) (s := μ.1 131 (n - 1)) (hn.symm) (by have h9 : μ.1 131 (n - 1) = μ.1 131 (n - 1) := rfl; exact h9) (by omega) (by have h9 : μ.1 111 53 = μ.1 111 53 := rfl; omega)
      have e_50 : (sv μ 111 53 (((μ.1 111 53) - x1) - 1)).1 111 94 = μ.1 111 94 := (sv_n _ (by decide))
      have hA1_51 : A1 (sv μ 111 53 (((μ.1 111 53) - x1) - 1)) := TQ.a1 hTQ (Eqa.fr (L := [111]) (FrM.put FrM.rf (by decide)) (by decide)) (Eqf.fd (L := [53]) (fun j hj => (sv_n _ (fun h9 => hj (by rw [h9.2]; decide)))) (by decide)) (by have h9 : (sv μ 111 53 (((μ.1 111 53) - x1) - 1)).1 111 53 = ((μ.1 111 53) - x1) - 1 := (sv_s _ _ _ _); omega)
      refine xc_vV G (b := 111) (rest := []) (As := [.int (iv 4)]) (c_X12_arises_a ω l (sv μ 111 53 (((μ.1 111 53) - x1) - 1)) 4 n (by unfold ir; omega) (by omega) hMZ_49 (by omega) (by omega) (fun _ => by omega) (fun _ => hA1_51)) (wm 10 199 rfl rfl) (wm 10 201 rfl rfl) (wm 0 213 rfl rfl) rfl rfl (by decide) rfl (wm 1 18 rfl rfl) (wm 10 202 rfl rfl) (by decide) hR (by decide) (n := 1) rfl rfl (Nat.le_of_ble_eq_true rfl) hl.1 dX12_callsBy_41 (fun μ52 ρ d0 H locs hp G => ?_)
      obtain ⟨F_53, hp_54, hp_55⟩ := hp
      exact xr_v G hret hlk dX12_callsBy_44 ⟨(FrM.tr (FrM.put FrM.rf (by decide)) F_53 (by decide)), (fun j hj => ((hp_54 j (fun h9 => hj ((by decide : ∀ x ∈ ([47, 53, 61, 81, 82, 83, 84, 90, 91, 93, 94, 95, 96, 97, 98, 99] : List Int), x ∈ ([47, 53, 61, 81, 82, 83, 84, 90, 91, 93, 94, 95, 96, 97, 98, 99, 48, 89] : List Int)) j h9))).trans (sv_n _ (fun h9 => hj (by rw [h9.2]; decide))))), (hp_55.le (by omega))⟩
    · refine lv_iconst (v := iv 3) hx hb dX12_callsBy_28 rfl ?_
      refine lv_goto (tgt := 33) hx hb dX12_callsBy_29 (by decide) ?_
      refine lv_istore_n (lv' := [(3, .int (iv 3)), (2, .int (iv (((μ.1 111 53) - x1) - 1))), (0, .ref (oP ω 111)), (1, .int (iv x1))]) hx hb dX12_callsBy_33 rfl hl (by decide) rfl (fun ls hl => ?_)
      refine lv_aload_n hx hb dX12_callsBy_34 rfl (lv_at hl 2 rfl) ?_
      refine lv_iload_n hx hb dX12_callsBy_35 rfl (lv_at hl 1 rfl) ?_
      refine xa_puti G fd_X12 (a := 111) (x := ((μ.1 111 53) - x1) - 1) 53 (kz := 53) rfl rfl (by decide) rfl (by unfold ir; omega) (wm 7 202 rfl rfl) ⟨rfl, rfl, rfl, rfl⟩ rfl dX12_callsBy_36 rfl (fun H locs G => ?_)
      refine lv_aload_n hx hb dX12_callsBy_39 rfl (lv_at hl 2 rfl) ?_
      refine lv_iload_n hx hb dX12_callsBy_40 rfl (lv_at hl 0 rfl) ?_
      have e_56 : (sv μ 111 53 (((μ.1 111 53) - x1) - 1)).1 111 4 = μ.1 111 4 := (sv_n _ (by decide))
      have e_57 : (sv μ 111 53 (((μ.1 111 53) - x1) - 1)).1 111 83 = μ.1 111 83 := (sv_n _ (by decide))
      have hrx_58 := RX.eq (μ := μ) (ν := (sv μ 111 53 (((μ.1 111 53) - x1) - 1))) (Eqa.fr (L := [111]) (FrM.put FrM.rf (by decide)) (by decide)) (Eqf.fd (L := [53]) (fun j hj => (sv_n _ (fun h9 => hj (by rw [h9.2]; decide)))) (by decide))
      have e_59 : (sv μ 111 53 (((μ.1 111 53) - x1) - 1)).1 111 94 = μ.1 111 94 := (sv_n _ (by decide))
      have e_60 : (sv μ 111 53 (((μ.1 111 53) - x1) - 1)).1 111 47 = n := ((sv_n _ (by decide)).trans hn.symm)
      have hMZ_61 : MZ (sv μ 111 53 (((μ.1 111 53) - x1) - 1)) := MZ.mn1 hMZ (n := n) (s := μ.1 131 (n - 1)) (hn.symm) (by have h9 : μ.1 131 (n - 1) = μ.1 131 (n - 1) := rfl; exact h9) (by omega) (by have h9 : μ.1 111 53 = μ.1 111 53 := rfl; omega)
      have e_62 : (sv μ 111 53 (((μ.1 111 53) - x1) - 1)).1 111 94 = μ.1 111 94 := (sv_n _ (by decide))
      have hA1_63 : A1 (sv μ 111 53 (((μ.1 111 53) - x1) - 1)) := TQ.a1 hTQ (Eqa.fr (L := [111]) (FrM.put FrM.rf (by decide)) (by decide)) (Eqf.fd (L := [53]) (fun j hj => (sv_n _ (fun h9 => hj (by rw [h9.2]; decide)))) (by decide)) (by have h9 : (sv μ 111 53 (((μ.1 111 53) - x1) - 1)).1 111 53 = ((μ.1 111 53) - x1) - 1 := (sv_s _ _ _ _); omega)
      refine xc_vV G (b := 111) (rest := []) (As := [.int (iv 3)]) (c_X12_arises_a ω l (sv μ 111 53 (((μ.1 111 53) - x1) - 1)) 3 n (by unfold ir; omega) (by omega) hMZ_61 (by omega) (by omega) (fun _ => by omega) (fun _ => hA1_63)) (wm 10 199 rfl rfl) (wm 10 201 rfl rfl) (wm 0 213 rfl rfl) rfl rfl (by decide) rfl (wm 1 18 rfl rfl) (wm 10 202 rfl rfl) (by decide) hR (by decide) (n := 1) rfl rfl (Nat.le_of_ble_eq_true rfl) hl.1 dX12_callsBy_41 (fun μ64 ρ d0 H locs hp G => ?_)
      obtain ⟨F_65, hp_66, hp_67⟩ := hp
      exact xr_v G hret hlk dX12_callsBy_44 ⟨(FrM.tr (FrM.put FrM.rf (by decide)) F_65 (by decide)), (fun j hj => ((hp_66 j (fun h9 => hj ((by decide : ∀ x ∈ ([47, 53, 61, 81, 82, 83, 84, 90, 91, 93, 94, 95, 96, 97, 98, 99] : List Int), x ∈ ([47, 53, 61, 81, 82, 83, 84, 90, 91, 93, 94, 95, 96, 97, 98, 99, 48, 89] : List Int)) j h9))).trans (sv_n _ (fun h9 => hj (by rw [h9.2]; decide))))), (hp_67.le (by omega))⟩
