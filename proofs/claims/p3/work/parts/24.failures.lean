abbrev cX1_clear : ByteArray := prog_3_method_2_code
def yX1_clear : MethodName := ⟨RX1, "clear", "()V"⟩
abbrev cX1_add : ByteArray := prog_3_method_3_code
def yX1_add : MethodName := ⟨RX1, "add", "(IIIIII)I"⟩
abbrev cX1_fact : ByteArray := prog_3_method_4_code
def yX1_fact : MethodName := ⟨RX1, "fact", "(II)I"⟩
abbrev cX1_putUnder : ByteArray := prog_3_method_6_code
def yX1_putUnder : MethodName := ⟨RX1, "putUnder", "(II)V"⟩
abbrev cX1_source : ByteArray := prog_3_method_7_code
def yX1_source : MethodName := ⟨RX1, "source", "(II)I"⟩
abbrev cX1_lower : ByteArray := prog_3_method_8_code
def yX1_lower : MethodName := ⟨RX1, "lower", "(II)I"⟩
abbrev cX6_least : ByteArray := prog_8_method_2_code
def yX6_least : MethodName := ⟨RX6, "least", "(I)J"⟩
abbrev cX6_most : ByteArray := prog_8_method_3_code
def yX6_most : MethodName := ⟨RX6, "most", "(I)J"⟩
abbrev cX6_twoTo63 : ByteArray := prog_8_method_4_code
def yX6_twoTo63 : MethodName := ⟨RX6, "twoTo63", "()D"⟩
abbrev cX6_greatest : ByteArray := prog_8_method_5_code
def yX6_greatest : MethodName := ⟨RX6, "greatest", "()D"⟩
abbrev cX6_has : ByteArray := prog_8_method_6_code
def yX6_has : MethodName := ⟨RX6, "has", "(IJ)Z"⟩
abbrev cX6_isWhole : ByteArray := prog_8_method_7_code
def yX6_isWhole : MethodName := ⟨RX6, "isWhole", "(D)Z"⟩
abbrev cX6_isFinite : ByteArray := prog_8_method_8_code
def yX6_isFinite : MethodName := ⟨RX6, "isFinite", "(D)Z"⟩
theorem dX1_clear_0 : decode cX1_clear 0 = .ok (.aload_n 0, 1) := by decide +kernel
theorem dX1_clear_1 : decode cX1_clear 1 = .ok (.iconst 0, 1) := by decide +kernel
theorem dX1_clear_2 : decode cX1_clear 2 = .ok (.putfield 15, 3) := by decide +kernel
theorem dX1_clear_5 : decode cX1_clear 5 = .ok (.aload_n 0, 1) := by decide +kernel
theorem dX1_clear_6 : decode cX1_clear 6 = .ok (.iconst 0, 1) := by decide +kernel
theorem dX1_clear_7 : decode cX1_clear 7 = .ok (.putfield 31, 3) := by decide +kernel
theorem dX1_clear_10 : decode cX1_clear 10 = .ok (.aload_n 0, 1) := by decide +kernel
theorem dX1_clear_11 : decode cX1_clear 11 = .ok (.getfield 24, 3) := by decide +kernel
theorem dX1_clear_14 : decode cX1_clear 14 = .ok (.iconst 0, 1) := by decide +kernel
theorem dX1_clear_15 : decode cX1_clear 15 = .ok (.invokevirtual 34, 3) := by decide +kernel
theorem dX1_clear_18 : decode cX1_clear 18 = .ok (.return_, 1) := by decide +kernel
theorem dX1_add_0 : decode cX1_add 0 = .ok (.aload_n 0, 1) := by decide +kernel
theorem dX1_add_1 : decode cX1_add 1 = .ok (.getfield 15, 3) := by decide +kernel
theorem dX1_add_4 : decode cX1_add 4 = .ok (.bipush 9, 2) := by decide +kernel
theorem dX1_add_6 : decode cX1_add 6 = .ok (.imul, 1) := by decide +kernel
theorem dX1_add_7 : decode cX1_add 7 = .ok (.istore 7, 2) := by decide +kernel
theorem dX1_add_9 : decode cX1_add 9 = .ok (.iload 7, 2) := by decide +kernel
theorem dX1_add_11 : decode cX1_add 11 = .ok (.bipush 9, 2) := by decide +kernel
theorem dX1_add_13 : decode cX1_add 13 = .ok (.iadd, 1) := by decide +kernel
theorem dX1_add_14 : decode cX1_add 14 = .ok (.aload_n 0, 1) := by decide +kernel
theorem dX1_add_15 : decode cX1_add 15 = .ok (.getfield 11, 3) := by decide +kernel
theorem dX1_add_18 : decode cX1_add 18 = .ok (.arraylength, 1) := by decide +kernel
theorem dX1_add_19 : decode cX1_add 19 = .ok (.if_icmp .le 21, 3) := by decide +kernel
theorem dX1_add_22 : decode cX1_add 22 = .ok (.aload_n 0, 1) := by decide +kernel
theorem dX1_add_23 : decode cX1_add 23 = .ok (.aload_n 0, 1) := by decide +kernel
theorem dX1_add_24 : decode cX1_add 24 = .ok (.getfield 11, 3) := by decide +kernel
theorem dX1_add_27 : decode cX1_add 27 = .ok (.iconst 2, 1) := by decide +kernel
theorem dX1_add_28 : decode cX1_add 28 = .ok (.aload_n 0, 1) := by decide +kernel
theorem dX1_add_29 : decode cX1_add 29 = .ok (.getfield 11, 3) := by decide +kernel
theorem dX1_add_32 : decode cX1_add 32 = .ok (.arraylength, 1) := by decide +kernel
theorem dX1_add_33 : decode cX1_add 33 = .ok (.imul, 1) := by decide +kernel
theorem dX1_add_34 : decode cX1_add 34 = .ok (.invokestatic 37, 3) := by decide +kernel
theorem dX1_add_37 : decode cX1_add 37 = .ok (.putfield 11, 3) := by decide +kernel
theorem dX1_add_40 : decode cX1_add 40 = .ok (.aload_n 0, 1) := by decide +kernel
theorem dX1_add_41 : decode cX1_add 41 = .ok (.getfield 11, 3) := by decide +kernel
theorem dX1_add_44 : decode cX1_add 44 = .ok (.iload 7, 2) := by decide +kernel
theorem dX1_add_46 : decode cX1_add 46 = .ok (.iconst 0, 1) := by decide +kernel
theorem dX1_add_47 : decode cX1_add 47 = .ok (.iadd, 1) := by decide +kernel
theorem dX1_add_48 : decode cX1_add 48 = .ok (.iload_n 1, 1) := by decide +kernel
theorem dX1_add_49 : decode cX1_add 49 = .ok (.iastore, 1) := by decide +kernel
theorem dX1_add_50 : decode cX1_add 50 = .ok (.aload_n 0, 1) := by decide +kernel
theorem dX1_add_51 : decode cX1_add 51 = .ok (.getfield 11, 3) := by decide +kernel
theorem dX1_add_54 : decode cX1_add 54 = .ok (.iload 7, 2) := by decide +kernel
theorem dX1_add_56 : decode cX1_add 56 = .ok (.iconst 1, 1) := by decide +kernel
theorem dX1_add_57 : decode cX1_add 57 = .ok (.iadd, 1) := by decide +kernel
theorem dX1_add_58 : decode cX1_add 58 = .ok (.iload_n 2, 1) := by decide +kernel
theorem dX1_add_59 : decode cX1_add 59 = .ok (.iastore, 1) := by decide +kernel
theorem dX1_add_60 : decode cX1_add 60 = .ok (.aload_n 0, 1) := by decide +kernel
theorem dX1_add_61 : decode cX1_add 61 = .ok (.getfield 11, 3) := by decide +kernel
theorem dX1_add_64 : decode cX1_add 64 = .ok (.iload 7, 2) := by decide +kernel
theorem dX1_add_66 : decode cX1_add 66 = .ok (.iconst 2, 1) := by decide +kernel
theorem dX1_add_67 : decode cX1_add 67 = .ok (.iadd, 1) := by decide +kernel
theorem dX1_add_68 : decode cX1_add 68 = .ok (.iload_n 3, 1) := by decide +kernel
theorem dX1_add_69 : decode cX1_add 69 = .ok (.iastore, 1) := by decide +kernel
theorem dX1_add_70 : decode cX1_add 70 = .ok (.aload_n 0, 1) := by decide +kernel
theorem dX1_add_71 : decode cX1_add 71 = .ok (.getfield 11, 3) := by decide +kernel
theorem dX1_add_74 : decode cX1_add 74 = .ok (.iload 7, 2) := by decide +kernel
theorem dX1_add_76 : decode cX1_add 76 = .ok (.iconst 3, 1) := by decide +kernel
theorem dX1_add_77 : decode cX1_add 77 = .ok (.iadd, 1) := by decide +kernel
theorem dX1_add_78 : decode cX1_add 78 = .ok (.iload 4, 2) := by decide +kernel
theorem dX1_add_80 : decode cX1_add 80 = .ok (.iastore, 1) := by decide +kernel
theorem dX1_add_81 : decode cX1_add 81 = .ok (.aload_n 0, 1) := by decide +kernel
theorem dX1_add_82 : decode cX1_add 82 = .ok (.getfield 11, 3) := by decide +kernel
theorem dX1_add_85 : decode cX1_add 85 = .ok (.iload 7, 2) := by decide +kernel
theorem dX1_add_87 : decode cX1_add 87 = .ok (.iconst 4, 1) := by decide +kernel
theorem dX1_add_88 : decode cX1_add 88 = .ok (.iadd, 1) := by decide +kernel
theorem dX1_add_89 : decode cX1_add 89 = .ok (.iconst 0, 1) := by decide +kernel
theorem dX1_add_90 : decode cX1_add 90 = .ok (.iastore, 1) := by decide +kernel
theorem dX1_add_91 : decode cX1_add 91 = .ok (.aload_n 0, 1) := by decide +kernel
theorem dX1_add_92 : decode cX1_add 92 = .ok (.getfield 11, 3) := by decide +kernel
theorem dX1_add_95 : decode cX1_add 95 = .ok (.iload 7, 2) := by decide +kernel
theorem dX1_add_97 : decode cX1_add 97 = .ok (.iconst 5, 1) := by decide +kernel
theorem dX1_add_98 : decode cX1_add 98 = .ok (.iadd, 1) := by decide +kernel
theorem dX1_add_99 : decode cX1_add 99 = .ok (.iconst 0, 1) := by decide +kernel
theorem dX1_add_100 : decode cX1_add 100 = .ok (.iastore, 1) := by decide +kernel
theorem dX1_add_101 : decode cX1_add 101 = .ok (.aload_n 0, 1) := by decide +kernel
theorem dX1_add_102 : decode cX1_add 102 = .ok (.getfield 11, 3) := by decide +kernel
theorem dX1_add_105 : decode cX1_add 105 = .ok (.iload 7, 2) := by decide +kernel
theorem dX1_add_107 : decode cX1_add 107 = .ok (.bipush 6, 2) := by decide +kernel
theorem dX1_add_109 : decode cX1_add 109 = .ok (.iadd, 1) := by decide +kernel
theorem dX1_add_110 : decode cX1_add 110 = .ok (.iload 5, 2) := by decide +kernel
theorem dX1_add_112 : decode cX1_add 112 = .ok (.iastore, 1) := by decide +kernel
theorem dX1_add_113 : decode cX1_add 113 = .ok (.aload_n 0, 1) := by decide +kernel
theorem dX1_add_114 : decode cX1_add 114 = .ok (.getfield 11, 3) := by decide +kernel
theorem dX1_add_117 : decode cX1_add 117 = .ok (.iload 7, 2) := by decide +kernel
theorem dX1_add_119 : decode cX1_add 119 = .ok (.bipush 7, 2) := by decide +kernel
theorem dX1_add_121 : decode cX1_add 121 = .ok (.iadd, 1) := by decide +kernel
theorem dX1_add_122 : decode cX1_add 122 = .ok (.iload 6, 2) := by decide +kernel
theorem dX1_add_124 : decode cX1_add 124 = .ok (.iastore, 1) := by decide +kernel
theorem dX1_add_125 : decode cX1_add 125 = .ok (.aload_n 0, 1) := by decide +kernel
theorem dX1_add_126 : decode cX1_add 126 = .ok (.getfield 11, 3) := by decide +kernel
theorem dX1_add_129 : decode cX1_add 129 = .ok (.iload 7, 2) := by decide +kernel
theorem dX1_add_131 : decode cX1_add 131 = .ok (.bipush 8, 2) := by decide +kernel
theorem dX1_add_133 : decode cX1_add 133 = .ok (.iadd, 1) := by decide +kernel
theorem dX1_add_134 : decode cX1_add 134 = .ok (.iconst (-1), 1) := by decide +kernel
theorem dX1_add_135 : decode cX1_add 135 = .ok (.iastore, 1) := by decide +kernel
theorem dX1_add_136 : decode cX1_add 136 = .ok (.aload_n 0, 1) := by decide +kernel
theorem dX1_add_137 : decode cX1_add 137 = .ok (.dup, 1) := by decide +kernel
theorem dX1_add_138 : decode cX1_add 138 = .ok (.getfield 15, 3) := by decide +kernel
theorem dX1_add_141 : decode cX1_add 141 = .ok (.iconst 1, 1) := by decide +kernel
theorem dX1_add_142 : decode cX1_add 142 = .ok (.iadd, 1) := by decide +kernel
theorem dX1_add_143 : decode cX1_add 143 = .ok (.putfield 15, 3) := by decide +kernel
theorem dX1_add_146 : decode cX1_add 146 = .ok (.aload_n 0, 1) := by decide +kernel
theorem dX1_add_147 : decode cX1_add 147 = .ok (.getfield 24, 3) := by decide +kernel
theorem dX1_add_150 : decode cX1_add 150 = .ok (.aload_n 0, 1) := by decide +kernel
theorem dX1_add_151 : decode cX1_add 151 = .ok (.getfield 15, 3) := by decide +kernel
theorem dX1_add_154 : decode cX1_add 154 = .ok (.invokevirtual 34, 3) := by decide +kernel
theorem dX1_add_157 : decode cX1_add 157 = .ok (.aload_n 0, 1) := by decide +kernel
theorem dX1_add_158 : decode cX1_add 158 = .ok (.getfield 15, 3) := by decide +kernel
theorem dX1_add_161 : decode cX1_add 161 = .ok (.iconst 1, 1) := by decide +kernel
theorem dX1_add_162 : decode cX1_add 162 = .ok (.isub, 1) := by decide +kernel
theorem dX1_add_163 : decode cX1_add 163 = .ok (.ireturn, 1) := by decide +kernel
theorem dX1_fact_0 : decode cX1_fact 0 = .ok (.iload_n 1, 1) := by decide +kernel
theorem dX1_fact_1 : decode cX1_fact 1 = .ok (.ifCond .lt 21, 3) := by decide +kernel
theorem dX1_fact_4 : decode cX1_fact 4 = .ok (.iload_n 1, 1) := by decide +kernel
theorem dX1_fact_5 : decode cX1_fact 5 = .ok (.aload_n 0, 1) := by decide +kernel
theorem dX1_fact_6 : decode cX1_fact 6 = .ok (.getfield 15, 3) := by decide +kernel
theorem dX1_fact_9 : decode cX1_fact 9 = .ok (.if_icmp .ge 13, 3) := by decide +kernel
theorem dX1_fact_12 : decode cX1_fact 12 = .ok (.iload_n 2, 1) := by decide +kernel
theorem dX1_fact_13 : decode cX1_fact 13 = .ok (.ifCond .lt 9, 3) := by decide +kernel
theorem dX1_fact_16 : decode cX1_fact 16 = .ok (.iload_n 2, 1) := by decide +kernel
theorem dX1_fact_17 : decode cX1_fact 17 = .ok (.bipush 9, 2) := by decide +kernel
theorem dX1_fact_19 : decode cX1_fact 19 = .ok (.if_icmp .lt 5, 3) := by decide +kernel
theorem dX1_fact_22 : decode cX1_fact 22 = .ok (.iconst (-1), 1) := by decide +kernel
theorem dX1_fact_23 : decode cX1_fact 23 = .ok (.ireturn, 1) := by decide +kernel
theorem dX1_fact_24 : decode cX1_fact 24 = .ok (.iload_n 2, 1) := by decide +kernel
theorem dX1_fact_25 : decode cX1_fact 25 = .ok (.iconst 5, 1) := by decide +kernel
theorem dX1_fact_26 : decode cX1_fact 26 = .ok (.if_icmp .ne 14, 3) := by decide +kernel
theorem dX1_fact_29 : decode cX1_fact 29 = .ok (.aload_n 0, 1) := by decide +kernel
theorem dX1_fact_30 : decode cX1_fact 30 = .ok (.getfield 24, 3) := by decide +kernel
theorem dX1_fact_33 : decode cX1_fact 33 = .ok (.iload_n 1, 1) := by decide +kernel
theorem dX1_fact_34 : decode cX1_fact 34 = .ok (.invokevirtual 43, 3) := by decide +kernel
theorem dX1_fact_37 : decode cX1_fact 37 = .ok (.goto 14, 3) := by decide +kernel
theorem dX1_fact_40 : decode cX1_fact 40 = .ok (.aload_n 0, 1) := by decide +kernel
theorem dX1_fact_41 : decode cX1_fact 41 = .ok (.getfield 11, 3) := by decide +kernel
theorem dX1_fact_44 : decode cX1_fact 44 = .ok (.iload_n 1, 1) := by decide +kernel
theorem dX1_fact_45 : decode cX1_fact 45 = .ok (.bipush 9, 2) := by decide +kernel
theorem dX1_fact_47 : decode cX1_fact 47 = .ok (.imul, 1) := by decide +kernel
theorem dX1_fact_48 : decode cX1_fact 48 = .ok (.iload_n 2, 1) := by decide +kernel
theorem dX1_fact_49 : decode cX1_fact 49 = .ok (.iadd, 1) := by decide +kernel
theorem dX1_fact_50 : decode cX1_fact 50 = .ok (.iaload, 1) := by decide +kernel
theorem dX1_fact_51 : decode cX1_fact 51 = .ok (.ireturn, 1) := by decide +kernel
theorem dX1_putUnder_0 : decode cX1_putUnder 0 = .ok (.iload_n 1, 1) := by decide +kernel
theorem dX1_putUnder_1 : decode cX1_putUnder 1 = .ok (.ifCond .lt 20, 3) := by decide +kernel
theorem dX1_putUnder_4 : decode cX1_putUnder 4 = .ok (.iload_n 1, 1) := by decide +kernel
theorem dX1_putUnder_5 : decode cX1_putUnder 5 = .ok (.aload_n 0, 1) := by decide +kernel
theorem dX1_putUnder_6 : decode cX1_putUnder 6 = .ok (.getfield 15, 3) := by decide +kernel
theorem dX1_putUnder_9 : decode cX1_putUnder 9 = .ok (.if_icmp .ge 12, 3) := by decide +kernel
theorem dX1_putUnder_12 : decode cX1_putUnder 12 = .ok (.iload_n 2, 1) := by decide +kernel
theorem dX1_putUnder_13 : decode cX1_putUnder 13 = .ok (.ifCond .lt 8, 3) := by decide +kernel
theorem dX1_putUnder_16 : decode cX1_putUnder 16 = .ok (.iload_n 2, 1) := by decide +kernel
theorem dX1_putUnder_17 : decode cX1_putUnder 17 = .ok (.iload_n 1, 1) := by decide +kernel
theorem dX1_putUnder_18 : decode cX1_putUnder 18 = .ok (.if_icmp .ne 4, 3) := by decide +kernel
theorem dX1_putUnder_21 : decode cX1_putUnder 21 = .ok (.return_, 1) := by decide +kernel
theorem dX1_putUnder_22 : decode cX1_putUnder 22 = .ok (.iconst 2, 1) := by decide +kernel
theorem dX1_putUnder_23 : decode cX1_putUnder 23 = .ok (.aload_n 0, 1) := by decide +kernel
theorem dX1_putUnder_24 : decode cX1_putUnder 24 = .ok (.getfield 31, 3) := by decide +kernel
theorem dX1_putUnder_27 : decode cX1_putUnder 27 = .ok (.imul, 1) := by decide +kernel
theorem dX1_putUnder_28 : decode cX1_putUnder 28 = .ok (.istore_n 3, 1) := by decide +kernel
theorem dX1_putUnder_29 : decode cX1_putUnder 29 = .ok (.iload_n 3, 1) := by decide +kernel
theorem dX1_putUnder_30 : decode cX1_putUnder 30 = .ok (.iconst 2, 1) := by decide +kernel
theorem dX1_putUnder_31 : decode cX1_putUnder 31 = .ok (.iadd, 1) := by decide +kernel
theorem dX1_putUnder_32 : decode cX1_putUnder 32 = .ok (.aload_n 0, 1) := by decide +kernel
theorem dX1_putUnder_33 : decode cX1_putUnder 33 = .ok (.getfield 28, 3) := by decide +kernel
theorem dX1_putUnder_36 : decode cX1_putUnder 36 = .ok (.arraylength, 1) := by decide +kernel
theorem dX1_putUnder_37 : decode cX1_putUnder 37 = .ok (.if_icmp .le 21, 3) := by decide +kernel
theorem dX1_putUnder_40 : decode cX1_putUnder 40 = .ok (.aload_n 0, 1) := by decide +kernel
theorem dX1_putUnder_41 : decode cX1_putUnder 41 = .ok (.aload_n 0, 1) := by decide +kernel
theorem dX1_putUnder_42 : decode cX1_putUnder 42 = .ok (.getfield 28, 3) := by decide +kernel
theorem dX1_putUnder_45 : decode cX1_putUnder 45 = .ok (.iconst 2, 1) := by decide +kernel
theorem dX1_putUnder_46 : decode cX1_putUnder 46 = .ok (.aload_n 0, 1) := by decide +kernel
theorem dX1_putUnder_47 : decode cX1_putUnder 47 = .ok (.getfield 28, 3) := by decide +kernel
theorem dX1_putUnder_50 : decode cX1_putUnder 50 = .ok (.arraylength, 1) := by decide +kernel
theorem dX1_putUnder_51 : decode cX1_putUnder 51 = .ok (.imul, 1) := by decide +kernel
theorem dX1_putUnder_52 : decode cX1_putUnder 52 = .ok (.invokestatic 37, 3) := by decide +kernel
theorem dX1_putUnder_55 : decode cX1_putUnder 55 = .ok (.putfield 28, 3) := by decide +kernel
theorem dX1_putUnder_58 : decode cX1_putUnder 58 = .ok (.aload_n 0, 1) := by decide +kernel
theorem dX1_putUnder_59 : decode cX1_putUnder 59 = .ok (.getfield 28, 3) := by decide +kernel
theorem dX1_putUnder_62 : decode cX1_putUnder 62 = .ok (.iload_n 3, 1) := by decide +kernel
theorem dX1_putUnder_63 : decode cX1_putUnder 63 = .ok (.iload_n 2, 1) := by decide +kernel
theorem dX1_putUnder_64 : decode cX1_putUnder 64 = .ok (.iastore, 1) := by decide +kernel
theorem dX1_putUnder_65 : decode cX1_putUnder 65 = .ok (.aload_n 0, 1) := by decide +kernel
theorem dX1_putUnder_66 : decode cX1_putUnder 66 = .ok (.getfield 28, 3) := by decide +kernel
theorem dX1_putUnder_69 : decode cX1_putUnder 69 = .ok (.iload_n 3, 1) := by decide +kernel
theorem dX1_putUnder_70 : decode cX1_putUnder 70 = .ok (.iconst 1, 1) := by decide +kernel
theorem dX1_putUnder_71 : decode cX1_putUnder 71 = .ok (.iadd, 1) := by decide +kernel
theorem dX1_putUnder_72 : decode cX1_putUnder 72 = .ok (.aload_n 0, 1) := by decide +kernel
theorem dX1_putUnder_73 : decode cX1_putUnder 73 = .ok (.getfield 11, 3) := by decide +kernel
theorem dX1_putUnder_76 : decode cX1_putUnder 76 = .ok (.iload_n 1, 1) := by decide +kernel
theorem dX1_putUnder_77 : decode cX1_putUnder 77 = .ok (.bipush 9, 2) := by decide +kernel
theorem dX1_putUnder_79 : decode cX1_putUnder 79 = .ok (.imul, 1) := by decide +kernel
theorem dX1_putUnder_80 : decode cX1_putUnder 80 = .ok (.bipush 8, 2) := by decide +kernel
theorem dX1_putUnder_82 : decode cX1_putUnder 82 = .ok (.iadd, 1) := by decide +kernel
theorem dX1_putUnder_83 : decode cX1_putUnder 83 = .ok (.iaload, 1) := by decide +kernel
theorem dX1_putUnder_84 : decode cX1_putUnder 84 = .ok (.iastore, 1) := by decide +kernel
theorem dX1_putUnder_85 : decode cX1_putUnder 85 = .ok (.aload_n 0, 1) := by decide +kernel
theorem dX1_putUnder_86 : decode cX1_putUnder 86 = .ok (.getfield 11, 3) := by decide +kernel
theorem dX1_putUnder_89 : decode cX1_putUnder 89 = .ok (.iload_n 1, 1) := by decide +kernel
theorem dX1_putUnder_90 : decode cX1_putUnder 90 = .ok (.bipush 9, 2) := by decide +kernel
theorem dX1_putUnder_92 : decode cX1_putUnder 92 = .ok (.imul, 1) := by decide +kernel
theorem dX1_putUnder_93 : decode cX1_putUnder 93 = .ok (.bipush 8, 2) := by decide +kernel
theorem dX1_putUnder_95 : decode cX1_putUnder 95 = .ok (.iadd, 1) := by decide +kernel
theorem dX1_putUnder_96 : decode cX1_putUnder 96 = .ok (.aload_n 0, 1) := by decide +kernel
theorem dX1_putUnder_97 : decode cX1_putUnder 97 = .ok (.getfield 31, 3) := by decide +kernel
theorem dX1_putUnder_100 : decode cX1_putUnder 100 = .ok (.iastore, 1) := by decide +kernel
theorem dX1_putUnder_101 : decode cX1_putUnder 101 = .ok (.aload_n 0, 1) := by decide +kernel
theorem dX1_putUnder_102 : decode cX1_putUnder 102 = .ok (.getfield 11, 3) := by decide +kernel
theorem dX1_putUnder_105 : decode cX1_putUnder 105 = .ok (.iload_n 1, 1) := by decide +kernel
theorem dX1_putUnder_106 : decode cX1_putUnder 106 = .ok (.bipush 9, 2) := by decide +kernel
theorem dX1_putUnder_108 : decode cX1_putUnder 108 = .ok (.imul, 1) := by decide +kernel
theorem dX1_putUnder_109 : decode cX1_putUnder 109 = .ok (.iconst 4, 1) := by decide +kernel
theorem dX1_putUnder_110 : decode cX1_putUnder 110 = .ok (.iadd, 1) := by decide +kernel
theorem dX1_putUnder_111 : decode cX1_putUnder 111 = .ok (.dup2, 1) := by decide +kernel
theorem dX1_putUnder_112 : decode cX1_putUnder 112 = .ok (.iaload, 1) := by decide +kernel
theorem dX1_putUnder_113 : decode cX1_putUnder 113 = .ok (.iconst 1, 1) := by decide +kernel
theorem dX1_putUnder_114 : decode cX1_putUnder 114 = .ok (.iadd, 1) := by decide +kernel
theorem dX1_putUnder_115 : decode cX1_putUnder 115 = .ok (.iastore, 1) := by decide +kernel
theorem dX1_putUnder_116 : decode cX1_putUnder 116 = .ok (.aload_n 0, 1) := by decide +kernel
theorem dX1_putUnder_117 : decode cX1_putUnder 117 = .ok (.dup, 1) := by decide +kernel
theorem dX1_putUnder_118 : decode cX1_putUnder 118 = .ok (.getfield 31, 3) := by decide +kernel
theorem dX1_putUnder_121 : decode cX1_putUnder 121 = .ok (.iconst 1, 1) := by decide +kernel
theorem dX1_putUnder_122 : decode cX1_putUnder 122 = .ok (.iadd, 1) := by decide +kernel
theorem dX1_putUnder_123 : decode cX1_putUnder 123 = .ok (.putfield 31, 3) := by decide +kernel
theorem dX1_putUnder_126 : decode cX1_putUnder 126 = .ok (.return_, 1) := by decide +kernel
theorem dX1_source_0 : decode cX1_source 0 = .ok (.iload_n 2, 1) := by decide +kernel
theorem dX1_source_1 : decode cX1_source 1 = .ok (.ifCond .ge 7, 3) := by decide +kernel
theorem dX1_source_4 : decode cX1_source 4 = .ok (.iconst (-1), 1) := by decide +kernel
theorem dX1_source_5 : decode cX1_source 5 = .ok (.goto 4, 3) := by decide +kernel
theorem dX1_source_8 : decode cX1_source 8 = .ok (.iload_n 1, 1) := by decide +kernel
theorem dX1_source_9 : decode cX1_source 9 = .ok (.istore_n 3, 1) := by decide +kernel
theorem dX1_source_10 : decode cX1_source 10 = .ok (.iconst 0, 1) := by decide +kernel
theorem dX1_source_11 : decode cX1_source 11 = .ok (.istore 4, 2) := by decide +kernel
theorem dX1_source_13 : decode cX1_source 13 = .ok (.iload 4, 2) := by decide +kernel
theorem dX1_source_15 : decode cX1_source 15 = .ok (.iload_n 2, 1) := by decide +kernel
theorem dX1_source_16 : decode cX1_source 16 = .ok (.if_icmp .ge 21, 3) := by decide +kernel
theorem dX1_source_19 : decode cX1_source 19 = .ok (.iload_n 3, 1) := by decide +kernel
theorem dX1_source_20 : decode cX1_source 20 = .ok (.ifCond .lt 17, 3) := by decide +kernel
theorem dX1_source_23 : decode cX1_source 23 = .ok (.aload_n 0, 1) := by decide +kernel
theorem dX1_source_24 : decode cX1_source 24 = .ok (.iload_n 3, 1) := by decide +kernel
theorem dX1_source_25 : decode cX1_source 25 = .ok (.bipush 7, 2) := by decide +kernel
theorem dX1_source_27 : decode cX1_source 27 = .ok (.invokevirtual 47, 3) := by decide +kernel
theorem dX1_source_30 : decode cX1_source 30 = .ok (.istore_n 3, 1) := by decide +kernel
theorem dX1_source_31 : decode cX1_source 31 = .ok (.iinc 4 1, 3) := by decide +kernel
theorem dX1_source_34 : decode cX1_source 34 = .ok (.goto (-21), 3) := by decide +kernel
theorem dX1_source_37 : decode cX1_source 37 = .ok (.iload_n 3, 1) := by decide +kernel
theorem dX1_source_38 : decode cX1_source 38 = .ok (.ireturn, 1) := by decide +kernel
theorem dX1_lower_0 : decode cX1_lower 0 = .ok (.iload_n 2, 1) := by decide +kernel
theorem dX1_lower_1 : decode cX1_lower 1 = .ok (.ifCond .ge 7, 3) := by decide +kernel
theorem dX1_lower_4 : decode cX1_lower 4 = .ok (.iconst (-1), 1) := by decide +kernel
theorem dX1_lower_5 : decode cX1_lower 5 = .ok (.goto 10, 3) := by decide +kernel
theorem dX1_lower_8 : decode cX1_lower 8 = .ok (.aload_n 0, 1) := by decide +kernel
theorem dX1_lower_9 : decode cX1_lower 9 = .ok (.iload_n 1, 1) := by decide +kernel
theorem dX1_lower_10 : decode cX1_lower 10 = .ok (.bipush 8, 2) := by decide +kernel
theorem dX1_lower_12 : decode cX1_lower 12 = .ok (.invokevirtual 47, 3) := by decide +kernel
theorem dX1_lower_15 : decode cX1_lower 15 = .ok (.istore_n 3, 1) := by decide +kernel
theorem dX1_lower_16 : decode cX1_lower 16 = .ok (.iconst 0, 1) := by decide +kernel
theorem dX1_lower_17 : decode cX1_lower 17 = .ok (.istore 4, 2) := by decide +kernel
theorem dX1_lower_19 : decode cX1_lower 19 = .ok (.iload 4, 2) := by decide +kernel
theorem dX1_lower_21 : decode cX1_lower 21 = .ok (.iload_n 2, 1) := by decide +kernel
theorem dX1_lower_22 : decode cX1_lower 22 = .ok (.if_icmp .ge 32, 3) := by decide +kernel
theorem dX1_lower_25 : decode cX1_lower 25 = .ok (.iload_n 3, 1) := by decide +kernel
theorem dX1_lower_26 : decode cX1_lower 26 = .ok (.ifCond .lt 28, 3) := by decide +kernel
theorem dX1_lower_29 : decode cX1_lower 29 = .ok (.iload_n 3, 1) := by decide +kernel
theorem dX1_lower_30 : decode cX1_lower 30 = .ok (.aload_n 0, 1) := by decide +kernel
theorem dX1_lower_31 : decode cX1_lower 31 = .ok (.getfield 31, 3) := by decide +kernel
theorem dX1_lower_34 : decode cX1_lower 34 = .ok (.if_icmp .ge 20, 3) := by decide +kernel
theorem dX1_lower_37 : decode cX1_lower 37 = .ok (.aload_n 0, 1) := by decide +kernel
theorem dX1_lower_38 : decode cX1_lower 38 = .ok (.getfield 28, 3) := by decide +kernel
theorem dX1_lower_41 : decode cX1_lower 41 = .ok (.iconst 2, 1) := by decide +kernel
theorem dX1_lower_42 : decode cX1_lower 42 = .ok (.iload_n 3, 1) := by decide +kernel
theorem dX1_lower_43 : decode cX1_lower 43 = .ok (.imul, 1) := by decide +kernel
theorem dX1_lower_44 : decode cX1_lower 44 = .ok (.iconst 1, 1) := by decide +kernel
theorem dX1_lower_45 : decode cX1_lower 45 = .ok (.iadd, 1) := by decide +kernel
theorem dX1_lower_46 : decode cX1_lower 46 = .ok (.iaload, 1) := by decide +kernel
theorem dX1_lower_47 : decode cX1_lower 47 = .ok (.istore_n 3, 1) := by decide +kernel
theorem dX1_lower_48 : decode cX1_lower 48 = .ok (.iinc 4 1, 3) := by decide +kernel
theorem dX1_lower_51 : decode cX1_lower 51 = .ok (.goto (-32), 3) := by decide +kernel
theorem dX1_lower_54 : decode cX1_lower 54 = .ok (.iload_n 3, 1) := by decide +kernel
theorem dX1_lower_55 : decode cX1_lower 55 = .ok (.ifCond .lt 22, 3) := by decide +kernel
theorem dX1_lower_58 : decode cX1_lower 58 = .ok (.iload_n 3, 1) := by decide +kernel
theorem dX1_lower_59 : decode cX1_lower 59 = .ok (.aload_n 0, 1) := by decide +kernel
theorem dX1_lower_60 : decode cX1_lower 60 = .ok (.getfield 31, 3) := by decide +kernel
theorem dX1_lower_63 : decode cX1_lower 63 = .ok (.if_icmp .ge 14, 3) := by decide +kernel
theorem dX1_lower_66 : decode cX1_lower 66 = .ok (.aload_n 0, 1) := by decide +kernel
theorem dX1_lower_67 : decode cX1_lower 67 = .ok (.getfield 28, 3) := by decide +kernel
theorem dX1_lower_70 : decode cX1_lower 70 = .ok (.iconst 2, 1) := by decide +kernel
theorem dX1_lower_71 : decode cX1_lower 71 = .ok (.iload_n 3, 1) := by decide +kernel
theorem dX1_lower_72 : decode cX1_lower 72 = .ok (.imul, 1) := by decide +kernel
theorem dX1_lower_73 : decode cX1_lower 73 = .ok (.iaload, 1) := by decide +kernel
theorem dX1_lower_74 : decode cX1_lower 74 = .ok (.goto 4, 3) := by decide +kernel
theorem dX1_lower_77 : decode cX1_lower 77 = .ok (.iconst (-1), 1) := by decide +kernel
theorem dX1_lower_78 : decode cX1_lower 78 = .ok (.ireturn, 1) := by decide +kernel
theorem dX6_least_0 : decode cX6_least 0 = .ok (.iload_n 0, 1) := by decide +kernel
theorem dX6_least_1 : decode cX6_least 1 = .ok (.iconst 1, 1) := by decide +kernel
theorem dX6_least_2 : decode cX6_least 2 = .ok (.if_icmp .ne 7, 3) := by decide +kernel
theorem dX6_least_5 : decode cX6_least 5 = .ok (.ldc2_w 9, 3) := by decide +kernel
theorem dX6_least_8 : decode cX6_least 8 = .ok (.lreturn, 1) := by decide +kernel
theorem dX6_least_9 : decode cX6_least 9 = .ok (.iload_n 0, 1) := by decide +kernel
theorem dX6_least_10 : decode cX6_least 10 = .ok (.iconst 2, 1) := by decide +kernel
theorem dX6_least_11 : decode cX6_least 11 = .ok (.if_icmp .ne 9, 3) := by decide +kernel
theorem dX6_least_14 : decode cX6_least 14 = .ok (.ldc2_w 13, 3) := by decide +kernel
theorem dX6_least_17 : decode cX6_least 17 = .ok (.goto 6, 3) := by decide +kernel
theorem dX6_least_20 : decode cX6_least 20 = .ok (.ldc2_w 15, 3) := by decide +kernel
theorem dX6_least_23 : decode cX6_least 23 = .ok (.lreturn, 1) := by decide +kernel
theorem dX6_most_0 : decode cX6_most 0 = .ok (.iload_n 0, 1) := by decide +kernel
theorem dX6_most_1 : decode cX6_most 1 = .ok (.iconst 1, 1) := by decide +kernel
theorem dX6_most_2 : decode cX6_most 2 = .ok (.if_icmp .ne 7, 3) := by decide +kernel
theorem dX6_most_5 : decode cX6_most 5 = .ok (.ldc2_w 17, 3) := by decide +kernel
theorem dX6_most_8 : decode cX6_most 8 = .ok (.lreturn, 1) := by decide +kernel
theorem dX6_most_9 : decode cX6_most 9 = .ok (.iload_n 0, 1) := by decide +kernel
theorem dX6_most_10 : decode cX6_most 10 = .ok (.iconst 2, 1) := by decide +kernel
theorem dX6_most_11 : decode cX6_most 11 = .ok (.if_icmp .ne 9, 3) := by decide +kernel
theorem dX6_most_14 : decode cX6_most 14 = .ok (.ldc2_w 19, 3) := by decide +kernel
theorem dX6_most_17 : decode cX6_most 17 = .ok (.goto 6, 3) := by decide +kernel
theorem dX6_most_20 : decode cX6_most 20 = .ok (.ldc2_w 21, 3) := by decide +kernel
theorem dX6_most_23 : decode cX6_most 23 = .ok (.lreturn, 1) := by decide +kernel
theorem dX6_twoTo63_0 : decode cX6_twoTo63 0 = .ok (.ldc2_w 23, 3) := by decide +kernel
theorem dX6_twoTo63_3 : decode cX6_twoTo63 3 = .ok (.dreturn, 1) := by decide +kernel
theorem dX6_greatest_0 : decode cX6_greatest 0 = .ok (.ldc2_w 25, 3) := by decide +kernel
theorem dX6_greatest_3 : decode cX6_greatest 3 = .ok (.dreturn, 1) := by decide +kernel
theorem dX6_has_0 : decode cX6_has 0 = .ok (.iload_n 0, 1) := by decide +kernel
theorem dX6_has_1 : decode cX6_has 1 = .ok (.iconst 3, 1) := by decide +kernel
theorem dX6_has_2 : decode cX6_has 2 = .ok (.if_icmp .ne 27, 3) := by decide +kernel
theorem dX6_has_5 : decode cX6_has 5 = .ok (.lload_n 1, 1) := by decide +kernel
theorem dX6_has_6 : decode cX6_has 6 = .ok (.l2d, 1) := by decide +kernel
theorem dX6_has_7 : decode cX6_has 7 = .ok (.dstore_n 3, 1) := by decide +kernel
theorem dX6_has_8 : decode cX6_has 8 = .ok (.dload_n 3, 1) := by decide +kernel
theorem dX6_has_9 : decode cX6_has 9 = .ok (.invokestatic 27, 3) := by decide +kernel
theorem dX6_has_12 : decode cX6_has 12 = .ok (.dcmp .g, 1) := by decide +kernel
theorem dX6_has_13 : decode cX6_has 13 = .ok (.ifCond .ge 14, 3) := by decide +kernel
theorem dX6_has_16 : decode cX6_has 16 = .ok (.dload_n 3, 1) := by decide +kernel
theorem dX6_has_17 : decode cX6_has 17 = .ok (.d2l, 1) := by decide +kernel
theorem dX6_has_18 : decode cX6_has 18 = .ok (.lload_n 1, 1) := by decide +kernel
theorem dX6_has_19 : decode cX6_has 19 = .ok (.lcmp, 1) := by decide +kernel
theorem dX6_has_20 : decode cX6_has 20 = .ok (.ifCond .ne 7, 3) := by decide +kernel
theorem dX6_has_23 : decode cX6_has 23 = .ok (.iconst 1, 1) := by decide +kernel
theorem dX6_has_24 : decode cX6_has 24 = .ok (.goto 4, 3) := by decide +kernel
theorem dX6_has_27 : decode cX6_has 27 = .ok (.iconst 0, 1) := by decide +kernel
theorem dX6_has_28 : decode cX6_has 28 = .ok (.ireturn, 1) := by decide +kernel
theorem dX6_has_29 : decode cX6_has 29 = .ok (.lload_n 1, 1) := by decide +kernel
theorem dX6_has_30 : decode cX6_has 30 = .ok (.iload_n 0, 1) := by decide +kernel
theorem dX6_has_31 : decode cX6_has 31 = .ok (.invokestatic 31, 3) := by decide +kernel
theorem dX6_has_34 : decode cX6_has 34 = .ok (.lcmp, 1) := by decide +kernel
theorem dX6_has_35 : decode cX6_has 35 = .ok (.ifCond .lt 16, 3) := by decide +kernel
theorem dX6_has_38 : decode cX6_has 38 = .ok (.lload_n 1, 1) := by decide +kernel
theorem dX6_has_39 : decode cX6_has 39 = .ok (.iload_n 0, 1) := by decide +kernel
theorem dX6_has_40 : decode cX6_has 40 = .ok (.invokestatic 35, 3) := by decide +kernel
theorem dX6_has_43 : decode cX6_has 43 = .ok (.lcmp, 1) := by decide +kernel
theorem dX6_has_44 : decode cX6_has 44 = .ok (.ifCond .gt 7, 3) := by decide +kernel
theorem dX6_has_47 : decode cX6_has 47 = .ok (.iconst 1, 1) := by decide +kernel
theorem dX6_has_48 : decode cX6_has 48 = .ok (.goto 4, 3) := by decide +kernel
theorem dX6_has_51 : decode cX6_has 51 = .ok (.iconst 0, 1) := by decide +kernel
theorem dX6_has_52 : decode cX6_has 52 = .ok (.ireturn, 1) := by decide +kernel
theorem dX6_isWhole_0 : decode cX6_isWhole 0 = .ok (.dload_n 0, 1) := by decide +kernel
theorem dX6_isWhole_1 : decode cX6_isWhole 1 = .ok (.invokestatic 27, 3) := by decide +kernel
theorem dX6_isWhole_4 : decode cX6_isWhole 4 = .ok (.dneg, 1) := by decide +kernel
theorem dX6_isWhole_5 : decode cX6_isWhole 5 = .ok (.dcmp .l, 1) := by decide +kernel
theorem dX6_isWhole_6 : decode cX6_isWhole 6 = .ok (.ifCond .lt 23, 3) := by decide +kernel
theorem dX6_isWhole_9 : decode cX6_isWhole 9 = .ok (.dload_n 0, 1) := by decide +kernel
theorem dX6_isWhole_10 : decode cX6_isWhole 10 = .ok (.invokestatic 27, 3) := by decide +kernel
theorem dX6_isWhole_13 : decode cX6_isWhole 13 = .ok (.dcmp .g, 1) := by decide +kernel
theorem dX6_isWhole_14 : decode cX6_isWhole 14 = .ok (.ifCond .ge 15, 3) := by decide +kernel
theorem dX6_isWhole_17 : decode cX6_isWhole 17 = .ok (.dload_n 0, 1) := by decide +kernel
theorem dX6_isWhole_18 : decode cX6_isWhole 18 = .ok (.d2l, 1) := by decide +kernel
theorem dX6_isWhole_19 : decode cX6_isWhole 19 = .ok (.l2d, 1) := by decide +kernel
theorem dX6_isWhole_20 : decode cX6_isWhole 20 = .ok (.dload_n 0, 1) := by decide +kernel
theorem dX6_isWhole_21 : decode cX6_isWhole 21 = .ok (.dcmp .l, 1) := by decide +kernel
theorem dX6_isWhole_22 : decode cX6_isWhole 22 = .ok (.ifCond .ne 7, 3) := by decide +kernel
theorem dX6_isWhole_25 : decode cX6_isWhole 25 = .ok (.iconst 1, 1) := by decide +kernel
theorem dX6_isWhole_26 : decode cX6_isWhole 26 = .ok (.goto 4, 3) := by decide +kernel
theorem dX6_isWhole_29 : decode cX6_isWhole 29 = .ok (.iconst 0, 1) := by decide +kernel
theorem dX6_isWhole_30 : decode cX6_isWhole 30 = .ok (.ireturn, 1) := by decide +kernel
theorem dX6_isFinite_0 : decode cX6_isFinite 0 = .ok (.dload_n 0, 1) := by decide +kernel
theorem dX6_isFinite_1 : decode cX6_isFinite 1 = .ok (.invokestatic 38, 3) := by decide +kernel
theorem dX6_isFinite_4 : decode cX6_isFinite 4 = .ok (.dneg, 1) := by decide +kernel
theorem dX6_isFinite_5 : decode cX6_isFinite 5 = .ok (.dcmp .l, 1) := by decide +kernel
theorem dX6_isFinite_6 : decode cX6_isFinite 6 = .ok (.ifCond .lt 15, 3) := by decide +kernel
theorem dX6_isFinite_9 : decode cX6_isFinite 9 = .ok (.dload_n 0, 1) := by decide +kernel
theorem dX6_isFinite_10 : decode cX6_isFinite 10 = .ok (.invokestatic 38, 3) := by decide +kernel
theorem dX6_isFinite_13 : decode cX6_isFinite 13 = .ok (.dcmp .g, 1) := by decide +kernel
theorem dX6_isFinite_14 : decode cX6_isFinite 14 = .ok (.ifCond .gt 7, 3) := by decide +kernel
theorem dX6_isFinite_17 : decode cX6_isFinite 17 = .ok (.iconst 1, 1) := by decide +kernel
theorem dX6_isFinite_18 : decode cX6_isFinite 18 = .ok (.goto 4, 3) := by decide +kernel
theorem dX6_isFinite_21 : decode cX6_isFinite 21 = .ok (.iconst 0, 1) := by decide +kernel
theorem dX6_isFinite_22 : decode cX6_isFinite 22 = .ok (.ireturn, 1) := by decide +kernel
set_option maxHeartbeats 4000000 in
set_option maxRecDepth 100000 in
theorem c_X1_clear (ω : Om) (l : Launch) (μ : M3) (n : Int) (y : Int) (hI : IC μ) (hn : n = μ.1 45 1) (hy : y = μ.1 45 4) : CtV ω l yX1_clear cX1_clear 1 3 125 [.ref (oP ω 45)] μ (fun (μ' : M3) => (Fr [45, 47, 48, 49, 50] μ μ') ∧ (IC μ') ∧ (μ'.1 45 1 = 0) ∧ (μ'.1 45 4 = 0)) := by
  refine CtV.go (by decide) (Nat.le_of_ble_eq_true rfl) (fun ρ p e s m below meth c R ls G hR hret hlk hl => ?_)
  have hx := G.1.1
  have hb := G.1.2.1
  have hl : lv_has ls 1 [(0, .ref (oP ω 45))] := hl
  generalize s.drawn = d0 at G ⊢
  have hn_1 : 0 ≤ μ.1 45 1 ∧ 9 * μ.1 45 1 ≤ μ.2.1 46 := hI.nm.2.2.2.2.2.2.1
  have hn_2 : 0 ≤ μ.1 45 4 ∧ 2 * μ.1 45 4 ≤ μ.2.1 51 := hI.nm.2.2.2.2.2.2.2.1
  have hk_3 := hI.row (r := 47) (by unfold isRow; decide)
  unfold rk at hk_3
  simp only [Int.reduceAdd] at hk_3
  have hbr_47 : BR 47 = 5010 := rfl
  have hc_1 : 16 ≤ μ.2.1 46 ∧ μ.2.1 46 ≤ 90400 := hI.rm.1 (46, 90400) (by decide +kernel)
  have hc_2 : 16 ≤ μ.2.1 51 ∧ μ.2.1 51 ≤ 40200 := hI.rm.1 (51, 40200) (by decide +kernel)
  refine lv_aload_n hx hb dX1_clear_0 rfl (lv_at hl 0 rfl) ?_
  refine lv_iconst (v := iv 0) hx hb dX1_clear_1 rfl ?_
  refine xa_puti G fd_X1 (a := 45) (x := 0) 1 (kz := 1) rfl rfl (by decide) rfl (by unfold ir; omega) (wm 2 68 rfl rfl) ⟨rfl, rfl, rfl, rfl⟩ rfl dX1_clear_2 rfl (fun H locs G => ?_)
  refine lv_aload_n hx hb dX1_clear_5 rfl (lv_at hl 0 rfl) ?_
  refine lv_iconst (v := iv 0) hx hb dX1_clear_6 rfl ?_
  refine xa_puti G fd_X1 (a := 45) (x := 0) 4 (kz := 4) rfl rfl (by decide) rfl (by unfold ir; omega) (wm 2 71 rfl rfl) ⟨rfl, rfl, rfl, rfl⟩ rfl dX1_clear_7 rfl (fun H locs G => ?_)
  refine lv_aload_n hx hb dX1_clear_10 rfl (lv_at hl 0 rfl) ?_
  refine xa_getr G fd_X1 (a := 45) (x := 47) 2 rfl (by decide) rfl (wm 2 69 rfl rfl) ⟨rfl, rfl, rfl⟩ dX1_clear_11 rfl (G.sk 53 rfl) (by decide) rfl ?_
  refine lv_iconst (v := iv 0) hx hb dX1_clear_14 rfl ?_
  have hI_4 : IC (sv (sv μ 45 1 0) 45 4 0) := (IC.n_45_4 (IC.n_45_1 hI (by have h9 : μ.2.1 46 = μ.2.1 46 := rfl; omega)) (by have h9 : (sv μ 45 1 0).2.1 51 = μ.2.1 51 := rfl; omega))
  refine xc_vV G (b := 47) (rest := []) (As := [.int (iv 0)]) (c_X9_resize ω l (sv (sv μ 45 1 0) 45 4 0) 47 0 (by unfold isRow; decide) (by unfold ir; omega) hI_4 (by omega)) (wm 5 60 rfl rfl) (wm 3 15 rfl rfl) (wm 3 16 rfl rfl) rfl rfl (by decide) rfl (wm 1 10 rfl rfl) (wm 3 17 rfl rfl) (by decide) hR (by decide) (n := 1) rfl rfl (Nat.le_of_ble_eq_true rfl) hl.1 dX1_clear_15 (fun μ5 ρ d0 H locs hp G => ?_)
  obtain ⟨F_6, hI_7, hs_8⟩ := hp
  have e_9 : μ5.1 45 1 = 0 := ((F_6.1 45 (by decide) 1).trans ((sv_n _ (by decide)).trans (sv_s _ _ _ _)))
  have e_10 : μ5.1 45 4 = 0 := ((F_6.1 45 (by decide) 4).trans (sv_s _ _ _ _))
  exact xr_v G hret hlk dX1_clear_18 ⟨(Fr.tr (Fr.put (Fr.put Fr.rf (by decide)) (by decide)) F_6 (by decide)), hI_7, (by omega), (by omega)⟩

set_option maxHeartbeats 4000000 in
set_option maxRecDepth 100000 in
theorem c_X1_add (ω : Om) (l : Launch) (μ : M3) (x1 : Int) (x2 : Int) (x3 : Int) (x4 : Int) (x5 : Int) (x6 : Int) (n : Int) (y : Int) (hx1 : ir x1) (hx2 : ir x2) (hx3 : ir x3) (hx4 : ir x4) (hx5 : ir x5) (hx6 : ir x6) (hI : IC μ) (hn : n = μ.1 45 1) (hy : y = μ.1 45 4) (hb9 : n < 5010) : CtI ω l yX1_add cX1_add 8 .int 3 125 [.ref (oP ω 45), .int (iv x1), .int (iv x2), .int (iv x3), .int (iv x4), .int (iv x5), .int (iv x6)] μ (fun (r : Int) (μ' : M3) => (Fr [45, 46, 47, 48, 49, 50] μ μ') ∧ (IC μ') ∧ (r = n) ∧ (μ'.1 45 1 = n + 1) ∧ (μ'.1 45 4 = y) ∧ (μ'.1 45 4 = μ.1 45 4)) := by
  refine CtI.go (by decide) (Nat.le_of_ble_eq_true rfl) (fun ρ p e s m below meth c R ls G hR hret hlk hl => ?_)
  have hx := G.1.1
  have hb := G.1.2.1
  have hl : lv_has ls 8 [(0, .ref (oP ω 45)), (1, .int (iv x1)), (2, .int (iv x2)), (3, .int (iv x3)), (4, .int (iv x4)), (5, .int (iv x5)), (6, .int (iv x6))] := hl
  generalize s.drawn = d0 at G ⊢
  have hr_x1 : -2147483648 ≤ x1 ∧ x1 ≤ 2147483647 := hx1
  have hr_x2 : -2147483648 ≤ x2 ∧ x2 ≤ 2147483647 := hx2
  have hr_x3 : -2147483648 ≤ x3 ∧ x3 ≤ 2147483647 := hx3
  have hr_x4 : -2147483648 ≤ x4 ∧ x4 ≤ 2147483647 := hx4
  have hr_x5 : -2147483648 ≤ x5 ∧ x5 ≤ 2147483647 := hx5
  have hr_x6 : -2147483648 ≤ x6 ∧ x6 ≤ 2147483647 := hx6
  have hn_1 : 0 ≤ μ.1 45 1 ∧ 9 * μ.1 45 1 ≤ μ.2.1 46 := hI.nm.2.2.2.2.2.2.1
  have hn_2 : 0 ≤ μ.1 45 4 ∧ 2 * μ.1 45 4 ≤ μ.2.1 51 := hI.nm.2.2.2.2.2.2.2.1
  have hk_3 := hI.row (r := 47) (by unfold isRow; decide)
  unfold rk at hk_3
  simp only [Int.reduceAdd] at hk_3
  have hbr_47 : BR 47 = 5010 := rfl
  have hc_1 : 16 ≤ μ.2.1 46 ∧ μ.2.1 46 ≤ 90400 := hI.rm.1 (46, 90400) (by decide +kernel)
  have hc_2 : 16 ≤ μ.2.1 51 ∧ μ.2.1 51 ≤ 40200 := hI.rm.1 (51, 40200) (by decide +kernel)
  refine lv_aload_n hx hb dX1_add_0 rfl (lv_at hl 0 rfl) ?_
  refine xa_geti G fd_X1 (a := 45) (x := n) 1 rfl (by decide) rfl (wm 2 68 rfl rfl) ⟨rfl, rfl, rfl⟩ dX1_add_1 rfl hn.symm ?_
  have hr_4 : -2147483648 ≤ n ∧ n ≤ 2147483647 := by have h9 := G.hr (a := 45) (k := 1) rfl; rw [show μ.1 45 1 = n from hn.symm] at h9; exact h9
  refine lv_bipush (v := iv 9) hx hb dX1_add_4 rfl ?_
  refine xb_imul hx hb dX1_add_6 ?_
  refine lv_istore (lv' := [(7, .int (iv (n * 9))), (0, .ref (oP ω 45)), (1, .int (iv x1)), (2, .int (iv x2)), (3, .int (iv x3)), (4, .int (iv x4)), (5, .int (iv x5)), (6, .int (iv x6))]) hx hb dX1_add_7 hl (by decide) rfl (fun ls hl => ?_)
  refine lv_iload hx hb dX1_add_9 (lv_at hl 0 rfl) ?_
  refine lv_bipush (v := iv 9) hx hb dX1_add_11 rfl ?_
  refine xb_iadd hx hb dX1_add_13 ?_
  refine lv_aload_n hx hb dX1_add_14 rfl (lv_at hl 1 rfl) ?_
  refine xa_getr G fd_X1 (a := 45) (x := 46) 0 rfl (by decide) rfl (wm 2 67 rfl rfl) ⟨rfl, rfl, rfl⟩ dX1_add_15 rfl (G.sk 52 rfl) (by decide) rfl ?_
  refine xa_alen G (a := 46) (t := 0) rfl (by decide) dX1_add_18 rfl ?_
  have hr_5 : -2147483648 ≤ μ.2.1 46 ∧ μ.2.1 46 ≤ 2147483647 := by have h9 := G.ln 46; omega
  refine xb_icmp_le (tgt := 40) hx hb (by unfold ir; omega) (by unfold ir; omega) dX1_add_19 (by decide) (fun c_19 => ?_) (fun c_19 => ?_)
  · refine lv_aload_n hx hb dX1_add_40 rfl (lv_at hl 1 rfl) ?_
    refine xa_getr G fd_X1 (a := 45) (x := 46) 0 rfl (by decide) rfl (wm 2 67 rfl rfl) ⟨rfl, rfl, rfl⟩ dX1_add_41 rfl (G.sk 52 rfl) (by decide) rfl ?_
    refine lv_iload hx hb dX1_add_44 (lv_at hl 0 rfl) ?_
    refine lv_iconst (v := iv 0) hx hb dX1_add_46 rfl ?_
    refine xb_iadd hx hb dX1_add_47 ?_
    refine lv_iload_n hx hb dX1_add_48 rfl (lv_at hl 2 rfl) ?_
    refine xa_iast G (a := 46) (i := (n * 9) + 0) (x := x1) rfl (by omega) (by unfold ir; omega) dX1_add_49 rfl (fun H locs G => ?_)
    refine lv_aload_n hx hb dX1_add_50 rfl (lv_at hl 1 rfl) ?_
    refine xa_getr G fd_X1 (a := 45) (x := 46) 0 rfl (by decide) rfl (wm 2 67 rfl rfl) ⟨rfl, rfl, rfl⟩ dX1_add_51 rfl (G.sk 52 rfl) (by decide) rfl ?_
    refine lv_iload hx hb dX1_add_54 (lv_at hl 0 rfl) ?_
    refine lv_iconst (v := iv 1) hx hb dX1_add_56 rfl ?_
    refine xb_iadd hx hb dX1_add_57 ?_
    refine lv_iload_n hx hb dX1_add_58 rfl (lv_at hl 3 rfl) ?_
    refine xa_iast G (a := 46) (i := (n * 9) + 1) (x := x2) rfl (by have h9 : (sv μ 46 ((n * 9) + 0) x1).2.1 46 = μ.2.1 46 := rfl; omega) (by unfold ir; omega) dX1_add_59 rfl (fun H locs G => ?_)
    refine lv_aload_n hx hb dX1_add_60 rfl (lv_at hl 1 rfl) ?_
    refine xa_getr G fd_X1 (a := 45) (x := 46) 0 rfl (by decide) rfl (wm 2 67 rfl rfl) ⟨rfl, rfl, rfl⟩ dX1_add_61 rfl (G.sk 52 rfl) (by decide) rfl ?_
    refine lv_iload hx hb dX1_add_64 (lv_at hl 0 rfl) ?_
    refine lv_iconst (v := iv 2) hx hb dX1_add_66 rfl ?_
    refine xb_iadd hx hb dX1_add_67 ?_
    refine lv_iload_n hx hb dX1_add_68 rfl (lv_at hl 4 rfl) ?_
    refine xa_iast G (a := 46) (i := (n * 9) + 2) (x := x3) rfl (by have h9 : (sv (sv μ 46 ((n * 9) + 0) x1) 46 ((n * 9) + 1) x2).2.1 46 = μ.2.1 46 := rfl; omega) (by unfold ir; omega) dX1_add_69 rfl (fun H locs G => ?_)
    refine lv_aload_n hx hb dX1_add_70 rfl (lv_at hl 1 rfl) ?_
    refine xa_getr G fd_X1 (a := 45) (x := 46) 0 rfl (by decide) rfl (wm 2 67 rfl rfl) ⟨rfl, rfl, rfl⟩ dX1_add_71 rfl (G.sk 52 rfl) (by decide) rfl ?_
    refine lv_iload hx hb dX1_add_74 (lv_at hl 0 rfl) ?_
    refine lv_iconst (v := iv 3) hx hb dX1_add_76 rfl ?_
    refine xb_iadd hx hb dX1_add_77 ?_
    refine lv_iload hx hb dX1_add_78 (lv_at hl 5 rfl) ?_
    refine xa_iast G (a := 46) (i := (n * 9) + 3) (x := x4) rfl (by have h9 : (sv (sv (sv μ 46 ((n * 9) + 0) x1) 46 ((n * 9) + 1) x2) 46 ((n * 9) + 2) x3).2.1 46 = μ.2.1 46 := rfl; omega) (by unfold ir; omega) dX1_add_80 rfl (fun H locs G => ?_)
    refine lv_aload_n hx hb dX1_add_81 rfl (lv_at hl 1 rfl) ?_
    refine xa_getr G fd_X1 (a := 45) (x := 46) 0 rfl (by decide) rfl (wm 2 67 rfl rfl) ⟨rfl, rfl, rfl⟩ dX1_add_82 rfl (G.sk 52 rfl) (by decide) rfl ?_
    refine lv_iload hx hb dX1_add_85 (lv_at hl 0 rfl) ?_
    refine lv_iconst (v := iv 4) hx hb dX1_add_87 rfl ?_
    refine xb_iadd hx hb dX1_add_88 ?_
    refine lv_iconst (v := iv 0) hx hb dX1_add_89 rfl ?_
    refine xa_iast G (a := 46) (i := (n * 9) + 4) (x := 0) rfl (by have h9 : (sv (sv (sv (sv μ 46 ((n * 9) + 0) x1) 46 ((n * 9) + 1) x2) 46 ((n * 9) + 2) x3) 46 ((n * 9) + 3) x4).2.1 46 = μ.2.1 46 := rfl; omega) (by unfold ir; omega) dX1_add_90 rfl (fun H locs G => ?_)
    refine lv_aload_n hx hb dX1_add_91 rfl (lv_at hl 1 rfl) ?_
    refine xa_getr G fd_X1 (a := 45) (x := 46) 0 rfl (by decide) rfl (wm 2 67 rfl rfl) ⟨rfl, rfl, rfl⟩ dX1_add_92 rfl (G.sk 52 rfl) (by decide) rfl ?_
    refine lv_iload hx hb dX1_add_95 (lv_at hl 0 rfl) ?_
    refine lv_iconst (v := iv 5) hx hb dX1_add_97 rfl ?_
    refine xb_iadd hx hb dX1_add_98 ?_
    refine lv_iconst (v := iv 0) hx hb dX1_add_99 rfl ?_
    refine xa_iast G (a := 46) (i := (n * 9) + 5) (x := 0) rfl (by have h9 : (sv (sv (sv (sv (sv μ 46 ((n * 9) + 0) x1) 46 ((n * 9) + 1) x2) 46 ((n * 9) + 2) x3) 46 ((n * 9) + 3) x4) 46 ((n * 9) + 4) 0).2.1 46 = μ.2.1 46 := rfl; omega) (by unfold ir; omega) dX1_add_100 rfl (fun H locs G => ?_)
    refine lv_aload_n hx hb dX1_add_101 rfl (lv_at hl 1 rfl) ?_
    refine xa_getr G fd_X1 (a := 45) (x := 46) 0 rfl (by decide) rfl (wm 2 67 rfl rfl) ⟨rfl, rfl, rfl⟩ dX1_add_102 rfl (G.sk 52 rfl) (by decide) rfl ?_
    refine lv_iload hx hb dX1_add_105 (lv_at hl 0 rfl) ?_
    refine lv_bipush (v := iv 6) hx hb dX1_add_107 rfl ?_
    refine xb_iadd hx hb dX1_add_109 ?_
    refine lv_iload hx hb dX1_add_110 (lv_at hl 6 rfl) ?_
    refine xa_iast G (a := 46) (i := (n * 9) + 6) (x := x5) rfl (by have h9 : (sv (sv (sv (sv (sv (sv μ 46 ((n * 9) + 0) x1) 46 ((n * 9) + 1) x2) 46 ((n * 9) + 2) x3) 46 ((n * 9) + 3) x4) 46 ((n * 9) + 4) 0) 46 ((n * 9) + 5) 0).2.1 46 = μ.2.1 46 := rfl; omega) (by unfold ir; omega) dX1_add_112 rfl (fun H locs G => ?_)
    refine lv_aload_n hx hb dX1_add_113 rfl (lv_at hl 1 rfl) ?_
    refine xa_getr G fd_X1 (a := 45) (x := 46) 0 rfl (by decide) rfl (wm 2 67 rfl rfl) ⟨rfl, rfl, rfl⟩ dX1_add_114 rfl (G.sk 52 rfl) (by decide) rfl ?_
    refine lv_iload hx hb dX1_add_117 (lv_at hl 0 rfl) ?_
    refine lv_bipush (v := iv 7) hx hb dX1_add_119 rfl ?_
    refine xb_iadd hx hb dX1_add_121 ?_
    refine lv_iload hx hb dX1_add_122 (lv_at hl 7 rfl) ?_
    refine xa_iast G (a := 46) (i := (n * 9) + 7) (x := x6) rfl (by have h9 : (sv (sv (sv (sv (sv (sv (sv μ 46 ((n * 9) + 0) x1) 46 ((n * 9) + 1) x2) 46 ((n * 9) + 2) x3) 46 ((n * 9) + 3) x4) 46 ((n * 9) + 4) 0) 46 ((n * 9) + 5) 0) 46 ((n * 9) + 6) x5).2.1 46 = μ.2.1 46 := rfl; omega) (by unfold ir; omega) dX1_add_124 rfl (fun H locs G => ?_)
    refine lv_aload_n hx hb dX1_add_125 rfl (lv_at hl 1 rfl) ?_
    refine xa_getr G fd_X1 (a := 45) (x := 46) 0 rfl (by decide) rfl (wm 2 67 rfl rfl) ⟨rfl, rfl, rfl⟩ dX1_add_126 rfl (G.sk 52 rfl) (by decide) rfl ?_
    refine lv_iload hx hb dX1_add_129 (lv_at hl 0 rfl) ?_
    refine lv_bipush (v := iv 8) hx hb dX1_add_131 rfl ?_
    refine xb_iadd hx hb dX1_add_133 ?_
    refine lv_iconst (v := iv (-1)) hx hb dX1_add_134 rfl ?_
    refine xa_iast G (a := 46) (i := (n * 9) + 8) (x := (-1)) rfl (by have h9 : (sv (sv (sv (sv (sv (sv (sv (sv μ 46 ((n * 9) + 0) x1) 46 ((n * 9) + 1) x2) 46 ((n * 9) + 2) x3) 46 ((n * 9) + 3) x4) 46 ((n * 9) + 4) 0) 46 ((n * 9) + 5) 0) 46 ((n * 9) + 6) x5) 46 ((n * 9) + 7) x6).2.1 46 = μ.2.1 46 := rfl; omega) (by unfold ir; omega) dX1_add_135 rfl (fun H locs G => ?_)
    refine lv_aload_n hx hb dX1_add_136 rfl (lv_at hl 1 rfl) ?_
    refine lv_dup hx hb dX1_add_137 rfl ?_
    refine xa_geti G fd_X1 (a := 45) (x := n) 1 rfl (by decide) rfl (wm 2 68 rfl rfl) ⟨rfl, rfl, rfl⟩ dX1_add_138 rfl ((sv_n _ (fun h9 => absurd h9.1 (by decide))).trans ((sv_n _ (fun h9 => absurd h9.1 (by decide))).trans ((sv_n _ (fun h9 => absurd h9.1 (by decide))).trans ((sv_n _ (fun h9 => absurd h9.1 (by decide))).trans ((sv_n _ (fun h9 => absurd h9.1 (by decide))).trans ((sv_n _ (fun h9 => absurd h9.1 (by decide))).trans ((sv_n _ (fun h9 => absurd h9.1 (by decide))).trans ((sv_n _ (fun h9 => absurd h9.1 (by decide))).trans ((sv_n _ (fun h9 => absurd h9.1 (by decide))).trans hn.symm))))))))) ?_
    refine lv_iconst (v := iv 1) hx hb dX1_add_141 rfl ?_
    refine xb_iadd hx hb dX1_add_142 ?_
    refine xa_puti G fd_X1 (a := 45) (x := n + 1) 1 (kz := 1) rfl rfl (by decide) rfl (by unfold ir; omega) (wm 2 68 rfl rfl) ⟨rfl, rfl, rfl, rfl⟩ rfl dX1_add_143 rfl (fun H locs G => ?_)
    have hF9 : Fr [45, 46, 51] μ (sv (sv (sv (sv (sv (sv (sv (sv (sv (sv μ 46 ((n * 9) + 0) x1) 46 ((n * 9) + 1) x2) 46 ((n * 9) + 2) x3) 46 ((n * 9) + 3) x4) 46 ((n * 9) + 4) 0) 46 ((n * 9) + 5) 0) 46 ((n * 9) + 6) x5) 46 ((n * 9) + 7) x6) 46 ((n * 9) + 8) (-1)) 45 1 (n + 1)) := (Fr.put (Fr.put (Fr.put (Fr.put (Fr.put (Fr.put (Fr.put (Fr.put (Fr.put (Fr.put Fr.rf (by decide)) (by decide)) (by decide)) (by decide)) (by decide)) (by decide)) (by decide)) (by decide)) (by decide)) (by decide))
    have e1_f : (sv (sv (sv (sv (sv (sv (sv (sv (sv (sv μ 46 ((n * 9) + 0) x1) 46 ((n * 9) + 1) x2) 46 ((n * 9) + 2) x3) 46 ((n * 9) + 3) x4) 46 ((n * 9) + 4) 0) 46 ((n * 9) + 5) 0) 46 ((n * 9) + 6) x5) 46 ((n * 9) + 7) x6) 46 ((n * 9) + 8) (-1)) 45 1 (n + 1)).1 45 1 = n + 1 := (sv_s _ _ _ _)
    have e2_f : (sv (sv (sv (sv (sv (sv (sv (sv (sv (sv μ 46 ((n * 9) + 0) x1) 46 ((n * 9) + 1) x2) 46 ((n * 9) + 2) x3) 46 ((n * 9) + 3) x4) 46 ((n * 9) + 4) 0) 46 ((n * 9) + 5) 0) 46 ((n * 9) + 6) x5) 46 ((n * 9) + 7) x6) 46 ((n * 9) + 8) (-1)) 45 1 (n + 1)).1 45 4 = y := ((sv_n _ (by decide)).trans ((sv_n _ (fun h9 => absurd h9.1 (by decide))).trans ((sv_n _ (fun h9 => absurd h9.1 (by decide))).trans ((sv_n _ (fun h9 => absurd h9.1 (by decide))).trans ((sv_n _ (fun h9 => absurd h9.1 (by decide))).trans ((sv_n _ (fun h9 => absurd h9.1 (by decide))).trans ((sv_n _ (fun h9 => absurd h9.1 (by decide))).trans ((sv_n _ (fun h9 => absurd h9.1 (by decide))).trans ((sv_n _ (fun h9 => absurd h9.1 (by decide))).trans ((sv_n _ (fun h9 => absurd h9.1 (by decide))).trans hy.symm))))))))))
    have e3_f : (sv (sv (sv (sv (sv (sv (sv (sv (sv (sv μ 46 ((n * 9) + 0) x1) 46 ((n * 9) + 1) x2) 46 ((n * 9) + 2) x3) 46 ((n * 9) + 3) x4) 46 ((n * 9) + 4) 0) 46 ((n * 9) + 5) 0) 46 ((n * 9) + 6) x5) 46 ((n * 9) + 7) x6) 46 ((n * 9) + 8) (-1)) 45 1 (n + 1)).2.1 46 = μ.2.1 46 := rfl
    have e4_f : (sv (sv (sv (sv (sv (sv (sv (sv (sv (sv μ 46 ((n * 9) + 0) x1) 46 ((n * 9) + 1) x2) 46 ((n * 9) + 2) x3) 46 ((n * 9) + 3) x4) 46 ((n * 9) + 4) 0) 46 ((n * 9) + 5) 0) 46 ((n * 9) + 6) x5) 46 ((n * 9) + 7) x6) 46 ((n * 9) + 8) (-1)) 45 1 (n + 1)).2.1 51 = μ.2.1 51 := rfl
    have hI_6 : IC (sv (sv (sv (sv (sv (sv (sv (sv (sv (sv μ 46 ((n * 9) + 0) x1) 46 ((n * 9) + 1) x2) 46 ((n * 9) + 2) x3) 46 ((n * 9) + 3) x4) 46 ((n * 9) + 4) 0) 46 ((n * 9) + 5) 0) 46 ((n * 9) + 6) x5) 46 ((n * 9) + 7) x6) 46 ((n * 9) + 8) (-1)) 45 1 (n + 1)) := hI.resF hF9 (by omega) (by omega) (RM.same (hI.rm) rfl)
    refine lv_aload_n hx hb dX1_add_146 rfl (lv_at hl 1 rfl) ?_
    refine xa_getr G fd_X1 (a := 45) (x := 47) 2 rfl (by decide) rfl (wm 2 69 rfl rfl) ⟨rfl, rfl, rfl⟩ dX1_add_147 rfl (G.sk 53 rfl) (by decide) rfl ?_
    refine lv_aload_n hx hb dX1_add_150 rfl (lv_at hl 1 rfl) ?_
    refine xa_geti G fd_X1 (a := 45) (x := n + 1) 1 rfl (by decide) rfl (wm 2 68 rfl rfl) ⟨rfl, rfl, rfl⟩ dX1_add_151 rfl (sv_s _ _ _ _) ?_
    have hr_7 : -2147483648 ≤ n + 1 ∧ n + 1 ≤ 2147483647 := by have h9 := G.hr (a := 45) (k := 1) rfl; rw [show (sv (sv (sv (sv (sv (sv (sv (sv (sv (sv μ 46 ((n * 9) + 0) x1) 46 ((n * 9) + 1) x2) 46 ((n * 9) + 2) x3) 46 ((n * 9) + 3) x4) 46 ((n * 9) + 4) 0) 46 ((n * 9) + 5) 0) 46 ((n * 9) + 6) x5) 46 ((n * 9) + 7) x6) 46 ((n * 9) + 8) (-1)) 45 1 (n + 1)).1 45 1 = n + 1 from (sv_s _ _ _ _)] at h9; exact h9
    refine xc_vV G (b := 47) (rest := []) (As := [.int (iv (n + 1))]) (c_X9_resize ω l (sv (sv (sv (sv (sv (sv (sv (sv (sv (sv μ 46 ((n * 9) + 0) x1) 46 ((n * 9) + 1) x2) 46 ((n * 9) + 2) x3) 46 ((n * 9) + 3) x4) 46 ((n * 9) + 4) 0) 46 ((n * 9) + 5) 0) 46 ((n * 9) + 6) x5) 46 ((n * 9) + 7) x6) 46 ((n * 9) + 8) (-1)) 45 1 (n + 1)) 47 (n + 1) (by unfold isRow; decide) (by unfold ir; omega) hI_6 (by omega)) (wm 5 60 rfl rfl) (wm 3 15 rfl rfl) (wm 3 16 rfl rfl) rfl rfl (by decide) rfl (wm 1 10 rfl rfl) (wm 3 17 rfl rfl) (by decide) hR (by decide) (n := 1) rfl rfl (Nat.le_of_ble_eq_true rfl) hl.1 dX1_add_154 (fun μ8 ρ d0 H locs hp G => ?_)
    obtain ⟨F_9, hI_10, hs_11⟩ := hp
    refine lv_aload_n hx hb dX1_add_157 rfl (lv_at hl 1 rfl) ?_
    refine xa_geti G fd_X1 (a := 45) (x := n + 1) 1 rfl (by decide) rfl (wm 2 68 rfl rfl) ⟨rfl, rfl, rfl⟩ dX1_add_158 rfl ((F_9.1 45 (by decide) 1).trans (sv_s _ _ _ _)) ?_
    refine lv_iconst (v := iv 1) hx hb dX1_add_161 rfl ?_
    refine xb_isub hx hb dX1_add_162 ?_
    refine xb_ti (y := n) (by omega) ?_
    have e_12 : μ8.1 45 1 = n + 1 := ((F_9.1 45 (by decide) 1).trans (sv_s _ _ _ _))
    have e_13 : μ8.1 45 4 = y := ((F_9.1 45 (by decide) 4).trans ((sv_n _ (by decide)).trans ((sv_n _ (fun h9 => absurd h9.1 (by decide))).trans ((sv_n _ (fun h9 => absurd h9.1 (by decide))).trans ((sv_n _ (fun h9 => absurd h9.1 (by decide))).trans ((sv_n _ (fun h9 => absurd h9.1 (by decide))).trans ((sv_n _ (fun h9 => absurd h9.1 (by decide))).trans ((sv_n _ (fun h9 => absurd h9.1 (by decide))).trans ((sv_n _ (fun h9 => absurd h9.1 (by decide))).trans ((sv_n _ (fun h9 => absurd h9.1 (by decide))).trans ((sv_n _ (fun h9 => absurd h9.1 (by decide))).trans hy.symm)))))))))))
    have e_14 : μ8.1 45 4 = y := ((F_9.1 45 (by decide) 4).trans ((sv_n _ (by decide)).trans ((sv_n _ (fun h9 => absurd h9.1 (by decide))).trans ((sv_n _ (fun h9 => absurd h9.1 (by decide))).trans ((sv_n _ (fun h9 => absurd h9.1 (by decide))).trans ((sv_n _ (fun h9 => absurd h9.1 (by decide))).trans ((sv_n _ (fun h9 => absurd h9.1 (by decide))).trans ((sv_n _ (fun h9 => absurd h9.1 (by decide))).trans ((sv_n _ (fun h9 => absurd h9.1 (by decide))).trans ((sv_n _ (fun h9 => absurd h9.1 (by decide))).trans ((sv_n _ (fun h9 => absurd h9.1 (by decide))).trans hy.symm)))))))))))
    exact xr_i G (x := n) hret hlk (by unfold ir; omega) rfl dX1_add_163 ⟨(Fr.tr (Fr.put (Fr.put (Fr.put (Fr.put (Fr.put (Fr.put (Fr.put (Fr.put (Fr.put (Fr.put Fr.rf (by decide)) (by decide)) (by decide)) (by decide)) (by decide)) (by decide)) (by decide)) (by decide)) (by decide)) (by decide)) F_9 (by decide)), hI_10, (by omega), (by omega), (by omega), (by omega)⟩
  · refine lv_aload_n hx hb dX1_add_22 rfl (lv_at hl 1 rfl) ?_
    refine lv_aload_n hx hb dX1_add_23 rfl (lv_at hl 1 rfl) ?_
    refine xa_getr G fd_X1 (a := 45) (x := 46) 0 rfl (by decide) rfl (wm 2 67 rfl rfl) ⟨rfl, rfl, rfl⟩ dX1_add_24 rfl (G.sk 52 rfl) (by decide) rfl ?_
    refine lv_iconst (v := iv 2) hx hb dX1_add_27 rfl ?_
    refine lv_aload_n hx hb dX1_add_28 rfl (lv_at hl 1 rfl) ?_
    refine xa_getr G fd_X1 (a := 45) (x := 46) 0 rfl (by decide) rfl (wm 2 67 rfl rfl) ⟨rfl, rfl, rfl⟩ dX1_add_29 rfl (G.sk 52 rfl) (by decide) rfl ?_
    refine xa_alen G (a := 46) (t := 0) rfl (by decide) dX1_add_32 rfl ?_
    refine xb_imul hx hb dX1_add_33 ?_
    have hrm_172 : 2 * μ.2.1 46 ≤ 2 * (μ.2.1 46) ∧ 2 * (μ.2.1 46) ≤ 90400 ∧ μ.2.1 46 < 2 * (μ.2.1 46) := by have h9 : μ.2.1 46 = μ.2.1 46 := rfl; omega
    refine xg_int (pc := 34) G fd_X1 (a := 45) (b := 46) (n := 2 * (μ.2.1 46)) 0 rfl (by decide) rfl rfl (G.sk 52 rfl) rfl rfl (by decide +kernel) (by decide +kernel) (by omega) (hI.rm.roomy (show ((46 : Int), (90400 : Int)) ∈ CPL by decide +kernel) hrm_172.1 hrm_172.2.1) (wm 5 167 rfl rfl) (wm 3 19 rfl rfl) (wm 1 8 rfl rfl) hR (by decide) (wm 2 67 rfl rfl) ⟨rfl, rfl, rfl, rfl⟩ rfl hl.1 (by decide) dX1_add_34 dX1_add_37 (fun ρ f_15 H locs hf_16 G => ?_)
    have hrm_17 : RM (gro μ 46 (2 * (μ.2.1 46)) f_15) := hI.rm.gro (show ((46 : Int), (90400 : Int)) ∈ CPL by decide +kernel) hrm_172.1 hrm_172.2.1
    refine lv_aload_n hx hb dX1_add_40 rfl (lv_at hl 1 rfl) ?_
    refine xa_getr G fd_X1 (a := 45) (x := 46) 0 rfl (by decide) rfl (wm 2 67 rfl rfl) ⟨rfl, rfl, rfl⟩ dX1_add_41 rfl (G.sk 52 rfl) (by decide) rfl ?_
    refine lv_iload hx hb dX1_add_44 (lv_at hl 0 rfl) ?_
    refine lv_iconst (v := iv 0) hx hb dX1_add_46 rfl ?_
    refine xb_iadd hx hb dX1_add_47 ?_
    refine lv_iload_n hx hb dX1_add_48 rfl (lv_at hl 2 rfl) ?_
    refine xa_iast G (a := 46) (i := (n * 9) + 0) (x := x1) rfl (by have h9 : (gro μ 46 (2 * (μ.2.1 46)) f_15).2.1 46 = 2 * (μ.2.1 46) := (gro_ls μ 46 (2 * (μ.2.1 46)) f_15); omega) (by unfold ir; omega) dX1_add_49 rfl (fun H locs G => ?_)
    refine lv_aload_n hx hb dX1_add_50 rfl (lv_at hl 1 rfl) ?_
    refine xa_getr G fd_X1 (a := 45) (x := 46) 0 rfl (by decide) rfl (wm 2 67 rfl rfl) ⟨rfl, rfl, rfl⟩ dX1_add_51 rfl (G.sk 52 rfl) (by decide) rfl ?_
    refine lv_iload hx hb dX1_add_54 (lv_at hl 0 rfl) ?_
    refine lv_iconst (v := iv 1) hx hb dX1_add_56 rfl ?_
    refine xb_iadd hx hb dX1_add_57 ?_
    refine lv_iload_n hx hb dX1_add_58 rfl (lv_at hl 3 rfl) ?_
    refine xa_iast G (a := 46) (i := (n * 9) + 1) (x := x2) rfl (by have h9 : (sv (gro μ 46 (2 * (μ.2.1 46)) f_15) 46 ((n * 9) + 0) x1).2.1 46 = 2 * (μ.2.1 46) := (gro_ls μ 46 (2 * (μ.2.1 46)) f_15); omega) (by unfold ir; omega) dX1_add_59 rfl (fun H locs G => ?_)
    refine lv_aload_n hx hb dX1_add_60 rfl (lv_at hl 1 rfl) ?_
    refine xa_getr G fd_X1 (a := 45) (x := 46) 0 rfl (by decide) rfl (wm 2 67 rfl rfl) ⟨rfl, rfl, rfl⟩ dX1_add_61 rfl (G.sk 52 rfl) (by decide) rfl ?_
    refine lv_iload hx hb dX1_add_64 (lv_at hl 0 rfl) ?_
    refine lv_iconst (v := iv 2) hx hb dX1_add_66 rfl ?_
    refine xb_iadd hx hb dX1_add_67 ?_
    refine lv_iload_n hx hb dX1_add_68 rfl (lv_at hl 4 rfl) ?_
    refine xa_iast G (a := 46) (i := (n * 9) + 2) (x := x3) rfl (by have h9 : (sv (sv (gro μ 46 (2 * (μ.2.1 46)) f_15) 46 ((n * 9) + 0) x1) 46 ((n * 9) + 1) x2).2.1 46 = 2 * (μ.2.1 46) := (gro_ls μ 46 (2 * (μ.2.1 46)) f_15); omega) (by unfold ir; omega) dX1_add_69 rfl (fun H locs G => ?_)
    refine lv_aload_n hx hb dX1_add_70 rfl (lv_at hl 1 rfl) ?_
    refine xa_getr G fd_X1 (a := 45) (x := 46) 0 rfl (by decide) rfl (wm 2 67 rfl rfl) ⟨rfl, rfl, rfl⟩ dX1_add_71 rfl (G.sk 52 rfl) (by decide) rfl ?_
    refine lv_iload hx hb dX1_add_74 (lv_at hl 0 rfl) ?_
    refine lv_iconst (v := iv 3) hx hb dX1_add_76 rfl ?_
    refine xb_iadd hx hb dX1_add_77 ?_
    refine lv_iload hx hb dX1_add_78 (lv_at hl 5 rfl) ?_
    refine xa_iast G (a := 46) (i := (n * 9) + 3) (x := x4) rfl (by have h9 : (sv (sv (sv (gro μ 46 (2 * (μ.2.1 46)) f_15) 46 ((n * 9) + 0) x1) 46 ((n * 9) + 1) x2) 46 ((n * 9) + 2) x3).2.1 46 = 2 * (μ.2.1 46) := (gro_ls μ 46 (2 * (μ.2.1 46)) f_15); omega) (by unfold ir; omega) dX1_add_80 rfl (fun H locs G => ?_)
    refine lv_aload_n hx hb dX1_add_81 rfl (lv_at hl 1 rfl) ?_
    refine xa_getr G fd_X1 (a := 45) (x := 46) 0 rfl (by decide) rfl (wm 2 67 rfl rfl) ⟨rfl, rfl, rfl⟩ dX1_add_82 rfl (G.sk 52 rfl) (by decide) rfl ?_
    refine lv_iload hx hb dX1_add_85 (lv_at hl 0 rfl) ?_
    refine lv_iconst (v := iv 4) hx hb dX1_add_87 rfl ?_
    refine xb_iadd hx hb dX1_add_88 ?_
    refine lv_iconst (v := iv 0) hx hb dX1_add_89 rfl ?_
    refine xa_iast G (a := 46) (i := (n * 9) + 4) (x := 0) rfl (by have h9 : (sv (sv (sv (sv (gro μ 46 (2 * (μ.2.1 46)) f_15) 46 ((n * 9) + 0) x1) 46 ((n * 9) + 1) x2) 46 ((n * 9) + 2) x3) 46 ((n * 9) + 3) x4).2.1 46 = 2 * (μ.2.1 46) := (gro_ls μ 46 (2 * (μ.2.1 46)) f_15); omega) (by unfold ir; omega) dX1_add_90 rfl (fun H locs G => ?_)
    refine lv_aload_n hx hb dX1_add_91 rfl (lv_at hl 1 rfl) ?_
    refine xa_getr G fd_X1 (a := 45) (x := 46) 0 rfl (by decide) rfl (wm 2 67 rfl rfl) ⟨rfl, rfl, rfl⟩ dX1_add_92 rfl (G.sk 52 rfl) (by decide) rfl ?_
    refine lv_iload hx hb dX1_add_95 (lv_at hl 0 rfl) ?_
    refine lv_iconst (v := iv 5) hx hb dX1_add_97 rfl ?_
    refine xb_iadd hx hb dX1_add_98 ?_
    refine lv_iconst (v := iv 0) hx hb dX1_add_99 rfl ?_
    refine xa_iast G (a := 46) (i := (n * 9) + 5) (x := 0) rfl (by have h9 : (sv (sv (sv (sv (sv (gro μ 46 (2 * (μ.2.1 46)) f_15) 46 ((n * 9) + 0) x1) 46 ((n * 9) + 1) x2) 46 ((n * 9) + 2) x3) 46 ((n * 9) + 3) x4) 46 ((n * 9) + 4) 0).2.1 46 = 2 * (μ.2.1 46) := (gro_ls μ 46 (2 * (μ.2.1 46)) f_15); omega) (by unfold ir; omega) dX1_add_100 rfl (fun H locs G => ?_)
    refine lv_aload_n hx hb dX1_add_101 rfl (lv_at hl 1 rfl) ?_
    refine xa_getr G fd_X1 (a := 45) (x := 46) 0 rfl (by decide) rfl (wm 2 67 rfl rfl) ⟨rfl, rfl, rfl⟩ dX1_add_102 rfl (G.sk 52 rfl) (by decide) rfl ?_
    refine lv_iload hx hb dX1_add_105 (lv_at hl 0 rfl) ?_
    refine lv_bipush (v := iv 6) hx hb dX1_add_107 rfl ?_
    refine xb_iadd hx hb dX1_add_109 ?_
    refine lv_iload hx hb dX1_add_110 (lv_at hl 6 rfl) ?_
    refine xa_iast G (a := 46) (i := (n * 9) + 6) (x := x5) rfl (by have h9 : (sv (sv (sv (sv (sv (sv (gro μ 46 (2 * (μ.2.1 46)) f_15) 46 ((n * 9) + 0) x1) 46 ((n * 9) + 1) x2) 46 ((n * 9) + 2) x3) 46 ((n * 9) + 3) x4) 46 ((n * 9) + 4) 0) 46 ((n * 9) + 5) 0).2.1 46 = 2 * (μ.2.1 46) := (gro_ls μ 46 (2 * (μ.2.1 46)) f_15); omega) (by unfold ir; omega) dX1_add_112 rfl (fun H locs G => ?_)
    refine lv_aload_n hx hb dX1_add_113 rfl (lv_at hl 1 rfl) ?_
    refine xa_getr G fd_X1 (a := 45) (x := 46) 0 rfl (by decide) rfl (wm 2 67 rfl rfl) ⟨rfl, rfl, rfl⟩ dX1_add_114 rfl (G.sk 52 rfl) (by decide) rfl ?_
    refine lv_iload hx hb dX1_add_117 (lv_at hl 0 rfl) ?_
    refine lv_bipush (v := iv 7) hx hb dX1_add_119 rfl ?_
    refine xb_iadd hx hb dX1_add_121 ?_
    refine lv_iload hx hb dX1_add_122 (lv_at hl 7 rfl) ?_
    refine xa_iast G (a := 46) (i := (n * 9) + 7) (x := x6) rfl (by have h9 : (sv (sv (sv (sv (sv (sv (sv (gro μ 46 (2 * (μ.2.1 46)) f_15) 46 ((n * 9) + 0) x1) 46 ((n * 9) + 1) x2) 46 ((n * 9) + 2) x3) 46 ((n * 9) + 3) x4) 46 ((n * 9) + 4) 0) 46 ((n * 9) + 5) 0) 46 ((n * 9) + 6) x5).2.1 46 = 2 * (μ.2.1 46) := (gro_ls μ 46 (2 * (μ.2.1 46)) f_15); omega) (by unfold ir; omega) dX1_add_124 rfl (fun H locs G => ?_)
    refine lv_aload_n hx hb dX1_add_125 rfl (lv_at hl 1 rfl) ?_
    refine xa_getr G fd_X1 (a := 45) (x := 46) 0 rfl (by decide) rfl (wm 2 67 rfl rfl) ⟨rfl, rfl, rfl⟩ dX1_add_126 rfl (G.sk 52 rfl) (by decide) rfl ?_
    refine lv_iload hx hb dX1_add_129 (lv_at hl 0 rfl) ?_
    refine lv_bipush (v := iv 8) hx hb dX1_add_131 rfl ?_
    refine xb_iadd hx hb dX1_add_133 ?_
    refine lv_iconst (v := iv (-1)) hx hb dX1_add_134 rfl ?_
    refine xa_iast G (a := 46) (i := (n * 9) + 8) (x := (-1)) rfl (by have h9 : (sv (sv (sv (sv (sv (sv (sv (sv (gro μ 46 (2 * (μ.2.1 46)) f_15) 46 ((n * 9) + 0) x1) 46 ((n * 9) + 1) x2) 46 ((n * 9) + 2) x3) 46 ((n * 9) + 3) x4) 46 ((n * 9) + 4) 0) 46 ((n * 9) + 5) 0) 46 ((n * 9) + 6) x5) 46 ((n * 9) + 7) x6).2.1 46 = 2 * (μ.2.1 46) := (gro_ls μ 46 (2 * (μ.2.1 46)) f_15); omega) (by unfold ir; omega) dX1_add_135 rfl (fun H locs G => ?_)
    refine lv_aload_n hx hb dX1_add_136 rfl (lv_at hl 1 rfl) ?_
    refine lv_dup hx hb dX1_add_137 rfl ?_
    refine xa_geti G fd_X1 (a := 45) (x := n) 1 rfl (by decide) rfl (wm 2 68 rfl rfl) ⟨rfl, rfl, rfl⟩ dX1_add_138 rfl ((sv_n _ (fun h9 => absurd h9.1 (by decide))).trans ((sv_n _ (fun h9 => absurd h9.1 (by decide))).trans ((sv_n _ (fun h9 => absurd h9.1 (by decide))).trans ((sv_n _ (fun h9 => absurd h9.1 (by decide))).trans ((sv_n _ (fun h9 => absurd h9.1 (by decide))).trans ((sv_n _ (fun h9 => absurd h9.1 (by decide))).trans ((sv_n _ (fun h9 => absurd h9.1 (by decide))).trans ((sv_n _ (fun h9 => absurd h9.1 (by decide))).trans ((sv_n _ (fun h9 => absurd h9.1 (by decide))).trans ((gro_o _ (by decide) _).trans hn.symm)))))))))) ?_
    refine lv_iconst (v := iv 1) hx hb dX1_add_141 rfl ?_
    refine xb_iadd hx hb dX1_add_142 ?_
    refine xa_puti G fd_X1 (a := 45) (x := n + 1) 1 (kz := 1) rfl rfl (by decide) rfl (by unfold ir; omega) (wm 2 68 rfl rfl) ⟨rfl, rfl, rfl, rfl⟩ rfl dX1_add_143 rfl (fun H locs G => ?_)
    have hF9 : Fr [45, 46, 51] μ (sv (sv (sv (sv (sv (sv (sv (sv (sv (sv (gro μ 46 (2 * (μ.2.1 46)) f_15) 46 ((n * 9) + 0) x1) 46 ((n * 9) + 1) x2) 46 ((n * 9) + 2) x3) 46 ((n * 9) + 3) x4) 46 ((n * 9) + 4) 0) 46 ((n * 9) + 5) 0) 46 ((n * 9) + 6) x5) 46 ((n * 9) + 7) x6) 46 ((n * 9) + 8) (-1)) 45 1 (n + 1)) := (Fr.put (Fr.put (Fr.put (Fr.put (Fr.put (Fr.put (Fr.put (Fr.put (Fr.put (Fr.put (Fr.gro Fr.rf (by decide)) (by decide)) (by decide)) (by decide)) (by decide)) (by decide)) (by decide)) (by decide)) (by decide)) (by decide)) (by decide))
    have e1_f : (sv (sv (sv (sv (sv (sv (sv (sv (sv (sv (gro μ 46 (2 * (μ.2.1 46)) f_15) 46 ((n * 9) + 0) x1) 46 ((n * 9) + 1) x2) 46 ((n * 9) + 2) x3) 46 ((n * 9) + 3) x4) 46 ((n * 9) + 4) 0) 46 ((n * 9) + 5) 0) 46 ((n * 9) + 6) x5) 46 ((n * 9) + 7) x6) 46 ((n * 9) + 8) (-1)) 45 1 (n + 1)).1 45 1 = n + 1 := (sv_s _ _ _ _)
    have e2_f : (sv (sv (sv (sv (sv (sv (sv (sv (sv (sv (gro μ 46 (2 * (μ.2.1 46)) f_15) 46 ((n * 9) + 0) x1) 46 ((n * 9) + 1) x2) 46 ((n * 9) + 2) x3) 46 ((n * 9) + 3) x4) 46 ((n * 9) + 4) 0) 46 ((n * 9) + 5) 0) 46 ((n * 9) + 6) x5) 46 ((n * 9) + 7) x6) 46 ((n * 9) + 8) (-1)) 45 1 (n + 1)).1 45 4 = y := ((sv_n _ (by decide)).trans ((sv_n _ (fun h9 => absurd h9.1 (by decide))).trans ((sv_n _ (fun h9 => absurd h9.1 (by decide))).trans ((sv_n _ (fun h9 => absurd h9.1 (by decide))).trans ((sv_n _ (fun h9 => absurd h9.1 (by decide))).trans ((sv_n _ (fun h9 => absurd h9.1 (by decide))).trans ((sv_n _ (fun h9 => absurd h9.1 (by decide))).trans ((sv_n _ (fun h9 => absurd h9.1 (by decide))).trans ((sv_n _ (fun h9 => absurd h9.1 (by decide))).trans ((sv_n _ (fun h9 => absurd h9.1 (by decide))).trans ((gro_o _ (by decide) _).trans hy.symm)))))))))))
    have e3_f : (sv (sv (sv (sv (sv (sv (sv (sv (sv (sv (gro μ 46 (2 * (μ.2.1 46)) f_15) 46 ((n * 9) + 0) x1) 46 ((n * 9) + 1) x2) 46 ((n * 9) + 2) x3) 46 ((n * 9) + 3) x4) 46 ((n * 9) + 4) 0) 46 ((n * 9) + 5) 0) 46 ((n * 9) + 6) x5) 46 ((n * 9) + 7) x6) 46 ((n * 9) + 8) (-1)) 45 1 (n + 1)).2.1 46 = 2 * (μ.2.1 46) := (gro_ls μ 46 (2 * (μ.2.1 46)) f_15)
    have e4_f : (sv (sv (sv (sv (sv (sv (sv (sv (sv (sv (gro μ 46 (2 * (μ.2.1 46)) f_15) 46 ((n * 9) + 0) x1) 46 ((n * 9) + 1) x2) 46 ((n * 9) + 2) x3) 46 ((n * 9) + 3) x4) 46 ((n * 9) + 4) 0) 46 ((n * 9) + 5) 0) 46 ((n * 9) + 6) x5) 46 ((n * 9) + 7) x6) 46 ((n * 9) + 8) (-1)) 45 1 (n + 1)).2.1 51 = μ.2.1 51 := (gro_lo (f := f_15) μ (by decide))
    have hI_18 : IC (sv (sv (sv (sv (sv (sv (sv (sv (sv (sv (gro μ 46 (2 * (μ.2.1 46)) f_15) 46 ((n * 9) + 0) x1) 46 ((n * 9) + 1) x2) 46 ((n * 9) + 2) x3) 46 ((n * 9) + 3) x4) 46 ((n * 9) + 4) 0) 46 ((n * 9) + 5) 0) 46 ((n * 9) + 6) x5) 46 ((n * 9) + 7) x6) 46 ((n * 9) + 8) (-1)) 45 1 (n + 1)) := hI.resF hF9 (by omega) (by omega) (RM.same (hrm_17) rfl)
    refine lv_aload_n hx hb dX1_add_146 rfl (lv_at hl 1 rfl) ?_
    refine xa_getr G fd_X1 (a := 45) (x := 47) 2 rfl (by decide) rfl (wm 2 69 rfl rfl) ⟨rfl, rfl, rfl⟩ dX1_add_147 rfl (G.sk 53 rfl) (by decide) rfl ?_
    refine lv_aload_n hx hb dX1_add_150 rfl (lv_at hl 1 rfl) ?_
    refine xa_geti G fd_X1 (a := 45) (x := n + 1) 1 rfl (by decide) rfl (wm 2 68 rfl rfl) ⟨rfl, rfl, rfl⟩ dX1_add_151 rfl (sv_s _ _ _ _) ?_
    have hr_19 : -2147483648 ≤ n + 1 ∧ n + 1 ≤ 2147483647 := by have h9 := G.hr (a := 45) (k := 1) rfl; rw [show (sv (sv (sv (sv (sv (sv (sv (sv (sv (sv (gro μ 46 (2 * (μ.2.1 46)) f_15) 46 ((n * 9) + 0) x1) 46 ((n * 9) + 1) x2) 46 ((n * 9) + 2) x3) 46 ((n * 9) + 3) x4) 46 ((n * 9) + 4) 0) 46 ((n * 9) + 5) 0) 46 ((n * 9) + 6) x5) 46 ((n * 9) + 7) x6) 46 ((n * 9) + 8) (-1)) 45 1 (n + 1)).1 45 1 = n + 1 from (sv_s _ _ _ _)] at h9; exact h9
    refine xc_vV G (b := 47) (rest := []) (As := [.int (iv (n + 1))]) (c_X9_resize ω l (sv (sv (sv (sv (sv (sv (sv (sv (sv (sv (gro μ 46 (2 * (μ.2.1 46)) f_15) 46 ((n * 9) + 0) x1) 46 ((n * 9) + 1) x2) 46 ((n * 9) + 2) x3) 46 ((n * 9) + 3) x4) 46 ((n * 9) + 4) 0) 46 ((n * 9) + 5) 0) 46 ((n * 9) + 6) x5) 46 ((n * 9) + 7) x6) 46 ((n * 9) + 8) (-1)) 45 1 (n + 1)) 47 (n + 1) (by unfold isRow; decide) (by unfold ir; omega) hI_18 (by omega)) (wm 5 60 rfl rfl) (wm 3 15 rfl rfl) (wm 3 16 rfl rfl) rfl rfl (by decide) rfl (wm 1 10 rfl rfl) (wm 3 17 rfl rfl) (by decide) hR (by decide) (n := 1) rfl rfl (Nat.le_of_ble_eq_true rfl) hl.1 dX1_add_154 (fun μ20 ρ d0 H locs hp G => ?_)
    obtain ⟨F_21, hI_22, hs_23⟩ := hp
    refine lv_aload_n hx hb dX1_add_157 rfl (lv_at hl 1 rfl) ?_
    refine xa_geti G fd_X1 (a := 45) (x := n + 1) 1 rfl (by decide) rfl (wm 2 68 rfl rfl) ⟨rfl, rfl, rfl⟩ dX1_add_158 rfl ((F_21.1 45 (by decide) 1).trans (sv_s _ _ _ _)) ?_
    refine lv_iconst (v := iv 1) hx hb dX1_add_161 rfl ?_
    refine xb_isub hx hb dX1_add_162 ?_
    refine xb_ti (y := n) (by omega) ?_
    have e_24 : μ20.1 45 1 = n + 1 := ((F_21.1 45 (by decide) 1).trans (sv_s _ _ _ _))
    have e_25 : μ20.1 45 4 = y := ((F_21.1 45 (by decide) 4).trans ((sv_n _ (by decide)).trans ((sv_n _ (fun h9 => absurd h9.1 (by decide))).trans ((sv_n _ (fun h9 => absurd h9.1 (by decide))).trans ((sv_n _ (fun h9 => absurd h9.1 (by decide))).trans ((sv_n _ (fun h9 => absurd h9.1 (by decide))).trans ((sv_n _ (fun h9 => absurd h9.1 (by decide))).trans ((sv_n _ (fun h9 => absurd h9.1 (by decide))).trans ((sv_n _ (fun h9 => absurd h9.1 (by decide))).trans ((sv_n _ (fun h9 => absurd h9.1 (by decide))).trans ((sv_n _ (fun h9 => absurd h9.1 (by decide))).trans ((gro_o _ (by decide) _).trans hy.symm))))))))))))
    have e_26 : μ20.1 45 4 = y := ((F_21.1 45 (by decide) 4).trans ((sv_n _ (by decide)).trans ((sv_n _ (fun h9 => absurd h9.1 (by decide))).trans ((sv_n _ (fun h9 => absurd h9.1 (by decide))).trans ((sv_n _ (fun h9 => absurd h9.1 (by decide))).trans ((sv_n _ (fun h9 => absurd h9.1 (by decide))).trans ((sv_n _ (fun h9 => absurd h9.1 (by decide))).trans ((sv_n _ (fun h9 => absurd h9.1 (by decide))).trans ((sv_n _ (fun h9 => absurd h9.1 (by decide))).trans ((sv_n _ (fun h9 => absurd h9.1 (by decide))).trans ((sv_n _ (fun h9 => absurd h9.1 (by decide))).trans ((gro_o _ (by decide) _).trans hy.symm))))))))))))
    exact xr_i G (x := n) hret hlk (by unfold ir; omega) rfl dX1_add_163 ⟨(Fr.tr (Fr.put (Fr.put (Fr.put (Fr.put (Fr.put (Fr.put (Fr.put (Fr.put (Fr.put (Fr.put (Fr.gro Fr.rf (by decide)) (by decide)) (by decide)) (by decide)) (by decide)) (by decide)) (by decide)) (by decide)) (by decide)) (by decide)) (by decide)) F_21 (by decide)), hI_22, (by omega), (by omega), (by omega), (by omega)⟩

set_option maxHeartbeats 4000000 in
set_option maxRecDepth 100000 in
theorem c_X1_fact (ω : Om) (l : Launch) (μ : M3) (x1 : Int) (x2 : Int) (n : Int) (y : Int) (hx1 : ir x1) (hx2 : ir x2) (hI : IC μ) (hn : n = μ.1 45 1) (hy : y = μ.1 45 4) : CtI ω l yX1_fact cX1_fact 3 .int 1 21 [.ref (oP ω 45), .int (iv x1), .int (iv x2)] μ (fun (r : Int) (μ' : M3) => (μ' = μ)) := by
  refine CtI.go (by decide) (Nat.le_of_ble_eq_true rfl) (fun ρ p e s m below meth c R ls G hR hret hlk hl => ?_)
  have hx := G.1.1
  have hb := G.1.2.1
  have hl : lv_has ls 3 [(0, .ref (oP ω 45)), (1, .int (iv x1)), (2, .int (iv x2))] := hl
  generalize s.drawn = d0 at G ⊢
  have hr_x1 : -2147483648 ≤ x1 ∧ x1 ≤ 2147483647 := hx1
  have hr_x2 : -2147483648 ≤ x2 ∧ x2 ≤ 2147483647 := hx2
  have hn_1 : 0 ≤ μ.1 45 1 ∧ 9 * μ.1 45 1 ≤ μ.2.1 46 := hI.nm.2.2.2.2.2.2.1
  have hn_2 : 0 ≤ μ.1 45 4 ∧ 2 * μ.1 45 4 ≤ μ.2.1 51 := hI.nm.2.2.2.2.2.2.2.1
  have hk_3 := hI.row (r := 47) (by unfold isRow; decide)
  unfold rk at hk_3
  simp only [Int.reduceAdd] at hk_3
  have hbr_47 : BR 47 = 5010 := rfl
  have hc_1 : 16 ≤ μ.2.1 46 ∧ μ.2.1 46 ≤ 90400 := hI.rm.1 (46, 90400) (by decide +kernel)
  have hc_2 : 16 ≤ μ.2.1 51 ∧ μ.2.1 51 ≤ 40200 := hI.rm.1 (51, 40200) (by decide +kernel)
  refine lv_iload_n hx hb dX1_fact_0 rfl (lv_at hl 1 rfl) ?_
  refine xb_if_lt (tgt := 22) hx hb (by unfold ir; omega) dX1_fact_1 (by decide) (fun c_1 => ?_) (fun c_1 => ?_)
  · refine lv_iconst (v := iv (-1)) hx hb dX1_fact_22 rfl ?_
    exact xr_i G (x := (-1)) hret hlk (by unfold ir; omega) rfl dX1_fact_23 rfl
  · refine lv_iload_n hx hb dX1_fact_4 rfl (lv_at hl 1 rfl) ?_
    refine lv_aload_n hx hb dX1_fact_5 rfl (lv_at hl 0 rfl) ?_
    refine xa_geti G fd_X1 (a := 45) (x := n) 1 rfl (by decide) rfl (wm 2 68 rfl rfl) ⟨rfl, rfl, rfl⟩ dX1_fact_6 rfl hn.symm ?_
    have hr_4 : -2147483648 ≤ n ∧ n ≤ 2147483647 := by have h9 := G.hr (a := 45) (k := 1) rfl; rw [show μ.1 45 1 = n from hn.symm] at h9; exact h9
    refine xb_icmp_ge (tgt := 22) hx hb (by unfold ir; omega) (by unfold ir; omega) dX1_fact_9 (by decide) (fun c_9 => ?_) (fun c_9 => ?_)
    · refine lv_iconst (v := iv (-1)) hx hb dX1_fact_22 rfl ?_
      exact xr_i G (x := (-1)) hret hlk (by unfold ir; omega) rfl dX1_fact_23 rfl
    · refine lv_iload_n hx hb dX1_fact_12 rfl (lv_at hl 2 rfl) ?_
      refine xb_if_lt (tgt := 22) hx hb (by unfold ir; omega) dX1_fact_13 (by decide) (fun c_13 => ?_) (fun c_13 => ?_)
      · refine lv_iconst (v := iv (-1)) hx hb dX1_fact_22 rfl ?_
        exact xr_i G (x := (-1)) hret hlk (by unfold ir; omega) rfl dX1_fact_23 rfl
      · refine lv_iload_n hx hb dX1_fact_16 rfl (lv_at hl 2 rfl) ?_
        refine lv_bipush (v := iv 9) hx hb dX1_fact_17 rfl ?_
        refine xb_icmp_lt (tgt := 24) hx hb (by unfold ir; omega) (by unfold ir; omega) dX1_fact_19 (by decide) (fun c_19 => ?_) (fun c_19 => ?_)
        · refine lv_iload_n hx hb dX1_fact_24 rfl (lv_at hl 2 rfl) ?_
          refine lv_iconst (v := iv 5) hx hb dX1_fact_25 rfl ?_
          refine xb_icmp_ne (tgt := 40) hx hb (by unfold ir; omega) (by unfold ir; omega) dX1_fact_26 (by decide) (fun c_26 => ?_) (fun c_26 => ?_)
          · refine lv_aload_n hx hb dX1_fact_40 rfl (lv_at hl 0 rfl) ?_
            refine xa_getr G fd_X1 (a := 45) (x := 46) 0 rfl (by decide) rfl (wm 2 67 rfl rfl) ⟨rfl, rfl, rfl⟩ dX1_fact_41 rfl (G.sk 52 rfl) (by decide) rfl ?_
            refine lv_iload_n hx hb dX1_fact_44 rfl (lv_at hl 1 rfl) ?_
            refine lv_bipush (v := iv 9) hx hb dX1_fact_45 rfl ?_
            refine xb_imul hx hb dX1_fact_47 ?_
            refine lv_iload_n hx hb dX1_fact_48 rfl (lv_at hl 2 rfl) ?_
            refine xb_iadd hx hb dX1_fact_49 ?_
            refine xa_iald G (a := 46) (i := (x1 * 9) + x2) rfl (by omega) dX1_fact_50 rfl ?_
            have hr_5 : -2147483648 ≤ μ.1 46 ((x1 * 9) + x2) ∧ μ.1 46 ((x1 * 9) + x2) ≤ 2147483647 := by have h9 := G.hr (a := 46) (k := (x1 * 9) + x2) rfl; exact h9
            exact xr_i G (x := μ.1 46 ((x1 * 9) + x2)) hret hlk (by unfold ir; omega) rfl dX1_fact_51 rfl
          · refine lv_aload_n hx hb dX1_fact_29 rfl (lv_at hl 0 rfl) ?_
            refine xa_getr G fd_X1 (a := 45) (x := 47) 2 rfl (by decide) rfl (wm 2 69 rfl rfl) ⟨rfl, rfl, rfl⟩ dX1_fact_30 rfl (G.sk 53 rfl) (by decide) rfl ?_
            refine lv_iload_n hx hb dX1_fact_33 rfl (lv_at hl 1 rfl) ?_
            refine xc_iV G (b := 47) (rest := []) (As := [.int (iv x1)]) (c_X9_kind ω l μ 47 x1 (by unfold isRow; decide) (by unfold ir; omega) hI) (wm 5 172 rfl rfl) (wm 5 156 rfl rfl) (wm 5 157 rfl rfl) rfl rfl (by decide) rfl (wm 1 10 rfl rfl) (wm 5 158 rfl rfl) (by decide) hR (by decide) (n := 1) rfl rfl (Nat.le_of_ble_eq_true rfl) hl.1 dX1_fact_34 (fun r_7 μ6 ρ d0 H locs hr_r_7 hp G => ?_)
            have hr_r_7 : -2147483648 ≤ r_7 ∧ r_7 ≤ 2147483647 := hr_r_7
            have hsm_8 := hp
            have hsm_8 := Eq.symm hsm_8
            subst hsm_8
            refine lv_goto (tgt := 51) hx hb dX1_fact_37 (by decide) ?_
            exact xr_i G (x := r_7) hret hlk (by unfold ir; omega) rfl dX1_fact_51 rfl
        · refine lv_iconst (v := iv (-1)) hx hb dX1_fact_22 rfl ?_
          exact xr_i G (x := (-1)) hret hlk (by unfold ir; omega) rfl dX1_fact_23 rfl

set_option maxHeartbeats 4000000 in
set_option maxRecDepth 100000 in
theorem c_X1_putUnder (ω : Om) (l : Launch) (μ : M3) (x1 : Int) (x2 : Int) (n : Int) (y : Int) (hx1 : ir x1) (hx2 : ir x2) (hI : IC μ) (hn : n = μ.1 45 1) (hy : y = μ.1 45 4) (hb9 : y < 10020) : CtV ω l yX1_putUnder cX1_putUnder 4 2 102 [.ref (oP ω 45), .int (iv x1), .int (iv x2)] μ (fun (μ' : M3) => (Fr [45, 46, 51] μ μ') ∧ (IC μ') ∧ (μ'.1 45 1 = n) ∧ (y ≤ μ'.1 45 4 ∧ μ'.1 45 4 ≤ y + 1) ∧ (μ'.1 45 1 = μ.1 45 1)) := by
  refine CtV.go (by decide) (Nat.le_of_ble_eq_true rfl) (fun ρ p e s m below meth c R ls G hR hret hlk hl => ?_)
  have hx := G.1.1
  have hb := G.1.2.1
  have hl : lv_has ls 4 [(0, .ref (oP ω 45)), (1, .int (iv x1)), (2, .int (iv x2))] := hl
  generalize s.drawn = d0 at G ⊢
  have hr_x1 : -2147483648 ≤ x1 ∧ x1 ≤ 2147483647 := hx1
  have hr_x2 : -2147483648 ≤ x2 ∧ x2 ≤ 2147483647 := hx2
  have hn_1 : 0 ≤ μ.1 45 1 ∧ 9 * μ.1 45 1 ≤ μ.2.1 46 := hI.nm.2.2.2.2.2.2.1
  have hn_2 : 0 ≤ μ.1 45 4 ∧ 2 * μ.1 45 4 ≤ μ.2.1 51 := hI.nm.2.2.2.2.2.2.2.1
  have hk_3 := hI.row (r := 47) (by unfold isRow; decide)
  unfold rk at hk_3
  simp only [Int.reduceAdd] at hk_3
  have hbr_47 : BR 47 = 5010 := rfl
  have hc_1 : 16 ≤ μ.2.1 46 ∧ μ.2.1 46 ≤ 90400 := hI.rm.1 (46, 90400) (by decide +kernel)
  have hc_2 : 16 ≤ μ.2.1 51 ∧ μ.2.1 51 ≤ 40200 := hI.rm.1 (51, 40200) (by decide +kernel)
  refine lv_iload_n hx hb dX1_putUnder_0 rfl (lv_at hl 1 rfl) ?_
  refine xb_if_lt (tgt := 21) hx hb (by unfold ir; omega) dX1_putUnder_1 (by decide) (fun c_1 => ?_) (fun c_1 => ?_)
  · have hF9 : Fr [45, 46, 51] μ μ := Fr.rf
    have e1_f : μ.1 45 1 = n := hn.symm
    have e2_f : μ.1 45 4 = y := hy.symm
    have e3_f : μ.2.1 46 = μ.2.1 46 := rfl
    have e4_f : μ.2.1 51 = μ.2.1 51 := rfl
    have hI_4 : IC μ := hI.resF hF9 (by omega) (by omega) (RM.same (hI.rm) rfl)
    have e_5 : μ.1 45 1 = n := hn.symm
    have e_6 : μ.1 45 4 = y := hy.symm
    have e_7 : μ.1 45 4 = y := hy.symm
    have e_8 : μ.1 45 1 = n := hn.symm
    exact xr_v G hret hlk dX1_putUnder_21 ⟨Fr.rf, hI_4, (by omega), (by omega), (by omega)⟩
  · refine lv_iload_n hx hb dX1_putUnder_4 rfl (lv_at hl 1 rfl) ?_
    refine lv_aload_n hx hb dX1_putUnder_5 rfl (lv_at hl 0 rfl) ?_
    refine xa_geti G fd_X1 (a := 45) (x := n) 1 rfl (by decide) rfl (wm 2 68 rfl rfl) ⟨rfl, rfl, rfl⟩ dX1_putUnder_6 rfl hn.symm ?_
    have hr_9 : -2147483648 ≤ n ∧ n ≤ 2147483647 := by have h9 := G.hr (a := 45) (k := 1) rfl; rw [show μ.1 45 1 = n from hn.symm] at h9; exact h9
    refine xb_icmp_ge (tgt := 21) hx hb (by unfold ir; omega) (by unfold ir; omega) dX1_putUnder_9 (by decide) (fun c_9 => ?_) (fun c_9 => ?_)
    · have hF9 : Fr [45, 46, 51] μ μ := Fr.rf
      have e1_f : μ.1 45 1 = n := hn.symm
      have e2_f : μ.1 45 4 = y := hy.symm
      have e3_f : μ.2.1 46 = μ.2.1 46 := rfl
      have e4_f : μ.2.1 51 = μ.2.1 51 := rfl
      have hI_10 : IC μ := hI.resF hF9 (by omega) (by omega) (RM.same (hI.rm) rfl)
      have e_11 : μ.1 45 1 = n := hn.symm
      have e_12 : μ.1 45 4 = y := hy.symm
      have e_13 : μ.1 45 4 = y := hy.symm
      have e_14 : μ.1 45 1 = n := hn.symm
      exact xr_v G hret hlk dX1_putUnder_21 ⟨Fr.rf, hI_10, (by omega), (by omega), (by omega)⟩
    · refine lv_iload_n hx hb dX1_putUnder_12 rfl (lv_at hl 2 rfl) ?_
      refine xb_if_lt (tgt := 21) hx hb (by unfold ir; omega) dX1_putUnder_13 (by decide) (fun c_13 => ?_) (fun c_13 => ?_)
      · have hF9 : Fr [45, 46, 51] μ μ := Fr.rf
        have e1_f : μ.1 45 1 = n := hn.symm
        have e2_f : μ.1 45 4 = y := hy.symm
        have e3_f : μ.2.1 46 = μ.2.1 46 := rfl
        have e4_f : μ.2.1 51 = μ.2.1 51 := rfl
        have hI_15 : IC μ := hI.resF hF9 (by omega) (by omega) (RM.same (hI.rm) rfl)
        have e_16 : μ.1 45 1 = n := hn.symm
        have e_17 : μ.1 45 4 = y := hy.symm
        have e_18 : μ.1 45 4 = y := hy.symm
        have e_19 : μ.1 45 1 = n := hn.symm
        exact xr_v G hret hlk dX1_putUnder_21 ⟨Fr.rf, hI_15, (by omega), (by omega), (by omega)⟩
      · refine lv_iload_n hx hb dX1_putUnder_16 rfl (lv_at hl 2 rfl) ?_
        refine lv_iload_n hx hb dX1_putUnder_17 rfl (lv_at hl 1 rfl) ?_
        refine xb_icmp_ne (tgt := 22) hx hb (by unfold ir; omega) (by unfold ir; omega) dX1_putUnder_18 (by decide) (fun c_18 => ?_) (fun c_18 => ?_)
        · refine lv_iconst (v := iv 2) hx hb dX1_putUnder_22 rfl ?_
          refine lv_aload_n hx hb dX1_putUnder_23 rfl (lv_at hl 0 rfl) ?_
          refine xa_geti G fd_X1 (a := 45) (x := y) 4 rfl (by decide) rfl (wm 2 71 rfl rfl) ⟨rfl, rfl, rfl⟩ dX1_putUnder_24 rfl hy.symm ?_
          have hr_20 : -2147483648 ≤ y ∧ y ≤ 2147483647 := by have h9 := G.hr (a := 45) (k := 4) rfl; rw [show μ.1 45 4 = y from hy.symm] at h9; exact h9
          refine xb_imul hx hb dX1_putUnder_27 ?_
          refine lv_istore_n (lv' := [(3, .int (iv (2 * y))), (0, .ref (oP ω 45)), (1, .int (iv x1)), (2, .int (iv x2))]) hx hb dX1_putUnder_28 rfl hl (by decide) rfl (fun ls hl => ?_)
          refine lv_iload_n hx hb dX1_putUnder_29 rfl (lv_at hl 0 rfl) ?_
          refine lv_iconst (v := iv 2) hx hb dX1_putUnder_30 rfl ?_
          refine xb_iadd hx hb dX1_putUnder_31 ?_
          refine lv_aload_n hx hb dX1_putUnder_32 rfl (lv_at hl 1 rfl) ?_
          refine xa_getr G fd_X1 (a := 45) (x := 51) 3 rfl (by decide) rfl (wm 2 70 rfl rfl) ⟨rfl, rfl, rfl⟩ dX1_putUnder_33 rfl (G.sk 54 rfl) (by decide) rfl ?_
          refine xa_alen G (a := 51) (t := 0) rfl (by decide) dX1_putUnder_36 rfl ?_
          have hr_21 : -2147483648 ≤ μ.2.1 51 ∧ μ.2.1 51 ≤ 2147483647 := by have h9 := G.ln 51; omega
          refine xb_icmp_le (tgt := 58) hx hb (by unfold ir; omega) (by unfold ir; omega) dX1_putUnder_37 (by decide) (fun c_37 => ?_) (fun c_37 => ?_)
          · refine lv_aload_n hx hb dX1_putUnder_58 rfl (lv_at hl 1 rfl) ?_
            refine xa_getr G fd_X1 (a := 45) (x := 51) 3 rfl (by decide) rfl (wm 2 70 rfl rfl) ⟨rfl, rfl, rfl⟩ dX1_putUnder_59 rfl (G.sk 54 rfl) (by decide) rfl ?_
            refine lv_iload_n hx hb dX1_putUnder_62 rfl (lv_at hl 0 rfl) ?_
            refine lv_iload_n hx hb dX1_putUnder_63 rfl (lv_at hl 3 rfl) ?_
            refine xa_iast G (a := 51) (i := 2 * y) (x := x2) rfl (by omega) (by unfold ir; omega) dX1_putUnder_64 rfl (fun H locs G => ?_)
            refine lv_aload_n hx hb dX1_putUnder_65 rfl (lv_at hl 1 rfl) ?_
            refine xa_getr G fd_X1 (a := 45) (x := 51) 3 rfl (by decide) rfl (wm 2 70 rfl rfl) ⟨rfl, rfl, rfl⟩ dX1_putUnder_66 rfl (G.sk 54 rfl) (by decide) rfl ?_
            refine lv_iload_n hx hb dX1_putUnder_69 rfl (lv_at hl 0 rfl) ?_
            refine lv_iconst (v := iv 1) hx hb dX1_putUnder_70 rfl ?_
            refine xb_iadd hx hb dX1_putUnder_71 ?_
            refine lv_aload_n hx hb dX1_putUnder_72 rfl (lv_at hl 1 rfl) ?_
            refine xa_getr G fd_X1 (a := 45) (x := 46) 0 rfl (by decide) rfl (wm 2 67 rfl rfl) ⟨rfl, rfl, rfl⟩ dX1_putUnder_73 rfl (G.sk 52 rfl) (by decide) rfl ?_
            refine lv_iload_n hx hb dX1_putUnder_76 rfl (lv_at hl 2 rfl) ?_
            refine lv_bipush (v := iv 9) hx hb dX1_putUnder_77 rfl ?_
            refine xb_imul hx hb dX1_putUnder_79 ?_
            refine lv_bipush (v := iv 8) hx hb dX1_putUnder_80 rfl ?_
            refine xb_iadd hx hb dX1_putUnder_82 ?_
            refine xa_iald G (a := 46) (i := (x1 * 9) + 8) rfl (by have h9 : (sv μ 51 (2 * y) x2).2.1 46 = μ.2.1 46 := rfl; omega) dX1_putUnder_83 rfl ?_
            refine xb_ti (y := μ.1 46 (x1 * 9 + 8)) (sv_n _ (fun h9 => absurd h9.1 (by decide))) ?_
            have hr_22 : -2147483648 ≤ μ.1 46 (x1 * 9 + 8) ∧ μ.1 46 (x1 * 9 + 8) ≤ 2147483647 := by have h9 := G.hr (a := 46) (k := (x1 * 9) + 8) rfl; rw [(sv_n _ (fun h9 => absurd h9.1 (by decide)))] at h9; exact h9
            refine xa_iast G (a := 51) (i := (2 * y) + 1) (x := μ.1 46 (x1 * 9 + 8)) rfl (by have h9 : (sv μ 51 (2 * y) x2).2.1 51 = μ.2.1 51 := rfl; omega) (by unfold ir; omega) dX1_putUnder_84 rfl (fun H locs G => ?_)
            refine lv_aload_n hx hb dX1_putUnder_85 rfl (lv_at hl 1 rfl) ?_
            refine xa_getr G fd_X1 (a := 45) (x := 46) 0 rfl (by decide) rfl (wm 2 67 rfl rfl) ⟨rfl, rfl, rfl⟩ dX1_putUnder_86 rfl (G.sk 52 rfl) (by decide) rfl ?_
            refine lv_iload_n hx hb dX1_putUnder_89 rfl (lv_at hl 2 rfl) ?_
            refine lv_bipush (v := iv 9) hx hb dX1_putUnder_90 rfl ?_
            refine xb_imul hx hb dX1_putUnder_92 ?_
            refine lv_bipush (v := iv 8) hx hb dX1_putUnder_93 rfl ?_
            refine xb_iadd hx hb dX1_putUnder_95 ?_
            refine lv_aload_n hx hb dX1_putUnder_96 rfl (lv_at hl 1 rfl) ?_
            refine xa_geti G fd_X1 (a := 45) (x := y) 4 rfl (by decide) rfl (wm 2 71 rfl rfl) ⟨rfl, rfl, rfl⟩ dX1_putUnder_97 rfl ((sv_n _ (fun h9 => absurd h9.1 (by decide))).trans ((sv_n _ (fun h9 => absurd h9.1 (by decide))).trans hy.symm)) ?_
            refine xa_iast G (a := 46) (i := (x1 * 9) + 8) (x := y) rfl (by have h9 : (sv (sv μ 51 (2 * y) x2) 51 ((2 * y) + 1) (μ.1 46 (x1 * 9 + 8))).2.1 46 = μ.2.1 46 := rfl; omega) (by unfold ir; omega) dX1_putUnder_100 rfl (fun H locs G => ?_)
            refine lv_aload_n hx hb dX1_putUnder_101 rfl (lv_at hl 1 rfl) ?_
            refine xa_getr G fd_X1 (a := 45) (x := 46) 0 rfl (by decide) rfl (wm 2 67 rfl rfl) ⟨rfl, rfl, rfl⟩ dX1_putUnder_102 rfl (G.sk 52 rfl) (by decide) rfl ?_
            refine lv_iload_n hx hb dX1_putUnder_105 rfl (lv_at hl 2 rfl) ?_
            refine lv_bipush (v := iv 9) hx hb dX1_putUnder_106 rfl ?_
            refine xb_imul hx hb dX1_putUnder_108 ?_
            refine lv_iconst (v := iv 4) hx hb dX1_putUnder_109 rfl ?_
            refine xb_iadd hx hb dX1_putUnder_110 ?_
            refine lv_dup2_11 hx hb dX1_putUnder_111 rfl rfl ?_
            refine xa_iald G (a := 46) (i := (x1 * 9) + 4) rfl (by have h9 : (sv (sv (sv μ 51 (2 * y) x2) 51 ((2 * y) + 1) (μ.1 46 (x1 * 9 + 8))) 46 ((x1 * 9) + 8) y).2.1 46 = μ.2.1 46 := rfl; omega) dX1_putUnder_112 rfl ?_
            refine xb_ti (y := μ.1 46 (x1 * 9 + 4)) ((sv_n _ (by omega)).trans ((sv_n _ (fun h9 => absurd h9.1 (by decide))).trans (sv_n _ (fun h9 => absurd h9.1 (by decide))))) ?_
            have hr_23 : -2147483648 ≤ μ.1 46 (x1 * 9 + 4) ∧ μ.1 46 (x1 * 9 + 4) ≤ 2147483647 := by have h9 := G.hr (a := 46) (k := (x1 * 9) + 4) rfl; rw [((sv_n _ (by omega)).trans ((sv_n _ (fun h9 => absurd h9.1 (by decide))).trans (sv_n _ (fun h9 => absurd h9.1 (by decide)))))] at h9; exact h9
            refine lv_iconst (v := iv 1) hx hb dX1_putUnder_113 rfl ?_
            refine xb_iadd hx hb dX1_putUnder_114 ?_
            refine xb_topi (fun y_24 hr_y_24 he_y_24 => ?_)
            have hr_y_24 : -2147483648 ≤ y_24 ∧ y_24 ≤ 2147483647 := hr_y_24
            refine xa_iast G (a := 46) (i := (x1 * 9) + 4) (x := y_24) rfl (by have h9 : (sv (sv (sv μ 51 (2 * y) x2) 51 ((2 * y) + 1) (μ.1 46 (x1 * 9 + 8))) 46 ((x1 * 9) + 8) y).2.1 46 = μ.2.1 46 := rfl; omega) (by unfold ir; omega) dX1_putUnder_115 rfl (fun H locs G => ?_)
            refine lv_aload_n hx hb dX1_putUnder_116 rfl (lv_at hl 1 rfl) ?_
            refine lv_dup hx hb dX1_putUnder_117 rfl ?_
            refine xa_geti G fd_X1 (a := 45) (x := y) 4 rfl (by decide) rfl (wm 2 71 rfl rfl) ⟨rfl, rfl, rfl⟩ dX1_putUnder_118 rfl ((sv_n _ (fun h9 => absurd h9.1 (by decide))).trans ((sv_n _ (fun h9 => absurd h9.1 (by decide))).trans ((sv_n _ (fun h9 => absurd h9.1 (by decide))).trans ((sv_n _ (fun h9 => absurd h9.1 (by decide))).trans hy.symm)))) ?_
            refine lv_iconst (v := iv 1) hx hb dX1_putUnder_121 rfl ?_
            refine xb_iadd hx hb dX1_putUnder_122 ?_
            refine xa_puti G fd_X1 (a := 45) (x := y + 1) 4 (kz := 4) rfl rfl (by decide) rfl (by unfold ir; omega) (wm 2 71 rfl rfl) ⟨rfl, rfl, rfl, rfl⟩ rfl dX1_putUnder_123 rfl (fun H locs G => ?_)
            have hF9 : Fr [45, 46, 51] μ (sv (sv (sv (sv (sv μ 51 (2 * y) x2) 51 ((2 * y) + 1) (μ.1 46 (x1 * 9 + 8))) 46 ((x1 * 9) + 8) y) 46 ((x1 * 9) + 4) y_24) 45 4 (y + 1)) := (Fr.put (Fr.put (Fr.put (Fr.put (Fr.put Fr.rf (by decide)) (by decide)) (by decide)) (by decide)) (by decide))
            have e1_f : (sv (sv (sv (sv (sv μ 51 (2 * y) x2) 51 ((2 * y) + 1) (μ.1 46 (x1 * 9 + 8))) 46 ((x1 * 9) + 8) y) 46 ((x1 * 9) + 4) y_24) 45 4 (y + 1)).1 45 1 = n := ((sv_n _ (by decide)).trans ((sv_n _ (fun h9 => absurd h9.1 (by decide))).trans ((sv_n _ (fun h9 => absurd h9.1 (by decide))).trans ((sv_n _ (fun h9 => absurd h9.1 (by decide))).trans ((sv_n _ (fun h9 => absurd h9.1 (by decide))).trans hn.symm)))))
            have e2_f : (sv (sv (sv (sv (sv μ 51 (2 * y) x2) 51 ((2 * y) + 1) (μ.1 46 (x1 * 9 + 8))) 46 ((x1 * 9) + 8) y) 46 ((x1 * 9) + 4) y_24) 45 4 (y + 1)).1 45 4 = y + 1 := (sv_s _ _ _ _)
            have e3_f : (sv (sv (sv (sv (sv μ 51 (2 * y) x2) 51 ((2 * y) + 1) (μ.1 46 (x1 * 9 + 8))) 46 ((x1 * 9) + 8) y) 46 ((x1 * 9) + 4) y_24) 45 4 (y + 1)).2.1 46 = μ.2.1 46 := rfl
            have e4_f : (sv (sv (sv (sv (sv μ 51 (2 * y) x2) 51 ((2 * y) + 1) (μ.1 46 (x1 * 9 + 8))) 46 ((x1 * 9) + 8) y) 46 ((x1 * 9) + 4) y_24) 45 4 (y + 1)).2.1 51 = μ.2.1 51 := rfl
            have hI_25 : IC (sv (sv (sv (sv (sv μ 51 (2 * y) x2) 51 ((2 * y) + 1) (μ.1 46 (x1 * 9 + 8))) 46 ((x1 * 9) + 8) y) 46 ((x1 * 9) + 4) y_24) 45 4 (y + 1)) := hI.resF hF9 (by omega) (by omega) (RM.same (hI.rm) rfl)
            have e_26 : (sv (sv (sv (sv (sv μ 51 (2 * y) x2) 51 ((2 * y) + 1) (μ.1 46 (x1 * 9 + 8))) 46 ((x1 * 9) + 8) y) 46 ((x1 * 9) + 4) y_24) 45 4 (y + 1)).1 45 1 = n := ((sv_n _ (by decide)).trans ((sv_n _ (fun h9 => absurd h9.1 (by decide))).trans ((sv_n _ (fun h9 => absurd h9.1 (by decide))).trans ((sv_n _ (fun h9 => absurd h9.1 (by decide))).trans ((sv_n _ (fun h9 => absurd h9.1 (by decide))).trans hn.symm)))))
            have e_27 : (sv (sv (sv (sv (sv μ 51 (2 * y) x2) 51 ((2 * y) + 1) (μ.1 46 (x1 * 9 + 8))) 46 ((x1 * 9) + 8) y) 46 ((x1 * 9) + 4) y_24) 45 4 (y + 1)).1 45 4 = y + 1 := (sv_s _ _ _ _)
            have e_28 : (sv (sv (sv (sv (sv μ 51 (2 * y) x2) 51 ((2 * y) + 1) (μ.1 46 (x1 * 9 + 8))) 46 ((x1 * 9) + 8) y) 46 ((x1 * 9) + 4) y_24) 45 4 (y + 1)).1 45 4 = y + 1 := (sv_s _ _ _ _)
            have e_29 : (sv (sv (sv (sv (sv μ 51 (2 * y) x2) 51 ((2 * y) + 1) (μ.1 46 (x1 * 9 + 8))) 46 ((x1 * 9) + 8) y) 46 ((x1 * 9) + 4) y_24) 45 4 (y + 1)).1 45 1 = n := ((sv_n _ (by decide)).trans ((sv_n _ (fun h9 => absurd h9.1 (by decide))).trans ((sv_n _ (fun h9 => absurd h9.1 (by decide))).trans ((sv_n _ (fun h9 => absurd h9.1 (by decide))).trans ((sv_n _ (fun h9 => absurd h9.1 (by decide))).trans hn.symm)))))
            exact xr_v G hret hlk dX1_putUnder_126 ⟨(Fr.put (Fr.put (Fr.put (Fr.put (Fr.put Fr.rf (by decide)) (by decide)) (by decide)) (by decide)) (by decide)), hI_25, (by omega), (by omega), (by omega)⟩
          · refine lv_aload_n hx hb dX1_putUnder_40 rfl (lv_at hl 1 rfl) ?_
            refine lv_aload_n hx hb dX1_putUnder_41 rfl (lv_at hl 1 rfl) ?_
            refine xa_getr G fd_X1 (a := 45) (x := 51) 3 rfl (by decide) rfl (wm 2 70 rfl rfl) ⟨rfl, rfl, rfl⟩ dX1_putUnder_42 rfl (G.sk 54 rfl) (by decide) rfl ?_
            refine lv_iconst (v := iv 2) hx hb dX1_putUnder_45 rfl ?_
            refine lv_aload_n hx hb dX1_putUnder_46 rfl (lv_at hl 1 rfl) ?_
            refine xa_getr G fd_X1 (a := 45) (x := 51) 3 rfl (by decide) rfl (wm 2 70 rfl rfl) ⟨rfl, rfl, rfl⟩ dX1_putUnder_47 rfl (G.sk 54 rfl) (by decide) rfl ?_
            refine xa_alen G (a := 51) (t := 0) rfl (by decide) dX1_putUnder_50 rfl ?_
            refine xb_imul hx hb dX1_putUnder_51 ?_
            have hrm_322 : 2 * μ.2.1 51 ≤ 2 * (μ.2.1 51) ∧ 2 * (μ.2.1 51) ≤ 40200 ∧ μ.2.1 51 < 2 * (μ.2.1 51) := by have h9 : μ.2.1 51 = μ.2.1 51 := rfl; omega
            refine xg_int (pc := 52) G fd_X1 (a := 45) (b := 51) (n := 2 * (μ.2.1 51)) 3 rfl (by decide) rfl rfl (G.sk 54 rfl) rfl rfl (by decide +kernel) (by decide +kernel) (by omega) (hI.rm.roomy (show ((51 : Int), (40200 : Int)) ∈ CPL by decide +kernel) hrm_322.1 hrm_322.2.1) (wm 5 167 rfl rfl) (wm 3 19 rfl rfl) (wm 1 8 rfl rfl) hR (by decide) (wm 2 70 rfl rfl) ⟨rfl, rfl, rfl, rfl⟩ rfl hl.1 (by decide) dX1_putUnder_52 dX1_putUnder_55 (fun ρ f_30 H locs hf_31 G => ?_)
            have hrm_32 : RM (gro μ 51 (2 * (μ.2.1 51)) f_30) := hI.rm.gro (show ((51 : Int), (40200 : Int)) ∈ CPL by decide +kernel) hrm_322.1 hrm_322.2.1
            refine lv_aload_n hx hb dX1_putUnder_58 rfl (lv_at hl 1 rfl) ?_
            refine xa_getr G fd_X1 (a := 45) (x := 51) 3 rfl (by decide) rfl (wm 2 70 rfl rfl) ⟨rfl, rfl, rfl⟩ dX1_putUnder_59 rfl (G.sk 54 rfl) (by decide) rfl ?_
            refine lv_iload_n hx hb dX1_putUnder_62 rfl (lv_at hl 0 rfl) ?_
            refine lv_iload_n hx hb dX1_putUnder_63 rfl (lv_at hl 3 rfl) ?_
            refine xa_iast G (a := 51) (i := 2 * y) (x := x2) rfl (by have h9 : (gro μ 51 (2 * (μ.2.1 51)) f_30).2.1 51 = 2 * (μ.2.1 51) := (gro_ls μ 51 (2 * (μ.2.1 51)) f_30); omega) (by unfold ir; omega) dX1_putUnder_64 rfl (fun H locs G => ?_)
            refine lv_aload_n hx hb dX1_putUnder_65 rfl (lv_at hl 1 rfl) ?_
            refine xa_getr G fd_X1 (a := 45) (x := 51) 3 rfl (by decide) rfl (wm 2 70 rfl rfl) ⟨rfl, rfl, rfl⟩ dX1_putUnder_66 rfl (G.sk 54 rfl) (by decide) rfl ?_
            refine lv_iload_n hx hb dX1_putUnder_69 rfl (lv_at hl 0 rfl) ?_
            refine lv_iconst (v := iv 1) hx hb dX1_putUnder_70 rfl ?_
            refine xb_iadd hx hb dX1_putUnder_71 ?_
            refine lv_aload_n hx hb dX1_putUnder_72 rfl (lv_at hl 1 rfl) ?_
            refine xa_getr G fd_X1 (a := 45) (x := 46) 0 rfl (by decide) rfl (wm 2 67 rfl rfl) ⟨rfl, rfl, rfl⟩ dX1_putUnder_73 rfl (G.sk 52 rfl) (by decide) rfl ?_
            refine lv_iload_n hx hb dX1_putUnder_76 rfl (lv_at hl 2 rfl) ?_
            refine lv_bipush (v := iv 9) hx hb dX1_putUnder_77 rfl ?_
            refine xb_imul hx hb dX1_putUnder_79 ?_
            refine lv_bipush (v := iv 8) hx hb dX1_putUnder_80 rfl ?_
            refine xb_iadd hx hb dX1_putUnder_82 ?_
            refine xa_iald G (a := 46) (i := (x1 * 9) + 8) rfl (by have h9 : (sv (gro μ 51 (2 * (μ.2.1 51)) f_30) 51 (2 * y) x2).2.1 46 = μ.2.1 46 := (gro_lo (f := f_30) μ (by decide)); omega) dX1_putUnder_83 rfl ?_
            refine xb_ti (y := μ.1 46 (x1 * 9 + 8)) ((sv_n _ (fun h9 => absurd h9.1 (by decide))).trans (gro_o _ (by decide) _)) ?_
            have hr_33 : -2147483648 ≤ μ.1 46 (x1 * 9 + 8) ∧ μ.1 46 (x1 * 9 + 8) ≤ 2147483647 := by have h9 := G.hr (a := 46) (k := (x1 * 9) + 8) rfl; rw [((sv_n _ (fun h9 => absurd h9.1 (by decide))).trans (gro_o _ (by decide) _))] at h9; exact h9
            refine xa_iast G (a := 51) (i := (2 * y) + 1) (x := μ.1 46 (x1 * 9 + 8)) rfl (by have h9 : (sv (gro μ 51 (2 * (μ.2.1 51)) f_30) 51 (2 * y) x2).2.1 51 = 2 * (μ.2.1 51) := (gro_ls μ 51 (2 * (μ.2.1 51)) f_30); omega) (by unfold ir; omega) dX1_putUnder_84 rfl (fun H locs G => ?_)
            refine lv_aload_n hx hb dX1_putUnder_85 rfl (lv_at hl 1 rfl) ?_
            refine xa_getr G fd_X1 (a := 45) (x := 46) 0 rfl (by decide) rfl (wm 2 67 rfl rfl) ⟨rfl, rfl, rfl⟩ dX1_putUnder_86 rfl (G.sk 52 rfl) (by decide) rfl ?_
            refine lv_iload_n hx hb dX1_putUnder_89 rfl (lv_at hl 2 rfl) ?_
            refine lv_bipush (v := iv 9) hx hb dX1_putUnder_90 rfl ?_
            refine xb_imul hx hb dX1_putUnder_92 ?_
            refine lv_bipush (v := iv 8) hx hb dX1_putUnder_93 rfl ?_
            refine xb_iadd hx hb dX1_putUnder_95 ?_
            refine lv_aload_n hx hb dX1_putUnder_96 rfl (lv_at hl 1 rfl) ?_
            refine xa_geti G fd_X1 (a := 45) (x := y) 4 rfl (by decide) rfl (wm 2 71 rfl rfl) ⟨rfl, rfl, rfl⟩ dX1_putUnder_97 rfl ((sv_n _ (fun h9 => absurd h9.1 (by decide))).trans ((sv_n _ (fun h9 => absurd h9.1 (by decide))).trans ((gro_o _ (by decide) _).trans hy.symm))) ?_
            refine xa_iast G (a := 46) (i := (x1 * 9) + 8) (x := y) rfl (by have h9 : (sv (sv (gro μ 51 (2 * (μ.2.1 51)) f_30) 51 (2 * y) x2) 51 ((2 * y) + 1) (μ.1 46 (x1 * 9 + 8))).2.1 46 = μ.2.1 46 := (gro_lo (f := f_30) μ (by decide)); omega) (by unfold ir; omega) dX1_putUnder_100 rfl (fun H locs G => ?_)
            refine lv_aload_n hx hb dX1_putUnder_101 rfl (lv_at hl 1 rfl) ?_
            refine xa_getr G fd_X1 (a := 45) (x := 46) 0 rfl (by decide) rfl (wm 2 67 rfl rfl) ⟨rfl, rfl, rfl⟩ dX1_putUnder_102 rfl (G.sk 52 rfl) (by decide) rfl ?_
            refine lv_iload_n hx hb dX1_putUnder_105 rfl (lv_at hl 2 rfl) ?_
            refine lv_bipush (v := iv 9) hx hb dX1_putUnder_106 rfl ?_
            refine xb_imul hx hb dX1_putUnder_108 ?_
            refine lv_iconst (v := iv 4) hx hb dX1_putUnder_109 rfl ?_
            refine xb_iadd hx hb dX1_putUnder_110 ?_
            refine lv_dup2_11 hx hb dX1_putUnder_111 rfl rfl ?_
            refine xa_iald G (a := 46) (i := (x1 * 9) + 4) rfl (by have h9 : (sv (sv (sv (gro μ 51 (2 * (μ.2.1 51)) f_30) 51 (2 * y) x2) 51 ((2 * y) + 1) (μ.1 46 (x1 * 9 + 8))) 46 ((x1 * 9) + 8) y).2.1 46 = μ.2.1 46 := (gro_lo (f := f_30) μ (by decide)); omega) dX1_putUnder_112 rfl ?_
            refine xb_ti (y := μ.1 46 (x1 * 9 + 4)) ((sv_n _ (by omega)).trans ((sv_n _ (fun h9 => absurd h9.1 (by decide))).trans ((sv_n _ (fun h9 => absurd h9.1 (by decide))).trans (gro_o _ (by decide) _)))) ?_
            have hr_34 : -2147483648 ≤ μ.1 46 (x1 * 9 + 4) ∧ μ.1 46 (x1 * 9 + 4) ≤ 2147483647 := by have h9 := G.hr (a := 46) (k := (x1 * 9) + 4) rfl; rw [((sv_n _ (by omega)).trans ((sv_n _ (fun h9 => absurd h9.1 (by decide))).trans ((sv_n _ (fun h9 => absurd h9.1 (by decide))).trans (gro_o _ (by decide) _))))] at h9; exact h9
            refine lv_iconst (v := iv 1) hx hb dX1_putUnder_113 rfl ?_
            refine xb_iadd hx hb dX1_putUnder_114 ?_
            refine xb_topi (fun y_35 hr_y_35 he_y_35 => ?_)
            have hr_y_35 : -2147483648 ≤ y_35 ∧ y_35 ≤ 2147483647 := hr_y_35
            refine xa_iast G (a := 46) (i := (x1 * 9) + 4) (x := y_35) rfl (by have h9 : (sv (sv (sv (gro μ 51 (2 * (μ.2.1 51)) f_30) 51 (2 * y) x2) 51 ((2 * y) + 1) (μ.1 46 (x1 * 9 + 8))) 46 ((x1 * 9) + 8) y).2.1 46 = μ.2.1 46 := (gro_lo (f := f_30) μ (by decide)); omega) (by unfold ir; omega) dX1_putUnder_115 rfl (fun H locs G => ?_)
            refine lv_aload_n hx hb dX1_putUnder_116 rfl (lv_at hl 1 rfl) ?_
            refine lv_dup hx hb dX1_putUnder_117 rfl ?_
            refine xa_geti G fd_X1 (a := 45) (x := y) 4 rfl (by decide) rfl (wm 2 71 rfl rfl) ⟨rfl, rfl, rfl⟩ dX1_putUnder_118 rfl ((sv_n _ (fun h9 => absurd h9.1 (by decide))).trans ((sv_n _ (fun h9 => absurd h9.1 (by decide))).trans ((sv_n _ (fun h9 => absurd h9.1 (by decide))).trans ((sv_n _ (fun h9 => absurd h9.1 (by decide))).trans ((gro_o _ (by decide) _).trans hy.symm))))) ?_
            refine lv_iconst (v := iv 1) hx hb dX1_putUnder_121 rfl ?_
            refine xb_iadd hx hb dX1_putUnder_122 ?_
            refine xa_puti G fd_X1 (a := 45) (x := y + 1) 4 (kz := 4) rfl rfl (by decide) rfl (by unfold ir; omega) (wm 2 71 rfl rfl) ⟨rfl, rfl, rfl, rfl⟩ rfl dX1_putUnder_123 rfl (fun H locs G => ?_)
            have hF9 : Fr [45, 46, 51] μ (sv (sv (sv (sv (sv (gro μ 51 (2 * (μ.2.1 51)) f_30) 51 (2 * y) x2) 51 ((2 * y) + 1) (μ.1 46 (x1 * 9 + 8))) 46 ((x1 * 9) + 8) y) 46 ((x1 * 9) + 4) y_35) 45 4 (y + 1)) := (Fr.put (Fr.put (Fr.put (Fr.put (Fr.put (Fr.gro Fr.rf (by decide)) (by decide)) (by decide)) (by decide)) (by decide)) (by decide))
            have e1_f : (sv (sv (sv (sv (sv (gro μ 51 (2 * (μ.2.1 51)) f_30) 51 (2 * y) x2) 51 ((2 * y) + 1) (μ.1 46 (x1 * 9 + 8))) 46 ((x1 * 9) + 8) y) 46 ((x1 * 9) + 4) y_35) 45 4 (y + 1)).1 45 1 = n := ((sv_n _ (by decide)).trans ((sv_n _ (fun h9 => absurd h9.1 (by decide))).trans ((sv_n _ (fun h9 => absurd h9.1 (by decide))).trans ((sv_n _ (fun h9 => absurd h9.1 (by decide))).trans ((sv_n _ (fun h9 => absurd h9.1 (by decide))).trans ((gro_o _ (by decide) _).trans hn.symm))))))
            have e2_f : (sv (sv (sv (sv (sv (gro μ 51 (2 * (μ.2.1 51)) f_30) 51 (2 * y) x2) 51 ((2 * y) + 1) (μ.1 46 (x1 * 9 + 8))) 46 ((x1 * 9) + 8) y) 46 ((x1 * 9) + 4) y_35) 45 4 (y + 1)).1 45 4 = y + 1 := (sv_s _ _ _ _)
            have e3_f : (sv (sv (sv (sv (sv (gro μ 51 (2 * (μ.2.1 51)) f_30) 51 (2 * y) x2) 51 ((2 * y) + 1) (μ.1 46 (x1 * 9 + 8))) 46 ((x1 * 9) + 8) y) 46 ((x1 * 9) + 4) y_35) 45 4 (y + 1)).2.1 46 = μ.2.1 46 := (gro_lo (f := f_30) μ (by decide))
            have e4_f : (sv (sv (sv (sv (sv (gro μ 51 (2 * (μ.2.1 51)) f_30) 51 (2 * y) x2) 51 ((2 * y) + 1) (μ.1 46 (x1 * 9 + 8))) 46 ((x1 * 9) + 8) y) 46 ((x1 * 9) + 4) y_35) 45 4 (y + 1)).2.1 51 = 2 * (μ.2.1 51) := (gro_ls μ 51 (2 * (μ.2.1 51)) f_30)
            have hI_36 : IC (sv (sv (sv (sv (sv (gro μ 51 (2 * (μ.2.1 51)) f_30) 51 (2 * y) x2) 51 ((2 * y) + 1) (μ.1 46 (x1 * 9 + 8))) 46 ((x1 * 9) + 8) y) 46 ((x1 * 9) + 4) y_35) 45 4 (y + 1)) := hI.resF hF9 (by omega) (by omega) (RM.same (hrm_32) rfl)
            have e_37 : (sv (sv (sv (sv (sv (gro μ 51 (2 * (μ.2.1 51)) f_30) 51 (2 * y) x2) 51 ((2 * y) + 1) (μ.1 46 (x1 * 9 + 8))) 46 ((x1 * 9) + 8) y) 46 ((x1 * 9) + 4) y_35) 45 4 (y + 1)).1 45 1 = n := ((sv_n _ (by decide)).trans ((sv_n _ (fun h9 => absurd h9.1 (by decide))).trans ((sv_n _ (fun h9 => absurd h9.1 (by decide))).trans ((sv_n _ (fun h9 => absurd h9.1 (by decide))).trans ((sv_n _ (fun h9 => absurd h9.1 (by decide))).trans ((gro_o _ (by decide) _).trans hn.symm))))))
            have e_38 : (sv (sv (sv (sv (sv (gro μ 51 (2 * (μ.2.1 51)) f_30) 51 (2 * y) x2) 51 ((2 * y) + 1) (μ.1 46 (x1 * 9 + 8))) 46 ((x1 * 9) + 8) y) 46 ((x1 * 9) + 4) y_35) 45 4 (y + 1)).1 45 4 = y + 1 := (sv_s _ _ _ _)
            have e_39 : (sv (sv (sv (sv (sv (gro μ 51 (2 * (μ.2.1 51)) f_30) 51 (2 * y) x2) 51 ((2 * y) + 1) (μ.1 46 (x1 * 9 + 8))) 46 ((x1 * 9) + 8) y) 46 ((x1 * 9) + 4) y_35) 45 4 (y + 1)).1 45 4 = y + 1 := (sv_s _ _ _ _)
            have e_40 : (sv (sv (sv (sv (sv (gro μ 51 (2 * (μ.2.1 51)) f_30) 51 (2 * y) x2) 51 ((2 * y) + 1) (μ.1 46 (x1 * 9 + 8))) 46 ((x1 * 9) + 8) y) 46 ((x1 * 9) + 4) y_35) 45 4 (y + 1)).1 45 1 = n := ((sv_n _ (by decide)).trans ((sv_n _ (fun h9 => absurd h9.1 (by decide))).trans ((sv_n _ (fun h9 => absurd h9.1 (by decide))).trans ((sv_n _ (fun h9 => absurd h9.1 (by decide))).trans ((sv_n _ (fun h9 => absurd h9.1 (by decide))).trans ((gro_o _ (by decide) _).trans hn.symm))))))
            exact xr_v G hret hlk dX1_putUnder_126 ⟨(Fr.put (Fr.put (Fr.put (Fr.put (Fr.put (Fr.gro Fr.rf (by decide)) (by decide)) (by decide)) (by decide)) (by decide)) (by decide)), hI_36, (by omega), (by omega), (by omega)⟩
        · have hF9 : Fr [45, 46, 51] μ μ := Fr.rf
          have e1_f : μ.1 45 1 = n := hn.symm
          have e2_f : μ.1 45 4 = y := hy.symm
          have e3_f : μ.2.1 46 = μ.2.1 46 := rfl
          have e4_f : μ.2.1 51 = μ.2.1 51 := rfl
          have hI_41 : IC μ := hI.resF hF9 (by omega) (by omega) (RM.same (hI.rm) rfl)
          have e_42 : μ.1 45 1 = n := hn.symm
          have e_43 : μ.1 45 4 = y := hy.symm
          have e_44 : μ.1 45 4 = y := hy.symm
          have e_45 : μ.1 45 1 = n := hn.symm
          exact xr_v G hret hlk dX1_putUnder_21 ⟨Fr.rf, hI_41, (by omega), (by omega), (by omega)⟩

set_option maxHeartbeats 4000000 in
set_option maxRecDepth 100000 in
theorem c_X1_source (ω : Om) (l : Launch) (μ : M3) (x1 : Int) (x2 : Int) (hx1 : ir x1) (hx2 : ir x2) (hI : IC μ) : CtI ω l yX1_source cX1_source 5 .int 2 43 [.ref (oP ω 45), .int (iv x1), .int (iv x2)] μ (fun (r : Int) (μ' : M3) => (μ' = μ)) := by
  refine CtI.go (by decide) (Nat.le_of_ble_eq_true rfl) (fun ρ p e s m below meth c R ls G hR hret hlk hl => ?_)
  have hx := G.1.1
  have hb := G.1.2.1
  have hl : lv_has ls 5 [(0, .ref (oP ω 45)), (1, .int (iv x1)), (2, .int (iv x2))] := hl
  generalize s.drawn = d0 at G ⊢
  have hr_x1 : -2147483648 ≤ x1 ∧ x1 ≤ 2147483647 := hx1
  have hr_x2 : -2147483648 ≤ x2 ∧ x2 ≤ 2147483647 := hx2
  have hk_1 := hI.row (r := 47) (by unfold isRow; decide)
  unfold rk at hk_1
  simp only [Int.reduceAdd] at hk_1
  have hbr_47 : BR 47 = 5010 := rfl
  have hc_1 : 16 ≤ μ.2.1 46 ∧ μ.2.1 46 ≤ 90400 := hI.rm.1 (46, 90400) (by decide +kernel)
  have hc_2 : 16 ≤ μ.2.1 51 ∧ μ.2.1 51 ≤ 40200 := hI.rm.1 (51, 40200) (by decide +kernel)
  refine lv_iload_n hx hb dX1_source_0 rfl (lv_at hl 2 rfl) ?_
  refine xb_if_ge (tgt := 8) hx hb (by unfold ir; omega) dX1_source_1 (by decide) (fun c_1 => ?_) (fun c_1 => ?_)
  · refine lv_iload_n hx hb dX1_source_8 rfl (lv_at hl 1 rfl) ?_
    refine lv_istore_n (lv' := [(3, .int (iv x1)), (0, .ref (oP ω 45)), (1, .int (iv x1)), (2, .int (iv x2))]) hx hb dX1_source_9 rfl hl (by decide) rfl (fun ls hl => ?_)
    refine lv_iconst (v := iv 0) hx hb dX1_source_10 rfl ?_
    refine lv_istore (lv' := [(4, .int (iv 0)), (3, .int (iv x1)), (0, .ref (oP ω 45)), (1, .int (iv x1)), (2, .int (iv x2))]) hx hb dX1_source_11 hl (by decide) rfl (fun ls hl => ?_)
    refine xl (fun n_9 μ' ls => ∃ (a9 : Int), ∃ (i9 : Int), (μ' = μ) ∧ (-2147483648 ≤ a9 ∧ a9 ≤ 2147483647) ∧ (-2147483648 ≤ i9 ∧ i9 ≤ 2147483647) ∧ (0 ≤ i9) ∧ n_9 = Int.toNat (x2 - i9) ∧ lv_has ls 5 [(4, .int (iv i9)), (3, .int (iv a9)), (0, .ref (oP ω 45)), (1, .int (iv x1)), (2, .int (iv x2))]) (fun n_9 ρ μL2 d0 H locs ls hI_l G ih => ?_) _ _ _ _ _ _ _ ⟨x1, 0, rfl, (by omega), (by omega), (by omega), rfl, lv_sub hl [0, 1, 2, 3, 4] rfl⟩ G
    obtain ⟨a9, i9, FL3, hi_5, hi_6, hi_7, hn4, hl⟩ := hI_l
    have FL3 := Eq.symm FL3
    subst FL3
    refine lv_iload hx hb dX1_source_13 (lv_at hl 0 rfl) ?_
    refine lv_iload_n hx hb dX1_source_15 rfl (lv_at hl 4 rfl) ?_
    refine xb_icmp_ge (tgt := 37) hx hb (by unfold ir; omega) (by unfold ir; omega) dX1_source_16 (by decide) (fun c_16 => ?_) (fun c_16 => ?_)
    · refine lv_iload_n hx hb dX1_source_37 rfl (lv_at hl 1 rfl) ?_
      exact xr_i G (x := a9) hret hlk (by unfold ir; omega) rfl dX1_source_38 rfl
    · refine lv_iload_n hx hb dX1_source_19 rfl (lv_at hl 1 rfl) ?_
      refine xb_if_lt (tgt := 37) hx hb (by unfold ir; omega) dX1_source_20 (by decide) (fun c_20 => ?_) (fun c_20 => ?_)
      · refine lv_iload_n hx hb dX1_source_37 rfl (lv_at hl 1 rfl) ?_
        exact xr_i G (x := a9) hret hlk (by unfold ir; omega) rfl dX1_source_38 rfl
      · refine lv_aload_n hx hb dX1_source_23 rfl (lv_at hl 2 rfl) ?_
        refine lv_iload_n hx hb dX1_source_24 rfl (lv_at hl 1 rfl) ?_
        refine lv_bipush (v := iv 7) hx hb dX1_source_25 rfl ?_
        have hn_8 : 0 ≤ μ.1 45 1 ∧ 9 * μ.1 45 1 ≤ μ.2.1 46 := hI.nm.2.2.2.2.2.2.1
        have hn_9 : 0 ≤ μ.1 45 4 ∧ 2 * μ.1 45 4 ≤ μ.2.1 51 := hI.nm.2.2.2.2.2.2.2.1
        refine xc_iV G (b := 45) (rest := []) (As := [.int (iv a9), .int (iv 7)]) (c_X1_fact ω l μ a9 7 (μ.1 45 1) (μ.1 45 4) (by unfold ir; omega) (by unfold ir; omega) hI (by omega) (by omega)) (wm 7 122 rfl rfl) (wm 5 169 rfl rfl) (wm 5 170 rfl rfl) rfl rfl (by decide) rfl (wm 1 15 rfl rfl) (wm 5 171 rfl rfl) (by decide) hR (by decide) (n := 2) rfl rfl (Nat.le_of_ble_eq_true rfl) hl.1 dX1_source_27 (fun r_11 μ10 ρ d0 H locs hr_r_11 hp G => ?_)
        have hr_r_11 : -2147483648 ≤ r_11 ∧ r_11 ≤ 2147483647 := hr_r_11
        have hsm_12 := hp
        have hsm_12 := Eq.symm hsm_12
        subst hsm_12
        refine lv_istore_n (lv' := [(3, .int (iv r_11)), (4, .int (iv i9)), (0, .ref (oP ω 45)), (1, .int (iv x1)), (2, .int (iv x2))]) hx hb dX1_source_30 rfl hl (by decide) rfl (fun ls hl => ?_)
        refine lv_iinc (v := iv (i9 + 1)) (lv' := [(4, .int (iv (i9 + 1))), (3, .int (iv r_11)), (0, .ref (oP ω 45)), (1, .int (iv x1)), (2, .int (iv x2))]) hx hb dX1_source_31 hl (k := 1) rfl (by rw [show Int32.ofInt 1 = iv 1 from rfl, iv_add]) (by decide) rfl (fun ls hl => ?_)
        refine lv_goto (tgt := 13) hx hb dX1_source_34 (by decide) ?_
        exact ih _ _ _ _ _ _ _ (by omega) ⟨r_11, i9 + 1, rfl, (by omega), (by omega), (by omega), rfl, lv_sub hl [0, 1, 2, 3, 4] rfl⟩ G
  · refine lv_iconst (v := iv (-1)) hx hb dX1_source_4 rfl ?_
    refine lv_goto (tgt := 9) hx hb dX1_source_5 (by decide) ?_
    refine lv_istore_n (lv' := [(3, .int (iv (-1))), (0, .ref (oP ω 45)), (1, .int (iv x1)), (2, .int (iv x2))]) hx hb dX1_source_9 rfl hl (by decide) rfl (fun ls hl => ?_)
    refine lv_iconst (v := iv 0) hx hb dX1_source_10 rfl ?_
    refine lv_istore (lv' := [(4, .int (iv 0)), (3, .int (iv (-1))), (0, .ref (oP ω 45)), (1, .int (iv x1)), (2, .int (iv x2))]) hx hb dX1_source_11 hl (by decide) rfl (fun ls hl => ?_)
    refine xl (fun n_9 μ' ls => ∃ (a9 : Int), ∃ (i9 : Int), (μ' = μ) ∧ (-2147483648 ≤ a9 ∧ a9 ≤ 2147483647) ∧ (-2147483648 ≤ i9 ∧ i9 ≤ 2147483647) ∧ (0 ≤ i9) ∧ n_9 = Int.toNat (x2 - i9) ∧ lv_has ls 5 [(4, .int (iv i9)), (3, .int (iv a9)), (0, .ref (oP ω 45)), (1, .int (iv x1)), (2, .int (iv x2))]) (fun n_9 ρ μL13 d0 H locs ls hI_l G ih => ?_) _ _ _ _ _ _ _ ⟨(-1), 0, rfl, (by omega), (by omega), (by omega), rfl, lv_sub hl [0, 1, 2, 3, 4] rfl⟩ G
    obtain ⟨a9, i9, FL14, hi_16, hi_17, hi_18, hn15, hl⟩ := hI_l
    have FL14 := Eq.symm FL14
    subst FL14
    refine lv_iload hx hb dX1_source_13 (lv_at hl 0 rfl) ?_
    refine lv_iload_n hx hb dX1_source_15 rfl (lv_at hl 4 rfl) ?_
    refine xb_icmp_ge (tgt := 37) hx hb (by unfold ir; omega) (by unfold ir; omega) dX1_source_16 (by decide) (fun c_16 => ?_) (fun c_16 => ?_)
    · refine lv_iload_n hx hb dX1_source_37 rfl (lv_at hl 1 rfl) ?_
      exact xr_i G (x := a9) hret hlk (by unfold ir; omega) rfl dX1_source_38 rfl
    · refine lv_iload_n hx hb dX1_source_19 rfl (lv_at hl 1 rfl) ?_
      refine xb_if_lt (tgt := 37) hx hb (by unfold ir; omega) dX1_source_20 (by decide) (fun c_20 => ?_) (fun c_20 => ?_)
      · refine lv_iload_n hx hb dX1_source_37 rfl (lv_at hl 1 rfl) ?_
        exact xr_i G (x := a9) hret hlk (by unfold ir; omega) rfl dX1_source_38 rfl
      · refine lv_aload_n hx hb dX1_source_23 rfl (lv_at hl 2 rfl) ?_
        refine lv_iload_n hx hb dX1_source_24 rfl (lv_at hl 1 rfl) ?_
        refine lv_bipush (v := iv 7) hx hb dX1_source_25 rfl ?_
        have hn_19 : 0 ≤ μ.1 45 1 ∧ 9 * μ.1 45 1 ≤ μ.2.1 46 := hI.nm.2.2.2.2.2.2.1
        have hn_20 : 0 ≤ μ.1 45 4 ∧ 2 * μ.1 45 4 ≤ μ.2.1 51 := hI.nm.2.2.2.2.2.2.2.1
        refine xc_iV G (b := 45) (rest := []) (As := [.int (iv a9), .int (iv 7)]) (c_X1_fact ω l μ a9 7 (μ.1 45 1) (μ.1 45 4) (by unfold ir; omega) (by unfold ir; omega) hI (by omega) (by omega)) (wm 7 122 rfl rfl) (wm 5 169 rfl rfl) (wm 5 170 rfl rfl) rfl rfl (by decide) rfl (wm 1 15 rfl rfl) (wm 5 171 rfl rfl) (by decide) hR (by decide) (n := 2) rfl rfl (Nat.le_of_ble_eq_true rfl) hl.1 dX1_source_27 (fun r_22 μ21 ρ d0 H locs hr_r_22 hp G => ?_)
        have hr_r_22 : -2147483648 ≤ r_22 ∧ r_22 ≤ 2147483647 := hr_r_22
        have hsm_23 := hp
        have hsm_23 := Eq.symm hsm_23
        subst hsm_23
        refine lv_istore_n (lv' := [(3, .int (iv r_22)), (4, .int (iv i9)), (0, .ref (oP ω 45)), (1, .int (iv x1)), (2, .int (iv x2))]) hx hb dX1_source_30 rfl hl (by decide) rfl (fun ls hl => ?_)
        refine lv_iinc (v := iv (i9 + 1)) (lv' := [(4, .int (iv (i9 + 1))), (3, .int (iv r_22)), (0, .ref (oP ω 45)), (1, .int (iv x1)), (2, .int (iv x2))]) hx hb dX1_source_31 hl (k := 1) rfl (by rw [show Int32.ofInt 1 = iv 1 from rfl, iv_add]) (by decide) rfl (fun ls hl => ?_)
        refine lv_goto (tgt := 13) hx hb dX1_source_34 (by decide) ?_
        exact ih _ _ _ _ _ _ _ (by omega) ⟨r_22, i9 + 1, rfl, (by omega), (by omega), (by omega), rfl, lv_sub hl [0, 1, 2, 3, 4] rfl⟩ G

set_option maxHeartbeats 4000000 in
set_option maxRecDepth 100000 in
theorem c_X1_lower (ω : Om) (l : Launch) (μ : M3) (x1 : Int) (x2 : Int) (n : Int) (y : Int) (hx1 : ir x1) (hx2 : ir x2) (hI : IC μ) (hn : n = μ.1 45 1) (hy : y = μ.1 45 4) : CtI ω l yX1_lower cX1_lower 5 .int 2 43 [.ref (oP ω 45), .int (iv x1), .int (iv x2)] μ (fun (r : Int) (μ' : M3) => (μ' = μ)) := by
  refine CtI.go (by decide) (Nat.le_of_ble_eq_true rfl) (fun ρ p e s m below meth c R ls G hR hret hlk hl => ?_)
  have hx := G.1.1
  have hb := G.1.2.1
  have hl : lv_has ls 5 [(0, .ref (oP ω 45)), (1, .int (iv x1)), (2, .int (iv x2))] := hl
  generalize s.drawn = d0 at G ⊢
  have hr_x1 : -2147483648 ≤ x1 ∧ x1 ≤ 2147483647 := hx1
  have hr_x2 : -2147483648 ≤ x2 ∧ x2 ≤ 2147483647 := hx2
  have hn_1 : 0 ≤ μ.1 45 1 ∧ 9 * μ.1 45 1 ≤ μ.2.1 46 := hI.nm.2.2.2.2.2.2.1
  have hn_2 : 0 ≤ μ.1 45 4 ∧ 2 * μ.1 45 4 ≤ μ.2.1 51 := hI.nm.2.2.2.2.2.2.2.1
  have hk_3 := hI.row (r := 47) (by unfold isRow; decide)
  unfold rk at hk_3
  simp only [Int.reduceAdd] at hk_3
  have hbr_47 : BR 47 = 5010 := rfl
  have hc_1 : 16 ≤ μ.2.1 46 ∧ μ.2.1 46 ≤ 90400 := hI.rm.1 (46, 90400) (by decide +kernel)
  have hc_2 : 16 ≤ μ.2.1 51 ∧ μ.2.1 51 ≤ 40200 := hI.rm.1 (51, 40200) (by decide +kernel)
  refine lv_iload_n hx hb dX1_lower_0 rfl (lv_at hl 2 rfl) ?_
  refine xb_if_ge (tgt := 8) hx hb (by unfold ir; omega) dX1_lower_1 (by decide) (fun c_1 => ?_) (fun c_1 => ?_)
  · refine lv_aload_n hx hb dX1_lower_8 rfl (lv_at hl 0 rfl) ?_
    refine lv_iload_n hx hb dX1_lower_9 rfl (lv_at hl 1 rfl) ?_
    refine lv_bipush (v := iv 8) hx hb dX1_lower_10 rfl ?_
    have e_4 : μ.1 45 1 = n := hn.symm
    have e_5 : μ.1 45 4 = y := hy.symm
    refine xc_iV G (b := 45) (rest := []) (As := [.int (iv x1), .int (iv 8)]) (c_X1_fact ω l μ x1 8 n y (by unfold ir; omega) (by unfold ir; omega) hI (by omega) (by omega)) (wm 7 122 rfl rfl) (wm 5 169 rfl rfl) (wm 5 170 rfl rfl) rfl rfl (by decide) rfl (wm 1 15 rfl rfl) (wm 5 171 rfl rfl) (by decide) hR (by decide) (n := 2) rfl rfl (Nat.le_of_ble_eq_true rfl) hl.1 dX1_lower_12 (fun r_7 μ6 ρ d0 H locs hr_r_7 hp G => ?_)
    have hr_r_7 : -2147483648 ≤ r_7 ∧ r_7 ≤ 2147483647 := hr_r_7
    have hsm_8 := hp
    have hsm_8 := Eq.symm hsm_8
    subst hsm_8
    refine lv_istore_n (lv' := [(3, .int (iv r_7)), (0, .ref (oP ω 45)), (1, .int (iv x1)), (2, .int (iv x2))]) hx hb dX1_lower_15 rfl hl (by decide) rfl (fun ls hl => ?_)
    refine lv_iconst (v := iv 0) hx hb dX1_lower_16 rfl ?_
    refine lv_istore (lv' := [(4, .int (iv 0)), (3, .int (iv r_7)), (0, .ref (oP ω 45)), (1, .int (iv x1)), (2, .int (iv x2))]) hx hb dX1_lower_17 hl (by decide) rfl (fun ls hl => ?_)
    refine xl (fun n_9 μ' ls => ∃ (a9 : Int), ∃ (i9 : Int), (μ' = μ) ∧ (-2147483648 ≤ a9 ∧ a9 ≤ 2147483647) ∧ (-2147483648 ≤ i9 ∧ i9 ≤ 2147483647) ∧ (0 ≤ i9) ∧ n_9 = Int.toNat (x2 - i9) ∧ lv_has ls 5 [(4, .int (iv i9)), (3, .int (iv a9)), (0, .ref (oP ω 45)), (1, .int (iv x1)), (2, .int (iv x2))]) (fun n_9 ρ μL9 d0 H locs ls hI_l G ih => ?_) _ _ _ _ _ _ _ ⟨r_7, 0, rfl, (by omega), (by omega), (by omega), rfl, lv_sub hl [0, 1, 2, 3, 4] rfl⟩ G
    obtain ⟨a9, i9, FL10, hi_12, hi_13, hi_14, hn11, hl⟩ := hI_l
    have FL10 := Eq.symm FL10
    subst FL10
    refine lv_iload hx hb dX1_lower_19 (lv_at hl 0 rfl) ?_
    refine lv_iload_n hx hb dX1_lower_21 rfl (lv_at hl 4 rfl) ?_
    refine xb_icmp_ge (tgt := 54) hx hb (by unfold ir; omega) (by unfold ir; omega) dX1_lower_22 (by decide) (fun c_22 => ?_) (fun c_22 => ?_)
    · refine lv_iload_n hx hb dX1_lower_54 rfl (lv_at hl 1 rfl) ?_
      refine xb_if_lt (tgt := 77) hx hb (by unfold ir; omega) dX1_lower_55 (by decide) (fun c_55 => ?_) (fun c_55 => ?_)
      · refine lv_iconst (v := iv (-1)) hx hb dX1_lower_77 rfl ?_
        exact xr_i G (x := (-1)) hret hlk (by unfold ir; omega) rfl dX1_lower_78 rfl
      · refine lv_iload_n hx hb dX1_lower_58 rfl (lv_at hl 1 rfl) ?_
        refine lv_aload_n hx hb dX1_lower_59 rfl (lv_at hl 2 rfl) ?_
        refine xa_geti G fd_X1 (a := 45) (x := y) 4 rfl (by decide) rfl (wm 2 71 rfl rfl) ⟨rfl, rfl, rfl⟩ dX1_lower_60 rfl hy.symm ?_
        have hr_15 : -2147483648 ≤ y ∧ y ≤ 2147483647 := by have h9 := G.hr (a := 45) (k := 4) rfl; rw [show μ.1 45 4 = y from hy.symm] at h9; exact h9
        refine xb_icmp_ge (tgt := 77) hx hb (by unfold ir; omega) (by unfold ir; omega) dX1_lower_63 (by decide) (fun c_63 => ?_) (fun c_63 => ?_)
        · refine lv_iconst (v := iv (-1)) hx hb dX1_lower_77 rfl ?_
          exact xr_i G (x := (-1)) hret hlk (by unfold ir; omega) rfl dX1_lower_78 rfl
        · refine lv_aload_n hx hb dX1_lower_66 rfl (lv_at hl 2 rfl) ?_
          refine xa_getr G fd_X1 (a := 45) (x := 51) 3 rfl (by decide) rfl (wm 2 70 rfl rfl) ⟨rfl, rfl, rfl⟩ dX1_lower_67 rfl (G.sk 54 rfl) (by decide) rfl ?_
          refine lv_iconst (v := iv 2) hx hb dX1_lower_70 rfl ?_
          refine lv_iload_n hx hb dX1_lower_71 rfl (lv_at hl 1 rfl) ?_
          refine xb_imul hx hb dX1_lower_72 ?_
          refine xa_iald G (a := 51) (i := 2 * a9) rfl (by omega) dX1_lower_73 rfl ?_
          have hr_16 : -2147483648 ≤ μ.1 51 (2 * a9) ∧ μ.1 51 (2 * a9) ≤ 2147483647 := by have h9 := G.hr (a := 51) (k := 2 * a9) rfl; exact h9
          refine lv_goto (tgt := 78) hx hb dX1_lower_74 (by decide) ?_
          exact xr_i G (x := μ.1 51 (2 * a9)) hret hlk (by unfold ir; omega) rfl dX1_lower_78 rfl
    · refine lv_iload_n hx hb dX1_lower_25 rfl (lv_at hl 1 rfl) ?_
      refine xb_if_lt (tgt := 54) hx hb (by unfold ir; omega) dX1_lower_26 (by decide) (fun c_26 => ?_) (fun c_26 => ?_)
      · refine lv_iload_n hx hb dX1_lower_54 rfl (lv_at hl 1 rfl) ?_
        refine xb_if_lt (tgt := 77) hx hb (by unfold ir; omega) dX1_lower_55 (by decide) (fun c_55 => ?_) (fun c_55 => ?_)
        · refine lv_iconst (v := iv (-1)) hx hb dX1_lower_77 rfl ?_
          exact xr_i G (x := (-1)) hret hlk (by unfold ir; omega) rfl dX1_lower_78 rfl
        · refine lv_iload_n hx hb dX1_lower_58 rfl (lv_at hl 1 rfl) ?_
          refine lv_aload_n hx hb dX1_lower_59 rfl (lv_at hl 2 rfl) ?_
          refine xa_geti G fd_X1 (a := 45) (x := y) 4 rfl (by decide) rfl (wm 2 71 rfl rfl) ⟨rfl, rfl, rfl⟩ dX1_lower_60 rfl hy.symm ?_
          have hr_17 : -2147483648 ≤ y ∧ y ≤ 2147483647 := by have h9 := G.hr (a := 45) (k := 4) rfl; rw [show μ.1 45 4 = y from hy.symm] at h9; exact h9
          refine xb_icmp_ge (tgt := 77) hx hb (by unfold ir; omega) (by unfold ir; omega) dX1_lower_63 (by decide) (fun c_63 => ?_) (fun c_63 => ?_)
          · refine lv_iconst (v := iv (-1)) hx hb dX1_lower_77 rfl ?_
            exact xr_i G (x := (-1)) hret hlk (by unfold ir; omega) rfl dX1_lower_78 rfl
          · refine lv_aload_n hx hb dX1_lower_66 rfl (lv_at hl 2 rfl) ?_
            refine xa_getr G fd_X1 (a := 45) (x := 51) 3 rfl (by decide) rfl (wm 2 70 rfl rfl) ⟨rfl, rfl, rfl⟩ dX1_lower_67 rfl (G.sk 54 rfl) (by decide) rfl ?_
            refine lv_iconst (v := iv 2) hx hb dX1_lower_70 rfl ?_
            refine lv_iload_n hx hb dX1_lower_71 rfl (lv_at hl 1 rfl) ?_
            refine xb_imul hx hb dX1_lower_72 ?_
            refine xa_iald G (a := 51) (i := 2 * a9) rfl (by omega) dX1_lower_73 rfl ?_
            have hr_18 : -2147483648 ≤ μ.1 51 (2 * a9) ∧ μ.1 51 (2 * a9) ≤ 2147483647 := by have h9 := G.hr (a := 51) (k := 2 * a9) rfl; exact h9
            refine lv_goto (tgt := 78) hx hb dX1_lower_74 (by decide) ?_
            exact xr_i G (x := μ.1 51 (2 * a9)) hret hlk (by unfold ir; omega) rfl dX1_lower_78 rfl
      · refine lv_iload_n hx hb dX1_lower_29 rfl (lv_at hl 1 rfl) ?_
        refine lv_aload_n hx hb dX1_lower_30 rfl (lv_at hl 2 rfl) ?_
        refine xa_geti G fd_X1 (a := 45) (x := y) 4 rfl (by decide) rfl (wm 2 71 rfl rfl) ⟨rfl, rfl, rfl⟩ dX1_lower_31 rfl hy.symm ?_
        have hr_19 : -2147483648 ≤ y ∧ y ≤ 2147483647 := by have h9 := G.hr (a := 45) (k := 4) rfl; rw [show μ.1 45 4 = y from hy.symm] at h9; exact h9
        refine xb_icmp_ge (tgt := 54) hx hb (by unfold ir; omega) (by unfold ir; omega) dX1_lower_34 (by decide) (fun c_34 => ?_) (fun c_34 => ?_)
        · refine lv_iload_n hx hb dX1_lower_54 rfl (lv_at hl 1 rfl) ?_
          refine xb_if_lt (tgt := 77) hx hb (by unfold ir; omega) dX1_lower_55 (by decide) (fun c_55 => ?_) (fun c_55 => ?_)
          · refine lv_iconst (v := iv (-1)) hx hb dX1_lower_77 rfl ?_
            exact xr_i G (x := (-1)) hret hlk (by unfold ir; omega) rfl dX1_lower_78 rfl
          · refine lv_iload_n hx hb dX1_lower_58 rfl (lv_at hl 1 rfl) ?_
            refine lv_aload_n hx hb dX1_lower_59 rfl (lv_at hl 2 rfl) ?_
            refine xa_geti G fd_X1 (a := 45) (x := y) 4 rfl (by decide) rfl (wm 2 71 rfl rfl) ⟨rfl, rfl, rfl⟩ dX1_lower_60 rfl hy.symm ?_
            refine xb_icmp_ge (tgt := 77) hx hb (by unfold ir; omega) (by unfold ir; omega) dX1_lower_63 (by decide) (fun c_63 => ?_) (fun c_63 => ?_)
            · refine lv_iconst (v := iv (-1)) hx hb dX1_lower_77 rfl ?_
              exact xr_i G (x := (-1)) hret hlk (by unfold ir; omega) rfl dX1_lower_78 rfl
            · refine lv_aload_n hx hb dX1_lower_66 rfl (lv_at hl 2 rfl) ?_
              refine xa_getr G fd_X1 (a := 45) (x := 51) 3 rfl (by decide) rfl (wm 2 70 rfl rfl) ⟨rfl, rfl, rfl⟩ dX1_lower_67 rfl (G.sk 54 rfl) (by decide) rfl ?_
              refine lv_iconst (v := iv 2) hx hb dX1_lower_70 rfl ?_
              refine lv_iload_n hx hb dX1_lower_71 rfl (lv_at hl 1 rfl) ?_
              refine xb_imul hx hb dX1_lower_72 ?_
              refine xa_iald G (a := 51) (i := 2 * a9) rfl (by omega) dX1_lower_73 rfl ?_
              have hr_20 : -2147483648 ≤ μ.1 51 (2 * a9) ∧ μ.1 51 (2 * a9) ≤ 2147483647 := by have h9 := G.hr (a := 51) (k := 2 * a9) rfl; exact h9
              refine lv_goto (tgt := 78) hx hb dX1_lower_74 (by decide) ?_
              exact xr_i G (x := μ.1 51 (2 * a9)) hret hlk (by unfold ir; omega) rfl dX1_lower_78 rfl
        · refine lv_aload_n hx hb dX1_lower_37 rfl (lv_at hl 2 rfl) ?_
          refine xa_getr G fd_X1 (a := 45) (x := 51) 3 rfl (by decide) rfl (wm 2 70 rfl rfl) ⟨rfl, rfl, rfl⟩ dX1_lower_38 rfl (G.sk 54 rfl) (by decide) rfl ?_
          refine lv_iconst (v := iv 2) hx hb dX1_lower_41 rfl ?_
          refine lv_iload_n hx hb dX1_lower_42 rfl (lv_at hl 1 rfl) ?_
          refine xb_imul hx hb dX1_lower_43 ?_
          refine lv_iconst (v := iv 1) hx hb dX1_lower_44 rfl ?_
          refine xb_iadd hx hb dX1_lower_45 ?_
          refine xa_iald G (a := 51) (i := (2 * a9) + 1) rfl (by omega) dX1_lower_46 rfl ?_
          refine xb_ti (y := μ.1 51 (2 * a9 + 1)) rfl ?_
          have hr_21 : -2147483648 ≤ μ.1 51 (2 * a9 + 1) ∧ μ.1 51 (2 * a9 + 1) ≤ 2147483647 := by have h9 := G.hr (a := 51) (k := (2 * a9) + 1) rfl; exact h9
          refine lv_istore_n (lv' := [(3, .int (iv (μ.1 51 (2 * a9 + 1)))), (4, .int (iv i9)), (0, .ref (oP ω 45)), (1, .int (iv x1)), (2, .int (iv x2))]) hx hb dX1_lower_47 rfl hl (by decide) rfl (fun ls hl => ?_)
          refine lv_iinc (v := iv (i9 + 1)) (lv' := [(4, .int (iv (i9 + 1))), (3, .int (iv (μ.1 51 (2 * a9 + 1)))), (0, .ref (oP ω 45)), (1, .int (iv x1)), (2, .int (iv x2))]) hx hb dX1_lower_48 hl (k := 1) rfl (by rw [show Int32.ofInt 1 = iv 1 from rfl, iv_add]) (by decide) rfl (fun ls hl => ?_)
          refine lv_goto (tgt := 19) hx hb dX1_lower_51 (by decide) ?_
          exact ih _ _ _ _ _ _ _ (by omega) ⟨μ.1 51 (2 * a9 + 1), i9 + 1, rfl, (by omega), (by omega), (by omega), rfl, lv_sub hl [0, 1, 2, 3, 4] rfl⟩ G
  · refine lv_iconst (v := iv (-1)) hx hb dX1_lower_4 rfl ?_
    refine lv_goto (tgt := 15) hx hb dX1_lower_5 (by decide) ?_
    refine lv_istore_n (lv' := [(3, .int (iv (-1))), (0, .ref (oP ω 45)), (1, .int (iv x1)), (2, .int (iv x2))]) hx hb dX1_lower_15 rfl hl (by decide) rfl (fun ls hl => ?_)
    refine lv_iconst (v := iv 0) hx hb dX1_lower_16 rfl ?_
    refine lv_istore (lv' := [(4, .int (iv 0)), (3, .int (iv (-1))), (0, .ref (oP ω 45)), (1, .int (iv x1)), (2, .int (iv x2))]) hx hb dX1_lower_17 hl (by decide) rfl (fun ls hl => ?_)
    refine xl (fun n_9 μ' ls => ∃ (a9 : Int), ∃ (i9 : Int), (μ' = μ) ∧ (-2147483648 ≤ a9 ∧ a9 ≤ 2147483647) ∧ (-2147483648 ≤ i9 ∧ i9 ≤ 2147483647) ∧ (0 ≤ i9) ∧ n_9 = Int.toNat (x2 - i9) ∧ lv_has ls 5 [(4, .int (iv i9)), (3, .int (iv a9)), (0, .ref (oP ω 45)), (1, .int (iv x1)), (2, .int (iv x2))]) (fun n_9 ρ μL22 d0 H locs ls hI_l G ih => ?_) _ _ _ _ _ _ _ ⟨(-1), 0, rfl, (by omega), (by omega), (by omega), rfl, lv_sub hl [0, 1, 2, 3, 4] rfl⟩ G
    obtain ⟨a9, i9, FL23, hi_25, hi_26, hi_27, hn24, hl⟩ := hI_l
    have FL23 := Eq.symm FL23
    subst FL23
    refine lv_iload hx hb dX1_lower_19 (lv_at hl 0 rfl) ?_
    refine lv_iload_n hx hb dX1_lower_21 rfl (lv_at hl 4 rfl) ?_
    refine xb_icmp_ge (tgt := 54) hx hb (by unfold ir; omega) (by unfold ir; omega) dX1_lower_22 (by decide) (fun c_22 => ?_) (fun c_22 => ?_)
    · refine lv_iload_n hx hb dX1_lower_54 rfl (lv_at hl 1 rfl) ?_
      refine xb_if_lt (tgt := 77) hx hb (by unfold ir; omega) dX1_lower_55 (by decide) (fun c_55 => ?_) (fun c_55 => ?_)
      · refine lv_iconst (v := iv (-1)) hx hb dX1_lower_77 rfl ?_
        exact xr_i G (x := (-1)) hret hlk (by unfold ir; omega) rfl dX1_lower_78 rfl
      · refine lv_iload_n hx hb dX1_lower_58 rfl (lv_at hl 1 rfl) ?_
        refine lv_aload_n hx hb dX1_lower_59 rfl (lv_at hl 2 rfl) ?_
        refine xa_geti G fd_X1 (a := 45) (x := y) 4 rfl (by decide) rfl (wm 2 71 rfl rfl) ⟨rfl, rfl, rfl⟩ dX1_lower_60 rfl hy.symm ?_
        have hr_28 : -2147483648 ≤ y ∧ y ≤ 2147483647 := by have h9 := G.hr (a := 45) (k := 4) rfl; rw [show μ.1 45 4 = y from hy.symm] at h9; exact h9
        refine xb_icmp_ge (tgt := 77) hx hb (by unfold ir; omega) (by unfold ir; omega) dX1_lower_63 (by decide) (fun c_63 => ?_) (fun c_63 => ?_)
        · refine lv_iconst (v := iv (-1)) hx hb dX1_lower_77 rfl ?_
          exact xr_i G (x := (-1)) hret hlk (by unfold ir; omega) rfl dX1_lower_78 rfl
        · refine lv_aload_n hx hb dX1_lower_66 rfl (lv_at hl 2 rfl) ?_
          refine xa_getr G fd_X1 (a := 45) (x := 51) 3 rfl (by decide) rfl (wm 2 70 rfl rfl) ⟨rfl, rfl, rfl⟩ dX1_lower_67 rfl (G.sk 54 rfl) (by decide) rfl ?_
          refine lv_iconst (v := iv 2) hx hb dX1_lower_70 rfl ?_
          refine lv_iload_n hx hb dX1_lower_71 rfl (lv_at hl 1 rfl) ?_
          refine xb_imul hx hb dX1_lower_72 ?_
          refine xa_iald G (a := 51) (i := 2 * a9) rfl (by omega) dX1_lower_73 rfl ?_
          have hr_29 : -2147483648 ≤ μ.1 51 (2 * a9) ∧ μ.1 51 (2 * a9) ≤ 2147483647 := by have h9 := G.hr (a := 51) (k := 2 * a9) rfl; exact h9
          refine lv_goto (tgt := 78) hx hb dX1_lower_74 (by decide) ?_
          exact xr_i G (x := μ.1 51 (2 * a9)) hret hlk (by unfold ir; omega) rfl dX1_lower_78 rfl
    · refine lv_iload_n hx hb dX1_lower_25 rfl (lv_at hl 1 rfl) ?_
      refine xb_if_lt (tgt := 54) hx hb (by unfold ir; omega) dX1_lower_26 (by decide) (fun c_26 => ?_) (fun c_26 => ?_)
      · refine lv_iload_n hx hb dX1_lower_54 rfl (lv_at hl 1 rfl) ?_
        refine xb_if_lt (tgt := 77) hx hb (by unfold ir; omega) dX1_lower_55 (by decide) (fun c_55 => ?_) (fun c_55 => ?_)
        · refine lv_iconst (v := iv (-1)) hx hb dX1_lower_77 rfl ?_
          exact xr_i G (x := (-1)) hret hlk (by unfold ir; omega) rfl dX1_lower_78 rfl
        · refine lv_iload_n hx hb dX1_lower_58 rfl (lv_at hl 1 rfl) ?_
          refine lv_aload_n hx hb dX1_lower_59 rfl (lv_at hl 2 rfl) ?_
          refine xa_geti G fd_X1 (a := 45) (x := y) 4 rfl (by decide) rfl (wm 2 71 rfl rfl) ⟨rfl, rfl, rfl⟩ dX1_lower_60 rfl hy.symm ?_
          have hr_30 : -2147483648 ≤ y ∧ y ≤ 2147483647 := by have h9 := G.hr (a := 45) (k := 4) rfl; rw [show μ.1 45 4 = y from hy.symm] at h9; exact h9
          refine xb_icmp_ge (tgt := 77) hx hb (by unfold ir; omega) (by unfold ir; omega) dX1_lower_63 (by decide) (fun c_63 => ?_) (fun c_63 => ?_)
          · refine lv_iconst (v := iv (-1)) hx hb dX1_lower_77 rfl ?_
            exact xr_i G (x := (-1)) hret hlk (by unfold ir; omega) rfl dX1_lower_78 rfl
          · refine lv_aload_n hx hb dX1_lower_66 rfl (lv_at hl 2 rfl) ?_
            refine xa_getr G fd_X1 (a := 45) (x := 51) 3 rfl (by decide) rfl (wm 2 70 rfl rfl) ⟨rfl, rfl, rfl⟩ dX1_lower_67 rfl (G.sk 54 rfl) (by decide) rfl ?_
            refine lv_iconst (v := iv 2) hx hb dX1_lower_70 rfl ?_
            refine lv_iload_n hx hb dX1_lower_71 rfl (lv_at hl 1 rfl) ?_
            refine xb_imul hx hb dX1_lower_72 ?_
            refine xa_iald G (a := 51) (i := 2 * a9) rfl (by omega) dX1_lower_73 rfl ?_
            have hr_31 : -2147483648 ≤ μ.1 51 (2 * a9) ∧ μ.1 51 (2 * a9) ≤ 2147483647 := by have h9 := G.hr (a := 51) (k := 2 * a9) rfl; exact h9
            refine lv_goto (tgt := 78) hx hb dX1_lower_74 (by decide) ?_
            exact xr_i G (x := μ.1 51 (2 * a9)) hret hlk (by unfold ir; omega) rfl dX1_lower_78 rfl
      · refine lv_iload_n hx hb dX1_lower_29 rfl (lv_at hl 1 rfl) ?_
        refine lv_aload_n hx hb dX1_lower_30 rfl (lv_at hl 2 rfl) ?_
        refine xa_geti G fd_X1 (a := 45) (x := y) 4 rfl (by decide) rfl (wm 2 71 rfl rfl) ⟨rfl, rfl, rfl⟩ dX1_lower_31 rfl hy.symm ?_
        have hr_32 : -2147483648 ≤ y ∧ y ≤ 2147483647 := by have h9 := G.hr (a := 45) (k := 4) rfl; rw [show μ.1 45 4 = y from hy.symm] at h9; exact h9
        refine xb_icmp_ge (tgt := 54) hx hb (by unfold ir; omega) (by unfold ir; omega) dX1_lower_34 (by decide) (fun c_34 => ?_) (fun c_34 => ?_)
        · refine lv_iload_n hx hb dX1_lower_54 rfl (lv_at hl 1 rfl) ?_
          refine xb_if_lt (tgt := 77) hx hb (by unfold ir; omega) dX1_lower_55 (by decide) (fun c_55 => ?_) (fun c_55 => ?_)
          · refine lv_iconst (v := iv (-1)) hx hb dX1_lower_77 rfl ?_
            exact xr_i G (x := (-1)) hret hlk (by unfold ir; omega) rfl dX1_lower_78 rfl
          · refine lv_iload_n hx hb dX1_lower_58 rfl (lv_at hl 1 rfl) ?_
            refine lv_aload_n hx hb dX1_lower_59 rfl (lv_at hl 2 rfl) ?_
            refine xa_geti G fd_X1 (a := 45) (x := y) 4 rfl (by decide) rfl (wm 2 71 rfl rfl) ⟨rfl, rfl, rfl⟩ dX1_lower_60 rfl hy.symm ?_
            refine xb_icmp_ge (tgt := 77) hx hb (by unfold ir; omega) (by unfold ir; omega) dX1_lower_63 (by decide) (fun c_63 => ?_) (fun c_63 => ?_)
            · refine lv_iconst (v := iv (-1)) hx hb dX1_lower_77 rfl ?_
              exact xr_i G (x := (-1)) hret hlk (by unfold ir; omega) rfl dX1_lower_78 rfl
            · refine lv_aload_n hx hb dX1_lower_66 rfl (lv_at hl 2 rfl) ?_
              refine xa_getr G fd_X1 (a := 45) (x := 51) 3 rfl (by decide) rfl (wm 2 70 rfl rfl) ⟨rfl, rfl, rfl⟩ dX1_lower_67 rfl (G.sk 54 rfl) (by decide) rfl ?_
              refine lv_iconst (v := iv 2) hx hb dX1_lower_70 rfl ?_
              refine lv_iload_n hx hb dX1_lower_71 rfl (lv_at hl 1 rfl) ?_
              refine xb_imul hx hb dX1_lower_72 ?_
              refine xa_iald G (a := 51) (i := 2 * a9) rfl (by omega) dX1_lower_73 rfl ?_
              have hr_33 : -2147483648 ≤ μ.1 51 (2 * a9) ∧ μ.1 51 (2 * a9) ≤ 2147483647 := by have h9 := G.hr (a := 51) (k := 2 * a9) rfl; exact h9
              refine lv_goto (tgt := 78) hx hb dX1_lower_74 (by decide) ?_
              exact xr_i G (x := μ.1 51 (2 * a9)) hret hlk (by unfold ir; omega) rfl dX1_lower_78 rfl
        · refine lv_aload_n hx hb dX1_lower_37 rfl (lv_at hl 2 rfl) ?_
          refine xa_getr G fd_X1 (a := 45) (x := 51) 3 rfl (by decide) rfl (wm 2 70 rfl rfl) ⟨rfl, rfl, rfl⟩ dX1_lower_38 rfl (G.sk 54 rfl) (by decide) rfl ?_
          refine lv_iconst (v := iv 2) hx hb dX1_lower_41 rfl ?_
          refine lv_iload_n hx hb dX1_lower_42 rfl (lv_at hl 1 rfl) ?_
          refine xb_imul hx hb dX1_lower_43 ?_
          refine lv_iconst (v := iv 1) hx hb dX1_lower_44 rfl ?_
          refine xb_iadd hx hb dX1_lower_45 ?_
          refine xa_iald G (a := 51) (i := (2 * a9) + 1) rfl (by omega) dX1_lower_46 rfl ?_
          refine xb_ti (y := μ.1 51 (2 * a9 + 1)) rfl ?_
          have hr_34 : -2147483648 ≤ μ.1 51 (2 * a9 + 1) ∧ μ.1 51 (2 * a9 + 1) ≤ 2147483647 := by have h9 := G.hr (a := 51) (k := (2 * a9) + 1) rfl; exact h9
          refine lv_istore_n (lv' := [(3, .int (iv (μ.1 51 (2 * a9 + 1)))), (4, .int (iv i9)), (0, .ref (oP ω 45)), (1, .int (iv x1)), (2, .int (iv x2))]) hx hb dX1_lower_47 rfl hl (by decide) rfl (fun ls hl => ?_)
          refine lv_iinc (v := iv (i9 + 1)) (lv' := [(4, .int (iv (i9 + 1))), (3, .int (iv (μ.1 51 (2 * a9 + 1)))), (0, .ref (oP ω 45)), (1, .int (iv x1)), (2, .int (iv x2))]) hx hb dX1_lower_48 hl (k := 1) rfl (by rw [show Int32.ofInt 1 = iv 1 from rfl, iv_add]) (by decide) rfl (fun ls hl => ?_)
          refine lv_goto (tgt := 19) hx hb dX1_lower_51 (by decide) ?_
          exact ih _ _ _ _ _ _ _ (by omega) ⟨μ.1 51 (2 * a9 + 1), i9 + 1, rfl, (by omega), (by omega), (by omega), rfl, lv_sub hl [0, 1, 2, 3, 4] rfl⟩ G

set_option maxHeartbeats 4000000 in
set_option maxRecDepth 100000 in
theorem c_X6_least (ω : Om) (l : Launch) (μ : M3) (x1 : Int) (hx1 : ir x1) : CtL ω l yX6_least cX6_least 1 0 0 [.int (iv x1)] μ (fun (r : Int) (μ' : M3) => (μ' = μ)) := by
  refine CtL.go (by decide) (Nat.le_of_ble_eq_true rfl) (fun ρ p e s m below meth c R ls G hR hret hlk hl => ?_)
  have hx := G.1.1
  have hb := G.1.2.1
  have hl : lv_has ls 1 [(0, .int (iv x1))] := hl
  generalize s.drawn = d0 at G ⊢
  have hr_x1 : -2147483648 ≤ x1 ∧ x1 ≤ 2147483647 := hx1
  refine lv_iload_n hx hb dX6_least_0 rfl (lv_at hl 0 rfl) ?_
  refine lv_iconst (v := iv 1) hx hb dX6_least_1 rfl ?_
  refine xb_icmp_ne (tgt := 9) hx hb (by unfold ir; omega) (by unfold ir; omega) dX6_least_2 (by decide) (fun c_2 => ?_) (fun c_2 => ?_)
  · refine lv_iload_n hx hb dX6_least_9 rfl (lv_at hl 0 rfl) ?_
    refine lv_iconst (v := iv 2) hx hb dX6_least_10 rfl ?_
    refine xb_icmp_ne (tgt := 20) hx hb (by unfold ir; omega) (by unfold ir; omega) dX6_least_11 (by decide) (fun c_11 => ?_) (fun c_11 => ?_)
    · refine lv_ldc2 (s := s.setDrawn d0) hx hb G.1.2.2.2.1 (dr_words G.1.2.2.2.2 d0 _ (wm 5 45 rfl rfl)) dX6_least_20 ?_
      refine xb_litl (x := (-9223372036854775808)) (by decide) ?_
      exact xr_l G (x := (-9223372036854775808)) hret hlk (by unfold jr; omega) dX6_least_23 rfl
    · refine lv_ldc2 (s := s.setDrawn d0) hx hb G.1.2.2.2.1 (dr_words G.1.2.2.2.2 d0 _ (wm 5 44 rfl rfl)) dX6_least_14 ?_
      refine xb_litl (x := (-100000000000000000)) (by decide) ?_
      refine lv_goto (tgt := 23) hx hb dX6_least_17 (by decide) ?_
      exact xr_l G (x := (-100000000000000000)) hret hlk (by unfold jr; omega) dX6_least_23 rfl
  · refine lv_ldc2 (s := s.setDrawn d0) hx hb G.1.2.2.2.1 (dr_words G.1.2.2.2.2 d0 _ (wm 5 43 rfl rfl)) dX6_least_5 ?_
    refine xb_litl (x := (-2147483648)) (by decide) ?_
    exact xr_l G (x := (-2147483648)) hret hlk (by unfold jr; omega) dX6_least_8 rfl

set_option maxHeartbeats 4000000 in
set_option maxRecDepth 100000 in
theorem c_X6_most (ω : Om) (l : Launch) (μ : M3) (x1 : Int) (hx1 : ir x1) : CtL ω l yX6_most cX6_most 1 0 0 [.int (iv x1)] μ (fun (r : Int) (μ' : M3) => (μ' = μ)) := by
  refine CtL.go (by decide) (Nat.le_of_ble_eq_true rfl) (fun ρ p e s m below meth c R ls G hR hret hlk hl => ?_)
  have hx := G.1.1
  have hb := G.1.2.1
  have hl : lv_has ls 1 [(0, .int (iv x1))] := hl
  generalize s.drawn = d0 at G ⊢
  have hr_x1 : -2147483648 ≤ x1 ∧ x1 ≤ 2147483647 := hx1
  refine lv_iload_n hx hb dX6_most_0 rfl (lv_at hl 0 rfl) ?_
  refine lv_iconst (v := iv 1) hx hb dX6_most_1 rfl ?_
  refine xb_icmp_ne (tgt := 9) hx hb (by unfold ir; omega) (by unfold ir; omega) dX6_most_2 (by decide) (fun c_2 => ?_) (fun c_2 => ?_)
  · refine lv_iload_n hx hb dX6_most_9 rfl (lv_at hl 0 rfl) ?_
    refine lv_iconst (v := iv 2) hx hb dX6_most_10 rfl ?_
    refine xb_icmp_ne (tgt := 20) hx hb (by unfold ir; omega) (by unfold ir; omega) dX6_most_11 (by decide) (fun c_11 => ?_) (fun c_11 => ?_)
    · refine lv_ldc2 (s := s.setDrawn d0) hx hb G.1.2.2.2.1 (dr_words G.1.2.2.2.2 d0 _ (wm 3 95 rfl rfl)) dX6_most_20 ?_
      refine xb_litl (x := 9223372036854775807) (by decide) ?_
      exact xr_l G (x := 9223372036854775807) hret hlk (by unfold jr; omega) dX6_most_23 rfl
    · refine lv_ldc2 (s := s.setDrawn d0) hx hb G.1.2.2.2.1 (dr_words G.1.2.2.2.2 d0 _ (wm 3 94 rfl rfl)) dX6_most_14 ?_
      refine xb_litl (x := 100000000000000000) (by decide) ?_
      refine lv_goto (tgt := 23) hx hb dX6_most_17 (by decide) ?_
      exact xr_l G (x := 100000000000000000) hret hlk (by unfold jr; omega) dX6_most_23 rfl
  · refine lv_ldc2 (s := s.setDrawn d0) hx hb G.1.2.2.2.1 (dr_words G.1.2.2.2.2 d0 _ (wm 3 93 rfl rfl)) dX6_most_5 ?_
    refine xb_litl (x := 2147483647) (by decide) ?_
    exact xr_l G (x := 2147483647) hret hlk (by unfold jr; omega) dX6_most_8 rfl

set_option maxHeartbeats 4000000 in
set_option maxRecDepth 100000 in
theorem c_X6_twoTo63 (ω : Om) (l : Launch) (μ : M3) : CtD ω l yX6_twoTo63 cX6_twoTo63 0 0 0 [] μ (fun (r : Int) (μ' : M3) => (μ' = μ)) := by
  refine CtD.go (by decide) (Nat.le_of_ble_eq_true rfl) (fun ρ p e s m below meth c R ls G hR hret hlk hl => ?_)
  have hx := G.1.1
  have hb := G.1.2.1
  have hl : lv_has ls 0 [] := hl
  generalize s.drawn = d0 at G ⊢
  refine lv_ldc2d (s := s.setDrawn d0) hx hb G.1.2.2.2.1 (dr_words G.1.2.2.2.2 d0 _ (wm 5 39 rfl rfl)) dX6_twoTo63_0 ?_
  refine xb_topd (fun dd_1 he_dd_1 => ?_)
  exact xr_d G (x := (dv dd_1)) hret hlk dX6_twoTo63_3 rfl

set_option maxHeartbeats 4000000 in
set_option maxRecDepth 100000 in
theorem c_X6_greatest (ω : Om) (l : Launch) (μ : M3) : CtD ω l yX6_greatest cX6_greatest 0 0 0 [] μ (fun (r : Int) (μ' : M3) => (μ' = μ)) := by
  refine CtD.go (by decide) (Nat.le_of_ble_eq_true rfl) (fun ρ p e s m below meth c R ls G hR hret hlk hl => ?_)
  have hx := G.1.1
  have hb := G.1.2.1
  have hl : lv_has ls 0 [] := hl
  generalize s.drawn = d0 at G ⊢
  refine lv_ldc2d (s := s.setDrawn d0) hx hb G.1.2.2.2.1 (dr_words G.1.2.2.2.2 d0 _ (wm 6 174 rfl rfl)) dX6_greatest_0 ?_
  refine xb_topd (fun dd_1 he_dd_1 => ?_)
  exact xr_d G (x := (dv dd_1)) hret hlk dX6_greatest_3 rfl

set_option maxHeartbeats 4000000 in
set_option maxRecDepth 100000 in
theorem c_X6_has (ω : Om) (l : Launch) (μ : M3) (x1 : Int) (x2 : Int) (hx1 : ir x1) (hx2 : jr x2) : CtI ω l yX6_has cX6_has 5 .boolean 1 20 [.int (iv x1), .long (jv x2)] μ (fun (r : Int) (μ' : M3) => (μ' = μ) ∧ (r = 0 ∨ r = 1)) := by
  refine CtI.go (by decide) (Nat.le_of_ble_eq_true rfl) (fun ρ p e s m below meth c R ls G hR hret hlk hl => ?_)
  have hx := G.1.1
  have hb := G.1.2.1
  have hl : lv_has ls 5 [(0, .int (iv x1)), (1, .long (jv x2))] := hl
  generalize s.drawn = d0 at G ⊢
  have hr_x1 : -2147483648 ≤ x1 ∧ x1 ≤ 2147483647 := hx1
  refine lv_iload_n hx hb dX6_has_0 rfl (lv_at hl 0 rfl) ?_
  refine lv_iconst (v := iv 3) hx hb dX6_has_1 rfl ?_
  refine xb_icmp_ne (tgt := 29) hx hb (by unfold ir; omega) (by unfold ir; omega) dX6_has_2 (by decide) (fun c_2 => ?_) (fun c_2 => ?_)
  · refine lv_lload_n hx hb dX6_has_29 rfl (lv_at hl 1 rfl) ?_
    refine lv_iload_n hx hb dX6_has_30 rfl (lv_at hl 0 rfl) ?_
    refine xc_lS G (rest := [.long (jv x2)]) (As := [.int (iv x1)]) (c_X6_least ω l μ x1 (by unfold ir; omega)) (wm 5 40 rfl rfl) (wm 5 41 rfl rfl) (wm 1 20 rfl rfl) (wm 5 42 rfl rfl) (by decide) hR (by decide) (n := 1) rfl rfl (Nat.le_of_ble_eq_true rfl) hl.1 dX6_has_31 (fun r_2 μ1 ρ d0 H locs hr_r_2 hp G => ?_)
    have hsm_3 := hp
    have hsm_3 := Eq.symm hsm_3
    subst hsm_3
    refine xb_lcmp hx hb hx2 hr_r_2 dX6_has_34 ?_
    have hr_4 : -2147483648 ≤ lcm x2 r_2 ∧ lcm x2 r_2 ≤ 2147483647 := lcm_ir _ _
    refine xb_if_lt (tgt := 51) hx hb (by unfold ir; omega) dX6_has_35 (by decide) (fun c_35 => ?_) (fun c_35 => ?_)
    · refine lv_iconst (v := iv 0) hx hb dX6_has_51 rfl ?_
      exact xr_i G (x := 0) hret hlk (by unfold ir; omega) (zr (by omega)) dX6_has_52 ⟨rfl, (by omega)⟩
    · refine lv_lload_n hx hb dX6_has_38 rfl (lv_at hl 1 rfl) ?_
      refine lv_iload_n hx hb dX6_has_39 rfl (lv_at hl 0 rfl) ?_
      refine xc_lS G (rest := [.long (jv x2)]) (As := [.int (iv x1)]) (c_X6_most ω l μ x1 (by unfold ir; omega)) (wm 5 46 rfl rfl) (wm 3 91 rfl rfl) (wm 1 20 rfl rfl) (wm 3 92 rfl rfl) (by decide) hR (by decide) (n := 1) rfl rfl (Nat.le_of_ble_eq_true rfl) hl.1 dX6_has_40 (fun r_6 μ5 ρ d0 H locs hr_r_6 hp G => ?_)
      have hsm_7 := hp
      have hsm_7 := Eq.symm hsm_7
      subst hsm_7
      refine xb_lcmp hx hb hx2 hr_r_6 dX6_has_43 ?_
      have hr_8 : -2147483648 ≤ lcm x2 r_6 ∧ lcm x2 r_6 ≤ 2147483647 := lcm_ir _ _
      refine xb_if_gt (tgt := 51) hx hb (by unfold ir; omega) dX6_has_44 (by decide) (fun c_44 => ?_) (fun c_44 => ?_)
      · refine lv_iconst (v := iv 0) hx hb dX6_has_51 rfl ?_
        exact xr_i G (x := 0) hret hlk (by unfold ir; omega) (zr (by omega)) dX6_has_52 ⟨rfl, (by omega)⟩
      · refine lv_iconst (v := iv 1) hx hb dX6_has_47 rfl ?_
        refine lv_goto (tgt := 52) hx hb dX6_has_48 (by decide) ?_
        exact xr_i G (x := 1) hret hlk (by unfold ir; omega) (zr (by omega)) dX6_has_52 ⟨rfl, (by omega)⟩
  · refine lv_lload_n hx hb dX6_has_5 rfl (lv_at hl 1 rfl) ?_
    refine lv_l2d hx hb dX6_has_6 ?_
    refine xb_topd (fun dd_9 he_dd_9 => ?_)
    refine lv_dstore_n (lv' := [(3, .double (dv dd_9)), (0, .int (iv x1)), (1, .long (jv x2))]) hx hb dX6_has_7 rfl hl (by decide) rfl (fun ls hl => ?_)
    refine lv_dload_n hx hb dX6_has_8 rfl (lv_at hl 0 rfl) ?_
    refine xc_dS G (rest := [.double (dv dd_9)]) (As := []) (c_X6_twoTo63 ω l μ  ) (wm 5 36 rfl rfl) (wm 5 37 rfl rfl) (wm 1 20 rfl rfl) (wm 5 38 rfl rfl) (by decide) hR (by decide) (n := 0) rfl rfl (Nat.le_of_ble_eq_true rfl) hl.1 dX6_has_9 (fun r_11 μ10 ρ d0 H locs hp G => ?_)
    have hsm_12 := hp
    have hsm_12 := Eq.symm hsm_12
    subst hsm_12
    refine lv_dcmp hx hb dX6_has_12 ?_
    refine xb_topi (fun y_13 hr_y_13 he_y_13 => ?_)
    have hr_y_13 : -2147483648 ≤ y_13 ∧ y_13 ≤ 2147483647 := hr_y_13
    refine xb_if_ge (tgt := 27) hx hb (by unfold ir; omega) dX6_has_13 (by decide) (fun c_13 => ?_) (fun c_13 => ?_)
    · refine lv_iconst (v := iv 0) hx hb dX6_has_27 rfl ?_
      exact xr_i G (x := 0) hret hlk (by unfold ir; omega) (zr (by omega)) dX6_has_28 ⟨rfl, (by omega)⟩
    · refine lv_dload_n hx hb dX6_has_16 rfl (lv_at hl 0 rfl) ?_
      refine lv_d2l hx hb dX6_has_17 ?_
      refine xb_topl (fun z_14 hr_z_14 he_z_14 => ?_)
      refine lv_lload_n hx hb dX6_has_18 rfl (lv_at hl 2 rfl) ?_
      refine xb_lcmp hx hb hr_z_14 hx2 dX6_has_19 ?_
      have hr_15 : -2147483648 ≤ lcm z_14 x2 ∧ lcm z_14 x2 ≤ 2147483647 := lcm_ir _ _
      refine xb_if_ne (tgt := 27) hx hb (by unfold ir; omega) dX6_has_20 (by decide) (fun c_20 => ?_) (fun c_20 => ?_)
      · refine lv_iconst (v := iv 0) hx hb dX6_has_27 rfl ?_
        exact xr_i G (x := 0) hret hlk (by unfold ir; omega) (zr (by omega)) dX6_has_28 ⟨rfl, (by omega)⟩
      · refine lv_iconst (v := iv 1) hx hb dX6_has_23 rfl ?_
        refine lv_goto (tgt := 28) hx hb dX6_has_24 (by decide) ?_
        exact xr_i G (x := 1) hret hlk (by unfold ir; omega) (zr (by omega)) dX6_has_28 ⟨rfl, (by omega)⟩

set_option maxHeartbeats 4000000 in
set_option maxRecDepth 100000 in
theorem c_X6_isWhole (ω : Om) (l : Launch) (μ : M3) (x1 : Int) : CtI ω l yX6_isWhole cX6_isWhole 2 .boolean 1 19 [.double (dv x1)] μ (fun (r : Int) (μ' : M3) => (μ' = μ) ∧ (r = 0 ∨ r = 1)) := by
  refine CtI.go (by decide) (Nat.le_of_ble_eq_true rfl) (fun ρ p e s m below meth c R ls G hR hret hlk hl => ?_)
  have hx := G.1.1
  have hb := G.1.2.1
  have hl : lv_has ls 2 [(0, .double (dv x1))] := hl
  generalize s.drawn = d0 at G ⊢
  refine lv_dload_n hx hb dX6_isWhole_0 rfl (lv_at hl 0 rfl) ?_
  refine xc_dS G (rest := [.double (dv x1)]) (As := []) (c_X6_twoTo63 ω l μ  ) (wm 5 36 rfl rfl) (wm 5 37 rfl rfl) (wm 1 20 rfl rfl) (wm 5 38 rfl rfl) (by decide) hR (by decide) (n := 0) rfl rfl (Nat.le_of_ble_eq_true rfl) hl.1 dX6_isWhole_1 (fun r_2 μ1 ρ d0 H locs hp G => ?_)
  have hsm_3 := hp
  have hsm_3 := Eq.symm hsm_3
  subst hsm_3
  refine lv_dneg hx hb dX6_isWhole_4 ?_
  refine xb_topd (fun dd_4 he_dd_4 => ?_)
  refine lv_dcmp hx hb dX6_isWhole_5 ?_
  refine xb_topi (fun y_5 hr_y_5 he_y_5 => ?_)
  have hr_y_5 : -2147483648 ≤ y_5 ∧ y_5 ≤ 2147483647 := hr_y_5
  refine xb_if_lt (tgt := 29) hx hb (by unfold ir; omega) dX6_isWhole_6 (by decide) (fun c_6 => ?_) (fun c_6 => ?_)
  · refine lv_iconst (v := iv 0) hx hb dX6_isWhole_29 rfl ?_
    exact xr_i G (x := 0) hret hlk (by unfold ir; omega) (zr (by omega)) dX6_isWhole_30 ⟨rfl, (by omega)⟩
  · refine lv_dload_n hx hb dX6_isWhole_9 rfl (lv_at hl 0 rfl) ?_
    refine xc_dS G (rest := [.double (dv x1)]) (As := []) (c_X6_twoTo63 ω l μ  ) (wm 5 36 rfl rfl) (wm 5 37 rfl rfl) (wm 1 20 rfl rfl) (wm 5 38 rfl rfl) (by decide) hR (by decide) (n := 0) rfl rfl (Nat.le_of_ble_eq_true rfl) hl.1 dX6_isWhole_10 (fun r_7 μ6 ρ d0 H locs hp G => ?_)
    have hsm_8 := hp
    have hsm_8 := Eq.symm hsm_8
    subst hsm_8
    refine lv_dcmp hx hb dX6_isWhole_13 ?_
    refine xb_topi (fun y_9 hr_y_9 he_y_9 => ?_)
    have hr_y_9 : -2147483648 ≤ y_9 ∧ y_9 ≤ 2147483647 := hr_y_9
    refine xb_if_ge (tgt := 29) hx hb (by unfold ir; omega) dX6_isWhole_14 (by decide) (fun c_14 => ?_) (fun c_14 => ?_)
    · refine lv_iconst (v := iv 0) hx hb dX6_isWhole_29 rfl ?_
      exact xr_i G (x := 0) hret hlk (by unfold ir; omega) (zr (by omega)) dX6_isWhole_30 ⟨rfl, (by omega)⟩
    · refine lv_dload_n hx hb dX6_isWhole_17 rfl (lv_at hl 0 rfl) ?_
      refine lv_d2l hx hb dX6_isWhole_18 ?_
      refine xb_topl (fun z_10 hr_z_10 he_z_10 => ?_)
      refine lv_l2d hx hb dX6_isWhole_19 ?_
      refine xb_topd (fun dd_11 he_dd_11 => ?_)
      refine lv_dload_n hx hb dX6_isWhole_20 rfl (lv_at hl 0 rfl) ?_
      refine lv_dcmp hx hb dX6_isWhole_21 ?_
      refine xb_topi (fun y_12 hr_y_12 he_y_12 => ?_)
      have hr_y_12 : -2147483648 ≤ y_12 ∧ y_12 ≤ 2147483647 := hr_y_12
      refine xb_if_ne (tgt := 29) hx hb (by unfold ir; omega) dX6_isWhole_22 (by decide) (fun c_22 => ?_) (fun c_22 => ?_)
      · refine lv_iconst (v := iv 0) hx hb dX6_isWhole_29 rfl ?_
        exact xr_i G (x := 0) hret hlk (by unfold ir; omega) (zr (by omega)) dX6_isWhole_30 ⟨rfl, (by omega)⟩
      · refine lv_iconst (v := iv 1) hx hb dX6_isWhole_25 rfl ?_
        refine lv_goto (tgt := 30) hx hb dX6_isWhole_26 (by decide) ?_
        exact xr_i G (x := 1) hret hlk (by unfold ir; omega) (zr (by omega)) dX6_isWhole_30 ⟨rfl, (by omega)⟩

set_option maxHeartbeats 4000000 in
set_option maxRecDepth 100000 in
theorem c_X6_isFinite (ω : Om) (l : Launch) (μ : M3) (x1 : Int) : CtI ω l yX6_isFinite cX6_isFinite 2 .boolean 1 19 [.double (dv x1)] μ (fun (r : Int) (μ' : M3) => (μ' = μ) ∧ (r = 0 ∨ r = 1)) := by
  refine CtI.go (by decide) (Nat.le_of_ble_eq_true rfl) (fun ρ p e s m below meth c R ls G hR hret hlk hl => ?_)
  have hx := G.1.1
  have hb := G.1.2.1
  have hl : lv_has ls 2 [(0, .double (dv x1))] := hl
  generalize s.drawn = d0 at G ⊢
  refine lv_dload_n hx hb dX6_isFinite_0 rfl (lv_at hl 0 rfl) ?_
  refine xc_dS G (rest := [.double (dv x1)]) (As := []) (c_X6_greatest ω l μ  ) (wm 6 171 rfl rfl) (wm 6 172 rfl rfl) (wm 1 20 rfl rfl) (wm 6 173 rfl rfl) (by decide) hR (by decide) (n := 0) rfl rfl (Nat.le_of_ble_eq_true rfl) hl.1 dX6_isFinite_1 (fun r_2 μ1 ρ d0 H locs hp G => ?_)
  have hsm_3 := hp
  have hsm_3 := Eq.symm hsm_3
  subst hsm_3
  refine lv_dneg hx hb dX6_isFinite_4 ?_
  refine xb_topd (fun dd_4 he_dd_4 => ?_)
  refine lv_dcmp hx hb dX6_isFinite_5 ?_
  refine xb_topi (fun y_5 hr_y_5 he_y_5 => ?_)
  have hr_y_5 : -2147483648 ≤ y_5 ∧ y_5 ≤ 2147483647 := hr_y_5
  refine xb_if_lt (tgt := 21) hx hb (by unfold ir; omega) dX6_isFinite_6 (by decide) (fun c_6 => ?_) (fun c_6 => ?_)
  · refine lv_iconst (v := iv 0) hx hb dX6_isFinite_21 rfl ?_
    exact xr_i G (x := 0) hret hlk (by unfold ir; omega) (zr (by omega)) dX6_isFinite_22 ⟨rfl, (by omega)⟩
  · refine lv_dload_n hx hb dX6_isFinite_9 rfl (lv_at hl 0 rfl) ?_
    refine xc_dS G (rest := [.double (dv x1)]) (As := []) (c_X6_greatest ω l μ  ) (wm 6 171 rfl rfl) (wm 6 172 rfl rfl) (wm 1 20 rfl rfl) (wm 6 173 rfl rfl) (by decide) hR (by decide) (n := 0) rfl rfl (Nat.le_of_ble_eq_true rfl) hl.1 dX6_isFinite_10 (fun r_7 μ6 ρ d0 H locs hp G => ?_)
    have hsm_8 := hp
    have hsm_8 := Eq.symm hsm_8
    subst hsm_8
    refine lv_dcmp hx hb dX6_isFinite_13 ?_
    refine xb_topi (fun y_9 hr_y_9 he_y_9 => ?_)
    have hr_y_9 : -2147483648 ≤ y_9 ∧ y_9 ≤ 2147483647 := hr_y_9
    refine xb_if_gt (tgt := 21) hx hb (by unfold ir; omega) dX6_isFinite_14 (by decide) (fun c_14 => ?_) (fun c_14 => ?_)
    · refine lv_iconst (v := iv 0) hx hb dX6_isFinite_21 rfl ?_
      exact xr_i G (x := 0) hret hlk (by unfold ir; omega) (zr (by omega)) dX6_isFinite_22 ⟨rfl, (by omega)⟩
    · refine lv_iconst (v := iv 1) hx hb dX6_isFinite_17 rfl ?_
      refine lv_goto (tgt := 22) hx hb dX6_isFinite_18 (by decide) ?_
      exact xr_i G (x := 1) hret hlk (by unfold ir; omega) (zr (by omega)) dX6_isFinite_22 ⟨rfl, (by omega)⟩
