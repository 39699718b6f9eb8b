abbrev cX12_arises : ByteArray := prog_14_method_96_code
def yX12_arises : MethodName := ⟨RX12, "arises", "(I)V"⟩
abbrev cX12_arisesWith : ByteArray := prog_14_method_97_code
def yX12_arisesWith : MethodName := ⟨RX12, "arisesWith", "(IIJ)V"⟩
abbrev cX12_goesOut : ByteArray := prog_14_method_98_code
def yX12_goesOut : MethodName := ⟨RX12, "goesOut", "(IZ)V"⟩
abbrev cX12_codeGoes : ByteArray := prog_14_method_99_code
def yX12_codeGoes : MethodName := ⟨RX12, "codeGoes", "(IZ)V"⟩
abbrev cX12_unwinds : ByteArray := prog_14_method_100_code
def yX12_unwinds : MethodName := ⟨RX12, "unwinds", "(IIJ)V"⟩
abbrev cX12_answers : ByteArray := prog_14_method_108_code
def yX12_answers : MethodName := ⟨RX12, "answers", "(IJ)V"⟩
abbrev cX12_failsOut : ByteArray := prog_14_method_109_code
def yX12_failsOut : MethodName := ⟨RX12, "failsOut", "(I)V"⟩
abbrev cX12_turnsFailure : ByteArray := prog_14_method_110_code
def yX12_turnsFailure : MethodName := ⟨RX12, "turnsFailure", "(I)V"⟩
theorem dX12_arises_0 : decode cX12_arises 0 = .ok (.aload_n 0, 1) := by decide +kernel
theorem dX12_arises_1 : decode cX12_arises 1 = .ok (.iload_n 1, 1) := by decide +kernel
theorem dX12_arises_2 : decode cX12_arises 2 = .ok (.iconst 0, 1) := by decide +kernel
theorem dX12_arises_3 : decode cX12_arises 3 = .ok (.lconst 0, 1) := by decide +kernel
theorem dX12_arises_4 : decode cX12_arises 4 = .ok (.invokevirtual 602, 3) := by decide +kernel
theorem dX12_arises_7 : decode cX12_arises 7 = .ok (.return_, 1) := by decide +kernel
theorem dX12_arisesWith_0 : decode cX12_arisesWith 0 = .ok (.aload_n 0, 1) := by decide +kernel
theorem dX12_arisesWith_1 : decode cX12_arisesWith 1 = .ok (.invokevirtual 606, 3) := by decide +kernel
theorem dX12_arisesWith_4 : decode cX12_arisesWith 4 = .ok (.ifCond .ne 4, 3) := by decide +kernel
theorem dX12_arisesWith_7 : decode cX12_arisesWith 7 = .ok (.return_, 1) := by decide +kernel
theorem dX12_arisesWith_8 : decode cX12_arisesWith 8 = .ok (.aload_n 0, 1) := by decide +kernel
theorem dX12_arisesWith_9 : decode cX12_arisesWith 9 = .ok (.aload_n 0, 1) := by decide +kernel
theorem dX12_arisesWith_10 : decode cX12_arisesWith 10 = .ok (.invokevirtual 609, 3) := by decide +kernel
theorem dX12_arisesWith_13 : decode cX12_arisesWith 13 = .ok (.iload_n 1, 1) := by decide +kernel
theorem dX12_arisesWith_14 : decode cX12_arisesWith 14 = .ok (.iload_n 2, 1) := by decide +kernel
theorem dX12_arisesWith_15 : decode cX12_arisesWith 15 = .ok (.lload_n 3, 1) := by decide +kernel
theorem dX12_arisesWith_16 : decode cX12_arisesWith 16 = .ok (.invokevirtual 612, 3) := by decide +kernel
theorem dX12_arisesWith_19 : decode cX12_arisesWith 19 = .ok (.istore 5, 2) := by decide +kernel
theorem dX12_arisesWith_21 : decode cX12_arisesWith 21 = .ok (.aload_n 0, 1) := by decide +kernel
theorem dX12_arisesWith_22 : decode cX12_arisesWith 22 = .ok (.invokevirtual 609, 3) := by decide +kernel
theorem dX12_arisesWith_25 : decode cX12_arisesWith 25 = .ok (.iconst 2, 1) := by decide +kernel
theorem dX12_arisesWith_26 : decode cX12_arisesWith 26 = .ok (.if_icmp .ne 14, 3) := by decide +kernel
theorem dX12_arisesWith_29 : decode cX12_arisesWith 29 = .ok (.aload_n 0, 1) := by decide +kernel
theorem dX12_arisesWith_30 : decode cX12_arisesWith 30 = .ok (.iconst 4, 1) := by decide +kernel
theorem dX12_arisesWith_31 : decode cX12_arisesWith 31 = .ok (.iload 5, 2) := by decide +kernel
theorem dX12_arisesWith_33 : decode cX12_arisesWith 33 = .ok (.i2l, 1) := by decide +kernel
theorem dX12_arisesWith_34 : decode cX12_arisesWith 34 = .ok (.invokevirtual 577, 3) := by decide +kernel
theorem dX12_arisesWith_37 : decode cX12_arisesWith 37 = .ok (.goto 10, 3) := by decide +kernel
theorem dX12_arisesWith_40 : decode cX12_arisesWith 40 = .ok (.aload_n 0, 1) := by decide +kernel
theorem dX12_arisesWith_41 : decode cX12_arisesWith 41 = .ok (.iload 5, 2) := by decide +kernel
theorem dX12_arisesWith_43 : decode cX12_arisesWith 43 = .ok (.iconst 0, 1) := by decide +kernel
theorem dX12_arisesWith_44 : decode cX12_arisesWith 44 = .ok (.invokevirtual 616, 3) := by decide +kernel
theorem dX12_arisesWith_47 : decode cX12_arisesWith 47 = .ok (.return_, 1) := by decide +kernel
theorem dX12_goesOut_0 : decode cX12_goesOut 0 = .ok (.aload_n 0, 1) := by decide +kernel
theorem dX12_goesOut_1 : decode cX12_goesOut 1 = .ok (.invokevirtual 609, 3) := by decide +kernel
theorem dX12_goesOut_4 : decode cX12_goesOut 4 = .ok (.iconst 1, 1) := by decide +kernel
theorem dX12_goesOut_5 : decode cX12_goesOut 5 = .ok (.if_icmp .ne 12, 3) := by decide +kernel
theorem dX12_goesOut_8 : decode cX12_goesOut 8 = .ok (.aload_n 0, 1) := by decide +kernel
theorem dX12_goesOut_9 : decode cX12_goesOut 9 = .ok (.iload_n 1, 1) := by decide +kernel
theorem dX12_goesOut_10 : decode cX12_goesOut 10 = .ok (.iload_n 2, 1) := by decide +kernel
theorem dX12_goesOut_11 : decode cX12_goesOut 11 = .ok (.invokevirtual 620, 3) := by decide +kernel
theorem dX12_goesOut_14 : decode cX12_goesOut 14 = .ok (.goto 11, 3) := by decide +kernel
theorem dX12_goesOut_17 : decode cX12_goesOut 17 = .ok (.aload_n 0, 1) := by decide +kernel
theorem dX12_goesOut_18 : decode cX12_goesOut 18 = .ok (.iconst 2, 1) := by decide +kernel
theorem dX12_goesOut_19 : decode cX12_goesOut 19 = .ok (.iconst 0, 1) := by decide +kernel
theorem dX12_goesOut_20 : decode cX12_goesOut 20 = .ok (.iload_n 1, 1) := by decide +kernel
theorem dX12_goesOut_21 : decode cX12_goesOut 21 = .ok (.i2l, 1) := by decide +kernel
theorem dX12_goesOut_22 : decode cX12_goesOut 22 = .ok (.invokevirtual 623, 3) := by decide +kernel
theorem dX12_goesOut_25 : decode cX12_goesOut 25 = .ok (.return_, 1) := by decide +kernel
theorem dX12_codeGoes_0 : decode cX12_codeGoes 0 = .ok (.aload_n 0, 1) := by decide +kernel
theorem dX12_codeGoes_1 : decode cX12_codeGoes 1 = .ok (.aload_n 0, 1) := by decide +kernel
theorem dX12_codeGoes_2 : decode cX12_codeGoes 2 = .ok (.getfield 127, 3) := by decide +kernel
theorem dX12_codeGoes_5 : decode cX12_codeGoes 5 = .ok (.iload_n 1, 1) := by decide +kernel
theorem dX12_codeGoes_6 : decode cX12_codeGoes 6 = .ok (.iaload, 1) := by decide +kernel
theorem dX12_codeGoes_7 : decode cX12_codeGoes 7 = .ok (.putfield 626, 3) := by decide +kernel
theorem dX12_codeGoes_10 : decode cX12_codeGoes 10 = .ok (.aload_n 0, 1) := by decide +kernel
theorem dX12_codeGoes_11 : decode cX12_codeGoes 11 = .ok (.getfield 580, 3) := by decide +kernel
theorem dX12_codeGoes_14 : decode cX12_codeGoes 14 = .ok (.iconst 1, 1) := by decide +kernel
theorem dX12_codeGoes_15 : decode cX12_codeGoes 15 = .ok (.isub, 1) := by decide +kernel
theorem dX12_codeGoes_16 : decode cX12_codeGoes 16 = .ok (.istore_n 3, 1) := by decide +kernel
theorem dX12_codeGoes_17 : decode cX12_codeGoes 17 = .ok (.aload_n 0, 1) := by decide +kernel
theorem dX12_codeGoes_18 : decode cX12_codeGoes 18 = .ok (.getfield 596, 3) := by decide +kernel
theorem dX12_codeGoes_21 : decode cX12_codeGoes 21 = .ok (.aload_n 0, 1) := by decide +kernel
theorem dX12_codeGoes_22 : decode cX12_codeGoes 22 = .ok (.getfield 72, 3) := by decide +kernel
theorem dX12_codeGoes_25 : decode cX12_codeGoes 25 = .ok (.iload_n 3, 1) := by decide +kernel
theorem dX12_codeGoes_26 : decode cX12_codeGoes 26 = .ok (.iaload, 1) := by decide +kernel
theorem dX12_codeGoes_27 : decode cX12_codeGoes 27 = .ok (.if_icmp .le 42, 3) := by decide +kernel
theorem dX12_codeGoes_30 : decode cX12_codeGoes 30 = .ok (.aload_n 0, 1) := by decide +kernel
theorem dX12_codeGoes_31 : decode cX12_codeGoes 31 = .ok (.dup, 1) := by decide +kernel
theorem dX12_codeGoes_32 : decode cX12_codeGoes 32 = .ok (.getfield 596, 3) := by decide +kernel
theorem dX12_codeGoes_35 : decode cX12_codeGoes 35 = .ok (.iconst 1, 1) := by decide +kernel
theorem dX12_codeGoes_36 : decode cX12_codeGoes 36 = .ok (.isub, 1) := by decide +kernel
theorem dX12_codeGoes_37 : decode cX12_codeGoes 37 = .ok (.putfield 596, 3) := by decide +kernel
theorem dX12_codeGoes_40 : decode cX12_codeGoes 40 = .ok (.aload_n 0, 1) := by decide +kernel
theorem dX12_codeGoes_41 : decode cX12_codeGoes 41 = .ok (.aload_n 0, 1) := by decide +kernel
theorem dX12_codeGoes_42 : decode cX12_codeGoes 42 = .ok (.getfield 97, 3) := by decide +kernel
theorem dX12_codeGoes_45 : decode cX12_codeGoes 45 = .ok (.aload_n 0, 1) := by decide +kernel
theorem dX12_codeGoes_46 : decode cX12_codeGoes 46 = .ok (.getfield 596, 3) := by decide +kernel
theorem dX12_codeGoes_49 : decode cX12_codeGoes 49 = .ok (.iaload, 1) := by decide +kernel
theorem dX12_codeGoes_50 : decode cX12_codeGoes 50 = .ok (.putfield 574, 3) := by decide +kernel
theorem dX12_codeGoes_53 : decode cX12_codeGoes 53 = .ok (.aload_n 0, 1) := by decide +kernel
theorem dX12_codeGoes_54 : decode cX12_codeGoes 54 = .ok (.getfield 63, 3) := by decide +kernel
theorem dX12_codeGoes_57 : decode cX12_codeGoes 57 = .ok (.iload_n 3, 1) := by decide +kernel
theorem dX12_codeGoes_58 : decode cX12_codeGoes 58 = .ok (.aload_n 0, 1) := by decide +kernel
theorem dX12_codeGoes_59 : decode cX12_codeGoes 59 = .ok (.getfield 91, 3) := by decide +kernel
theorem dX12_codeGoes_62 : decode cX12_codeGoes 62 = .ok (.aload_n 0, 1) := by decide +kernel
theorem dX12_codeGoes_63 : decode cX12_codeGoes 63 = .ok (.getfield 596, 3) := by decide +kernel
theorem dX12_codeGoes_66 : decode cX12_codeGoes 66 = .ok (.iaload, 1) := by decide +kernel
theorem dX12_codeGoes_67 : decode cX12_codeGoes 67 = .ok (.iastore, 1) := by decide +kernel
theorem dX12_codeGoes_68 : decode cX12_codeGoes 68 = .ok (.return_, 1) := by decide +kernel
theorem dX12_codeGoes_69 : decode cX12_codeGoes 69 = .ok (.iload_n 2, 1) := by decide +kernel
theorem dX12_codeGoes_70 : decode cX12_codeGoes 70 = .ok (.ifCond .eq 12, 3) := by decide +kernel
theorem dX12_codeGoes_73 : decode cX12_codeGoes 73 = .ok (.aload_n 0, 1) := by decide +kernel
theorem dX12_codeGoes_74 : decode cX12_codeGoes 74 = .ok (.iconst 0, 1) := by decide +kernel
theorem dX12_codeGoes_75 : decode cX12_codeGoes 75 = .ok (.lconst 0, 1) := by decide +kernel
theorem dX12_codeGoes_76 : decode cX12_codeGoes 76 = .ok (.invokevirtual 577, 3) := by decide +kernel
theorem dX12_codeGoes_79 : decode cX12_codeGoes 79 = .ok (.goto 8, 3) := by decide +kernel
theorem dX12_codeGoes_82 : decode cX12_codeGoes 82 = .ok (.aload_n 0, 1) := by decide +kernel
theorem dX12_codeGoes_83 : decode cX12_codeGoes 83 = .ok (.iload_n 1, 1) := by decide +kernel
theorem dX12_codeGoes_84 : decode cX12_codeGoes 84 = .ok (.invokevirtual 629, 3) := by decide +kernel
theorem dX12_codeGoes_87 : decode cX12_codeGoes 87 = .ok (.return_, 1) := by decide +kernel
theorem dX12_unwinds_0 : decode cX12_unwinds 0 = .ok (.aload_n 0, 1) := by decide +kernel
theorem dX12_unwinds_1 : decode cX12_unwinds 1 = .ok (.getfield 580, 3) := by decide +kernel
theorem dX12_unwinds_4 : decode cX12_unwinds 4 = .ok (.iconst 1, 1) := by decide +kernel
theorem dX12_unwinds_5 : decode cX12_unwinds 5 = .ok (.isub, 1) := by decide +kernel
theorem dX12_unwinds_6 : decode cX12_unwinds 6 = .ok (.istore 5, 2) := by decide +kernel
theorem dX12_unwinds_8 : decode cX12_unwinds 8 = .ok (.lload_n 3, 1) := by decide +kernel
theorem dX12_unwinds_9 : decode cX12_unwinds 9 = .ok (.lstore 6, 2) := by decide +kernel
theorem dX12_unwinds_11 : decode cX12_unwinds 11 = .ok (.aload_n 0, 1) := by decide +kernel
theorem dX12_unwinds_12 : decode cX12_unwinds 12 = .ok (.getfield 596, 3) := by decide +kernel
theorem dX12_unwinds_15 : decode cX12_unwinds 15 = .ok (.aload_n 0, 1) := by decide +kernel
theorem dX12_unwinds_16 : decode cX12_unwinds 16 = .ok (.getfield 72, 3) := by decide +kernel
theorem dX12_unwinds_19 : decode cX12_unwinds 19 = .ok (.iload 5, 2) := by decide +kernel
theorem dX12_unwinds_21 : decode cX12_unwinds 21 = .ok (.iaload, 1) := by decide +kernel
theorem dX12_unwinds_22 : decode cX12_unwinds 22 = .ok (.if_icmp .le 181, 3) := by decide +kernel
theorem dX12_unwinds_25 : decode cX12_unwinds 25 = .ok (.aload_n 0, 1) := by decide +kernel
theorem dX12_unwinds_26 : decode cX12_unwinds 26 = .ok (.dup, 1) := by decide +kernel
theorem dX12_unwinds_27 : decode cX12_unwinds 27 = .ok (.getfield 596, 3) := by decide +kernel
theorem dX12_unwinds_30 : decode cX12_unwinds 30 = .ok (.iconst 1, 1) := by decide +kernel
theorem dX12_unwinds_31 : decode cX12_unwinds 31 = .ok (.isub, 1) := by decide +kernel
theorem dX12_unwinds_32 : decode cX12_unwinds 32 = .ok (.putfield 596, 3) := by decide +kernel
theorem dX12_unwinds_35 : decode cX12_unwinds 35 = .ok (.aload_n 0, 1) := by decide +kernel
theorem dX12_unwinds_36 : decode cX12_unwinds 36 = .ok (.getfield 596, 3) := by decide +kernel
theorem dX12_unwinds_39 : decode cX12_unwinds 39 = .ok (.istore 8, 2) := by decide +kernel
theorem dX12_unwinds_41 : decode cX12_unwinds 41 = .ok (.aload_n 0, 1) := by decide +kernel
theorem dX12_unwinds_42 : decode cX12_unwinds 42 = .ok (.getfield 88, 3) := by decide +kernel
theorem dX12_unwinds_45 : decode cX12_unwinds 45 = .ok (.iload 8, 2) := by decide +kernel
theorem dX12_unwinds_47 : decode cX12_unwinds 47 = .ok (.iaload, 1) := by decide +kernel
theorem dX12_unwinds_48 : decode cX12_unwinds 48 = .ok (.iconst 1, 1) := by decide +kernel
theorem dX12_unwinds_49 : decode cX12_unwinds 49 = .ok (.if_icmp .ne 61, 3) := by decide +kernel
theorem dX12_unwinds_52 : decode cX12_unwinds 52 = .ok (.aload_n 0, 1) := by decide +kernel
theorem dX12_unwinds_53 : decode cX12_unwinds 53 = .ok (.aload_n 0, 1) := by decide +kernel
theorem dX12_unwinds_54 : decode cX12_unwinds 54 = .ok (.getfield 97, 3) := by decide +kernel
theorem dX12_unwinds_57 : decode cX12_unwinds 57 = .ok (.iload 8, 2) := by decide +kernel
theorem dX12_unwinds_59 : decode cX12_unwinds 59 = .ok (.iaload, 1) := by decide +kernel
theorem dX12_unwinds_60 : decode cX12_unwinds 60 = .ok (.putfield 574, 3) := by decide +kernel
theorem dX12_unwinds_63 : decode cX12_unwinds 63 = .ok (.aload_n 0, 1) := by decide +kernel
theorem dX12_unwinds_64 : decode cX12_unwinds 64 = .ok (.getfield 63, 3) := by decide +kernel
theorem dX12_unwinds_67 : decode cX12_unwinds 67 = .ok (.iload 5, 2) := by decide +kernel
theorem dX12_unwinds_69 : decode cX12_unwinds 69 = .ok (.aload_n 0, 1) := by decide +kernel
theorem dX12_unwinds_70 : decode cX12_unwinds 70 = .ok (.getfield 91, 3) := by decide +kernel
theorem dX12_unwinds_73 : decode cX12_unwinds 73 = .ok (.iload 8, 2) := by decide +kernel
theorem dX12_unwinds_75 : decode cX12_unwinds 75 = .ok (.iaload, 1) := by decide +kernel
theorem dX12_unwinds_76 : decode cX12_unwinds 76 = .ok (.iastore, 1) := by decide +kernel
theorem dX12_unwinds_77 : decode cX12_unwinds 77 = .ok (.aload_n 0, 1) := by decide +kernel
theorem dX12_unwinds_78 : decode cX12_unwinds 78 = .ok (.iconst 2, 1) := by decide +kernel
theorem dX12_unwinds_79 : decode cX12_unwinds 79 = .ok (.iconst 0, 1) := by decide +kernel
theorem dX12_unwinds_80 : decode cX12_unwinds 80 = .ok (.iconst 0, 1) := by decide +kernel
theorem dX12_unwinds_81 : decode cX12_unwinds 81 = .ok (.invokevirtual 632, 3) := by decide +kernel
theorem dX12_unwinds_84 : decode cX12_unwinds 84 = .ok (.aload_n 0, 1) := by decide +kernel
theorem dX12_unwinds_85 : decode cX12_unwinds 85 = .ok (.getfield 100, 3) := by decide +kernel
theorem dX12_unwinds_88 : decode cX12_unwinds 88 = .ok (.iload 8, 2) := by decide +kernel
theorem dX12_unwinds_90 : decode cX12_unwinds 90 = .ok (.iload_n 1, 1) := by decide +kernel
theorem dX12_unwinds_91 : decode cX12_unwinds 91 = .ok (.iastore, 1) := by decide +kernel
theorem dX12_unwinds_92 : decode cX12_unwinds 92 = .ok (.aload_n 0, 1) := by decide +kernel
theorem dX12_unwinds_93 : decode cX12_unwinds 93 = .ok (.getfield 103, 3) := by decide +kernel
theorem dX12_unwinds_96 : decode cX12_unwinds 96 = .ok (.iload 8, 2) := by decide +kernel
theorem dX12_unwinds_98 : decode cX12_unwinds 98 = .ok (.iload_n 2, 1) := by decide +kernel
theorem dX12_unwinds_99 : decode cX12_unwinds 99 = .ok (.iastore, 1) := by decide +kernel
theorem dX12_unwinds_100 : decode cX12_unwinds 100 = .ok (.aload_n 0, 1) := by decide +kernel
theorem dX12_unwinds_101 : decode cX12_unwinds 101 = .ok (.getfield 106, 3) := by decide +kernel
theorem dX12_unwinds_104 : decode cX12_unwinds 104 = .ok (.iload 8, 2) := by decide +kernel
theorem dX12_unwinds_106 : decode cX12_unwinds 106 = .ok (.lload 6, 2) := by decide +kernel
theorem dX12_unwinds_108 : decode cX12_unwinds 108 = .ok (.lastore, 1) := by decide +kernel
theorem dX12_unwinds_109 : decode cX12_unwinds 109 = .ok (.return_, 1) := by decide +kernel
theorem dX12_unwinds_110 : decode cX12_unwinds 110 = .ok (.aload_n 0, 1) := by decide +kernel
theorem dX12_unwinds_111 : decode cX12_unwinds 111 = .ok (.getfield 88, 3) := by decide +kernel
theorem dX12_unwinds_114 : decode cX12_unwinds 114 = .ok (.iload 8, 2) := by decide +kernel
theorem dX12_unwinds_116 : decode cX12_unwinds 116 = .ok (.iaload, 1) := by decide +kernel
theorem dX12_unwinds_117 : decode cX12_unwinds 117 = .ok (.iconst 2, 1) := by decide +kernel
theorem dX12_unwinds_118 : decode cX12_unwinds 118 = .ok (.if_icmp .ne 13, 3) := by decide +kernel
theorem dX12_unwinds_121 : decode cX12_unwinds 121 = .ok (.aload_n 0, 1) := by decide +kernel
theorem dX12_unwinds_122 : decode cX12_unwinds 122 = .ok (.iload_n 1, 1) := by decide +kernel
theorem dX12_unwinds_123 : decode cX12_unwinds 123 = .ok (.iload_n 2, 1) := by decide +kernel
theorem dX12_unwinds_124 : decode cX12_unwinds 124 = .ok (.lload 6, 2) := by decide +kernel
theorem dX12_unwinds_126 : decode cX12_unwinds 126 = .ok (.iload 8, 2) := by decide +kernel
theorem dX12_unwinds_128 : decode cX12_unwinds 128 = .ok (.invokevirtual 635, 3) := by decide +kernel
theorem dX12_unwinds_131 : decode cX12_unwinds 131 = .ok (.iload_n 1, 1) := by decide +kernel
theorem dX12_unwinds_132 : decode cX12_unwinds 132 = .ok (.iconst 2, 1) := by decide +kernel
theorem dX12_unwinds_133 : decode cX12_unwinds 133 = .ok (.if_icmp .ne 67, 3) := by decide +kernel
theorem dX12_unwinds_136 : decode cX12_unwinds 136 = .ok (.aload_n 0, 1) := by decide +kernel
theorem dX12_unwinds_137 : decode cX12_unwinds 137 = .ok (.getfield 88, 3) := by decide +kernel
theorem dX12_unwinds_140 : decode cX12_unwinds 140 = .ok (.iload 8, 2) := by decide +kernel
theorem dX12_unwinds_142 : decode cX12_unwinds 142 = .ok (.iaload, 1) := by decide +kernel
theorem dX12_unwinds_143 : decode cX12_unwinds 143 = .ok (.ifCond .ne 15, 3) := by decide +kernel
theorem dX12_unwinds_146 : decode cX12_unwinds 146 = .ok (.aload_n 0, 1) := by decide +kernel
theorem dX12_unwinds_147 : decode cX12_unwinds 147 = .ok (.iload 8, 2) := by decide +kernel
theorem dX12_unwinds_149 : decode cX12_unwinds 149 = .ok (.lload 6, 2) := by decide +kernel
theorem dX12_unwinds_151 : decode cX12_unwinds 151 = .ok (.l2i, 1) := by decide +kernel
theorem dX12_unwinds_152 : decode cX12_unwinds 152 = .ok (.invokevirtual 639, 3) := by decide +kernel
theorem dX12_unwinds_155 : decode cX12_unwinds 155 = .ok (.ifCond .ne 44, 3) := by decide +kernel
theorem dX12_unwinds_158 : decode cX12_unwinds 158 = .ok (.aload_n 0, 1) := by decide +kernel
theorem dX12_unwinds_159 : decode cX12_unwinds 159 = .ok (.getfield 88, 3) := by decide +kernel
theorem dX12_unwinds_162 : decode cX12_unwinds 162 = .ok (.iload 8, 2) := by decide +kernel
theorem dX12_unwinds_164 : decode cX12_unwinds 164 = .ok (.iaload, 1) := by decide +kernel
theorem dX12_unwinds_165 : decode cX12_unwinds 165 = .ok (.iconst 4, 1) := by decide +kernel
theorem dX12_unwinds_166 : decode cX12_unwinds 166 = .ok (.if_icmp .ne 34, 3) := by decide +kernel
theorem dX12_unwinds_169 : decode cX12_unwinds 169 = .ok (.aload_n 0, 1) := by decide +kernel
theorem dX12_unwinds_170 : decode cX12_unwinds 170 = .ok (.getfield 94, 3) := by decide +kernel
theorem dX12_unwinds_173 : decode cX12_unwinds 173 = .ok (.iload 8, 2) := by decide +kernel
theorem dX12_unwinds_175 : decode cX12_unwinds 175 = .ok (.iaload, 1) := by decide +kernel
theorem dX12_unwinds_176 : decode cX12_unwinds 176 = .ok (.aload_n 0, 1) := by decide +kernel
theorem dX12_unwinds_177 : decode cX12_unwinds 177 = .ok (.getfield 127, 3) := by decide +kernel
theorem dX12_unwinds_180 : decode cX12_unwinds 180 = .ok (.lload 6, 2) := by decide +kernel
theorem dX12_unwinds_182 : decode cX12_unwinds 182 = .ok (.l2i, 1) := by decide +kernel
theorem dX12_unwinds_183 : decode cX12_unwinds 183 = .ok (.iaload, 1) := by decide +kernel
theorem dX12_unwinds_184 : decode cX12_unwinds 184 = .ok (.if_icmp .ne 16, 3) := by decide +kernel
theorem dX12_unwinds_187 : decode cX12_unwinds 187 = .ok (.aload_n 0, 1) := by decide +kernel
theorem dX12_unwinds_188 : decode cX12_unwinds 188 = .ok (.iload 8, 2) := by decide +kernel
theorem dX12_unwinds_190 : decode cX12_unwinds 190 = .ok (.lload 6, 2) := by decide +kernel
theorem dX12_unwinds_192 : decode cX12_unwinds 192 = .ok (.l2i, 1) := by decide +kernel
theorem dX12_unwinds_193 : decode cX12_unwinds 193 = .ok (.invokevirtual 642, 3) := by decide +kernel
theorem dX12_unwinds_196 : decode cX12_unwinds 196 = .ok (.ifCond .eq 4, 3) := by decide +kernel
theorem dX12_unwinds_199 : decode cX12_unwinds 199 = .ok (.return_, 1) := by decide +kernel
theorem dX12_unwinds_200 : decode cX12_unwinds 200 = .ok (.goto (-189), 3) := by decide +kernel
theorem dX12_unwinds_203 : decode cX12_unwinds 203 = .ok (.iload_n 1, 1) := by decide +kernel
theorem dX12_unwinds_204 : decode cX12_unwinds 204 = .ok (.iconst 1, 1) := by decide +kernel
theorem dX12_unwinds_205 : decode cX12_unwinds 205 = .ok (.if_icmp .ne 13, 3) := by decide +kernel
theorem dX12_unwinds_208 : decode cX12_unwinds 208 = .ok (.aload_n 0, 1) := by decide +kernel
theorem dX12_unwinds_209 : decode cX12_unwinds 209 = .ok (.iload_n 2, 1) := by decide +kernel
theorem dX12_unwinds_210 : decode cX12_unwinds 210 = .ok (.lload 6, 2) := by decide +kernel
theorem dX12_unwinds_212 : decode cX12_unwinds 212 = .ok (.invokevirtual 645, 3) := by decide +kernel
theorem dX12_unwinds_215 : decode cX12_unwinds 215 = .ok (.goto 10, 3) := by decide +kernel
theorem dX12_unwinds_218 : decode cX12_unwinds 218 = .ok (.aload_n 0, 1) := by decide +kernel
theorem dX12_unwinds_219 : decode cX12_unwinds 219 = .ok (.lload 6, 2) := by decide +kernel
theorem dX12_unwinds_221 : decode cX12_unwinds 221 = .ok (.l2i, 1) := by decide +kernel
theorem dX12_unwinds_222 : decode cX12_unwinds 222 = .ok (.invokevirtual 629, 3) := by decide +kernel
theorem dX12_unwinds_225 : decode cX12_unwinds 225 = .ok (.return_, 1) := by decide +kernel
theorem dX12_answers_0 : decode cX12_answers 0 = .ok (.aload_n 0, 1) := by decide +kernel
theorem dX12_answers_1 : decode cX12_answers 1 = .ok (.invokevirtual 609, 3) := by decide +kernel
theorem dX12_answers_4 : decode cX12_answers 4 = .ok (.istore 4, 2) := by decide +kernel
theorem dX12_answers_6 : decode cX12_answers 6 = .ok (.aload_n 0, 1) := by decide +kernel
theorem dX12_answers_7 : decode cX12_answers 7 = .ok (.invokevirtual 666, 3) := by decide +kernel
theorem dX12_answers_10 : decode cX12_answers 10 = .ok (.aload_n 0, 1) := by decide +kernel
theorem dX12_answers_11 : decode cX12_answers 11 = .ok (.getfield 580, 3) := by decide +kernel
theorem dX12_answers_14 : decode cX12_answers 14 = .ok (.ifCond .ne 20, 3) := by decide +kernel
theorem dX12_answers_17 : decode cX12_answers 17 = .ok (.aload_n 0, 1) := by decide +kernel
theorem dX12_answers_18 : decode cX12_answers 18 = .ok (.iload_n 1, 1) := by decide +kernel
theorem dX12_answers_19 : decode cX12_answers 19 = .ok (.iconst 4, 1) := by decide +kernel
theorem dX12_answers_20 : decode cX12_answers 20 = .ok (.if_icmp .ne 7, 3) := by decide +kernel
theorem dX12_answers_23 : decode cX12_answers 23 = .ok (.iconst 1, 1) := by decide +kernel
theorem dX12_answers_24 : decode cX12_answers 24 = .ok (.goto 4, 3) := by decide +kernel
theorem dX12_answers_27 : decode cX12_answers 27 = .ok (.iconst 0, 1) := by decide +kernel
theorem dX12_answers_28 : decode cX12_answers 28 = .ok (.iload_n 1, 1) := by decide +kernel
theorem dX12_answers_29 : decode cX12_answers 29 = .ok (.lload_n 2, 1) := by decide +kernel
theorem dX12_answers_30 : decode cX12_answers 30 = .ok (.invokevirtual 669, 3) := by decide +kernel
theorem dX12_answers_33 : decode cX12_answers 33 = .ok (.return_, 1) := by decide +kernel
theorem dX12_answers_34 : decode cX12_answers 34 = .ok (.aload_n 0, 1) := by decide +kernel
theorem dX12_answers_35 : decode cX12_answers 35 = .ok (.invokevirtual 609, 3) := by decide +kernel
theorem dX12_answers_38 : decode cX12_answers 38 = .ok (.istore 5, 2) := by decide +kernel
theorem dX12_answers_40 : decode cX12_answers 40 = .ok (.iload 4, 2) := by decide +kernel
theorem dX12_answers_42 : decode cX12_answers 42 = .ok (.iload 5, 2) := by decide +kernel
theorem dX12_answers_44 : decode cX12_answers 44 = .ok (.if_icmp .ne 12, 3) := by decide +kernel
theorem dX12_answers_47 : decode cX12_answers 47 = .ok (.aload_n 0, 1) := by decide +kernel
theorem dX12_answers_48 : decode cX12_answers 48 = .ok (.iload_n 1, 1) := by decide +kernel
theorem dX12_answers_49 : decode cX12_answers 49 = .ok (.lload_n 2, 1) := by decide +kernel
theorem dX12_answers_50 : decode cX12_answers 50 = .ok (.invokevirtual 577, 3) := by decide +kernel
theorem dX12_answers_53 : decode cX12_answers 53 = .ok (.goto 52, 3) := by decide +kernel
theorem dX12_answers_56 : decode cX12_answers 56 = .ok (.iload_n 1, 1) := by decide +kernel
theorem dX12_answers_57 : decode cX12_answers 57 = .ok (.iconst 4, 1) := by decide +kernel
theorem dX12_answers_58 : decode cX12_answers 58 = .ok (.if_icmp .ne 12, 3) := by decide +kernel
theorem dX12_answers_61 : decode cX12_answers 61 = .ok (.aload_n 0, 1) := by decide +kernel
theorem dX12_answers_62 : decode cX12_answers 62 = .ok (.lload_n 2, 1) := by decide +kernel
theorem dX12_answers_63 : decode cX12_answers 63 = .ok (.l2i, 1) := by decide +kernel
theorem dX12_answers_64 : decode cX12_answers 64 = .ok (.invokevirtual 672, 3) := by decide +kernel
theorem dX12_answers_67 : decode cX12_answers 67 = .ok (.goto 38, 3) := by decide +kernel
theorem dX12_answers_70 : decode cX12_answers 70 = .ok (.aload_n 0, 1) := by decide +kernel
theorem dX12_answers_71 : decode cX12_answers 71 = .ok (.iload 4, 2) := by decide +kernel
theorem dX12_answers_73 : decode cX12_answers 73 = .ok (.iload 5, 2) := by decide +kernel
theorem dX12_answers_75 : decode cX12_answers 75 = .ok (.iload_n 1, 1) := by decide +kernel
theorem dX12_answers_76 : decode cX12_answers 76 = .ok (.lload_n 2, 1) := by decide +kernel
theorem dX12_answers_77 : decode cX12_answers 77 = .ok (.invokevirtual 675, 3) := by decide +kernel
theorem dX12_answers_80 : decode cX12_answers 80 = .ok (.aload_n 0, 1) := by decide +kernel
theorem dX12_answers_81 : decode cX12_answers 81 = .ok (.getfield 534, 3) := by decide +kernel
theorem dX12_answers_84 : decode cX12_answers 84 = .ok (.ifCond .eq 15, 3) := by decide +kernel
theorem dX12_answers_87 : decode cX12_answers 87 = .ok (.aload_n 0, 1) := by decide +kernel
theorem dX12_answers_88 : decode cX12_answers 88 = .ok (.iload_n 1, 1) := by decide +kernel
theorem dX12_answers_89 : decode cX12_answers 89 = .ok (.aload_n 0, 1) := by decide +kernel
theorem dX12_answers_90 : decode cX12_answers 90 = .ok (.getfield 538, 3) := by decide +kernel
theorem dX12_answers_93 : decode cX12_answers 93 = .ok (.invokevirtual 577, 3) := by decide +kernel
theorem dX12_answers_96 : decode cX12_answers 96 = .ok (.goto 9, 3) := by decide +kernel
theorem dX12_answers_99 : decode cX12_answers 99 = .ok (.aload_n 0, 1) := by decide +kernel
theorem dX12_answers_100 : decode cX12_answers 100 = .ok (.bipush 9, 2) := by decide +kernel
theorem dX12_answers_102 : decode cX12_answers 102 = .ok (.invokevirtual 678, 3) := by decide +kernel
theorem dX12_answers_105 : decode cX12_answers 105 = .ok (.return_, 1) := by decide +kernel
theorem dX12_failsOut_0 : decode cX12_failsOut 0 = .ok (.aload_n 0, 1) := by decide +kernel
theorem dX12_failsOut_1 : decode cX12_failsOut 1 = .ok (.invokevirtual 609, 3) := by decide +kernel
theorem dX12_failsOut_4 : decode cX12_failsOut 4 = .ok (.istore_n 2, 1) := by decide +kernel
theorem dX12_failsOut_5 : decode cX12_failsOut 5 = .ok (.aload_n 0, 1) := by decide +kernel
theorem dX12_failsOut_6 : decode cX12_failsOut 6 = .ok (.invokevirtual 666, 3) := by decide +kernel
theorem dX12_failsOut_9 : decode cX12_failsOut 9 = .ok (.aload_n 0, 1) := by decide +kernel
theorem dX12_failsOut_10 : decode cX12_failsOut 10 = .ok (.getfield 580, 3) := by decide +kernel
theorem dX12_failsOut_13 : decode cX12_failsOut 13 = .ok (.ifCond .ne 14, 3) := by decide +kernel
theorem dX12_failsOut_16 : decode cX12_failsOut 16 = .ok (.aload_n 0, 1) := by decide +kernel
theorem dX12_failsOut_17 : decode cX12_failsOut 17 = .ok (.iconst 1, 1) := by decide +kernel
theorem dX12_failsOut_18 : decode cX12_failsOut 18 = .ok (.iconst 0, 1) := by decide +kernel
theorem dX12_failsOut_19 : decode cX12_failsOut 19 = .ok (.iload_n 1, 1) := by decide +kernel
theorem dX12_failsOut_20 : decode cX12_failsOut 20 = .ok (.i2l, 1) := by decide +kernel
theorem dX12_failsOut_21 : decode cX12_failsOut 21 = .ok (.invokevirtual 669, 3) := by decide +kernel
theorem dX12_failsOut_24 : decode cX12_failsOut 24 = .ok (.goto 25, 3) := by decide +kernel
theorem dX12_failsOut_27 : decode cX12_failsOut 27 = .ok (.iload_n 2, 1) := by decide +kernel
theorem dX12_failsOut_28 : decode cX12_failsOut 28 = .ok (.aload_n 0, 1) := by decide +kernel
theorem dX12_failsOut_29 : decode cX12_failsOut 29 = .ok (.invokevirtual 609, 3) := by decide +kernel
theorem dX12_failsOut_32 : decode cX12_failsOut 32 = .ok (.if_icmp .ne 12, 3) := by decide +kernel
theorem dX12_failsOut_35 : decode cX12_failsOut 35 = .ok (.aload_n 0, 1) := by decide +kernel
theorem dX12_failsOut_36 : decode cX12_failsOut 36 = .ok (.iload_n 1, 1) := by decide +kernel
theorem dX12_failsOut_37 : decode cX12_failsOut 37 = .ok (.iconst 1, 1) := by decide +kernel
theorem dX12_failsOut_38 : decode cX12_failsOut 38 = .ok (.invokevirtual 616, 3) := by decide +kernel
theorem dX12_failsOut_41 : decode cX12_failsOut 41 = .ok (.goto 8, 3) := by decide +kernel
theorem dX12_failsOut_44 : decode cX12_failsOut 44 = .ok (.aload_n 0, 1) := by decide +kernel
theorem dX12_failsOut_45 : decode cX12_failsOut 45 = .ok (.iload_n 1, 1) := by decide +kernel
theorem dX12_failsOut_46 : decode cX12_failsOut 46 = .ok (.invokevirtual 672, 3) := by decide +kernel
theorem dX12_failsOut_49 : decode cX12_failsOut 49 = .ok (.return_, 1) := by decide +kernel
theorem dX12_turnsFailure_0 : decode cX12_turnsFailure 0 = .ok (.aload_n 0, 1) := by decide +kernel
theorem dX12_turnsFailure_1 : decode cX12_turnsFailure 1 = .ok (.getfield 124, 3) := by decide +kernel
theorem dX12_turnsFailure_4 : decode cX12_turnsFailure 4 = .ok (.iload_n 1, 1) := by decide +kernel
theorem dX12_turnsFailure_5 : decode cX12_turnsFailure 5 = .ok (.iaload, 1) := by decide +kernel
theorem dX12_turnsFailure_6 : decode cX12_turnsFailure 6 = .ok (.istore_n 2, 1) := by decide +kernel
theorem dX12_turnsFailure_7 : decode cX12_turnsFailure 7 = .ok (.aload_n 0, 1) := by decide +kernel
theorem dX12_turnsFailure_8 : decode cX12_turnsFailure 8 = .ok (.invokevirtual 609, 3) := by decide +kernel
theorem dX12_turnsFailure_11 : decode cX12_turnsFailure 11 = .ok (.istore_n 3, 1) := by decide +kernel
theorem dX12_turnsFailure_12 : decode cX12_turnsFailure 12 = .ok (.aload_n 0, 1) := by decide +kernel
theorem dX12_turnsFailure_13 : decode cX12_turnsFailure 13 = .ok (.invokevirtual 606, 3) := by decide +kernel
theorem dX12_turnsFailure_16 : decode cX12_turnsFailure 16 = .ok (.ifCond .ne 4, 3) := by decide +kernel
theorem dX12_turnsFailure_19 : decode cX12_turnsFailure 19 = .ok (.return_, 1) := by decide +kernel
theorem dX12_turnsFailure_20 : decode cX12_turnsFailure 20 = .ok (.iconst 4, 1) := by decide +kernel
theorem dX12_turnsFailure_21 : decode cX12_turnsFailure 21 = .ok (.iload_n 2, 1) := by decide +kernel
theorem dX12_turnsFailure_22 : decode cX12_turnsFailure 22 = .ok (.imul, 1) := by decide +kernel
theorem dX12_turnsFailure_23 : decode cX12_turnsFailure 23 = .ok (.iload_n 3, 1) := by decide +kernel
theorem dX12_turnsFailure_24 : decode cX12_turnsFailure 24 = .ok (.iadd, 1) := by decide +kernel
theorem dX12_turnsFailure_25 : decode cX12_turnsFailure 25 = .ok (.istore 4, 2) := by decide +kernel
theorem dX12_turnsFailure_27 : decode cX12_turnsFailure 27 = .ok (.aload_n 0, 1) := by decide +kernel
theorem dX12_turnsFailure_28 : decode cX12_turnsFailure 28 = .ok (.iload 4, 2) := by decide +kernel
theorem dX12_turnsFailure_30 : decode cX12_turnsFailure 30 = .ok (.aload_n 0, 1) := by decide +kernel
theorem dX12_turnsFailure_31 : decode cX12_turnsFailure 31 = .ok (.getfield 127, 3) := by decide +kernel
theorem dX12_turnsFailure_34 : decode cX12_turnsFailure 34 = .ok (.iload_n 1, 1) := by decide +kernel
theorem dX12_turnsFailure_35 : decode cX12_turnsFailure 35 = .ok (.iaload, 1) := by decide +kernel
theorem dX12_turnsFailure_36 : decode cX12_turnsFailure 36 = .ok (.invokevirtual 570, 3) := by decide +kernel
theorem dX12_turnsFailure_39 : decode cX12_turnsFailure 39 = .ok (.istore 5, 2) := by decide +kernel
theorem dX12_turnsFailure_41 : decode cX12_turnsFailure 41 = .ok (.iload_n 2, 1) := by decide +kernel
theorem dX12_turnsFailure_42 : decode cX12_turnsFailure 42 = .ok (.ifCond .ne 17, 3) := by decide +kernel
theorem dX12_turnsFailure_45 : decode cX12_turnsFailure 45 = .ok (.aload_n 0, 1) := by decide +kernel
theorem dX12_turnsFailure_46 : decode cX12_turnsFailure 46 = .ok (.getfield 17, 3) := by decide +kernel
theorem dX12_turnsFailure_49 : decode cX12_turnsFailure 49 = .ok (.aload_n 0, 1) := by decide +kernel
theorem dX12_turnsFailure_50 : decode cX12_turnsFailure 50 = .ok (.getfield 127, 3) := by decide +kernel
theorem dX12_turnsFailure_53 : decode cX12_turnsFailure 53 = .ok (.iload_n 1, 1) := by decide +kernel
theorem dX12_turnsFailure_54 : decode cX12_turnsFailure 54 = .ok (.iaload, 1) := by decide +kernel
theorem dX12_turnsFailure_55 : decode cX12_turnsFailure 55 = .ok (.iaload, 1) := by decide +kernel
theorem dX12_turnsFailure_56 : decode cX12_turnsFailure 56 = .ok (.goto 4, 3) := by decide +kernel
theorem dX12_turnsFailure_59 : decode cX12_turnsFailure 59 = .ok (.iconst (-1), 1) := by decide +kernel
theorem dX12_turnsFailure_60 : decode cX12_turnsFailure 60 = .ok (.istore 6, 2) := by decide +kernel
theorem dX12_turnsFailure_62 : decode cX12_turnsFailure 62 = .ok (.iload 5, 2) := by decide +kernel
theorem dX12_turnsFailure_64 : decode cX12_turnsFailure 64 = .ok (.iconst (-1), 1) := by decide +kernel
theorem dX12_turnsFailure_65 : decode cX12_turnsFailure 65 = .ok (.if_icmp .ne 31, 3) := by decide +kernel
theorem dX12_turnsFailure_68 : decode cX12_turnsFailure 68 = .ok (.iload 6, 2) := by decide +kernel
theorem dX12_turnsFailure_70 : decode cX12_turnsFailure 70 = .ok (.iconst (-1), 1) := by decide +kernel
theorem dX12_turnsFailure_71 : decode cX12_turnsFailure 71 = .ok (.if_icmp .eq 25, 3) := by decide +kernel
theorem dX12_turnsFailure_74 : decode cX12_turnsFailure 74 = .ok (.aload_n 0, 1) := by decide +kernel
theorem dX12_turnsFailure_75 : decode cX12_turnsFailure 75 = .ok (.iload 4, 2) := by decide +kernel
theorem dX12_turnsFailure_77 : decode cX12_turnsFailure 77 = .ok (.iload 6, 2) := by decide +kernel
theorem dX12_turnsFailure_79 : decode cX12_turnsFailure 79 = .ok (.invokevirtual 570, 3) := by decide +kernel
theorem dX12_turnsFailure_82 : decode cX12_turnsFailure 82 = .ok (.istore 5, 2) := by decide +kernel
theorem dX12_turnsFailure_84 : decode cX12_turnsFailure 84 = .ok (.aload_n 0, 1) := by decide +kernel
theorem dX12_turnsFailure_85 : decode cX12_turnsFailure 85 = .ok (.getfield 17, 3) := by decide +kernel
theorem dX12_turnsFailure_88 : decode cX12_turnsFailure 88 = .ok (.iload 6, 2) := by decide +kernel
theorem dX12_turnsFailure_90 : decode cX12_turnsFailure 90 = .ok (.iaload, 1) := by decide +kernel
theorem dX12_turnsFailure_91 : decode cX12_turnsFailure 91 = .ok (.istore 6, 2) := by decide +kernel
theorem dX12_turnsFailure_93 : decode cX12_turnsFailure 93 = .ok (.goto (-31), 3) := by decide +kernel
theorem dX12_turnsFailure_96 : decode cX12_turnsFailure 96 = .ok (.aload_n 0, 1) := by decide +kernel
theorem dX12_turnsFailure_97 : decode cX12_turnsFailure 97 = .ok (.iload_n 2, 1) := by decide +kernel
theorem dX12_turnsFailure_98 : decode cX12_turnsFailure 98 = .ok (.iload_n 3, 1) := by decide +kernel
theorem dX12_turnsFailure_99 : decode cX12_turnsFailure 99 = .ok (.aload_n 0, 1) := by decide +kernel
theorem dX12_turnsFailure_100 : decode cX12_turnsFailure 100 = .ok (.getfield 130, 3) := by decide +kernel
theorem dX12_turnsFailure_103 : decode cX12_turnsFailure 103 = .ok (.iload_n 1, 1) := by decide +kernel
theorem dX12_turnsFailure_104 : decode cX12_turnsFailure 104 = .ok (.baload, 1) := by decide +kernel
theorem dX12_turnsFailure_105 : decode cX12_turnsFailure 105 = .ok (.aload_n 0, 1) := by decide +kernel
theorem dX12_turnsFailure_106 : decode cX12_turnsFailure 106 = .ok (.getfield 133, 3) := by decide +kernel
theorem dX12_turnsFailure_109 : decode cX12_turnsFailure 109 = .ok (.iload_n 1, 1) := by decide +kernel
theorem dX12_turnsFailure_110 : decode cX12_turnsFailure 110 = .ok (.laload, 1) := by decide +kernel
theorem dX12_turnsFailure_111 : decode cX12_turnsFailure 111 = .ok (.invokevirtual 675, 3) := by decide +kernel
theorem dX12_turnsFailure_114 : decode cX12_turnsFailure 114 = .ok (.aload_n 0, 1) := by decide +kernel
theorem dX12_turnsFailure_115 : decode cX12_turnsFailure 115 = .ok (.iload_n 3, 1) := by decide +kernel
theorem dX12_turnsFailure_116 : decode cX12_turnsFailure 116 = .ok (.iload 5, 2) := by decide +kernel
theorem dX12_turnsFailure_118 : decode cX12_turnsFailure 118 = .ok (.iconst (-1), 1) := by decide +kernel
theorem dX12_turnsFailure_119 : decode cX12_turnsFailure 119 = .ok (.if_icmp .ne 13, 3) := by decide +kernel
theorem dX12_turnsFailure_122 : decode cX12_turnsFailure 122 = .ok (.aload_n 0, 1) := by decide +kernel
theorem dX12_turnsFailure_123 : decode cX12_turnsFailure 123 = .ok (.getfield 175, 3) := by decide +kernel
theorem dX12_turnsFailure_126 : decode cX12_turnsFailure 126 = .ok (.iload 4, 2) := by decide +kernel
theorem dX12_turnsFailure_128 : decode cX12_turnsFailure 128 = .ok (.iaload, 1) := by decide +kernel
theorem dX12_turnsFailure_129 : decode cX12_turnsFailure 129 = .ok (.goto 10, 3) := by decide +kernel
theorem dX12_turnsFailure_132 : decode cX12_turnsFailure 132 = .ok (.aload_n 0, 1) := by decide +kernel
theorem dX12_turnsFailure_133 : decode cX12_turnsFailure 133 = .ok (.getfield 172, 3) := by decide +kernel
theorem dX12_turnsFailure_136 : decode cX12_turnsFailure 136 = .ok (.iload 5, 2) := by decide +kernel
theorem dX12_turnsFailure_138 : decode cX12_turnsFailure 138 = .ok (.iaload, 1) := by decide +kernel
theorem dX12_turnsFailure_139 : decode cX12_turnsFailure 139 = .ok (.aload_n 0, 1) := by decide +kernel
theorem dX12_turnsFailure_140 : decode cX12_turnsFailure 140 = .ok (.getfield 534, 3) := by decide +kernel
theorem dX12_turnsFailure_143 : decode cX12_turnsFailure 143 = .ok (.ifCond .eq 12, 3) := by decide +kernel
theorem dX12_turnsFailure_146 : decode cX12_turnsFailure 146 = .ok (.aload_n 0, 1) := by decide +kernel
theorem dX12_turnsFailure_147 : decode cX12_turnsFailure 147 = .ok (.getfield 130, 3) := by decide +kernel
theorem dX12_turnsFailure_150 : decode cX12_turnsFailure 150 = .ok (.iload_n 1, 1) := by decide +kernel
theorem dX12_turnsFailure_151 : decode cX12_turnsFailure 151 = .ok (.baload, 1) := by decide +kernel
theorem dX12_turnsFailure_152 : decode cX12_turnsFailure 152 = .ok (.goto 4, 3) := by decide +kernel
theorem dX12_turnsFailure_155 : decode cX12_turnsFailure 155 = .ok (.iconst 0, 1) := by decide +kernel
theorem dX12_turnsFailure_156 : decode cX12_turnsFailure 156 = .ok (.aload_n 0, 1) := by decide +kernel
theorem dX12_turnsFailure_157 : decode cX12_turnsFailure 157 = .ok (.getfield 534, 3) := by decide +kernel
theorem dX12_turnsFailure_160 : decode cX12_turnsFailure 160 = .ok (.ifCond .eq 10, 3) := by decide +kernel
theorem dX12_turnsFailure_163 : decode cX12_turnsFailure 163 = .ok (.aload_n 0, 1) := by decide +kernel
theorem dX12_turnsFailure_164 : decode cX12_turnsFailure 164 = .ok (.getfield 538, 3) := by decide +kernel
theorem dX12_turnsFailure_167 : decode cX12_turnsFailure 167 = .ok (.goto 4, 3) := by decide +kernel
theorem dX12_turnsFailure_170 : decode cX12_turnsFailure 170 = .ok (.lconst 0, 1) := by decide +kernel
theorem dX12_turnsFailure_171 : decode cX12_turnsFailure 171 = .ok (.invokevirtual 612, 3) := by decide +kernel
theorem dX12_turnsFailure_174 : decode cX12_turnsFailure 174 = .ok (.istore 6, 2) := by decide +kernel
theorem dX12_turnsFailure_176 : decode cX12_turnsFailure 176 = .ok (.aload_n 0, 1) := by decide +kernel
theorem dX12_turnsFailure_177 : decode cX12_turnsFailure 177 = .ok (.getfield 142, 3) := by decide +kernel
theorem dX12_turnsFailure_180 : decode cX12_turnsFailure 180 = .ok (.iload 6, 2) := by decide +kernel
theorem dX12_turnsFailure_182 : decode cX12_turnsFailure 182 = .ok (.iload 5, 2) := by decide +kernel
theorem dX12_turnsFailure_184 : decode cX12_turnsFailure 184 = .ok (.iconst (-1), 1) := by decide +kernel
theorem dX12_turnsFailure_185 : decode cX12_turnsFailure 185 = .ok (.if_icmp .ne 7, 3) := by decide +kernel
theorem dX12_turnsFailure_188 : decode cX12_turnsFailure 188 = .ok (.iconst 2, 1) := by decide +kernel
theorem dX12_turnsFailure_189 : decode cX12_turnsFailure 189 = .ok (.goto 4, 3) := by decide +kernel
theorem dX12_turnsFailure_192 : decode cX12_turnsFailure 192 = .ok (.iconst 1, 1) := by decide +kernel
theorem dX12_turnsFailure_193 : decode cX12_turnsFailure 193 = .ok (.iastore, 1) := by decide +kernel
theorem dX12_turnsFailure_194 : decode cX12_turnsFailure 194 = .ok (.aload_n 0, 1) := by decide +kernel
theorem dX12_turnsFailure_195 : decode cX12_turnsFailure 195 = .ok (.getfield 145, 3) := by decide +kernel
theorem dX12_turnsFailure_198 : decode cX12_turnsFailure 198 = .ok (.iload 6, 2) := by decide +kernel
theorem dX12_turnsFailure_200 : decode cX12_turnsFailure 200 = .ok (.iload_n 1, 1) := by decide +kernel
theorem dX12_turnsFailure_201 : decode cX12_turnsFailure 201 = .ok (.iastore, 1) := by decide +kernel
theorem dX12_turnsFailure_202 : decode cX12_turnsFailure 202 = .ok (.aload_n 0, 1) := by decide +kernel
theorem dX12_turnsFailure_203 : decode cX12_turnsFailure 203 = .ok (.dup, 1) := by decide +kernel
theorem dX12_turnsFailure_204 : decode cX12_turnsFailure 204 = .ok (.getfield 681, 3) := by decide +kernel
theorem dX12_turnsFailure_207 : decode cX12_turnsFailure 207 = .ok (.iconst 1, 1) := by decide +kernel
theorem dX12_turnsFailure_208 : decode cX12_turnsFailure 208 = .ok (.iadd, 1) := by decide +kernel
theorem dX12_turnsFailure_209 : decode cX12_turnsFailure 209 = .ok (.putfield 681, 3) := by decide +kernel
theorem dX12_turnsFailure_212 : decode cX12_turnsFailure 212 = .ok (.iload_n 3, 1) := by decide +kernel
theorem dX12_turnsFailure_213 : decode cX12_turnsFailure 213 = .ok (.iconst 2, 1) := by decide +kernel
theorem dX12_turnsFailure_214 : decode cX12_turnsFailure 214 = .ok (.if_icmp .ne 14, 3) := by decide +kernel
theorem dX12_turnsFailure_217 : decode cX12_turnsFailure 217 = .ok (.aload_n 0, 1) := by decide +kernel
theorem dX12_turnsFailure_218 : decode cX12_turnsFailure 218 = .ok (.iconst 4, 1) := by decide +kernel
theorem dX12_turnsFailure_219 : decode cX12_turnsFailure 219 = .ok (.iload 6, 2) := by decide +kernel
theorem dX12_turnsFailure_221 : decode cX12_turnsFailure 221 = .ok (.i2l, 1) := by decide +kernel
theorem dX12_turnsFailure_222 : decode cX12_turnsFailure 222 = .ok (.invokevirtual 577, 3) := by decide +kernel
theorem dX12_turnsFailure_225 : decode cX12_turnsFailure 225 = .ok (.goto 10, 3) := by decide +kernel
theorem dX12_turnsFailure_228 : decode cX12_turnsFailure 228 = .ok (.aload_n 0, 1) := by decide +kernel
theorem dX12_turnsFailure_229 : decode cX12_turnsFailure 229 = .ok (.iload 6, 2) := by decide +kernel
theorem dX12_turnsFailure_231 : decode cX12_turnsFailure 231 = .ok (.iconst 1, 1) := by decide +kernel
theorem dX12_turnsFailure_232 : decode cX12_turnsFailure 232 = .ok (.invokevirtual 616, 3) := by decide +kernel
theorem dX12_turnsFailure_235 : decode cX12_turnsFailure 235 = .ok (.return_, 1) := by decide +kernel
set_option maxHeartbeats 4000000 in
set_option maxRecDepth 100000 in
theorem c_X12_turnsFailure (ω : Om) (l : Launch) (μ : M3) (x1 : Int) (F : Nat) (Lo : Nat) (kf : Int) (n : Int) (hx1 : ir x1) (hn : n = μ.1 111 47) (hMZ : MZ μ) (h1 : 1 ≤ n ∧ n ≤ 24) (hkf : n ≤ kf - 1) (h94 : μ.1 111 94 = 0) (hgr : 0 ≤ x1 ∧ x1 < μ.1 111 82) (hA1 : A1 μ) (hF : 60 ≤ F) (hLo : 2000 ≤ Lo) (hG : ∀ (μ : M3) (x1 : Int) (x2 : Int) (n : Int) (hx1 : ir x1) (hx2 : x2 = 0 ∨ x2 = 1) (hn : n = μ.1 111 47) (hMZ : MZ μ) (h1 : 1 ≤ n ∧ n ≤ 24) (hkf : n ≤ kf - 1) (h94 : μ.1 111 94 = 0) (hgr : 0 ≤ x1 ∧ x1 < μ.1 111 82) (hgt : μ.1 149 x1 = μ.1 127 (n - 1)) (hby : x2 = 1 → A1 μ), CtV ω l yX12_goesOut cX12_goesOut 3 (F + 0) (Lo + 0) [.ref (oP ω 111), .int (iv x1), .int (iv x2)] μ (fun (μ' : M3) => (FrM [111, 129, 133, 134, 135, 136, 137, 138, 139, 140, 141, 142, 143, 149, 150, 151, 152, 153, 154, 155, 156, 157, 158, 159] μ μ') ∧ (∀ j, j ∉ ([47, 53, 61, 81, 82, 83, 84, 90, 91, 93, 94, 95, 96, 97, 98, 99] : List Int) → μ'.1 111 j = μ.1 111 j) ∧ (RES μ' (RX μ + 9000)))) : CtV ω l yX12_turnsFailure cX12_turnsFailure 7 (F + 1) (Lo + 22) [.ref (oP ω 111), .int (iv x1)] μ (fun (μ' : M3) => (FrM [111, 129, 133, 134, 135, 136, 137, 138, 139, 140, 141, 142, 143, 149, 150, 151, 152, 153, 154, 155, 156, 157, 158, 159] μ μ') ∧ (∀ j, j ∉ ([47, 53, 61, 81, 82, 83, 84, 90, 91, 93, 94, 95, 96, 97, 98, 99] : List Int) → μ'.1 111 j = μ.1 111 j) ∧ (RES μ' (RX μ - 190000))) := by
  refine CtV.go (by decide) (Nat.le_of_ble_eq_true rfl) (fun ρ p e s m below meth c R ls G hR hret hlk hl => ?_)
  have hx := G.1.1
  have hb := G.1.2.1
  have hl : lv_has ls 7 [(0, .ref (oP ω 111)), (1, .int (iv x1))] := hl
  generalize s.drawn = d0 at G ⊢
  have hr_x1 : -2147483648 ≤ x1 ∧ x1 ≤ 2147483647 := hx1
  have hzn_ := hMZ.n
  rw [← hn] at hzn_
  obtain ⟨hz47, hzFB, hzFL, hz81, hz82, hz84, hz65, hz4, hz104⟩ := hzn_
  have ha1_ := A1.n hA1 hMZ (by omega)
  have hfr_ := (hMZ.2.2.1 (n - 1) (by omega) (by omega)).1.1
  have hzB := FB_1 (μ := μ) (n := n) (by omega)
  have hzL := FL_1 (μ := μ) (n := n) (by omega)
  have hf9 := hMZ.1.2.2.2.1.2.1 x1 hgr.1 hgr.2
  have hgv := hMZ.1.2.2.2.1.2.2.1 x1 hgr.1 hgr.2
  have hgv0 := hgv.1
  obtain ⟨hn5_, rk, hrk⟩ := hMZ.1.1
  have hen := hMZ.1.2.2.2.2.1
  have hfr_ := (hMZ.2.2.1 (n - 1) (by omega) (by omega)).1.1
  have hs2_ := A1.n hA1 hMZ (by omega)
  refine lv_aload_n hx hb dX12_turnsFailure_0 rfl (lv_at hl 0 rfl) ?_
  refine xa_getr G fd_X12 (a := 111) (x := 149) 70 rfl (by decide) rfl (wm 7 219 rfl rfl) ⟨rfl, rfl, rfl⟩ dX12_turnsFailure_1 rfl (G.sk 147 rfl) (by decide) rfl ?_
  refine lv_iload_n hx hb dX12_turnsFailure_4 rfl (lv_at hl 1 rfl) ?_
  refine xa_iald G (a := 149) (i := x1) rfl (by have h9 := G.lc (a := 149) (n := 12000) 87 rfl; omega) dX12_turnsFailure_5 rfl ?_
  have hr_1 : -2147483648 ≤ μ.1 149 x1 ∧ μ.1 149 x1 ≤ 2147483647 := by have h9 := G.hr (a := 149) (k := x1) rfl; exact h9
  refine lv_istore_n (lv' := [(2, .int (iv (μ.1 149 x1))), (0, .ref (oP ω 111)), (1, .int (iv x1))]) hx hb dX12_turnsFailure_6 rfl hl (by decide) rfl (fun ls hl => ?_)
  refine lv_aload_n hx hb dX12_turnsFailure_7 rfl (lv_at hl 1 rfl) ?_
  have e_2 : μ.1 111 47 = n := hn.symm
  refine xc_iV G (b := 111) (rest := []) (As := []) (c_X12_now ω l μ n (by omega) (by omega)) (wm 10 163 rfl rfl) (wm 10 165 rfl rfl) (wm 0 204 rfl rfl) rfl rfl (by decide) rfl (wm 1 18 rfl rfl) (wm 10 166 rfl rfl) (by decide) hR ⟨nfr hF (by decide), nlo hLo (by decide)⟩ (n := 0) rfl rfl (Nat.le_of_ble_eq_true rfl) hl.1 dX12_turnsFailure_8 (fun r_4 μ3 ρ d0 H locs hr_r_4 hp G => ?_)
  have hr_r_4 : -2147483648 ≤ r_4 ∧ r_4 ≤ 2147483647 := hr_r_4
  obtain ⟨hsm_5, hp_6⟩ := hp
  have hsm_5 := Eq.symm hsm_5
  subst hsm_5
  refine xb_ti (y := μ.1 127 (n - 1)) hp_6 ?_
  have hr_7 : -2147483648 ≤ μ.1 127 (n - 1) ∧ μ.1 127 (n - 1) ≤ 2147483647 := by omega
  refine lv_istore_n (lv' := [(3, .int (iv (μ.1 127 (n - 1)))), (2, .int (iv (μ.1 149 x1))), (0, .ref (oP ω 111)), (1, .int (iv x1))]) hx hb dX12_turnsFailure_11 rfl hl (by decide) rfl (fun ls hl => ?_)
  refine lv_aload_n hx hb dX12_turnsFailure_12 rfl (lv_at hl 2 rfl) ?_
  refine xc_iV G (b := 111) (rest := []) (As := []) (c_X12_step ω l μ (μ.1 111 83) (by omega) hMZ) (wm 10 122 rfl rfl) (wm 10 124 rfl rfl) (wm 0 194 rfl rfl) rfl rfl (by decide) rfl (wm 1 18 rfl rfl) (wm 10 125 rfl rfl) (by decide) hR ⟨nfr hF (by decide), nlo hLo (by decide)⟩ (n := 0) rfl rfl (Nat.le_of_ble_eq_true rfl) hl.1 dX12_turnsFailure_13 (fun r_9 μ8 ρ d0 H locs hr_r_9 hp G => ?_)
  have hr_r_9 : -2147483648 ≤ r_9 ∧ r_9 ≤ 2147483647 := hr_r_9
  obtain ⟨F_10, hp_11, hp_12, hp_13⟩ := hp
  refine xb_if_ne (tgt := 20) hx hb (by unfold ir; omega) dX12_turnsFailure_16 (by decide) (fun c_16 => ?_) (fun c_16 => ?_)
  · refine lv_iconst (v := iv 4) hx hb dX12_turnsFailure_20 rfl ?_
    refine lv_iload_n hx hb dX12_turnsFailure_21 rfl (lv_at hl 1 rfl) ?_
    refine xb_imul hx hb dX12_turnsFailure_22 ?_
    refine lv_iload_n hx hb dX12_turnsFailure_23 rfl (lv_at hl 0 rfl) ?_
    refine xb_iadd hx hb dX12_turnsFailure_24 ?_
    refine lv_istore (lv' := [(4, .int (iv ((4 * (μ.1 149 x1)) + (μ.1 127 (n - 1))))), (3, .int (iv (μ.1 127 (n - 1)))), (2, .int (iv (μ.1 149 x1))), (0, .ref (oP ω 111)), (1, .int (iv x1))]) hx hb dX12_turnsFailure_25 hl (by decide) rfl (fun ls hl => ?_)
    refine lv_aload_n hx hb dX12_turnsFailure_27 rfl (lv_at hl 3 rfl) ?_
    refine lv_iload hx hb dX12_turnsFailure_28 (lv_at hl 0 rfl) ?_
    refine lv_aload_n hx hb dX12_turnsFailure_30 rfl (lv_at hl 3 rfl) ?_
    refine xa_getr G fd_X12 (a := 111) (x := 150) 71 rfl (by decide) rfl (wm 7 220 rfl rfl) ⟨rfl, rfl, rfl⟩ dX12_turnsFailure_31 rfl (G.sk 148 rfl) (by decide) rfl ?_
    refine lv_iload_n hx hb dX12_turnsFailure_34 rfl (lv_at hl 4 rfl) ?_
    refine xa_iald G (a := 150) (i := x1) rfl (by have h9 := G.lc (a := 150) (n := 12000) 88 rfl; omega) dX12_turnsFailure_35 rfl ?_
    refine xb_ti (y := μ.1 150 x1) (F_10.1 150 (by decide) x1) ?_
    have hr_14 : -2147483648 ≤ μ.1 150 x1 ∧ μ.1 150 x1 ≤ 2147483647 := by have h9 := G.hr (a := 150) (k := x1) rfl; rw [(F_10.1 150 (by decide) x1)] at h9; exact h9
    have e_15 : μ8.1 111 104 = μ.1 111 104 := (hp_11 104 (by decide))
    have e_16 : μ8.1 111 104 = μ.1 111 104 := (hp_11 104 (by decide))
    refine xc_iV G (b := 111) (rest := []) (As := [.int (iv ((4 * (μ.1 149 x1)) + (μ.1 127 (n - 1)))), .int (iv (μ.1 150 x1))]) (c_X12_entryOf ω l μ8 ((4 * (μ.1 149 x1)) + (μ.1 127 (n - 1))) (μ.1 150 x1) (by unfold ir; omega) (by unfold ir; omega) (by omega)) (wm 10 75 rfl rfl) (wm 10 77 rfl rfl) (wm 0 187 rfl rfl) rfl rfl (by decide) rfl (wm 1 18 rfl rfl) (wm 10 78 rfl rfl) (by decide) hR ⟨nfr hF (by decide), nlo hLo (by decide)⟩ (n := 2) rfl rfl (Nat.le_of_ble_eq_true rfl) hl.1 dX12_turnsFailure_36 (fun r_18 μ17 ρ d0 H locs hr_r_18 hp G => ?_)
    have hr_r_18 : -2147483648 ≤ r_18 ∧ r_18 ≤ 2147483647 := hr_r_18
    obtain ⟨hsm_19, hp_20⟩ := hp
    have hsm_19 := Eq.symm hsm_19
    subst hsm_19
    have hK_21 : ∀ _ : Unit, r_18 = -1 ∨ (0 ≤ r_18 ∧ r_18 < μ.1 111 104 ∧ μ.1 163 r_18 = 4 * (μ.1 149 x1) + (μ.1 127 (n - 1))) := fun _ => by have h9 := hp_20 (); rw [(show μ8.1 111 104 = μ.1 111 104 from (hp_11 104 (by decide))), show μ8.1 163 r_18 = μ.1 163 r_18 from (F_10.1 163 (by decide) r_18)] at h9; exact h9
    clear hp_20
    refine lv_istore (lv' := [(5, .int (iv r_18)), (4, .int (iv ((4 * (μ.1 149 x1)) + (μ.1 127 (n - 1))))), (3, .int (iv (μ.1 127 (n - 1)))), (2, .int (iv (μ.1 149 x1))), (0, .ref (oP ω 111)), (1, .int (iv x1))]) hx hb dX12_turnsFailure_39 hl (by decide) rfl (fun ls hl => ?_)
    refine xj (pc2 := 60) (st2 := fun v_22 => [.int (iv v_22)]) (C := fun v_22 => (-2147483648 ≤ v_22 ∧ v_22 ≤ 2147483647) ∧ (v_22 = -1 ∨ (1 ≤ v_22 ∧ v_22 < μ.1 111 4))) (fun v_22 hv_23 => ?_) (fun kont_60 => ?_)
    · skip
      obtain ⟨hr_v_22, hv_23⟩ := hv_23
      refine lv_istore (lv' := [(6, .int (iv v_22)), (5, .int (iv r_18)), (4, .int (iv ((4 * (μ.1 149 x1)) + (μ.1 127 (n - 1))))), (3, .int (iv (μ.1 127 (n - 1)))), (2, .int (iv (μ.1 149 x1))), (0, .ref (oP ω 111)), (1, .int (iv x1))]) hx hb dX12_turnsFailure_60 hl (by decide) rfl (fun ls hl => ?_)
      refine xl (fun n_9 μ' ls => ∃ (k9 : Int), ∃ (w9 : Int), (μ' = μ8) ∧ (-2147483648 ≤ k9 ∧ k9 ≤ 2147483647) ∧ (-2147483648 ≤ w9 ∧ w9 ≤ 2147483647) ∧ (∀ _ : Unit, k9 = -1 ∨ (0 ≤ k9 ∧ k9 < μ.1 111 104 ∧ μ.1 163 k9 = 4 * (μ.1 149 x1) + (μ.1 127 (n - 1)))) ∧ (w9 = -1 ∨ (1 ≤ w9 ∧ w9 < μ.1 111 4)) ∧ n_9 = Int.toNat (mrk rk w9) ∧ lv_has ls 7 [(6, .int (iv w9)), (5, .int (iv k9)), (4, .int (iv ((4 * (μ.1 149 x1)) + (μ.1 127 (n - 1))))), (3, .int (iv (μ.1 127 (n - 1)))), (2, .int (iv (μ.1 149 x1))), (0, .ref (oP ω 111)), (1, .int (iv x1))]) (fun n_9 ρ μL24 d0 H locs ls hI_l G ih => ?_) _ _ _ _ _ _ _ ⟨r_18, v_22, rfl, (by omega), (by omega), (fun _ => (hK_21 ())), (by omega), rfl, lv_sub hl [0, 1, 2, 3, 4, 5, 6] rfl⟩ G
      obtain ⟨k9, w9, FL25, hi_27, hi_28, hi_29, hi_30, hn26, hl⟩ := hI_l
      have FL25 := Eq.symm FL25
      subst FL25
      refine lv_iload hx hb dX12_turnsFailure_62 (lv_at hl 1 rfl) ?_
      refine lv_iconst (v := iv (-1)) hx hb dX12_turnsFailure_64 rfl ?_
      refine xb_icmp_ne (tgt := 96) hx hb (by unfold ir; omega) (by unfold ir; omega) dX12_turnsFailure_65 (by decide) (fun c_65 => ?_) (fun c_65 => ?_)
      · refine lv_aload_n hx hb dX12_turnsFailure_96 rfl (lv_at hl 5 rfl) ?_
        refine lv_iload_n hx hb dX12_turnsFailure_97 rfl (lv_at hl 4 rfl) ?_
        refine lv_iload_n hx hb dX12_turnsFailure_98 rfl (lv_at hl 3 rfl) ?_
        refine lv_aload_n hx hb dX12_turnsFailure_99 rfl (lv_at hl 5 rfl) ?_
        refine xa_getr G fd_X12 (a := 111) (x := 151) 72 rfl (by decide) rfl (wm 7 221 rfl rfl) ⟨rfl, rfl, rfl⟩ dX12_turnsFailure_100 rfl (G.sk 149 rfl) (by decide) rfl ?_
        refine lv_iload_n hx hb dX12_turnsFailure_103 rfl (lv_at hl 6 rfl) ?_
        refine xa_bald G (a := 151) (i := x1) rfl (by have h9 := G.lc (a := 151) (n := 12000) 89 rfl; omega) dX12_turnsFailure_104 rfl ?_
        refine xb_ti (y := μ.1 151 x1) (F_10.1 151 (by decide) x1) ?_
        have hr_31 : -2147483648 ≤ μ.1 151 x1 ∧ μ.1 151 x1 ≤ 2147483647 := by have h9 := G.hr3 (a := 151) (k := x1) rfl; rw [(F_10.1 151 (by decide) x1)] at h9; exact h9
        refine lv_aload_n hx hb dX12_turnsFailure_105 rfl (lv_at hl 5 rfl) ?_
        refine xa_getr G fd_X12 (a := 111) (x := 152) 73 rfl (by decide) rfl (wm 7 222 rfl rfl) ⟨rfl, rfl, rfl⟩ dX12_turnsFailure_106 rfl (G.sk 150 rfl) (by decide) rfl ?_
        refine lv_iload_n hx hb dX12_turnsFailure_109 rfl (lv_at hl 6 rfl) ?_
        refine xa_lald G (a := 152) (i := x1) rfl (by have h9 := G.lc (a := 152) (n := 12000) 90 rfl; omega) dX12_turnsFailure_110 rfl ?_
        refine xb_tl (y := μ.1 152 x1) (F_10.1 152 (by decide) x1) ?_
        have hj_32 : jr (μ.1 152 x1) := (by have h9 := G.hj (a := 152) (k := x1) rfl; rw [(F_10.1 152 (by decide) x1)] at h9; exact h9)
        have e_33 : μ8.1 149 x1 = μ.1 149 x1 := (F_10.1 149 (by decide) x1)
        have e_34 : μ8.1 149 x1 = μ.1 149 x1 := (F_10.1 149 (by decide) x1)
        have e_35 : μ8.1 127 (n - 1) = μ.1 127 (n - 1) := (F_10.1 127 (by decide) (n - 1))
        have e_36 : μ8.1 127 (n - 1) = μ.1 127 (n - 1) := (F_10.1 127 (by decide) (n - 1))
        refine xc_vV G (b := 111) (rest := []) (As := [.int (iv (μ.1 149 x1)), .int (iv (μ.1 127 (n - 1))), .int (iv (μ.1 151 x1)), .long (jv (μ.1 152 x1))]) (c_X12_turnsValue ω l μ8 (μ.1 149 x1) (μ.1 127 (n - 1)) (μ.1 151 x1) (μ.1 152 x1) (by unfold ir; omega) (by unfold ir; omega) (by unfold ir; omega) hj_32 (by omega) (by omega)) (wm 10 179 rfl rfl) (wm 10 181 rfl rfl) (wm 0 208 rfl rfl) rfl rfl (by decide) rfl (wm 1 18 rfl rfl) (wm 10 182 rfl rfl) (by decide) hR ⟨nfr hF (by decide), nlo hLo (by decide)⟩ (n := 4) rfl rfl (Nat.le_of_ble_eq_true rfl) hl.1 dX12_turnsFailure_111 (fun μ37 ρ d0 H locs hp G => ?_)
        obtain ⟨F_38, hp_39, hp_40⟩ := hp
        refine lv_aload_n hx hb dX12_turnsFailure_114 rfl (lv_at hl 5 rfl) ?_
        refine lv_iload_n hx hb dX12_turnsFailure_115 rfl (lv_at hl 3 rfl) ?_
        refine xj (pc2 := 139) (st2 := fun v_41 => [.int (iv v_41), .int (iv (μ.1 127 (n - 1))), .ref (oP ω 111)]) (C := fun v_41 => (-2147483648 ≤ v_41 ∧ v_41 ≤ 2147483647) ∧ (∀ _ : Unit, μ.1 127 (n - 1) ≠ 1 → 1 ≤ v_41 ∧ v_41 < μ.1 111 4)) (fun v_41 hv_42 => ?_) (fun kont_139 => ?_)
        · skip
          obtain ⟨hr_v_41, hv_42⟩ := hv_42
          refine lv_aload_n hx hb dX12_turnsFailure_139 rfl (lv_at hl 5 rfl) ?_
          refine xa_geti G fd_X12 (a := 111) (x := μ37.1 111 98) 98 rfl (by decide) rfl (wm 8 7 rfl rfl) ⟨rfl, rfl, rfl⟩ dX12_turnsFailure_140 rfl rfl ?_
          have hr_43 : -2147483648 ≤ μ37.1 111 98 ∧ μ37.1 111 98 ≤ 2147483647 := by have h9 := G.hr (a := 111) (k := 98) rfl; exact h9
          refine xb_if_eq (tgt := 155) hx hb (by unfold ir; omega) dX12_turnsFailure_143 (by decide) (fun c_143 => ?_) (fun c_143 => ?_)
          · refine lv_iconst (v := iv 0) hx hb dX12_turnsFailure_155 rfl ?_
            refine lv_aload_n hx hb dX12_turnsFailure_156 rfl (lv_at hl 5 rfl) ?_
            refine xa_geti G fd_X12 (a := 111) (x := μ37.1 111 98) 98 rfl (by decide) rfl (wm 8 7 rfl rfl) ⟨rfl, rfl, rfl⟩ dX12_turnsFailure_157 rfl rfl ?_
            refine xb_if_eq (tgt := 170) hx hb (by unfold ir; omega) dX12_turnsFailure_160 (by decide) (fun c_160 => ?_) (fun c_160 => absurd c_143 c_160)
            refine lv_lconst (v := jv 0) hx hb dX12_turnsFailure_170 rfl ?_
            have e_44 : μ37.1 111 47 = n := ((hp_39 47 (by decide)).trans ((hp_11 47 (by decide)).trans hn.symm))
            have e_45 : μ37.1 111 82 = μ.1 111 82 := ((hp_39 82 (by decide)).trans (hp_11 82 (by decide)))
            have e_46 : μ37.1 111 82 = μ.1 111 82 := ((hp_39 82 (by decide)).trans (hp_11 82 (by decide)))
            have hMZ_47 : MZ μ37 := MZ.cg hp_12 F_38 (by decide) (Eqf.fd hp_39 (by decide))
            have e_48 : μ37.1 111 82 = μ.1 111 82 := ((hp_39 82 (by decide)).trans (hp_11 82 (by decide)))
            have e_49 : μ37.1 111 83 = μ8.1 111 83 := (hp_39 83 (by decide))
            have e_50 : μ37.1 127 (n - 1) = μ.1 127 (n - 1) := ((F_38.1 127 (by decide) (n - 1)).trans (F_10.1 127 (by decide) (n - 1)))
            have e_51 : μ37.1 127 (n - 1) = μ.1 127 (n - 1) := ((F_38.1 127 (by decide) (n - 1)).trans (F_10.1 127 (by decide) (n - 1)))
            have e_52 : μ37.1 111 82 = μ.1 111 82 := ((hp_39 82 (by decide)).trans (hp_11 82 (by decide)))
            have e_53 : μ37.1 111 82 = μ.1 111 82 := ((hp_39 82 (by decide)).trans (hp_11 82 (by decide)))
            have e_54 : μ37.1 111 82 = μ.1 111 82 := ((hp_39 82 (by decide)).trans (hp_11 82 (by decide)))
            have e_55 : μ37.1 127 (n - 1) = μ.1 127 (n - 1) := ((F_38.1 127 (by decide) (n - 1)).trans (F_10.1 127 (by decide) (n - 1)))
            have e_56 : μ37.1 111 82 = μ.1 111 82 := ((hp_39 82 (by decide)).trans (hp_11 82 (by decide)))
            refine xc_iV G (b := 111) (rest := []) (As := [.int (iv (μ.1 127 (n - 1))), .int (iv v_41), .int (iv 0), .long (jv 0)]) (c_X12_newFailure ω l μ37 (μ.1 127 (n - 1)) v_41 0 0 n (μ.1 111 82) (by unfold ir; omega) (by unfold ir; omega) (by unfold ir; omega) (by unfold jr; omega) (by omega) (by omega) hMZ_47 (by omega) (by omega) (by omega) (fun h9 => by rw [(show μ37.1 111 4 = μ.1 111 4 from ((hp_39 4 (by decide)).trans (hp_11 4 (by decide))))]; exact hv_42 () (by omega)) VV.n0) (wm 10 183 rfl rfl) (wm 10 185 rfl rfl) (wm 0 209 rfl rfl) rfl rfl (by decide) rfl (wm 1 18 rfl rfl) (wm 10 186 rfl rfl) (by decide) hR ⟨nfr hF (by decide), nlo hLo (by decide)⟩ (n := 4) rfl rfl (Nat.le_of_ble_eq_true rfl) hl.1 dX12_turnsFailure_171 (fun r_58 μ57 ρ d0 H locs hr_r_58 hp G => ?_)
            have hr_r_58 : -2147483648 ≤ r_58 ∧ r_58 ≤ 2147483647 := hr_r_58
            obtain ⟨F_59, hp_60, hp_61, hp_62, hs_63, hs_64, hs_65⟩ := hp
            refine xb_ti (y := μ.1 111 82) hp_62 ?_
            have hr_66 : -2147483648 ≤ μ.1 111 82 ∧ μ.1 111 82 ≤ 2147483647 := by omega
            refine lv_istore (lv' := [(6, .int (iv (μ.1 111 82))), (5, .int (iv k9)), (4, .int (iv ((4 * (μ.1 149 x1)) + (μ.1 127 (n - 1))))), (3, .int (iv (μ.1 127 (n - 1)))), (2, .int (iv (μ.1 149 x1))), (0, .ref (oP ω 111)), (1, .int (iv x1))]) hx hb dX12_turnsFailure_174 hl (by decide) rfl (fun ls hl => ?_)
            refine lv_aload_n hx hb dX12_turnsFailure_176 rfl (lv_at hl 5 rfl) ?_
            refine xa_getr G fd_X12 (a := 111) (x := 155) 76 rfl (by decide) rfl (wm 7 225 rfl rfl) ⟨rfl, rfl, rfl⟩ dX12_turnsFailure_177 rfl (G.sk 153 rfl) (by decide) rfl ?_
            refine lv_iload hx hb dX12_turnsFailure_180 (lv_at hl 0 rfl) ?_
            refine xj (pc2 := 193) (st2 := fun v_67 => [.int (iv v_67), .int (iv (μ.1 111 82)), .ref (oP ω 155)]) (C := fun v_67 => (-2147483648 ≤ v_67 ∧ v_67 ≤ 2147483647) ∧ (True)) (fun v_67 hv_68 => ?_) (fun kont_193 => ?_)
            · skip
              obtain ⟨hr_v_67, hv_68⟩ := hv_68
              refine xa_iast G (a := 155) (i := μ.1 111 82) (x := v_67) rfl (by have h9 := G.lc (a := 155) (n := 12000) 93 rfl; omega) (by unfold ir; omega) dX12_turnsFailure_193 rfl (fun H locs G => ?_)
              refine lv_aload_n hx hb dX12_turnsFailure_194 rfl (lv_at hl 5 rfl) ?_
              refine xa_getr G fd_X12 (a := 111) (x := 156) 77 rfl (by decide) rfl (wm 7 226 rfl rfl) ⟨rfl, rfl, rfl⟩ dX12_turnsFailure_195 rfl (G.sk 154 rfl) (by decide) rfl ?_
              refine lv_iload hx hb dX12_turnsFailure_198 (lv_at hl 0 rfl) ?_
              refine lv_iload_n hx hb dX12_turnsFailure_200 rfl (lv_at hl 6 rfl) ?_
              refine xa_iast G (a := 156) (i := μ.1 111 82) (x := x1) rfl (by have h9 := G.lc (a := 156) (n := 12000) 94 rfl; omega) (by unfold ir; omega) dX12_turnsFailure_201 rfl (fun H locs G => ?_)
              refine lv_aload_n hx hb dX12_turnsFailure_202 rfl (lv_at hl 5 rfl) ?_
              refine lv_dup hx hb dX12_turnsFailure_203 rfl ?_
              refine xa_geti G fd_X12 (a := 111) (x := μ.1 111 90) 90 rfl (by decide) rfl (wm 7 239 rfl rfl) ⟨rfl, rfl, rfl⟩ dX12_turnsFailure_204 rfl ((sv_n _ (fun h9 => absurd h9.1 (by decide))).trans ((sv_n _ (fun h9 => absurd h9.1 (by decide))).trans ((hp_60 90 (by decide)).trans ((hp_39 90 (by decide)).trans (hp_11 90 (by decide)))))) ?_
              have hr_69 : -2147483648 ≤ μ.1 111 90 ∧ μ.1 111 90 ≤ 2147483647 := by have h9 := G.hr (a := 111) (k := 90) rfl; rw [show (sv (sv μ57 155 (μ.1 111 82) v_67) 156 (μ.1 111 82) x1).1 111 90 = μ.1 111 90 from ((sv_n _ (fun h9 => absurd h9.1 (by decide))).trans ((sv_n _ (fun h9 => absurd h9.1 (by decide))).trans ((hp_60 90 (by decide)).trans ((hp_39 90 (by decide)).trans (hp_11 90 (by decide))))))] at h9; exact h9
              refine lv_iconst (v := iv 1) hx hb dX12_turnsFailure_207 rfl ?_
              refine xb_iadd hx hb dX12_turnsFailure_208 ?_
              refine xb_topi (fun y_70 hr_y_70 he_y_70 => ?_)
              have hr_y_70 : -2147483648 ≤ y_70 ∧ y_70 ≤ 2147483647 := hr_y_70
              refine xa_puti G fd_X12 (a := 111) (x := y_70) 90 (kz := 90) rfl rfl (by decide) rfl (by unfold ir; omega) (wm 7 239 rfl rfl) ⟨rfl, rfl, rfl, rfl⟩ rfl dX12_turnsFailure_209 rfl (fun H locs G => ?_)
              refine lv_iload_n hx hb dX12_turnsFailure_212 rfl (lv_at hl 3 rfl) ?_
              refine lv_iconst (v := iv 2) hx hb dX12_turnsFailure_213 rfl ?_
              refine xb_icmp_ne (tgt := 228) hx hb (by unfold ir; omega) (by unfold ir; omega) dX12_turnsFailure_214 (by decide) (fun c_214 => ?_) (fun c_214 => ?_)
              · refine lv_aload_n hx hb dX12_turnsFailure_228 rfl (lv_at hl 5 rfl) ?_
                refine lv_iload hx hb dX12_turnsFailure_229 (lv_at hl 0 rfl) ?_
                refine lv_iconst (v := iv 1) hx hb dX12_turnsFailure_231 rfl ?_
                have e_71 : (sv (sv (sv μ57 155 (μ.1 111 82) v_67) 156 (μ.1 111 82) x1) 111 90 y_70).1 111 83 = μ8.1 111 83 := ((sv_n _ (by decide)).trans ((sv_n _ (fun h9 => absurd h9.1 (by decide))).trans ((sv_n _ (fun h9 => absurd h9.1 (by decide))).trans ((hp_60 83 (by decide)).trans (hp_39 83 (by decide))))))
                have hrx_72 := RX.eq (μ := μ) (ν := (sv (sv (sv μ57 155 (μ.1 111 82) v_67) 156 (μ.1 111 82) x1) 111 90 y_70)) (Eqa.fr (L := [111, 156, 155, 149, 150, 151, 152, 153, 154, 157]) (FrM.put (FrM.put (FrM.put (FrM.tr (FrM.tr (FrM.tr FrM.rf F_10 (by decide)) F_38 (by decide)) F_59 (by decide)) (by decide)) (by decide)) (by decide)) (by decide)) (Eqf.fd (L := [82, 83, 84, 90, 93, 94, 98, 99]) (fun j hj => ((sv_n _ (fun h9 => hj (by rw [h9.2]; decide))).trans ((sv_n _ (fun h9 => absurd h9.1 (by decide))).trans ((sv_n _ (fun h9 => absurd h9.1 (by decide))).trans ((hp_60 j (fun h9 => hj ((by decide : ∀ x ∈ ([82] : List Int), x ∈ ([82, 83, 84, 90, 93, 94, 98, 99] : List Int)) j h9))).trans ((hp_39 j (fun h9 => hj ((by decide : ∀ x ∈ ([98, 99] : List Int), x ∈ ([82, 83, 84, 90, 93, 94, 98, 99] : List Int)) j h9))).trans (hp_11 j (fun h9 => hj ((by decide : ∀ x ∈ ([83, 84, 93, 94] : List Int), x ∈ ([82, 83, 84, 90, 93, 94, 98, 99] : List Int)) j h9))))))))) (by decide))
                have e_73 : (sv (sv (sv μ57 155 (μ.1 111 82) v_67) 156 (μ.1 111 82) x1) 111 90 y_70).1 111 94 = μ8.1 111 94 := ((sv_n _ (by decide)).trans ((sv_n _ (fun h9 => absurd h9.1 (by decide))).trans ((sv_n _ (fun h9 => absurd h9.1 (by decide))).trans ((hp_60 94 (by decide)).trans (hp_39 94 (by decide))))))
                have e_74 : (sv (sv (sv μ57 155 (μ.1 111 82) v_67) 156 (μ.1 111 82) x1) 111 90 y_70).1 111 47 = n := ((sv_n _ (by decide)).trans ((sv_n _ (fun h9 => absurd h9.1 (by decide))).trans ((sv_n _ (fun h9 => absurd h9.1 (by decide))).trans ((hp_60 47 (by decide)).trans ((hp_39 47 (by decide)).trans ((hp_11 47 (by decide)).trans hn.symm))))))
                have hMZ_75 : MZ (sv μ57 155 (μ.1 111 82) v_67) := MZ.pua hp_61 (by decide)
                have hMZ_76 : MZ (sv (sv μ57 155 (μ.1 111 82) v_67) 156 (μ.1 111 82) x1) := MZ.gf hMZ_75 (by omega)
                have hMZ_77 : MZ (sv (sv (sv μ57 155 (μ.1 111 82) v_67) 156 (μ.1 111 82) x1) 111 90 y_70) := MZ.f hMZ_76 (by decide)
                have e_78 : (sv (sv (sv μ57 155 (μ.1 111 82) v_67) 156 (μ.1 111 82) x1) 111 90 y_70).1 111 94 = μ8.1 111 94 := ((sv_n _ (by decide)).trans ((sv_n _ (fun h9 => absurd h9.1 (by decide))).trans ((sv_n _ (fun h9 => absurd h9.1 (by decide))).trans ((hp_60 94 (by decide)).trans (hp_39 94 (by decide))))))
                have hA1_79 : A1 (sv (sv (sv μ57 155 (μ.1 111 82) v_67) 156 (μ.1 111 82) x1) 111 90 y_70) := A1.mv hA1 (Eqa.fr (L := [111, 156, 155, 149, 150, 151, 152, 153, 154, 157]) (FrM.put (FrM.put (FrM.put (FrM.tr (FrM.tr (FrM.tr FrM.rf F_10 (by decide)) F_38 (by decide)) F_59 (by decide)) (by decide)) (by decide)) (by decide)) (by decide)) (Eqf.fd (L := [82, 83, 84, 90, 93, 94, 98, 99]) (fun j hj => ((sv_n _ (fun h9 => hj (by rw [h9.2]; decide))).trans ((sv_n _ (fun h9 => absurd h9.1 (by decide))).trans ((sv_n _ (fun h9 => absurd h9.1 (by decide))).trans ((hp_60 j (fun h9 => hj ((by decide : ∀ x ∈ ([82] : List Int), x ∈ ([82, 83, 84, 90, 93, 94, 98, 99] : List Int)) j h9))).trans ((hp_39 j (fun h9 => hj ((by decide : ∀ x ∈ ([98, 99] : List Int), x ∈ ([82, 83, 84, 90, 93, 94, 98, 99] : List Int)) j h9))).trans (hp_11 j (fun h9 => hj ((by decide : ∀ x ∈ ([83, 84, 93, 94] : List Int), x ∈ ([82, 83, 84, 90, 93, 94, 98, 99] : List Int)) j h9))))))))) (by decide))
                refine xc_vV G (b := 111) (rest := []) (As := [.int (iv (μ.1 111 82)), .int (iv 1)]) (((fun (_ : Om) (_ : Launch) => hG)) ω l (sv (sv (sv μ57 155 (μ.1 111 82) v_67) 156 (μ.1 111 82) x1) 111 90 y_70) (μ.1 111 82) 1 n (by unfold ir; omega) (by omega) (by omega) hMZ_77 (by omega) (by omega) (by omega) (by have h9 : (sv (sv (sv μ57 155 (μ.1 111 82) v_67) 156 (μ.1 111 82) x1) 111 90 y_70).1 111 82 = (μ.1 111 82) + 1 := ((sv_n _ (by decide)).trans ((sv_n _ (fun h9 => absurd h9.1 (by decide))).trans ((sv_n _ (fun h9 => absurd h9.1 (by decide))).trans hs_63))); omega) (by have h9 : (sv (sv (sv μ57 155 (μ.1 111 82) v_67) 156 (μ.1 111 82) x1) 111 90 y_70).1 149 (μ.1 111 82) = (μ.1 127 (n - 1)) := ((sv_n _ (fun h9 => absurd h9.1 (by decide))).trans ((sv_n _ (fun h9 => absurd h9.1 (by decide))).trans ((sv_n _ (fun h9 => absurd h9.1 (by decide))).trans hs_64))); have h8 : (sv (sv (sv μ57 155 (μ.1 111 82) v_67) 156 (μ.1 111 82) x1) 111 90 y_70).1 127 (n - 1) = μ.1 127 (n - 1) := ((sv_n _ (fun h9 => absurd h9.1 (by decide))).trans ((sv_n _ (fun h9 => absurd h9.1 (by decide))).trans ((sv_n _ (fun h9 => absurd h9.1 (by decide))).trans ((F_59.1 127 (by decide) (n - 1)).trans ((F_38.1 127 (by decide) (n - 1)).trans (F_10.1 127 (by decide) (n - 1))))))); omega) (fun _ => hA1_79)) (wm 10 187 rfl rfl) (wm 10 189 rfl rfl) (wm 0 210 rfl rfl) rfl rfl (by decide) rfl (wm 1 18 rfl rfl) (wm 10 190 rfl rfl) (by decide) hR ⟨sfr (F := F) (a := 0) (by decide), slo (L := Lo) (m := 3) (a := 0) (by decide)⟩ (n := 2) rfl rfl (Nat.le_of_ble_eq_true rfl) hl.1 dX12_turnsFailure_232 (fun μ80 ρ d0 H locs hp G => ?_)
                obtain ⟨F_81, hp_82, hp_83⟩ := hp
                exact xr_v G hret hlk dX12_turnsFailure_235 ⟨(FrM.tr (FrM.put (FrM.put (FrM.put (FrM.tr (FrM.tr (FrM.tr FrM.rf F_10 (by decide)) F_38 (by decide)) F_59 (by decide)) (by decide)) (by decide)) (by decide)) F_81 (by decide)), (fun j hj => ((hp_82 j (fun h9 => hj ((by decide : ∀ x ∈ ([47, 53, 61, 81, 82, 83, 84, 90, 91, 93, 94, 95, 96, 97, 98, 99] : List Int), x ∈ ([47, 53, 61, 81, 82, 83, 84, 90, 91, 93, 94, 95, 96, 97, 98, 99] : List Int)) j h9))).trans ((sv_n _ (fun h9 => hj (by rw [h9.2]; decide))).trans ((sv_n _ (fun h9 => absurd h9.1 (by decide))).trans ((sv_n _ (fun h9 => absurd h9.1 (by decide))).trans ((hp_60 j (fun h9 => hj ((by decide : ∀ x ∈ ([82] : List Int), x ∈ ([47, 53, 61, 81, 82, 83, 84, 90, 91, 93, 94, 95, 96, 97, 98, 99] : List Int)) j h9))).trans ((hp_39 j (fun h9 => hj ((by decide : ∀ x ∈ ([98, 99] : List Int), x ∈ ([47, 53, 61, 81, 82, 83, 84, 90, 91, 93, 94, 95, 96, 97, 98, 99] : List Int)) j h9))).trans (hp_11 j (fun h9 => hj ((by decide : ∀ x ∈ ([83, 84, 93, 94] : List Int), x ∈ ([47, 53, 61, 81, 82, 83, 84, 90, 91, 93, 94, 95, 96, 97, 98, 99] : List Int)) j h9)))))))))), (hp_83.le (by omega))⟩
              · refine lv_aload_n hx hb dX12_turnsFailure_217 rfl (lv_at hl 5 rfl) ?_
                refine lv_iconst (v := iv 4) hx hb dX12_turnsFailure_218 rfl ?_
                refine lv_iload hx hb dX12_turnsFailure_219 (lv_at hl 0 rfl) ?_
                refine xb_i2l hx hb (by unfold ir; omega) dX12_turnsFailure_221 ?_
                have e_84 : (sv (sv (sv μ57 155 (μ.1 111 82) v_67) 156 (μ.1 111 82) x1) 111 90 y_70).1 111 83 = μ8.1 111 83 := ((sv_n _ (by decide)).trans ((sv_n _ (fun h9 => absurd h9.1 (by decide))).trans ((sv_n _ (fun h9 => absurd h9.1 (by decide))).trans ((hp_60 83 (by decide)).trans (hp_39 83 (by decide))))))
                have hrx_85 := RX.eq (μ := μ) (ν := (sv (sv (sv μ57 155 (μ.1 111 82) v_67) 156 (μ.1 111 82) x1) 111 90 y_70)) (Eqa.fr (L := [111, 156, 155, 149, 150, 151, 152, 153, 154, 157]) (FrM.put (FrM.put (FrM.put (FrM.tr (FrM.tr (FrM.tr FrM.rf F_10 (by decide)) F_38 (by decide)) F_59 (by decide)) (by decide)) (by decide)) (by decide)) (by decide)) (Eqf.fd (L := [82, 83, 84, 90, 93, 94, 98, 99]) (fun j hj => ((sv_n _ (fun h9 => hj (by rw [h9.2]; decide))).trans ((sv_n _ (fun h9 => absurd h9.1 (by decide))).trans ((sv_n _ (fun h9 => absurd h9.1 (by decide))).trans ((hp_60 j (fun h9 => hj ((by decide : ∀ x ∈ ([82] : List Int), x ∈ ([82, 83, 84, 90, 93, 94, 98, 99] : List Int)) j h9))).trans ((hp_39 j (fun h9 => hj ((by decide : ∀ x ∈ ([98, 99] : List Int), x ∈ ([82, 83, 84, 90, 93, 94, 98, 99] : List Int)) j h9))).trans (hp_11 j (fun h9 => hj ((by decide : ∀ x ∈ ([83, 84, 93, 94] : List Int), x ∈ ([82, 83, 84, 90, 93, 94, 98, 99] : List Int)) j h9))))))))) (by decide))
                have e_86 : (sv (sv (sv μ57 155 (μ.1 111 82) v_67) 156 (μ.1 111 82) x1) 111 90 y_70).1 111 94 = μ8.1 111 94 := ((sv_n _ (by decide)).trans ((sv_n _ (fun h9 => absurd h9.1 (by decide))).trans ((sv_n _ (fun h9 => absurd h9.1 (by decide))).trans ((hp_60 94 (by decide)).trans (hp_39 94 (by decide))))))
                have hA1_87 : A1 (sv (sv (sv μ57 155 (μ.1 111 82) v_67) 156 (μ.1 111 82) x1) 111 90 y_70) := A1.mv hA1 (Eqa.fr (L := [111, 156, 155, 149, 150, 151, 152, 153, 154, 157]) (FrM.put (FrM.put (FrM.put (FrM.tr (FrM.tr (FrM.tr FrM.rf F_10 (by decide)) F_38 (by decide)) F_59 (by decide)) (by decide)) (by decide)) (by decide)) (by decide)) (Eqf.fd (L := [82, 83, 84, 90, 93, 94, 98, 99]) (fun j hj => ((sv_n _ (fun h9 => hj (by rw [h9.2]; decide))).trans ((sv_n _ (fun h9 => absurd h9.1 (by decide))).trans ((sv_n _ (fun h9 => absurd h9.1 (by decide))).trans ((hp_60 j (fun h9 => hj ((by decide : ∀ x ∈ ([82] : List Int), x ∈ ([82, 83, 84, 90, 93, 94, 98, 99] : List Int)) j h9))).trans ((hp_39 j (fun h9 => hj ((by decide : ∀ x ∈ ([98, 99] : List Int), x ∈ ([82, 83, 84, 90, 93, 94, 98, 99] : List Int)) j h9))).trans (hp_11 j (fun h9 => hj ((by decide : ∀ x ∈ ([83, 84, 93, 94] : List Int), x ∈ ([82, 83, 84, 90, 93, 94, 98, 99] : List Int)) j h9))))))))) (by decide))
                have e_88 : (sv (sv (sv μ57 155 (μ.1 111 82) v_67) 156 (μ.1 111 82) x1) 111 90 y_70).1 111 47 = n := ((sv_n _ (by decide)).trans ((sv_n _ (fun h9 => absurd h9.1 (by decide))).trans ((sv_n _ (fun h9 => absurd h9.1 (by decide))).trans ((hp_60 47 (by decide)).trans ((hp_39 47 (by decide)).trans ((hp_11 47 (by decide)).trans hn.symm))))))
                have e_89 : (sv (sv (sv μ57 155 (μ.1 111 82) v_67) 156 (μ.1 111 82) x1) 111 90 y_70).1 111 53 = μ.1 111 53 := ((sv_n _ (by decide)).trans ((sv_n _ (fun h9 => absurd h9.1 (by decide))).trans ((sv_n _ (fun h9 => absurd h9.1 (by decide))).trans ((hp_60 53 (by decide)).trans ((hp_39 53 (by decide)).trans (hp_11 53 (by decide)))))))
                have e_90 : (sv (sv (sv μ57 155 (μ.1 111 82) v_67) 156 (μ.1 111 82) x1) 111 90 y_70).1 111 53 = μ.1 111 53 := ((sv_n _ (by decide)).trans ((sv_n _ (fun h9 => absurd h9.1 (by decide))).trans ((sv_n _ (fun h9 => absurd h9.1 (by decide))).trans ((hp_60 53 (by decide)).trans ((hp_39 53 (by decide)).trans (hp_11 53 (by decide)))))))
                have hMZ_91 : MZ (sv μ57 155 (μ.1 111 82) v_67) := MZ.pua hp_61 (by decide)
                have hMZ_92 : MZ (sv (sv μ57 155 (μ.1 111 82) v_67) 156 (μ.1 111 82) x1) := MZ.gf hMZ_91 (by omega)
                have hMZ_93 : MZ (sv (sv (sv μ57 155 (μ.1 111 82) v_67) 156 (μ.1 111 82) x1) 111 90 y_70) := MZ.f hMZ_92 (by decide)
                have e_94 : (sv (sv (sv μ57 155 (μ.1 111 82) v_67) 156 (μ.1 111 82) x1) 111 90 y_70).1 111 53 = μ.1 111 53 := ((sv_n _ (by decide)).trans ((sv_n _ (fun h9 => absurd h9.1 (by decide))).trans ((sv_n _ (fun h9 => absurd h9.1 (by decide))).trans ((hp_60 53 (by decide)).trans ((hp_39 53 (by decide)).trans (hp_11 53 (by decide)))))))
                have e_95 : (sv (sv (sv μ57 155 (μ.1 111 82) v_67) 156 (μ.1 111 82) x1) 111 90 y_70).1 111 53 = μ.1 111 53 := ((sv_n _ (by decide)).trans ((sv_n _ (fun h9 => absurd h9.1 (by decide))).trans ((sv_n _ (fun h9 => absurd h9.1 (by decide))).trans ((hp_60 53 (by decide)).trans ((hp_39 53 (by decide)).trans (hp_11 53 (by decide)))))))
                have e_96 : (sv (sv (sv μ57 155 (μ.1 111 82) v_67) 156 (μ.1 111 82) x1) 111 90 y_70).1 111 53 = μ.1 111 53 := ((sv_n _ (by decide)).trans ((sv_n _ (fun h9 => absurd h9.1 (by decide))).trans ((sv_n _ (fun h9 => absurd h9.1 (by decide))).trans ((hp_60 53 (by decide)).trans ((hp_39 53 (by decide)).trans (hp_11 53 (by decide)))))))
                have e_97 : (sv (sv (sv μ57 155 (μ.1 111 82) v_67) 156 (μ.1 111 82) x1) 111 90 y_70).1 111 53 = μ.1 111 53 := ((sv_n _ (by decide)).trans ((sv_n _ (fun h9 => absurd h9.1 (by decide))).trans ((sv_n _ (fun h9 => absurd h9.1 (by decide))).trans ((hp_60 53 (by decide)).trans ((hp_39 53 (by decide)).trans (hp_11 53 (by decide)))))))
                have e_98 : (sv (sv (sv μ57 155 (μ.1 111 82) v_67) 156 (μ.1 111 82) x1) 111 90 y_70).1 111 82 = (μ.1 111 82) + 1 := ((sv_n _ (by decide)).trans ((sv_n _ (fun h9 => absurd h9.1 (by decide))).trans ((sv_n _ (fun h9 => absurd h9.1 (by decide))).trans hs_63)))
                refine xc_vV G (b := 111) (rest := []) (As := [.int (iv 4), .long (jv (μ.1 111 82))]) (c_X12_push ω l (sv (sv (sv μ57 155 (μ.1 111 82) v_67) 156 (μ.1 111 82) x1) 111 90 y_70) 4 (μ.1 111 82) (μ.1 111 53) (by unfold ir; omega) (by unfold jr; omega) (by omega) hMZ_93 (VV.n4 (by have h9 : (sv (sv (sv μ57 155 (μ.1 111 82) v_67) 156 (μ.1 111 82) x1) 111 90 y_70).1 111 82 = (μ.1 111 82) + 1 := ((sv_n _ (by decide)).trans ((sv_n _ (fun h9 => absurd h9.1 (by decide))).trans ((sv_n _ (fun h9 => absurd h9.1 (by decide))).trans hs_63))); omega)) (by omega)) (wm 10 127 rfl rfl) (wm 10 129 rfl rfl) (wm 0 195 rfl rfl) rfl rfl (by decide) rfl (wm 1 18 rfl rfl) (wm 10 130 rfl rfl) (by decide) hR ⟨nfr hF (by decide), nlo hLo (by decide)⟩ (n := 2) rfl rfl (Nat.le_of_ble_eq_true rfl) hl.1 dX12_turnsFailure_222 (fun μ99 ρ d0 H locs hp G => ?_)
                obtain ⟨F_100, hp_101, hp_102, hs_103, hs_104, hs_105, ha_106, ha_107⟩ := hp
                refine lv_goto (tgt := 235) hx hb dX12_turnsFailure_225 (by decide) ?_
                have e_108 : μ99.1 111 94 = μ8.1 111 94 := ((hp_101 94 (by decide)).trans ((sv_n _ (by decide)).trans ((sv_n _ (fun h9 => absurd h9.1 (by decide))).trans ((sv_n _ (fun h9 => absurd h9.1 (by decide))).trans ((hp_60 94 (by decide)).trans (hp_39 94 (by decide)))))))
                have e_109 : μ99.1 111 53 = (μ.1 111 53) + 1 := hs_103
                have e_110 : (sv (sv (sv μ57 155 (μ.1 111 82) v_67) 156 (μ.1 111 82) x1) 111 90 y_70).1 111 53 = μ.1 111 53 := ((sv_n _ (by decide)).trans ((sv_n _ (fun h9 => absurd h9.1 (by decide))).trans ((sv_n _ (fun h9 => absurd h9.1 (by decide))).trans ((hp_60 53 (by decide)).trans ((hp_39 53 (by decide)).trans (hp_11 53 (by decide)))))))
                exact xr_v G hret hlk dX12_turnsFailure_235 ⟨(FrM.tr (FrM.put (FrM.put (FrM.put (FrM.tr (FrM.tr (FrM.tr FrM.rf F_10 (by decide)) F_38 (by decide)) F_59 (by decide)) (by decide)) (by decide)) (by decide)) F_100 (by decide)), (fun j hj => ((hp_101 j (fun h9 => hj ((by decide : ∀ x ∈ ([53] : List Int), x ∈ ([47, 53, 61, 81, 82, 83, 84, 90, 91, 93, 94, 95, 96, 97, 98, 99] : List Int)) j h9))).trans ((sv_n _ (fun h9 => hj (by rw [h9.2]; decide))).trans ((sv_n _ (fun h9 => absurd h9.1 (by decide))).trans ((sv_n _ (fun h9 => absurd h9.1 (by decide))).trans ((hp_60 j (fun h9 => hj ((by decide : ∀ x ∈ ([82] : List Int), x ∈ ([47, 53, 61, 81, 82, 83, 84, 90, 91, 93, 94, 95, 96, 97, 98, 99] : List Int)) j h9))).trans ((hp_39 j (fun h9 => hj ((by decide : ∀ x ∈ ([98, 99] : List Int), x ∈ ([47, 53, 61, 81, 82, 83, 84, 90, 91, 93, 94, 95, 96, 97, 98, 99] : List Int)) j h9))).trans (hp_11 j (fun h9 => hj ((by decide : ∀ x ∈ ([83, 84, 93, 94] : List Int), x ∈ ([47, 53, 61, 81, 82, 83, 84, 90, 91, 93, 94, 95, 96, 97, 98, 99] : List Int)) j h9)))))))))), ((A1.res hA1_87 hp_102 (by have h9 : (sv (sv (sv μ57 155 (μ.1 111 82) v_67) 156 (μ.1 111 82) x1) 111 90 y_70).1 111 47 = n := ((sv_n _ (by decide)).trans ((sv_n _ (fun h9 => absurd h9.1 (by decide))).trans ((sv_n _ (fun h9 => absurd h9.1 (by decide))).trans ((hp_60 47 (by decide)).trans ((hp_39 47 (by decide)).trans ((hp_11 47 (by decide)).trans hn.symm)))))); omega) (Eqa.fr (L := [111, 135, 136]) (FrM.tr FrM.rf F_100 (by decide)) (by decide)) (Eqf.fd (L := [53]) (fun j hj => (hp_101 j (fun h9 => hj ((by decide : ∀ x ∈ ([53] : List Int), x ∈ ([53] : List Int)) j h9)))) (by decide)) (by have h9 : μ99.1 111 94 = μ8.1 111 94 := ((hp_101 94 (by decide)).trans ((sv_n _ (by decide)).trans ((sv_n _ (fun h9 => absurd h9.1 (by decide))).trans ((sv_n _ (fun h9 => absurd h9.1 (by decide))).trans ((hp_60 94 (by decide)).trans (hp_39 94 (by decide))))))); omega) (by have h9 : μ99.1 111 83 = μ8.1 111 83 := ((hp_101 83 (by decide)).trans ((sv_n _ (by decide)).trans ((sv_n _ (fun h9 => absurd h9.1 (by decide))).trans ((sv_n _ (fun h9 => absurd h9.1 (by decide))).trans ((hp_60 83 (by decide)).trans (hp_39 83 (by decide))))))); have h8 : (sv (sv (sv μ57 155 (μ.1 111 82) v_67) 156 (μ.1 111 82) x1) 111 90 y_70).1 111 83 = μ8.1 111 83 := ((sv_n _ (by decide)).trans ((sv_n _ (fun h9 => absurd h9.1 (by decide))).trans ((sv_n _ (fun h9 => absurd h9.1 (by decide))).trans ((hp_60 83 (by decide)).trans (hp_39 83 (by decide)))))); omega) (by omega)).le (by omega))⟩
            · skip
              refine lv_iload hx hb dX12_turnsFailure_182 (lv_at hl 1 rfl) ?_
              refine lv_iconst (v := iv (-1)) hx hb dX12_turnsFailure_184 rfl ?_
              refine xb_icmp_ne (tgt := 192) hx hb (by unfold ir; omega) (by unfold ir; omega) dX12_turnsFailure_185 (by decide) (fun c_185 => ?_) (fun c_185 => ?_)
              · refine lv_iconst (v := iv 1) hx hb dX12_turnsFailure_192 rfl ?_
                exact kont_193 1 ⟨by omega, trivial⟩
              · refine lv_iconst (v := iv 2) hx hb dX12_turnsFailure_188 rfl ?_
                refine lv_goto (tgt := 193) hx hb dX12_turnsFailure_189 (by decide) ?_
                exact kont_193 2 ⟨by omega, trivial⟩
          · refine lv_aload_n hx hb dX12_turnsFailure_146 rfl (lv_at hl 5 rfl) ?_
            refine xa_getr G fd_X12 (a := 111) (x := 151) 72 rfl (by decide) rfl (wm 7 221 rfl rfl) ⟨rfl, rfl, rfl⟩ dX12_turnsFailure_147 rfl (G.sk 149 rfl) (by decide) rfl ?_
            refine lv_iload_n hx hb dX12_turnsFailure_150 rfl (lv_at hl 6 rfl) ?_
            refine xa_bald G (a := 151) (i := x1) rfl (by have h9 := G.lc (a := 151) (n := 12000) 89 rfl; omega) dX12_turnsFailure_151 rfl ?_
            refine xb_ti (y := μ.1 151 x1) ((F_38.1 151 (by decide) x1).trans (F_10.1 151 (by decide) x1)) ?_
            refine lv_goto (tgt := 156) hx hb dX12_turnsFailure_152 (by decide) ?_
            refine lv_aload_n hx hb dX12_turnsFailure_156 rfl (lv_at hl 5 rfl) ?_
            refine xa_geti G fd_X12 (a := 111) (x := μ37.1 111 98) 98 rfl (by decide) rfl (wm 8 7 rfl rfl) ⟨rfl, rfl, rfl⟩ dX12_turnsFailure_157 rfl rfl ?_
            refine xb_if_eq (tgt := 170) hx hb (by unfold ir; omega) dX12_turnsFailure_160 (by decide) (fun c_160 => absurd c_160 c_143) (fun c_160 => ?_)
            refine lv_aload_n hx hb dX12_turnsFailure_163 rfl (lv_at hl 5 rfl) ?_
            refine xa_getl G fd_X12 (a := 111) (x := μ37.1 111 99) 99 rfl (by decide) rfl (wm 8 8 rfl rfl) ⟨rfl, rfl, rfl⟩ dX12_turnsFailure_164 rfl rfl ?_
            have hj_111 : jr (μ37.1 111 99) := by have h9 := G.hj (a := 111) (k := 99) rfl; exact h9
            refine lv_goto (tgt := 171) hx hb dX12_turnsFailure_167 (by decide) ?_
            have e_112 : μ37.1 111 47 = n := ((hp_39 47 (by decide)).trans ((hp_11 47 (by decide)).trans hn.symm))
            have e_113 : μ37.1 111 82 = μ.1 111 82 := ((hp_39 82 (by decide)).trans (hp_11 82 (by decide)))
            have e_114 : μ37.1 111 82 = μ.1 111 82 := ((hp_39 82 (by decide)).trans (hp_11 82 (by decide)))
            have hMZ_115 : MZ μ37 := MZ.cg hp_12 F_38 (by decide) (Eqf.fd hp_39 (by decide))
            have e_116 : μ37.1 111 82 = μ.1 111 82 := ((hp_39 82 (by decide)).trans (hp_11 82 (by decide)))
            have e_117 : μ37.1 111 83 = μ8.1 111 83 := (hp_39 83 (by decide))
            have e_118 : μ37.1 127 (n - 1) = μ.1 127 (n - 1) := ((F_38.1 127 (by decide) (n - 1)).trans (F_10.1 127 (by decide) (n - 1)))
            have e_119 : μ37.1 127 (n - 1) = μ.1 127 (n - 1) := ((F_38.1 127 (by decide) (n - 1)).trans (F_10.1 127 (by decide) (n - 1)))
            have e_120 : μ37.1 111 82 = μ.1 111 82 := ((hp_39 82 (by decide)).trans (hp_11 82 (by decide)))
            have e_121 : μ37.1 111 82 = μ.1 111 82 := ((hp_39 82 (by decide)).trans (hp_11 82 (by decide)))
            have e_122 : μ37.1 111 82 = μ.1 111 82 := ((hp_39 82 (by decide)).trans (hp_11 82 (by decide)))
            have e_123 : μ37.1 127 (n - 1) = μ.1 127 (n - 1) := ((F_38.1 127 (by decide) (n - 1)).trans (F_10.1 127 (by decide) (n - 1)))
            have e_124 : μ37.1 111 82 = μ.1 111 82 := ((hp_39 82 (by decide)).trans (hp_11 82 (by decide)))
            refine xc_iV G (b := 111) (rest := []) (As := [.int (iv (μ.1 127 (n - 1))), .int (iv v_41), .int (iv (μ.1 151 x1)), .long (jv (μ37.1 111 99))]) (c_X12_newFailure ω l μ37 (μ.1 127 (n - 1)) v_41 (μ.1 151 x1) (μ37.1 111 99) n (μ.1 111 82) (by unfold ir; omega) (by unfold ir; omega) (by unfold ir; omega) hj_111 (by omega) (by omega) hMZ_115 (by omega) (by omega) (by omega) (fun h9 => by rw [(show μ37.1 111 4 = μ.1 111 4 from ((hp_39 4 (by decide)).trans (hp_11 4 (by decide))))]; exact hv_42 () (by omega)) (by rw [(show μ37.1 111 65 = μ.1 111 65 from ((hp_39 65 (by decide)).trans (hp_11 65 (by decide)))), (show μ37.1 111 82 = μ.1 111 82 from ((hp_39 82 (by decide)).trans (hp_11 82 (by decide))))]; rcases Classical.em (μ.1 151 x1 = 1) with h9 | h9; (rw [h9]; exact VV.n1); (rw [show μ37.1 111 99 = μ.1 152 x1 from (hp_40 h9).2]; exact hgv))) (wm 10 183 rfl rfl) (wm 10 185 rfl rfl) (wm 0 209 rfl rfl) rfl rfl (by decide) rfl (wm 1 18 rfl rfl) (wm 10 186 rfl rfl) (by decide) hR ⟨nfr hF (by decide), nlo hLo (by decide)⟩ (n := 4) rfl rfl (Nat.le_of_ble_eq_true rfl) hl.1 dX12_turnsFailure_171 (fun r_126 μ125 ρ d0 H locs hr_r_126 hp G => ?_)
            have hr_r_126 : -2147483648 ≤ r_126 ∧ r_126 ≤ 2147483647 := hr_r_126
            obtain ⟨F_127, hp_128, hp_129, hp_130, hs_131, hs_132, hs_133⟩ := hp
            refine xb_ti (y := μ.1 111 82) hp_130 ?_
            have hr_134 : -2147483648 ≤ μ.1 111 82 ∧ μ.1 111 82 ≤ 2147483647 := by omega
            refine lv_istore (lv' := [(6, .int (iv (μ.1 111 82))), (5, .int (iv k9)), (4, .int (iv ((4 * (μ.1 149 x1)) + (μ.1 127 (n - 1))))), (3, .int (iv (μ.1 127 (n - 1)))), (2, .int (iv (μ.1 149 x1))), (0, .ref (oP ω 111)), (1, .int (iv x1))]) hx hb dX12_turnsFailure_174 hl (by decide) rfl (fun ls hl => ?_)
            refine lv_aload_n hx hb dX12_turnsFailure_176 rfl (lv_at hl 5 rfl) ?_
            refine xa_getr G fd_X12 (a := 111) (x := 155) 76 rfl (by decide) rfl (wm 7 225 rfl rfl) ⟨rfl, rfl, rfl⟩ dX12_turnsFailure_177 rfl (G.sk 153 rfl) (by decide) rfl ?_
            refine lv_iload hx hb dX12_turnsFailure_180 (lv_at hl 0 rfl) ?_
            refine xj (pc2 := 193) (st2 := fun v_135 => [.int (iv v_135), .int (iv (μ.1 111 82)), .ref (oP ω 155)]) (C := fun v_135 => (-2147483648 ≤ v_135 ∧ v_135 ≤ 2147483647) ∧ (True)) (fun v_135 hv_136 => ?_) (fun kont_193 => ?_)
            · skip
              obtain ⟨hr_v_135, hv_136⟩ := hv_136
              refine xa_iast G (a := 155) (i := μ.1 111 82) (x := v_135) rfl (by have h9 := G.lc (a := 155) (n := 12000) 93 rfl; omega) (by unfold ir; omega) dX12_turnsFailure_193 rfl (fun H locs G => ?_)
              refine lv_aload_n hx hb dX12_turnsFailure_194 rfl (lv_at hl 5 rfl) ?_
              refine xa_getr G fd_X12 (a := 111) (x := 156) 77 rfl (by decide) rfl (wm 7 226 rfl rfl) ⟨rfl, rfl, rfl⟩ dX12_turnsFailure_195 rfl (G.sk 154 rfl) (by decide) rfl ?_
              refine lv_iload hx hb dX12_turnsFailure_198 (lv_at hl 0 rfl) ?_
              refine lv_iload_n hx hb dX12_turnsFailure_200 rfl (lv_at hl 6 rfl) ?_
              refine xa_iast G (a := 156) (i := μ.1 111 82) (x := x1) rfl (by have h9 := G.lc (a := 156) (n := 12000) 94 rfl; omega) (by unfold ir; omega) dX12_turnsFailure_201 rfl (fun H locs G => ?_)
              refine lv_aload_n hx hb dX12_turnsFailure_202 rfl (lv_at hl 5 rfl) ?_
              refine lv_dup hx hb dX12_turnsFailure_203 rfl ?_
              refine xa_geti G fd_X12 (a := 111) (x := μ.1 111 90) 90 rfl (by decide) rfl (wm 7 239 rfl rfl) ⟨rfl, rfl, rfl⟩ dX12_turnsFailure_204 rfl ((sv_n _ (fun h9 => absurd h9.1 (by decide))).trans ((sv_n _ (fun h9 => absurd h9.1 (by decide))).trans ((hp_128 90 (by decide)).trans ((hp_39 90 (by decide)).trans (hp_11 90 (by decide)))))) ?_
              have hr_137 : -2147483648 ≤ μ.1 111 90 ∧ μ.1 111 90 ≤ 2147483647 := by have h9 := G.hr (a := 111) (k := 90) rfl; rw [show (sv (sv μ125 155 (μ.1 111 82) v_135) 156 (μ.1 111 82) x1).1 111 90 = μ.1 111 90 from ((sv_n _ (fun h9 => absurd h9.1 (by decide))).trans ((sv_n _ (fun h9 => absurd h9.1 (by decide))).trans ((hp_128 90 (by decide)).trans ((hp_39 90 (by decide)).trans (hp_11 90 (by decide))))))] at h9; exact h9
              refine lv_iconst (v := iv 1) hx hb dX12_turnsFailure_207 rfl ?_
              refine xb_iadd hx hb dX12_turnsFailure_208 ?_
              refine xb_topi (fun y_138 hr_y_138 he_y_138 => ?_)
              have hr_y_138 : -2147483648 ≤ y_138 ∧ y_138 ≤ 2147483647 := hr_y_138
              refine xa_puti G fd_X12 (a := 111) (x := y_138) 90 (kz := 90) rfl rfl (by decide) rfl (by unfold ir; omega) (wm 7 239 rfl rfl) ⟨rfl, rfl, rfl, rfl⟩ rfl dX12_turnsFailure_209 rfl (fun H locs G => ?_)
              refine lv_iload_n hx hb dX12_turnsFailure_212 rfl (lv_at hl 3 rfl) ?_
              refine lv_iconst (v := iv 2) hx hb dX12_turnsFailure_213 rfl ?_
              refine xb_icmp_ne (tgt := 228) hx hb (by unfold ir; omega) (by unfold ir; omega) dX12_turnsFailure_214 (by decide) (fun c_214 => ?_) (fun c_214 => ?_)
              · refine lv_aload_n hx hb dX12_turnsFailure_228 rfl (lv_at hl 5 rfl) ?_
                refine lv_iload hx hb dX12_turnsFailure_229 (lv_at hl 0 rfl) ?_
                refine lv_iconst (v := iv 1) hx hb dX12_turnsFailure_231 rfl ?_
                have e_139 : (sv (sv (sv μ125 155 (μ.1 111 82) v_135) 156 (μ.1 111 82) x1) 111 90 y_138).1 111 83 = μ8.1 111 83 := ((sv_n _ (by decide)).trans ((sv_n _ (fun h9 => absurd h9.1 (by decide))).trans ((sv_n _ (fun h9 => absurd h9.1 (by decide))).trans ((hp_128 83 (by decide)).trans (hp_39 83 (by decide))))))
                have hrx_140 := RX.eq (μ := μ) (ν := (sv (sv (sv μ125 155 (μ.1 111 82) v_135) 156 (μ.1 111 82) x1) 111 90 y_138)) (Eqa.fr (L := [111, 156, 155, 149, 150, 151, 152, 153, 154, 157]) (FrM.put (FrM.put (FrM.put (FrM.tr (FrM.tr (FrM.tr FrM.rf F_10 (by decide)) F_38 (by decide)) F_127 (by decide)) (by decide)) (by decide)) (by decide)) (by decide)) (Eqf.fd (L := [82, 83, 84, 90, 93, 94, 98, 99]) (fun j hj => ((sv_n _ (fun h9 => hj (by rw [h9.2]; decide))).trans ((sv_n _ (fun h9 => absurd h9.1 (by decide))).trans ((sv_n _ (fun h9 => absurd h9.1 (by decide))).trans ((hp_128 j (fun h9 => hj ((by decide : ∀ x ∈ ([82] : List Int), x ∈ ([82, 83, 84, 90, 93, 94, 98, 99] : List Int)) j h9))).trans ((hp_39 j (fun h9 => hj ((by decide : ∀ x ∈ ([98, 99] : List Int), x ∈ ([82, 83, 84, 90, 93, 94, 98, 99] : List Int)) j h9))).trans (hp_11 j (fun h9 => hj ((by decide : ∀ x ∈ ([83, 84, 93, 94] : List Int), x ∈ ([82, 83, 84, 90, 93, 94, 98, 99] : List Int)) j h9))))))))) (by decide))
                have e_141 : (sv (sv (sv μ125 155 (μ.1 111 82) v_135) 156 (μ.1 111 82) x1) 111 90 y_138).1 111 94 = μ8.1 111 94 := ((sv_n _ (by decide)).trans ((sv_n _ (fun h9 => absurd h9.1 (by decide))).trans ((sv_n _ (fun h9 => absurd h9.1 (by decide))).trans ((hp_128 94 (by decide)).trans (hp_39 94 (by decide))))))
                have e_142 : (sv (sv (sv μ125 155 (μ.1 111 82) v_135) 156 (μ.1 111 82) x1) 111 90 y_138).1 111 47 = n := ((sv_n _ (by decide)).trans ((sv_n _ (fun h9 => absurd h9.1 (by decide))).trans ((sv_n _ (fun h9 => absurd h9.1 (by decide))).trans ((hp_128 47 (by decide)).trans ((hp_39 47 (by decide)).trans ((hp_11 47 (by decide)).trans hn.symm))))))
                have hMZ_143 : MZ (sv μ125 155 (μ.1 111 82) v_135) := MZ.pua hp_129 (by decide)
                have hMZ_144 : MZ (sv (sv μ125 155 (μ.1 111 82) v_135) 156 (μ.1 111 82) x1) := MZ.gf hMZ_143 (by omega)
                have hMZ_145 : MZ (sv (sv (sv μ125 155 (μ.1 111 82) v_135) 156 (μ.1 111 82) x1) 111 90 y_138) := MZ.f hMZ_144 (by decide)
                have e_146 : (sv (sv (sv μ125 155 (μ.1 111 82) v_135) 156 (μ.1 111 82) x1) 111 90 y_138).1 111 94 = μ8.1 111 94 := ((sv_n _ (by decide)).trans ((sv_n _ (fun h9 => absurd h9.1 (by decide))).trans ((sv_n _ (fun h9 => absurd h9.1 (by decide))).trans ((hp_128 94 (by decide)).trans (hp_39 94 (by decide))))))
                have hA1_147 : A1 (sv (sv (sv μ125 155 (μ.1 111 82) v_135) 156 (μ.1 111 82) x1) 111 90 y_138) := A1.mv hA1 (Eqa.fr (L := [111, 156, 155, 149, 150, 151, 152, 153, 154, 157]) (FrM.put (FrM.put (FrM.put (FrM.tr (FrM.tr (FrM.tr FrM.rf F_10 (by decide)) F_38 (by decide)) F_127 (by decide)) (by decide)) (by decide)) (by decide)) (by decide)) (Eqf.fd (L := [82, 83, 84, 90, 93, 94, 98, 99]) (fun j hj => ((sv_n _ (fun h9 => hj (by rw [h9.2]; decide))).trans ((sv_n _ (fun h9 => absurd h9.1 (by decide))).trans ((sv_n _ (fun h9 => absurd h9.1 (by decide))).trans ((hp_128 j (fun h9 => hj ((by decide : ∀ x ∈ ([82] : List Int), x ∈ ([82, 83, 84, 90, 93, 94, 98, 99] : List Int)) j h9))).trans ((hp_39 j (fun h9 => hj ((by decide : ∀ x ∈ ([98, 99] : List Int), x ∈ ([82, 83, 84, 90, 93, 94, 98, 99] : List Int)) j h9))).trans (hp_11 j (fun h9 => hj ((by decide : ∀ x ∈ ([83, 84, 93, 94] : List Int), x ∈ ([82, 83, 84, 90, 93, 94, 98, 99] : List Int)) j h9))))))))) (by decide))
                refine xc_vV G (b := 111) (rest := []) (As := [.int (iv (μ.1 111 82)), .int (iv 1)]) (((fun (_ : Om) (_ : Launch) => hG)) ω l (sv (sv (sv μ125 155 (μ.1 111 82) v_135) 156 (μ.1 111 82) x1) 111 90 y_138) (μ.1 111 82) 1 n (by unfold ir; omega) (by omega) (by omega) hMZ_145 (by omega) (by omega) (by omega) (by have h9 : (sv (sv (sv μ125 155 (μ.1 111 82) v_135) 156 (μ.1 111 82) x1) 111 90 y_138).1 111 82 = (μ.1 111 82) + 1 := ((sv_n _ (by decide)).trans ((sv_n _ (fun h9 => absurd h9.1 (by decide))).trans ((sv_n _ (fun h9 => absurd h9.1 (by decide))).trans hs_131))); omega) (by have h9 : (sv (sv (sv μ125 155 (μ.1 111 82) v_135) 156 (μ.1 111 82) x1) 111 90 y_138).1 149 (μ.1 111 82) = (μ.1 127 (n - 1)) := ((sv_n _ (fun h9 => absurd h9.1 (by decide))).trans ((sv_n _ (fun h9 => absurd h9.1 (by decide))).trans ((sv_n _ (fun h9 => absurd h9.1 (by decide))).trans hs_132))); have h8 : (sv (sv (sv μ125 155 (μ.1 111 82) v_135) 156 (μ.1 111 82) x1) 111 90 y_138).1 127 (n - 1) = μ.1 127 (n - 1) := ((sv_n _ (fun h9 => absurd h9.1 (by decide))).trans ((sv_n _ (fun h9 => absurd h9.1 (by decide))).trans ((sv_n _ (fun h9 => absurd h9.1 (by decide))).trans ((F_127.1 127 (by decide) (n - 1)).trans ((F_38.1 127 (by decide) (n - 1)).trans (F_10.1 127 (by decide) (n - 1))))))); omega) (fun _ => hA1_147)) (wm 10 187 rfl rfl) (wm 10 189 rfl rfl) (wm 0 210 rfl rfl) rfl rfl (by decide) rfl (wm 1 18 rfl rfl) (wm 10 190 rfl rfl) (by decide) hR ⟨sfr (F := F) (a := 0) (by decide), slo (L := Lo) (m := 3) (a := 0) (by decide)⟩ (n := 2) rfl rfl (Nat.le_of_ble_eq_true rfl) hl.1 dX12_turnsFailure_232 (fun μ148 ρ d0 H locs hp G => ?_)
                obtain ⟨F_149, hp_150, hp_151⟩ := hp
                exact xr_v G hret hlk dX12_turnsFailure_235 ⟨(FrM.tr (FrM.put (FrM.put (FrM.put (FrM.tr (FrM.tr (FrM.tr FrM.rf F_10 (by decide)) F_38 (by decide)) F_127 (by decide)) (by decide)) (by decide)) (by decide)) F_149 (by decide)), (fun j hj => ((hp_150 j (fun h9 => hj ((by decide : ∀ x ∈ ([47, 53, 61, 81, 82, 83, 84, 90, 91, 93, 94, 95, 96, 97, 98, 99] : List Int), x ∈ ([47, 53, 61, 81, 82, 83, 84, 90, 91, 93, 94, 95, 96, 97, 98, 99] : List Int)) j h9))).trans ((sv_n _ (fun h9 => hj (by rw [h9.2]; decide))).trans ((sv_n _ (fun h9 => absurd h9.1 (by decide))).trans ((sv_n _ (fun h9 => absurd h9.1 (by decide))).trans ((hp_128 j (fun h9 => hj ((by decide : ∀ x ∈ ([82] : List Int), x ∈ ([47, 53, 61, 81, 82, 83, 84, 90, 91, 93, 94, 95, 96, 97, 98, 99] : List Int)) j h9))).trans ((hp_39 j (fun h9 => hj ((by decide : ∀ x ∈ ([98, 99] : List Int), x ∈ ([47, 53, 61, 81, 82, 83, 84, 90, 91, 93, 94, 95, 96, 97, 98, 99] : List Int)) j h9))).trans (hp_11 j (fun h9 => hj ((by decide : ∀ x ∈ ([83, 84, 93, 94] : List Int), x ∈ ([47, 53, 61, 81, 82, 83, 84, 90, 91, 93, 94, 95, 96, 97, 98, 99] : List Int)) j h9)))))))))), (hp_151.le (by omega))⟩
              · refine lv_aload_n hx hb dX12_turnsFailure_217 rfl (lv_at hl 5 rfl) ?_
                refine lv_iconst (v := iv 4) hx hb dX12_turnsFailure_218 rfl ?_
                refine lv_iload hx hb dX12_turnsFailure_219 (lv_at hl 0 rfl) ?_
                refine xb_i2l hx hb (by unfold ir; omega) dX12_turnsFailure_221 ?_
                have e_152 : (sv (sv (sv μ125 155 (μ.1 111 82) v_135) 156 (μ.1 111 82) x1) 111 90 y_138).1 111 83 = μ8.1 111 83 := ((sv_n _ (by decide)).trans ((sv_n _ (fun h9 => absurd h9.1 (by decide))).trans ((sv_n _ (fun h9 => absurd h9.1 (by decide))).trans ((hp_128 83 (by decide)).trans (hp_39 83 (by decide))))))
                have hrx_153 := RX.eq (μ := μ) (ν := (sv (sv (sv μ125 155 (μ.1 111 82) v_135) 156 (μ.1 111 82) x1) 111 90 y_138)) (Eqa.fr (L := [111, 156, 155, 149, 150, 151, 152, 153, 154, 157]) (FrM.put (FrM.put (FrM.put (FrM.tr (FrM.tr (FrM.tr FrM.rf F_10 (by decide)) F_38 (by decide)) F_127 (by decide)) (by decide)) (by decide)) (by decide)) (by decide)) (Eqf.fd (L := [82, 83, 84, 90, 93, 94, 98, 99]) (fun j hj => ((sv_n _ (fun h9 => hj (by rw [h9.2]; decide))).trans ((sv_n _ (fun h9 => absurd h9.1 (by decide))).trans ((sv_n _ (fun h9 => absurd h9.1 (by decide))).trans ((hp_128 j (fun h9 => hj ((by decide : ∀ x ∈ ([82] : List Int), x ∈ ([82, 83, 84, 90, 93, 94, 98, 99] : List Int)) j h9))).trans ((hp_39 j (fun h9 => hj ((by decide : ∀ x ∈ ([98, 99] : List Int), x ∈ ([82, 83, 84, 90, 93, 94, 98, 99] : List Int)) j h9))).trans (hp_11 j (fun h9 => hj ((by decide : ∀ x ∈ ([83, 84, 93, 94] : List Int), x ∈ ([82, 83, 84, 90, 93, 94, 98, 99] : List Int)) j h9))))))))) (by decide))
                have e_154 : (sv (sv (sv μ125 155 (μ.1 111 82) v_135) 156 (μ.1 111 82) x1) 111 90 y_138).1 111 94 = μ8.1 111 94 := ((sv_n _ (by decide)).trans ((sv_n _ (fun h9 => absurd h9.1 (by decide))).trans ((sv_n _ (fun h9 => absurd h9.1 (by decide))).trans ((hp_128 94 (by decide)).trans (hp_39 94 (by decide))))))
                have hA1_155 : A1 (sv (sv (sv μ125 155 (μ.1 111 82) v_135) 156 (μ.1 111 82) x1) 111 90 y_138) := A1.mv hA1 (Eqa.fr (L := [111, 156, 155, 149, 150, 151, 152, 153, 154, 157]) (FrM.put (FrM.put (FrM.put (FrM.tr (FrM.tr (FrM.tr FrM.rf F_10 (by decide)) F_38 (by decide)) F_127 (by decide)) (by decide)) (by decide)) (by decide)) (by decide)) (Eqf.fd (L := [82, 83, 84, 90, 93, 94, 98, 99]) (fun j hj => ((sv_n _ (fun h9 => hj (by rw [h9.2]; decide))).trans ((sv_n _ (fun h9 => absurd h9.1 (by decide))).trans ((sv_n _ (fun h9 => absurd h9.1 (by decide))).trans ((hp_128 j (fun h9 => hj ((by decide : ∀ x ∈ ([82] : List Int), x ∈ ([82, 83, 84, 90, 93, 94, 98, 99] : List Int)) j h9))).trans ((hp_39 j (fun h9 => hj ((by decide : ∀ x ∈ ([98, 99] : List Int), x ∈ ([82, 83, 84, 90, 93, 94, 98, 99] : List Int)) j h9))).trans (hp_11 j (fun h9 => hj ((by decide : ∀ x ∈ ([83, 84, 93, 94] : List Int), x ∈ ([82, 83, 84, 90, 93, 94, 98, 99] : List Int)) j h9))))))))) (by decide))
                have e_156 : (sv (sv (sv μ125 155 (μ.1 111 82) v_135) 156 (μ.1 111 82) x1) 111 90 y_138).1 111 47 = n := ((sv_n _ (by decide)).trans ((sv_n _ (fun h9 => absurd h9.1 (by decide))).trans ((sv_n _ (fun h9 => absurd h9.1 (by decide))).trans ((hp_128 47 (by decide)).trans ((hp_39 47 (by decide)).trans ((hp_11 47 (by decide)).trans hn.symm))))))
                have e_157 : (sv (sv (sv μ125 155 (μ.1 111 82) v_135) 156 (μ.1 111 82) x1) 111 90 y_138).1 111 53 = μ.1 111 53 := ((sv_n _ (by decide)).trans ((sv_n _ (fun h9 => absurd h9.1 (by decide))).trans ((sv_n _ (fun h9 => absurd h9.1 (by decide))).trans ((hp_128 53 (by decide)).trans ((hp_39 53 (by decide)).trans (hp_11 53 (by decide)))))))
                have e_158 : (sv (sv (sv μ125 155 (μ.1 111 82) v_135) 156 (μ.1 111 82) x1) 111 90 y_138).1 111 53 = μ.1 111 53 := ((sv_n _ (by decide)).trans ((sv_n _ (fun h9 => absurd h9.1 (by decide))).trans ((sv_n _ (fun h9 => absurd h9.1 (by decide))).trans ((hp_128 53 (by decide)).trans ((hp_39 53 (by decide)).trans (hp_11 53 (by decide)))))))
                have hMZ_159 : MZ (sv μ125 155 (μ.1 111 82) v_135) := MZ.pua hp_129 (by decide)
                have hMZ_160 : MZ (sv (sv μ125 155 (μ.1 111 82) v_135) 156 (μ.1 111 82) x1) := MZ.gf hMZ_159 (by omega)
                have hMZ_161 : MZ (sv (sv (sv μ125 155 (μ.1 111 82) v_135) 156 (μ.1 111 82) x1) 111 90 y_138) := MZ.f hMZ_160 (by decide)
                have e_162 : (sv (sv (sv μ125 155 (μ.1 111 82) v_135) 156 (μ.1 111 82) x1) 111 90 y_138).1 111 53 = μ.1 111 53 := ((sv_n _ (by decide)).trans ((sv_n _ (fun h9 => absurd h9.1 (by decide))).trans ((sv_n _ (fun h9 => absurd h9.1 (by decide))).trans ((hp_128 53 (by decide)).trans ((hp_39 53 (by decide)).trans (hp_11 53 (by decide)))))))
                have e_163 : (sv (sv (sv μ125 155 (μ.1 111 82) v_135) 156 (μ.1 111 82) x1) 111 90 y_138).1 111 53 = μ.1 111 53 := ((sv_n _ (by decide)).trans ((sv_n _ (fun h9 => absurd h9.1 (by decide))).trans ((sv_n _ (fun h9 => absurd h9.1 (by decide))).trans ((hp_128 53 (by decide)).trans ((hp_39 53 (by decide)).trans (hp_11 53 (by decide)))))))
                have e_164 : (sv (sv (sv μ125 155 (μ.1 111 82) v_135) 156 (μ.1 111 82) x1) 111 90 y_138).1 111 53 = μ.1 111 53 := ((sv_n _ (by decide)).trans ((sv_n _ (fun h9 => absurd h9.1 (by decide))).trans ((sv_n _ (fun h9 => absurd h9.1 (by decide))).trans ((hp_128 53 (by decide)).trans ((hp_39 53 (by decide)).trans (hp_11 53 (by decide)))))))
                have e_165 : (sv (sv (sv μ125 155 (μ.1 111 82) v_135) 156 (μ.1 111 82) x1) 111 90 y_138).1 111 53 = μ.1 111 53 := ((sv_n _ (by decide)).trans ((sv_n _ (fun h9 => absurd h9.1 (by decide))).trans ((sv_n _ (fun h9 => absurd h9.1 (by decide))).trans ((hp_128 53 (by decide)).trans ((hp_39 53 (by decide)).trans (hp_11 53 (by decide)))))))
                have e_166 : (sv (sv (sv μ125 155 (μ.1 111 82) v_135) 156 (μ.1 111 82) x1) 111 90 y_138).1 111 82 = (μ.1 111 82) + 1 := ((sv_n _ (by decide)).trans ((sv_n _ (fun h9 => absurd h9.1 (by decide))).trans ((sv_n _ (fun h9 => absurd h9.1 (by decide))).trans hs_131)))
                refine xc_vV G (b := 111) (rest := []) (As := [.int (iv 4), .long (jv (μ.1 111 82))]) (c_X12_push ω l (sv (sv (sv μ125 155 (μ.1 111 82) v_135) 156 (μ.1 111 82) x1) 111 90 y_138) 4 (μ.1 111 82) (μ.1 111 53) (by unfold ir; omega) (by unfold jr; omega) (by omega) hMZ_161 (VV.n4 (by have h9 : (sv (sv (sv μ125 155 (μ.1 111 82) v_135) 156 (μ.1 111 82) x1) 111 90 y_138).1 111 82 = (μ.1 111 82) + 1 := ((sv_n _ (by decide)).trans ((sv_n _ (fun h9 => absurd h9.1 (by decide))).trans ((sv_n _ (fun h9 => absurd h9.1 (by decide))).trans hs_131))); omega)) (by omega)) (wm 10 127 rfl rfl) (wm 10 129 rfl rfl) (wm 0 195 rfl rfl) rfl rfl (by decide) rfl (wm 1 18 rfl rfl) (wm 10 130 rfl rfl) (by decide) hR ⟨nfr hF (by decide), nlo hLo (by decide)⟩ (n := 2) rfl rfl (Nat.le_of_ble_eq_true rfl) hl.1 dX12_turnsFailure_222 (fun μ167 ρ d0 H locs hp G => ?_)
                obtain ⟨F_168, hp_169, hp_170, hs_171, hs_172, hs_173, ha_174, ha_175⟩ := hp
                refine lv_goto (tgt := 235) hx hb dX12_turnsFailure_225 (by decide) ?_
                have e_176 : μ167.1 111 94 = μ8.1 111 94 := ((hp_169 94 (by decide)).trans ((sv_n _ (by decide)).trans ((sv_n _ (fun h9 => absurd h9.1 (by decide))).trans ((sv_n _ (fun h9 => absurd h9.1 (by decide))).trans ((hp_128 94 (by decide)).trans (hp_39 94 (by decide)))))))
                have e_177 : μ167.1 111 53 = (μ.1 111 53) + 1 := hs_171
                have e_178 : (sv (sv (sv μ125 155 (μ.1 111 82) v_135) 156 (μ.1 111 82) x1) 111 90 y_138).1 111 53 = μ.1 111 53 := ((sv_n _ (by decide)).trans ((sv_n _ (fun h9 => absurd h9.1 (by decide))).trans ((sv_n _ (fun h9 => absurd h9.1 (by decide))).trans ((hp_128 53 (by decide)).trans ((hp_39 53 (by decide)).trans (hp_11 53 (by decide)))))))
                exact xr_v G hret hlk dX12_turnsFailure_235 ⟨(FrM.tr (FrM.put (FrM.put (FrM.put (FrM.tr (FrM.tr (FrM.tr FrM.rf F_10 (by decide)) F_38 (by decide)) F_127 (by decide)) (by decide)) (by decide)) (by decide)) F_168 (by decide)), (fun j hj => ((hp_169 j (fun h9 => hj ((by decide : ∀ x ∈ ([53] : List Int), x ∈ ([47, 53, 61, 81, 82, 83, 84, 90, 91, 93, 94, 95, 96, 97, 98, 99] : List Int)) j h9))).trans ((sv_n _ (fun h9 => hj (by rw [h9.2]; decide))).trans ((sv_n _ (fun h9 => absurd h9.1 (by decide))).trans ((sv_n _ (fun h9 => absurd h9.1 (by decide))).trans ((hp_128 j (fun h9 => hj ((by decide : ∀ x ∈ ([82] : List Int), x ∈ ([47, 53, 61, 81, 82, 83, 84, 90, 91, 93, 94, 95, 96, 97, 98, 99] : List Int)) j h9))).trans ((hp_39 j (fun h9 => hj ((by decide : ∀ x ∈ ([98, 99] : List Int), x ∈ ([47, 53, 61, 81, 82, 83, 84, 90, 91, 93, 94, 95, 96, 97, 98, 99] : List Int)) j h9))).trans (hp_11 j (fun h9 => hj ((by decide : ∀ x ∈ ([83, 84, 93, 94] : List Int), x ∈ ([47, 53, 61, 81, 82, 83, 84, 90, 91, 93, 94, 95, 96, 97, 98, 99] : List Int)) j h9)))))))))), ((A1.res hA1_155 hp_170 (by have h9 : (sv (sv (sv μ125 155 (μ.1 111 82) v_135) 156 (μ.1 111 82) x1) 111 90 y_138).1 111 47 = n := ((sv_n _ (by decide)).trans ((sv_n _ (fun h9 => absurd h9.1 (by decide))).trans ((sv_n _ (fun h9 => absurd h9.1 (by decide))).trans ((hp_128 47 (by decide)).trans ((hp_39 47 (by decide)).trans ((hp_11 47 (by decide)).trans hn.symm)))))); omega) (Eqa.fr (L := [111, 135, 136]) (FrM.tr FrM.rf F_168 (by decide)) (by decide)) (Eqf.fd (L := [53]) (fun j hj => (hp_169 j (fun h9 => hj ((by decide : ∀ x ∈ ([53] : List Int), x ∈ ([53] : List Int)) j h9)))) (by decide)) (by have h9 : μ167.1 111 94 = μ8.1 111 94 := ((hp_169 94 (by decide)).trans ((sv_n _ (by decide)).trans ((sv_n _ (fun h9 => absurd h9.1 (by decide))).trans ((sv_n _ (fun h9 => absurd h9.1 (by decide))).trans ((hp_128 94 (by decide)).trans (hp_39 94 (by decide))))))); omega) (by have h9 : μ167.1 111 83 = μ8.1 111 83 := ((hp_169 83 (by decide)).trans ((sv_n _ (by decide)).trans ((sv_n _ (fun h9 => absurd h9.1 (by decide))).trans ((sv_n _ (fun h9 => absurd h9.1 (by decide))).trans ((hp_128 83 (by decide)).trans (hp_39 83 (by decide))))))); have h8 : (sv (sv (sv μ125 155 (μ.1 111 82) v_135) 156 (μ.1 111 82) x1) 111 90 y_138).1 111 83 = μ8.1 111 83 := ((sv_n _ (by decide)).trans ((sv_n _ (fun h9 => absurd h9.1 (by decide))).trans ((sv_n _ (fun h9 => absurd h9.1 (by decide))).trans ((hp_128 83 (by decide)).trans (hp_39 83 (by decide)))))); omega) (by omega)).le (by omega))⟩
            · skip
              refine lv_iload hx hb dX12_turnsFailure_182 (lv_at hl 1 rfl) ?_
              refine lv_iconst (v := iv (-1)) hx hb dX12_turnsFailure_184 rfl ?_
              refine xb_icmp_ne (tgt := 192) hx hb (by unfold ir; omega) (by unfold ir; omega) dX12_turnsFailure_185 (by decide) (fun c_185 => ?_) (fun c_185 => ?_)
              · refine lv_iconst (v := iv 1) hx hb dX12_turnsFailure_192 rfl ?_
                exact kont_193 1 ⟨by omega, trivial⟩
              · refine lv_iconst (v := iv 2) hx hb dX12_turnsFailure_188 rfl ?_
                refine lv_goto (tgt := 193) hx hb dX12_turnsFailure_189 (by decide) ?_
                exact kont_193 2 ⟨by omega, trivial⟩
        · skip
          refine lv_iload hx hb dX12_turnsFailure_116 (lv_at hl 1 rfl) ?_
          refine lv_iconst (v := iv (-1)) hx hb dX12_turnsFailure_118 rfl ?_
          refine xb_icmp_ne (tgt := 132) hx hb (by unfold ir; omega) (by unfold ir; omega) dX12_turnsFailure_119 (by decide) (fun c_119 => ?_) (fun c_119 => ?_)
          · have hk1_ := ((hi_29 ())).resolve_left c_119
            refine lv_aload_n hx hb dX12_turnsFailure_132 rfl (lv_at hl 5 rfl) ?_
            refine xa_getr G fd_X12 (a := 111) (x := 165) 103 rfl (by decide) rfl (wm 8 12 rfl rfl) ⟨rfl, rfl, rfl⟩ dX12_turnsFailure_133 rfl (G.sk 163 rfl) (by decide) rfl ?_
            refine lv_iload hx hb dX12_turnsFailure_136 (lv_at hl 1 rfl) ?_
            refine xa_iald G (a := 165) (i := k9) rfl (by have h9 := G.lc (a := 165) (n := 100) 103 rfl; omega) dX12_turnsFailure_138 rfl ?_
            refine xb_ti (y := μ.1 165 k9) ((F_38.1 165 (by decide) k9).trans (F_10.1 165 (by decide) k9)) ?_
            have hr_179 : -2147483648 ≤ μ.1 165 k9 ∧ μ.1 165 k9 ≤ 2147483647 := by have h9 := G.hr (a := 165) (k := k9) rfl; rw [((F_38.1 165 (by decide) k9).trans (F_10.1 165 (by decide) k9))] at h9; exact h9
            exact kont_139 (μ.1 165 k9) ⟨by omega, (fun _ h9 => hen.2.1 _ _ _ (by omega) (by omega) (((hi_29 ())).resolve_left c_119).2.2 (by omega) (by omega) h9)⟩
          · refine lv_aload_n hx hb dX12_turnsFailure_122 rfl (lv_at hl 5 rfl) ?_
            refine xa_getr G fd_X12 (a := 111) (x := 166) 105 rfl (by decide) rfl (wm 8 14 rfl rfl) ⟨rfl, rfl, rfl⟩ dX12_turnsFailure_123 rfl (G.sk 164 rfl) (by decide) rfl ?_
            refine lv_iload hx hb dX12_turnsFailure_126 (lv_at hl 2 rfl) ?_
            refine xa_iald G (a := 166) (i := (4 * (μ.1 149 x1)) + (μ.1 127 (n - 1))) rfl (by have h9 := G.lc (a := 166) (n := 16) 104 rfl; omega) dX12_turnsFailure_128 rfl ?_
            refine xb_ti (y := μ.1 166 ((4 * (μ.1 149 x1)) + (μ.1 127 (n - 1)))) ((F_38.1 166 (by decide) ((4 * (μ.1 149 x1)) + (μ.1 127 (n - 1)))).trans (F_10.1 166 (by decide) ((4 * (μ.1 149 x1)) + (μ.1 127 (n - 1))))) ?_
            have hr_180 : -2147483648 ≤ μ.1 166 ((4 * (μ.1 149 x1)) + (μ.1 127 (n - 1))) ∧ μ.1 166 ((4 * (μ.1 149 x1)) + (μ.1 127 (n - 1))) ≤ 2147483647 := by have h9 := G.hr (a := 166) (k := (4 * (μ.1 149 x1)) + (μ.1 127 (n - 1))) rfl; rw [((F_38.1 166 (by decide) ((4 * (μ.1 149 x1)) + (μ.1 127 (n - 1)))).trans (F_10.1 166 (by decide) ((4 * (μ.1 149 x1)) + (μ.1 127 (n - 1)))))] at h9; exact h9
            refine lv_goto (tgt := 139) hx hb dX12_turnsFailure_129 (by decide) ?_
            exact kont_139 (μ.1 166 ((4 * (μ.1 149 x1)) + (μ.1 127 (n - 1)))) ⟨by omega, (fun _ h9 => hen.2.2 _ _ (by omega) (by omega) (by omega) (by omega) h9)⟩
      · refine lv_iload hx hb dX12_turnsFailure_68 (lv_at hl 0 rfl) ?_
        refine lv_iconst (v := iv (-1)) hx hb dX12_turnsFailure_70 rfl ?_
        refine xb_icmp_eq (tgt := 96) hx hb (by unfold ir; omega) (by unfold ir; omega) dX12_turnsFailure_71 (by decide) (fun c_71 => ?_) (fun c_71 => ?_)
        · refine lv_aload_n hx hb dX12_turnsFailure_96 rfl (lv_at hl 5 rfl) ?_
          refine lv_iload_n hx hb dX12_turnsFailure_97 rfl (lv_at hl 4 rfl) ?_
          refine lv_iload_n hx hb dX12_turnsFailure_98 rfl (lv_at hl 3 rfl) ?_
          refine lv_aload_n hx hb dX12_turnsFailure_99 rfl (lv_at hl 5 rfl) ?_
          refine xa_getr G fd_X12 (a := 111) (x := 151) 72 rfl (by decide) rfl (wm 7 221 rfl rfl) ⟨rfl, rfl, rfl⟩ dX12_turnsFailure_100 rfl (G.sk 149 rfl) (by decide) rfl ?_
          refine lv_iload_n hx hb dX12_turnsFailure_103 rfl (lv_at hl 6 rfl) ?_
          refine xa_bald G (a := 151) (i := x1) rfl (by have h9 := G.lc (a := 151) (n := 12000) 89 rfl; omega) dX12_turnsFailure_104 rfl ?_
          refine xb_ti (y := μ.1 151 x1) (F_10.1 151 (by decide) x1) ?_
          have hr_181 : -2147483648 ≤ μ.1 151 x1 ∧ μ.1 151 x1 ≤ 2147483647 := by have h9 := G.hr3 (a := 151) (k := x1) rfl; rw [(F_10.1 151 (by decide) x1)] at h9; exact h9
          refine lv_aload_n hx hb dX12_turnsFailure_105 rfl (lv_at hl 5 rfl) ?_
          refine xa_getr G fd_X12 (a := 111) (x := 152) 73 rfl (by decide) rfl (wm 7 222 rfl rfl) ⟨rfl, rfl, rfl⟩ dX12_turnsFailure_106 rfl (G.sk 150 rfl) (by decide) rfl ?_
          refine lv_iload_n hx hb dX12_turnsFailure_109 rfl (lv_at hl 6 rfl) ?_
          refine xa_lald G (a := 152) (i := x1) rfl (by have h9 := G.lc (a := 152) (n := 12000) 90 rfl; omega) dX12_turnsFailure_110 rfl ?_
          refine xb_tl (y := μ.1 152 x1) (F_10.1 152 (by decide) x1) ?_
          have hj_182 : jr (μ.1 152 x1) := (by have h9 := G.hj (a := 152) (k := x1) rfl; rw [(F_10.1 152 (by decide) x1)] at h9; exact h9)
          have e_183 : μ8.1 149 x1 = μ.1 149 x1 := (F_10.1 149 (by decide) x1)
          have e_184 : μ8.1 149 x1 = μ.1 149 x1 := (F_10.1 149 (by decide) x1)
          have e_185 : μ8.1 127 (n - 1) = μ.1 127 (n - 1) := (F_10.1 127 (by decide) (n - 1))
          have e_186 : μ8.1 127 (n - 1) = μ.1 127 (n - 1) := (F_10.1 127 (by decide) (n - 1))
          refine xc_vV G (b := 111) (rest := []) (As := [.int (iv (μ.1 149 x1)), .int (iv (μ.1 127 (n - 1))), .int (iv (μ.1 151 x1)), .long (jv (μ.1 152 x1))]) (c_X12_turnsValue ω l μ8 (μ.1 149 x1) (μ.1 127 (n - 1)) (μ.1 151 x1) (μ.1 152 x1) (by unfold ir; omega) (by unfold ir; omega) (by unfold ir; omega) hj_182 (by omega) (by omega)) (wm 10 179 rfl rfl) (wm 10 181 rfl rfl) (wm 0 208 rfl rfl) rfl rfl (by decide) rfl (wm 1 18 rfl rfl) (wm 10 182 rfl rfl) (by decide) hR ⟨nfr hF (by decide), nlo hLo (by decide)⟩ (n := 4) rfl rfl (Nat.le_of_ble_eq_true rfl) hl.1 dX12_turnsFailure_111 (fun μ187 ρ d0 H locs hp G => ?_)
          obtain ⟨F_188, hp_189, hp_190⟩ := hp
          refine lv_aload_n hx hb dX12_turnsFailure_114 rfl (lv_at hl 5 rfl) ?_
          refine lv_iload_n hx hb dX12_turnsFailure_115 rfl (lv_at hl 3 rfl) ?_
          refine xj (pc2 := 139) (st2 := fun v_191 => [.int (iv v_191), .int (iv (μ.1 127 (n - 1))), .ref (oP ω 111)]) (C := fun v_191 => (-2147483648 ≤ v_191 ∧ v_191 ≤ 2147483647) ∧ (∀ _ : Unit, μ.1 127 (n - 1) ≠ 1 → 1 ≤ v_191 ∧ v_191 < μ.1 111 4)) (fun v_191 hv_192 => ?_) (fun kont_139 => ?_)
          · skip
            obtain ⟨hr_v_191, hv_192⟩ := hv_192
            refine lv_aload_n hx hb dX12_turnsFailure_139 rfl (lv_at hl 5 rfl) ?_
            refine xa_geti G fd_X12 (a := 111) (x := μ187.1 111 98) 98 rfl (by decide) rfl (wm 8 7 rfl rfl) ⟨rfl, rfl, rfl⟩ dX12_turnsFailure_140 rfl rfl ?_
            have hr_193 : -2147483648 ≤ μ187.1 111 98 ∧ μ187.1 111 98 ≤ 2147483647 := by have h9 := G.hr (a := 111) (k := 98) rfl; exact h9
            refine xb_if_eq (tgt := 155) hx hb (by unfold ir; omega) dX12_turnsFailure_143 (by decide) (fun c_143 => ?_) (fun c_143 => ?_)
            · refine lv_iconst (v := iv 0) hx hb dX12_turnsFailure_155 rfl ?_
              refine lv_aload_n hx hb dX12_turnsFailure_156 rfl (lv_at hl 5 rfl) ?_
              refine xa_geti G fd_X12 (a := 111) (x := μ187.1 111 98) 98 rfl (by decide) rfl (wm 8 7 rfl rfl) ⟨rfl, rfl, rfl⟩ dX12_turnsFailure_157 rfl rfl ?_
              refine xb_if_eq (tgt := 170) hx hb (by unfold ir; omega) dX12_turnsFailure_160 (by decide) (fun c_160 => ?_) (fun c_160 => absurd c_143 c_160)
              refine lv_lconst (v := jv 0) hx hb dX12_turnsFailure_170 rfl ?_
              have e_194 : μ187.1 111 47 = n := ((hp_189 47 (by decide)).trans ((hp_11 47 (by decide)).trans hn.symm))
              have e_195 : μ187.1 111 82 = μ.1 111 82 := ((hp_189 82 (by decide)).trans (hp_11 82 (by decide)))
              have e_196 : μ187.1 111 82 = μ.1 111 82 := ((hp_189 82 (by decide)).trans (hp_11 82 (by decide)))
              have hMZ_197 : MZ μ187 := MZ.cg hp_12 F_188 (by decide) (Eqf.fd hp_189 (by decide))
              have e_198 : μ187.1 111 82 = μ.1 111 82 := ((hp_189 82 (by decide)).trans (hp_11 82 (by decide)))
              have e_199 : μ187.1 111 83 = μ8.1 111 83 := (hp_189 83 (by decide))
              have e_200 : μ187.1 127 (n - 1) = μ.1 127 (n - 1) := ((F_188.1 127 (by decide) (n - 1)).trans (F_10.1 127 (by decide) (n - 1)))
              have e_201 : μ187.1 127 (n - 1) = μ.1 127 (n - 1) := ((F_188.1 127 (by decide) (n - 1)).trans (F_10.1 127 (by decide) (n - 1)))
              have e_202 : μ187.1 111 82 = μ.1 111 82 := ((hp_189 82 (by decide)).trans (hp_11 82 (by decide)))
              have e_203 : μ187.1 111 82 = μ.1 111 82 := ((hp_189 82 (by decide)).trans (hp_11 82 (by decide)))
              have e_204 : μ187.1 111 82 = μ.1 111 82 := ((hp_189 82 (by decide)).trans (hp_11 82 (by decide)))
              have e_205 : μ187.1 127 (n - 1) = μ.1 127 (n - 1) := ((F_188.1 127 (by decide) (n - 1)).trans (F_10.1 127 (by decide) (n - 1)))
              have e_206 : μ187.1 111 82 = μ.1 111 82 := ((hp_189 82 (by decide)).trans (hp_11 82 (by decide)))
              refine xc_iV G (b := 111) (rest := []) (As := [.int (iv (μ.1 127 (n - 1))), .int (iv v_191), .int (iv 0), .long (jv 0)]) (c_X12_newFailure ω l μ187 (μ.1 127 (n - 1)) v_191 0 0 n (μ.1 111 82) (by unfold ir; omega) (by unfold ir; omega) (by unfold ir; omega) (by unfold jr; omega) (by omega) (by omega) hMZ_197 (by omega) (by omega) (by omega) (fun h9 => by rw [(show μ187.1 111 4 = μ.1 111 4 from ((hp_189 4 (by decide)).trans (hp_11 4 (by decide))))]; exact hv_192 () (by omega)) VV.n0) (wm 10 183 rfl rfl) (wm 10 185 rfl rfl) (wm 0 209 rfl rfl) rfl rfl (by decide) rfl (wm 1 18 rfl rfl) (wm 10 186 rfl rfl) (by decide) hR ⟨nfr hF (by decide), nlo hLo (by decide)⟩ (n := 4) rfl rfl (Nat.le_of_ble_eq_true rfl) hl.1 dX12_turnsFailure_171 (fun r_208 μ207 ρ d0 H locs hr_r_208 hp G => ?_)
              have hr_r_208 : -2147483648 ≤ r_208 ∧ r_208 ≤ 2147483647 := hr_r_208
              obtain ⟨F_209, hp_210, hp_211, hp_212, hs_213, hs_214, hs_215⟩ := hp
              refine xb_ti (y := μ.1 111 82) hp_212 ?_
              have hr_216 : -2147483648 ≤ μ.1 111 82 ∧ μ.1 111 82 ≤ 2147483647 := by omega
              refine lv_istore (lv' := [(6, .int (iv (μ.1 111 82))), (5, .int (iv k9)), (4, .int (iv ((4 * (μ.1 149 x1)) + (μ.1 127 (n - 1))))), (3, .int (iv (μ.1 127 (n - 1)))), (2, .int (iv (μ.1 149 x1))), (0, .ref (oP ω 111)), (1, .int (iv x1))]) hx hb dX12_turnsFailure_174 hl (by decide) rfl (fun ls hl => ?_)
              refine lv_aload_n hx hb dX12_turnsFailure_176 rfl (lv_at hl 5 rfl) ?_
              refine xa_getr G fd_X12 (a := 111) (x := 155) 76 rfl (by decide) rfl (wm 7 225 rfl rfl) ⟨rfl, rfl, rfl⟩ dX12_turnsFailure_177 rfl (G.sk 153 rfl) (by decide) rfl ?_
              refine lv_iload hx hb dX12_turnsFailure_180 (lv_at hl 0 rfl) ?_
              refine xj (pc2 := 193) (st2 := fun v_217 => [.int (iv v_217), .int (iv (μ.1 111 82)), .ref (oP ω 155)]) (C := fun v_217 => (-2147483648 ≤ v_217 ∧ v_217 ≤ 2147483647) ∧ (True)) (fun v_217 hv_218 => ?_) (fun kont_193 => ?_)
              · skip
                obtain ⟨hr_v_217, hv_218⟩ := hv_218
                refine xa_iast G (a := 155) (i := μ.1 111 82) (x := v_217) rfl (by have h9 := G.lc (a := 155) (n := 12000) 93 rfl; omega) (by unfold ir; omega) dX12_turnsFailure_193 rfl (fun H locs G => ?_)
                refine lv_aload_n hx hb dX12_turnsFailure_194 rfl (lv_at hl 5 rfl) ?_
                refine xa_getr G fd_X12 (a := 111) (x := 156) 77 rfl (by decide) rfl (wm 7 226 rfl rfl) ⟨rfl, rfl, rfl⟩ dX12_turnsFailure_195 rfl (G.sk 154 rfl) (by decide) rfl ?_
                refine lv_iload hx hb dX12_turnsFailure_198 (lv_at hl 0 rfl) ?_
                refine lv_iload_n hx hb dX12_turnsFailure_200 rfl (lv_at hl 6 rfl) ?_
                refine xa_iast G (a := 156) (i := μ.1 111 82) (x := x1) rfl (by have h9 := G.lc (a := 156) (n := 12000) 94 rfl; omega) (by unfold ir; omega) dX12_turnsFailure_201 rfl (fun H locs G => ?_)
                refine lv_aload_n hx hb dX12_turnsFailure_202 rfl (lv_at hl 5 rfl) ?_
                refine lv_dup hx hb dX12_turnsFailure_203 rfl ?_
                refine xa_geti G fd_X12 (a := 111) (x := μ.1 111 90) 90 rfl (by decide) rfl (wm 7 239 rfl rfl) ⟨rfl, rfl, rfl⟩ dX12_turnsFailure_204 rfl ((sv_n _ (fun h9 => absurd h9.1 (by decide))).trans ((sv_n _ (fun h9 => absurd h9.1 (by decide))).trans ((hp_210 90 (by decide)).trans ((hp_189 90 (by decide)).trans (hp_11 90 (by decide)))))) ?_
                have hr_219 : -2147483648 ≤ μ.1 111 90 ∧ μ.1 111 90 ≤ 2147483647 := by have h9 := G.hr (a := 111) (k := 90) rfl; rw [show (sv (sv μ207 155 (μ.1 111 82) v_217) 156 (μ.1 111 82) x1).1 111 90 = μ.1 111 90 from ((sv_n _ (fun h9 => absurd h9.1 (by decide))).trans ((sv_n _ (fun h9 => absurd h9.1 (by decide))).trans ((hp_210 90 (by decide)).trans ((hp_189 90 (by decide)).trans (hp_11 90 (by decide))))))] at h9; exact h9
                refine lv_iconst (v := iv 1) hx hb dX12_turnsFailure_207 rfl ?_
                refine xb_iadd hx hb dX12_turnsFailure_208 ?_
                refine xb_topi (fun y_220 hr_y_220 he_y_220 => ?_)
                have hr_y_220 : -2147483648 ≤ y_220 ∧ y_220 ≤ 2147483647 := hr_y_220
                refine xa_puti G fd_X12 (a := 111) (x := y_220) 90 (kz := 90) rfl rfl (by decide) rfl (by unfold ir; omega) (wm 7 239 rfl rfl) ⟨rfl, rfl, rfl, rfl⟩ rfl dX12_turnsFailure_209 rfl (fun H locs G => ?_)
                refine lv_iload_n hx hb dX12_turnsFailure_212 rfl (lv_at hl 3 rfl) ?_
                refine lv_iconst (v := iv 2) hx hb dX12_turnsFailure_213 rfl ?_
                refine xb_icmp_ne (tgt := 228) hx hb (by unfold ir; omega) (by unfold ir; omega) dX12_turnsFailure_214 (by decide) (fun c_214 => ?_) (fun c_214 => ?_)
                · refine lv_aload_n hx hb dX12_turnsFailure_228 rfl (lv_at hl 5 rfl) ?_
                  refine lv_iload hx hb dX12_turnsFailure_229 (lv_at hl 0 rfl) ?_
                  refine lv_iconst (v := iv 1) hx hb dX12_turnsFailure_231 rfl ?_
                  have e_221 : (sv (sv (sv μ207 155 (μ.1 111 82) v_217) 156 (μ.1 111 82) x1) 111 90 y_220).1 111 83 = μ8.1 111 83 := ((sv_n _ (by decide)).trans ((sv_n _ (fun h9 => absurd h9.1 (by decide))).trans ((sv_n _ (fun h9 => absurd h9.1 (by decide))).trans ((hp_210 83 (by decide)).trans (hp_189 83 (by decide))))))
                  have hrx_222 := RX.eq (μ := μ) (ν := (sv (sv (sv μ207 155 (μ.1 111 82) v_217) 156 (μ.1 111 82) x1) 111 90 y_220)) (Eqa.fr (L := [111, 156, 155, 149, 150, 151, 152, 153, 154, 157]) (FrM.put (FrM.put (FrM.put (FrM.tr (FrM.tr (FrM.tr FrM.rf F_10 (by decide)) F_188 (by decide)) F_209 (by decide)) (by decide)) (by decide)) (by decide)) (by decide)) (Eqf.fd (L := [82, 83, 84, 90, 93, 94, 98, 99]) (fun j hj => ((sv_n _ (fun h9 => hj (by rw [h9.2]; decide))).trans ((sv_n _ (fun h9 => absurd h9.1 (by decide))).trans ((sv_n _ (fun h9 => absurd h9.1 (by decide))).trans ((hp_210 j (fun h9 => hj ((by decide : ∀ x ∈ ([82] : List Int), x ∈ ([82, 83, 84, 90, 93, 94, 98, 99] : List Int)) j h9))).trans ((hp_189 j (fun h9 => hj ((by decide : ∀ x ∈ ([98, 99] : List Int), x ∈ ([82, 83, 84, 90, 93, 94, 98, 99] : List Int)) j h9))).trans (hp_11 j (fun h9 => hj ((by decide : ∀ x ∈ ([83, 84, 93, 94] : List Int), x ∈ ([82, 83, 84, 90, 93, 94, 98, 99] : List Int)) j h9))))))))) (by decide))
                  have e_223 : (sv (sv (sv μ207 155 (μ.1 111 82) v_217) 156 (μ.1 111 82) x1) 111 90 y_220).1 111 94 = μ8.1 111 94 := ((sv_n _ (by decide)).trans ((sv_n _ (fun h9 => absurd h9.1 (by decide))).trans ((sv_n _ (fun h9 => absurd h9.1 (by decide))).trans ((hp_210 94 (by decide)).trans (hp_189 94 (by decide))))))
                  have e_224 : (sv (sv (sv μ207 155 (μ.1 111 82) v_217) 156 (μ.1 111 82) x1) 111 90 y_220).1 111 47 = n := ((sv_n _ (by decide)).trans ((sv_n _ (fun h9 => absurd h9.1 (by decide))).trans ((sv_n _ (fun h9 => absurd h9.1 (by decide))).trans ((hp_210 47 (by decide)).trans ((hp_189 47 (by decide)).trans ((hp_11 47 (by decide)).trans hn.symm))))))
                  have hMZ_225 : MZ (sv μ207 155 (μ.1 111 82) v_217) := MZ.pua hp_211 (by decide)
                  have hMZ_226 : MZ (sv (sv μ207 155 (μ.1 111 82) v_217) 156 (μ.1 111 82) x1) := MZ.gf hMZ_225 (by omega)
                  have hMZ_227 : MZ (sv (sv (sv μ207 155 (μ.1 111 82) v_217) 156 (μ.1 111 82) x1) 111 90 y_220) := MZ.f hMZ_226 (by decide)
                  have e_228 : (sv (sv (sv μ207 155 (μ.1 111 82) v_217) 156 (μ.1 111 82) x1) 111 90 y_220).1 111 94 = μ8.1 111 94 := ((sv_n _ (by decide)).trans ((sv_n _ (fun h9 => absurd h9.1 (by decide))).trans ((sv_n _ (fun h9 => absurd h9.1 (by decide))).trans ((hp_210 94 (by decide)).trans (hp_189 94 (by decide))))))
                  have hA1_229 : A1 (sv (sv (sv μ207 155 (μ.1 111 82) v_217) 156 (μ.1 111 82) x1) 111 90 y_220) := A1.mv hA1 (Eqa.fr (L := [111, 156, 155, 149, 150, 151, 152, 153, 154, 157]) (FrM.put (FrM.put (FrM.put (FrM.tr (FrM.tr (FrM.tr FrM.rf F_10 (by decide)) F_188 (by decide)) F_209 (by decide)) (by decide)) (by decide)) (by decide)) (by decide)) (Eqf.fd (L := [82, 83, 84, 90, 93, 94, 98, 99]) (fun j hj => ((sv_n _ (fun h9 => hj (by rw [h9.2]; decide))).trans ((sv_n _ (fun h9 => absurd h9.1 (by decide))).trans ((sv_n _ (fun h9 => absurd h9.1 (by decide))).trans ((hp_210 j (fun h9 => hj ((by decide : ∀ x ∈ ([82] : List Int), x ∈ ([82, 83, 84, 90, 93, 94, 98, 99] : List Int)) j h9))).trans ((hp_189 j (fun h9 => hj ((by decide : ∀ x ∈ ([98, 99] : List Int), x ∈ ([82, 83, 84, 90, 93, 94, 98, 99] : List Int)) j h9))).trans (hp_11 j (fun h9 => hj ((by decide : ∀ x ∈ ([83, 84, 93, 94] : List Int), x ∈ ([82, 83, 84, 90, 93, 94, 98, 99] : List Int)) j h9))))))))) (by decide))
                  refine xc_vV G (b := 111) (rest := []) (As := [.int (iv (μ.1 111 82)), .int (iv 1)]) (((fun (_ : Om) (_ : Launch) => hG)) ω l (sv (sv (sv μ207 155 (μ.1 111 82) v_217) 156 (μ.1 111 82) x1) 111 90 y_220) (μ.1 111 82) 1 n (by unfold ir; omega) (by omega) (by omega) hMZ_227 (by omega) (by omega) (by omega) (by have h9 : (sv (sv (sv μ207 155 (μ.1 111 82) v_217) 156 (μ.1 111 82) x1) 111 90 y_220).1 111 82 = (μ.1 111 82) + 1 := ((sv_n _ (by decide)).trans ((sv_n _ (fun h9 => absurd h9.1 (by decide))).trans ((sv_n _ (fun h9 => absurd h9.1 (by decide))).trans hs_213))); omega) (by have h9 : (sv (sv (sv μ207 155 (μ.1 111 82) v_217) 156 (μ.1 111 82) x1) 111 90 y_220).1 149 (μ.1 111 82) = (μ.1 127 (n - 1)) := ((sv_n _ (fun h9 => absurd h9.1 (by decide))).trans ((sv_n _ (fun h9 => absurd h9.1 (by decide))).trans ((sv_n _ (fun h9 => absurd h9.1 (by decide))).trans hs_214))); have h8 : (sv (sv (sv μ207 155 (μ.1 111 82) v_217) 156 (μ.1 111 82) x1) 111 90 y_220).1 127 (n - 1) = μ.1 127 (n - 1) := ((sv_n _ (fun h9 => absurd h9.1 (by decide))).trans ((sv_n _ (fun h9 => absurd h9.1 (by decide))).trans ((sv_n _ (fun h9 => absurd h9.1 (by decide))).trans ((F_209.1 127 (by decide) (n - 1)).trans ((F_188.1 127 (by decide) (n - 1)).trans (F_10.1 127 (by decide) (n - 1))))))); omega) (fun _ => hA1_229)) (wm 10 187 rfl rfl) (wm 10 189 rfl rfl) (wm 0 210 rfl rfl) rfl rfl (by decide) rfl (wm 1 18 rfl rfl) (wm 10 190 rfl rfl) (by decide) hR ⟨sfr (F := F) (a := 0) (by decide), slo (L := Lo) (m := 3) (a := 0) (by decide)⟩ (n := 2) rfl rfl (Nat.le_of_ble_eq_true rfl) hl.1 dX12_turnsFailure_232 (fun μ230 ρ d0 H locs hp G => ?_)
                  obtain ⟨F_231, hp_232, hp_233⟩ := hp
                  exact xr_v G hret hlk dX12_turnsFailure_235 ⟨(FrM.tr (FrM.put (FrM.put (FrM.put (FrM.tr (FrM.tr (FrM.tr FrM.rf F_10 (by decide)) F_188 (by decide)) F_209 (by decide)) (by decide)) (by decide)) (by decide)) F_231 (by decide)), (fun j hj => ((hp_232 j (fun h9 => hj ((by decide : ∀ x ∈ ([47, 53, 61, 81, 82, 83, 84, 90, 91, 93, 94, 95, 96, 97, 98, 99] : List Int), x ∈ ([47, 53, 61, 81, 82, 83, 84, 90, 91, 93, 94, 95, 96, 97, 98, 99] : List Int)) j h9))).trans ((sv_n _ (fun h9 => hj (by rw [h9.2]; decide))).trans ((sv_n _ (fun h9 => absurd h9.1 (by decide))).trans ((sv_n _ (fun h9 => absurd h9.1 (by decide))).trans ((hp_210 j (fun h9 => hj ((by decide : ∀ x ∈ ([82] : List Int), x ∈ ([47, 53, 61, 81, 82, 83, 84, 90, 91, 93, 94, 95, 96, 97, 98, 99] : List Int)) j h9))).trans ((hp_189 j (fun h9 => hj ((by decide : ∀ x ∈ ([98, 99] : List Int), x ∈ ([47, 53, 61, 81, 82, 83, 84, 90, 91, 93, 94, 95, 96, 97, 98, 99] : List Int)) j h9))).trans (hp_11 j (fun h9 => hj ((by decide : ∀ x ∈ ([83, 84, 93, 94] : List Int), x ∈ ([47, 53, 61, 81, 82, 83, 84, 90, 91, 93, 94, 95, 96, 97, 98, 99] : List Int)) j h9)))))))))), (hp_233.le (by omega))⟩
                · refine lv_aload_n hx hb dX12_turnsFailure_217 rfl (lv_at hl 5 rfl) ?_
                  refine lv_iconst (v := iv 4) hx hb dX12_turnsFailure_218 rfl ?_
                  refine lv_iload hx hb dX12_turnsFailure_219 (lv_at hl 0 rfl) ?_
                  refine xb_i2l hx hb (by unfold ir; omega) dX12_turnsFailure_221 ?_
                  have e_234 : (sv (sv (sv μ207 155 (μ.1 111 82) v_217) 156 (μ.1 111 82) x1) 111 90 y_220).1 111 83 = μ8.1 111 83 := ((sv_n _ (by decide)).trans ((sv_n _ (fun h9 => absurd h9.1 (by decide))).trans ((sv_n _ (fun h9 => absurd h9.1 (by decide))).trans ((hp_210 83 (by decide)).trans (hp_189 83 (by decide))))))
                  have hrx_235 := RX.eq (μ := μ) (ν := (sv (sv (sv μ207 155 (μ.1 111 82) v_217) 156 (μ.1 111 82) x1) 111 90 y_220)) (Eqa.fr (L := [111, 156, 155, 149, 150, 151, 152, 153, 154, 157]) (FrM.put (FrM.put (FrM.put (FrM.tr (FrM.tr (FrM.tr FrM.rf F_10 (by decide)) F_188 (by decide)) F_209 (by decide)) (by decide)) (by decide)) (by decide)) (by decide)) (Eqf.fd (L := [82, 83, 84, 90, 93, 94, 98, 99]) (fun j hj => ((sv_n _ (fun h9 => hj (by rw [h9.2]; decide))).trans ((sv_n _ (fun h9 => absurd h9.1 (by decide))).trans ((sv_n _ (fun h9 => absurd h9.1 (by decide))).trans ((hp_210 j (fun h9 => hj ((by decide : ∀ x ∈ ([82] : List Int), x ∈ ([82, 83, 84, 90, 93, 94, 98, 99] : List Int)) j h9))).trans ((hp_189 j (fun h9 => hj ((by decide : ∀ x ∈ ([98, 99] : List Int), x ∈ ([82, 83, 84, 90, 93, 94, 98, 99] : List Int)) j h9))).trans (hp_11 j (fun h9 => hj ((by decide : ∀ x ∈ ([83, 84, 93, 94] : List Int), x ∈ ([82, 83, 84, 90, 93, 94, 98, 99] : List Int)) j h9))))))))) (by decide))
                  have e_236 : (sv (sv (sv μ207 155 (μ.1 111 82) v_217) 156 (μ.1 111 82) x1) 111 90 y_220).1 111 94 = μ8.1 111 94 := ((sv_n _ (by decide)).trans ((sv_n _ (fun h9 => absurd h9.1 (by decide))).trans ((sv_n _ (fun h9 => absurd h9.1 (by decide))).trans ((hp_210 94 (by decide)).trans (hp_189 94 (by decide))))))
                  have hA1_237 : A1 (sv (sv (sv μ207 155 (μ.1 111 82) v_217) 156 (μ.1 111 82) x1) 111 90 y_220) := A1.mv hA1 (Eqa.fr (L := [111, 156, 155, 149, 150, 151, 152, 153, 154, 157]) (FrM.put (FrM.put (FrM.put (FrM.tr (FrM.tr (FrM.tr FrM.rf F_10 (by decide)) F_188 (by decide)) F_209 (by decide)) (by decide)) (by decide)) (by decide)) (by decide)) (Eqf.fd (L := [82, 83, 84, 90, 93, 94, 98, 99]) (fun j hj => ((sv_n _ (fun h9 => hj (by rw [h9.2]; decide))).trans ((sv_n _ (fun h9 => absurd h9.1 (by decide))).trans ((sv_n _ (fun h9 => absurd h9.1 (by decide))).trans ((hp_210 j (fun h9 => hj ((by decide : ∀ x ∈ ([82] : List Int), x ∈ ([82, 83, 84, 90, 93, 94, 98, 99] : List Int)) j h9))).trans ((hp_189 j (fun h9 => hj ((by decide : ∀ x ∈ ([98, 99] : List Int), x ∈ ([82, 83, 84, 90, 93, 94, 98, 99] : List Int)) j h9))).trans (hp_11 j (fun h9 => hj ((by decide : ∀ x ∈ ([83, 84, 93, 94] : List Int), x ∈ ([82, 83, 84, 90, 93, 94, 98, 99] : List Int)) j h9))))))))) (by decide))
                  have e_238 : (sv (sv (sv μ207 155 (μ.1 111 82) v_217) 156 (μ.1 111 82) x1) 111 90 y_220).1 111 47 = n := ((sv_n _ (by decide)).trans ((sv_n _ (fun h9 => absurd h9.1 (by decide))).trans ((sv_n _ (fun h9 => absurd h9.1 (by decide))).trans ((hp_210 47 (by decide)).trans ((hp_189 47 (by decide)).trans ((hp_11 47 (by decide)).trans hn.symm))))))
                  have e_239 : (sv (sv (sv μ207 155 (μ.1 111 82) v_217) 156 (μ.1 111 82) x1) 111 90 y_220).1 111 53 = μ.1 111 53 := ((sv_n _ (by decide)).trans ((sv_n _ (fun h9 => absurd h9.1 (by decide))).trans ((sv_n _ (fun h9 => absurd h9.1 (by decide))).trans ((hp_210 53 (by decide)).trans ((hp_189 53 (by decide)).trans (hp_11 53 (by decide)))))))
                  have e_240 : (sv (sv (sv μ207 155 (μ.1 111 82) v_217) 156 (μ.1 111 82) x1) 111 90 y_220).1 111 53 = μ.1 111 53 := ((sv_n _ (by decide)).trans ((sv_n _ (fun h9 => absurd h9.1 (by decide))).trans ((sv_n _ (fun h9 => absurd h9.1 (by decide))).trans ((hp_210 53 (by decide)).trans ((hp_189 53 (by decide)).trans (hp_11 53 (by decide)))))))
                  have hMZ_241 : MZ (sv μ207 155 (μ.1 111 82) v_217) := MZ.pua hp_211 (by decide)
                  have hMZ_242 : MZ (sv (sv μ207 155 (μ.1 111 82) v_217) 156 (μ.1 111 82) x1) := MZ.gf hMZ_241 (by omega)
                  have hMZ_243 : MZ (sv (sv (sv μ207 155 (μ.1 111 82) v_217) 156 (μ.1 111 82) x1) 111 90 y_220) := MZ.f hMZ_242 (by decide)
                  have e_244 : (sv (sv (sv μ207 155 (μ.1 111 82) v_217) 156 (μ.1 111 82) x1) 111 90 y_220).1 111 53 = μ.1 111 53 := ((sv_n _ (by decide)).trans ((sv_n _ (fun h9 => absurd h9.1 (by decide))).trans ((sv_n _ (fun h9 => absurd h9.1 (by decide))).trans ((hp_210 53 (by decide)).trans ((hp_189 53 (by decide)).trans (hp_11 53 (by decide)))))))
                  have e_245 : (sv (sv (sv μ207 155 (μ.1 111 82) v_217) 156 (μ.1 111 82) x1) 111 90 y_220).1 111 53 = μ.1 111 53 := ((sv_n _ (by decide)).trans ((sv_n _ (fun h9 => absurd h9.1 (by decide))).trans ((sv_n _ (fun h9 => absurd h9.1 (by decide))).trans ((hp_210 53 (by decide)).trans ((hp_189 53 (by decide)).trans (hp_11 53 (by decide)))))))
                  have e_246 : (sv (sv (sv μ207 155 (μ.1 111 82) v_217) 156 (μ.1 111 82) x1) 111 90 y_220).1 111 53 = μ.1 111 53 := ((sv_n _ (by decide)).trans ((sv_n _ (fun h9 => absurd h9.1 (by decide))).trans ((sv_n _ (fun h9 => absurd h9.1 (by decide))).trans ((hp_210 53 (by decide)).trans ((hp_189 53 (by decide)).trans (hp_11 53 (by decide)))))))
                  have e_247 : (sv (sv (sv μ207 155 (μ.1 111 82) v_217) 156 (μ.1 111 82) x1) 111 90 y_220).1 111 53 = μ.1 111 53 := ((sv_n _ (by decide)).trans ((sv_n _ (fun h9 => absurd h9.1 (by decide))).trans ((sv_n _ (fun h9 => absurd h9.1 (by decide))).trans ((hp_210 53 (by decide)).trans ((hp_189 53 (by decide)).trans (hp_11 53 (by decide)))))))
                  have e_248 : (sv (sv (sv μ207 155 (μ.1 111 82) v_217) 156 (μ.1 111 82) x1) 111 90 y_220).1 111 82 = (μ.1 111 82) + 1 := ((sv_n _ (by decide)).trans ((sv_n _ (fun h9 => absurd h9.1 (by decide))).trans ((sv_n _ (fun h9 => absurd h9.1 (by decide))).trans hs_213)))
                  refine xc_vV G (b := 111) (rest := []) (As := [.int (iv 4), .long (jv (μ.1 111 82))]) (c_X12_push ω l (sv (sv (sv μ207 155 (μ.1 111 82) v_217) 156 (μ.1 111 82) x1) 111 90 y_220) 4 (μ.1 111 82) (μ.1 111 53) (by unfold ir; omega) (by unfold jr; omega) (by omega) hMZ_243 (VV.n4 (by have h9 : (sv (sv (sv μ207 155 (μ.1 111 82) v_217) 156 (μ.1 111 82) x1) 111 90 y_220).1 111 82 = (μ.1 111 82) + 1 := ((sv_n _ (by decide)).trans ((sv_n _ (fun h9 => absurd h9.1 (by decide))).trans ((sv_n _ (fun h9 => absurd h9.1 (by decide))).trans hs_213))); omega)) (by omega)) (wm 10 127 rfl rfl) (wm 10 129 rfl rfl) (wm 0 195 rfl rfl) rfl rfl (by decide) rfl (wm 1 18 rfl rfl) (wm 10 130 rfl rfl) (by decide) hR ⟨nfr hF (by decide), nlo hLo (by decide)⟩ (n := 2) rfl rfl (Nat.le_of_ble_eq_true rfl) hl.1 dX12_turnsFailure_222 (fun μ249 ρ d0 H locs hp G => ?_)
                  obtain ⟨F_250, hp_251, hp_252, hs_253, hs_254, hs_255, ha_256, ha_257⟩ := hp
                  refine lv_goto (tgt := 235) hx hb dX12_turnsFailure_225 (by decide) ?_
                  have e_258 : μ249.1 111 94 = μ8.1 111 94 := ((hp_251 94 (by decide)).trans ((sv_n _ (by decide)).trans ((sv_n _ (fun h9 => absurd h9.1 (by decide))).trans ((sv_n _ (fun h9 => absurd h9.1 (by decide))).trans ((hp_210 94 (by decide)).trans (hp_189 94 (by decide)))))))
                  have e_259 : μ249.1 111 53 = (μ.1 111 53) + 1 := hs_253
                  have e_260 : (sv (sv (sv μ207 155 (μ.1 111 82) v_217) 156 (μ.1 111 82) x1) 111 90 y_220).1 111 53 = μ.1 111 53 := ((sv_n _ (by decide)).trans ((sv_n _ (fun h9 => absurd h9.1 (by decide))).trans ((sv_n _ (fun h9 => absurd h9.1 (by decide))).trans ((hp_210 53 (by decide)).trans ((hp_189 53 (by decide)).trans (hp_11 53 (by decide)))))))
                  exact xr_v G hret hlk dX12_turnsFailure_235 ⟨(FrM.tr (FrM.put (FrM.put (FrM.put (FrM.tr (FrM.tr (FrM.tr FrM.rf F_10 (by decide)) F_188 (by decide)) F_209 (by decide)) (by decide)) (by decide)) (by decide)) F_250 (by decide)), (fun j hj => ((hp_251 j (fun h9 => hj ((by decide : ∀ x ∈ ([53] : List Int), x ∈ ([47, 53, 61, 81, 82, 83, 84, 90, 91, 93, 94, 95, 96, 97, 98, 99] : List Int)) j h9))).trans ((sv_n _ (fun h9 => hj (by rw [h9.2]; decide))).trans ((sv_n _ (fun h9 => absurd h9.1 (by decide))).trans ((sv_n _ (fun h9 => absurd h9.1 (by decide))).trans ((hp_210 j (fun h9 => hj ((by decide : ∀ x ∈ ([82] : List Int), x ∈ ([47, 53, 61, 81, 82, 83, 84, 90, 91, 93, 94, 95, 96, 97, 98, 99] : List Int)) j h9))).trans ((hp_189 j (fun h9 => hj ((by decide : ∀ x ∈ ([98, 99] : List Int), x ∈ ([47, 53, 61, 81, 82, 83, 84, 90, 91, 93, 94, 95, 96, 97, 98, 99] : List Int)) j h9))).trans (hp_11 j (fun h9 => hj ((by decide : ∀ x ∈ ([83, 84, 93, 94] : List Int), x ∈ ([47, 53, 61, 81, 82, 83, 84, 90, 91, 93, 94, 95, 96, 97, 98, 99] : List Int)) j h9)))))))))), ((A1.res hA1_237 hp_252 (by have h9 : (sv (sv (sv μ207 155 (μ.1 111 82) v_217) 156 (μ.1 111 82) x1) 111 90 y_220).1 111 47 = n := ((sv_n _ (by decide)).trans ((sv_n _ (fun h9 => absurd h9.1 (by decide))).trans ((sv_n _ (fun h9 => absurd h9.1 (by decide))).trans ((hp_210 47 (by decide)).trans ((hp_189 47 (by decide)).trans ((hp_11 47 (by decide)).trans hn.symm)))))); omega) (Eqa.fr (L := [111, 135, 136]) (FrM.tr FrM.rf F_250 (by decide)) (by decide)) (Eqf.fd (L := [53]) (fun j hj => (hp_251 j (fun h9 => hj ((by decide : ∀ x ∈ ([53] : List Int), x ∈ ([53] : List Int)) j h9)))) (by decide)) (by have h9 : μ249.1 111 94 = μ8.1 111 94 := ((hp_251 94 (by decide)).trans ((sv_n _ (by decide)).trans ((sv_n _ (fun h9 => absurd h9.1 (by decide))).trans ((sv_n _ (fun h9 => absurd h9.1 (by decide))).trans ((hp_210 94 (by decide)).trans (hp_189 94 (by decide))))))); omega) (by have h9 : μ249.1 111 83 = μ8.1 111 83 := ((hp_251 83 (by decide)).trans ((sv_n _ (by decide)).trans ((sv_n _ (fun h9 => absurd h9.1 (by decide))).trans ((sv_n _ (fun h9 => absurd h9.1 (by decide))).trans ((hp_210 83 (by decide)).trans (hp_189 83 (by decide))))))); have h8 : (sv (sv (sv μ207 155 (μ.1 111 82) v_217) 156 (μ.1 111 82) x1) 111 90 y_220).1 111 83 = μ8.1 111 83 := ((sv_n _ (by decide)).trans ((sv_n _ (fun h9 => absurd h9.1 (by decide))).trans ((sv_n _ (fun h9 => absurd h9.1 (by decide))).trans ((hp_210 83 (by decide)).trans (hp_189 83 (by decide)))))); omega) (by omega)).le (by omega))⟩
              · skip
                refine lv_iload hx hb dX12_turnsFailure_182 (lv_at hl 1 rfl) ?_
                refine lv_iconst (v := iv (-1)) hx hb dX12_turnsFailure_184 rfl ?_
                refine xb_icmp_ne (tgt := 192) hx hb (by unfold ir; omega) (by unfold ir; omega) dX12_turnsFailure_185 (by decide) (fun c_185 => ?_) (fun c_185 => ?_)
                · refine lv_iconst (v := iv 1) hx hb dX12_turnsFailure_192 rfl ?_
                  exact kont_193 1 ⟨by omega, trivial⟩
                · refine lv_iconst (v := iv 2) hx hb dX12_turnsFailure_188 rfl ?_
                  refine lv_goto (tgt := 193) hx hb dX12_turnsFailure_189 (by decide) ?_
                  exact kont_193 2 ⟨by omega, trivial⟩
            · refine lv_aload_n hx hb dX12_turnsFailure_146 rfl (lv_at hl 5 rfl) ?_
              refine xa_getr G fd_X12 (a := 111) (x := 151) 72 rfl (by decide) rfl (wm 7 221 rfl rfl) ⟨rfl, rfl, rfl⟩ dX12_turnsFailure_147 rfl (G.sk 149 rfl) (by decide) rfl ?_
              refine lv_iload_n hx hb dX12_turnsFailure_150 rfl (lv_at hl 6 rfl) ?_
              refine xa_bald G (a := 151) (i := x1) rfl (by have h9 := G.lc (a := 151) (n := 12000) 89 rfl; omega) dX12_turnsFailure_151 rfl ?_
              refine xb_ti (y := μ.1 151 x1) ((F_188.1 151 (by decide) x1).trans (F_10.1 151 (by decide) x1)) ?_
              refine lv_goto (tgt := 156) hx hb dX12_turnsFailure_152 (by decide) ?_
              refine lv_aload_n hx hb dX12_turnsFailure_156 rfl (lv_at hl 5 rfl) ?_
              refine xa_geti G fd_X12 (a := 111) (x := μ187.1 111 98) 98 rfl (by decide) rfl (wm 8 7 rfl rfl) ⟨rfl, rfl, rfl⟩ dX12_turnsFailure_157 rfl rfl ?_
              refine xb_if_eq (tgt := 170) hx hb (by unfold ir; omega) dX12_turnsFailure_160 (by decide) (fun c_160 => absurd c_160 c_143) (fun c_160 => ?_)
              refine lv_aload_n hx hb dX12_turnsFailure_163 rfl (lv_at hl 5 rfl) ?_
              refine xa_getl G fd_X12 (a := 111) (x := μ187.1 111 99) 99 rfl (by decide) rfl (wm 8 8 rfl rfl) ⟨rfl, rfl, rfl⟩ dX12_turnsFailure_164 rfl rfl ?_
              have hj_261 : jr (μ187.1 111 99) := by have h9 := G.hj (a := 111) (k := 99) rfl; exact h9
              refine lv_goto (tgt := 171) hx hb dX12_turnsFailure_167 (by decide) ?_
              have e_262 : μ187.1 111 47 = n := ((hp_189 47 (by decide)).trans ((hp_11 47 (by decide)).trans hn.symm))
              have e_263 : μ187.1 111 82 = μ.1 111 82 := ((hp_189 82 (by decide)).trans (hp_11 82 (by decide)))
              have e_264 : μ187.1 111 82 = μ.1 111 82 := ((hp_189 82 (by decide)).trans (hp_11 82 (by decide)))
              have hMZ_265 : MZ μ187 := MZ.cg hp_12 F_188 (by decide) (Eqf.fd hp_189 (by decide))
              have e_266 : μ187.1 111 82 = μ.1 111 82 := ((hp_189 82 (by decide)).trans (hp_11 82 (by decide)))
              have e_267 : μ187.1 111 83 = μ8.1 111 83 := (hp_189 83 (by decide))
              have e_268 : μ187.1 127 (n - 1) = μ.1 127 (n - 1) := ((F_188.1 127 (by decide) (n - 1)).trans (F_10.1 127 (by decide) (n - 1)))
              have e_269 : μ187.1 127 (n - 1) = μ.1 127 (n - 1) := ((F_188.1 127 (by decide) (n - 1)).trans (F_10.1 127 (by decide) (n - 1)))
              have e_270 : μ187.1 111 82 = μ.1 111 82 := ((hp_189 82 (by decide)).trans (hp_11 82 (by decide)))
              have e_271 : μ187.1 111 82 = μ.1 111 82 := ((hp_189 82 (by decide)).trans (hp_11 82 (by decide)))
              have e_272 : μ187.1 111 82 = μ.1 111 82 := ((hp_189 82 (by decide)).trans (hp_11 82 (by decide)))
              have e_273 : μ187.1 127 (n - 1) = μ.1 127 (n - 1) := ((F_188.1 127 (by decide) (n - 1)).trans (F_10.1 127 (by decide) (n - 1)))
              have e_274 : μ187.1 111 82 = μ.1 111 82 := ((hp_189 82 (by decide)).trans (hp_11 82 (by decide)))
              refine xc_iV G (b := 111) (rest := []) (As := [.int (iv (μ.1 127 (n - 1))), .int (iv v_191), .int (iv (μ.1 151 x1)), .long (jv (μ187.1 111 99))]) (c_X12_newFailure ω l μ187 (μ.1 127 (n - 1)) v_191 (μ.1 151 x1) (μ187.1 111 99) n (μ.1 111 82) (by unfold ir; omega) (by unfold ir; omega) (by unfold ir; omega) hj_261 (by omega) (by omega) hMZ_265 (by omega) (by omega) (by omega) (fun h9 => by rw [(show μ187.1 111 4 = μ.1 111 4 from ((hp_189 4 (by decide)).trans (hp_11 4 (by decide))))]; exact hv_192 () (by omega)) (by rw [(show μ187.1 111 65 = μ.1 111 65 from ((hp_189 65 (by decide)).trans (hp_11 65 (by decide)))), (show μ187.1 111 82 = μ.1 111 82 from ((hp_189 82 (by decide)).trans (hp_11 82 (by decide))))]; rcases Classical.em (μ.1 151 x1 = 1) with h9 | h9; (rw [h9]; exact VV.n1); (rw [show μ187.1 111 99 = μ.1 152 x1 from (hp_190 h9).2]; exact hgv))) (wm 10 183 rfl rfl) (wm 10 185 rfl rfl) (wm 0 209 rfl rfl) rfl rfl (by decide) rfl (wm 1 18 rfl rfl) (wm 10 186 rfl rfl) (by decide) hR ⟨nfr hF (by decide), nlo hLo (by decide)⟩ (n := 4) rfl rfl (Nat.le_of_ble_eq_true rfl) hl.1 dX12_turnsFailure_171 (fun r_276 μ275 ρ d0 H locs hr_r_276 hp G => ?_)
              have hr_r_276 : -2147483648 ≤ r_276 ∧ r_276 ≤ 2147483647 := hr_r_276
              obtain ⟨F_277, hp_278, hp_279, hp_280, hs_281, hs_282, hs_283⟩ := hp
              refine xb_ti (y := μ.1 111 82) hp_280 ?_
              have hr_284 : -2147483648 ≤ μ.1 111 82 ∧ μ.1 111 82 ≤ 2147483647 := by omega
              refine lv_istore (lv' := [(6, .int (iv (μ.1 111 82))), (5, .int (iv k9)), (4, .int (iv ((4 * (μ.1 149 x1)) + (μ.1 127 (n - 1))))), (3, .int (iv (μ.1 127 (n - 1)))), (2, .int (iv (μ.1 149 x1))), (0, .ref (oP ω 111)), (1, .int (iv x1))]) hx hb dX12_turnsFailure_174 hl (by decide) rfl (fun ls hl => ?_)
              refine lv_aload_n hx hb dX12_turnsFailure_176 rfl (lv_at hl 5 rfl) ?_
              refine xa_getr G fd_X12 (a := 111) (x := 155) 76 rfl (by decide) rfl (wm 7 225 rfl rfl) ⟨rfl, rfl, rfl⟩ dX12_turnsFailure_177 rfl (G.sk 153 rfl) (by decide) rfl ?_
              refine lv_iload hx hb dX12_turnsFailure_180 (lv_at hl 0 rfl) ?_
              refine xj (pc2 := 193) (st2 := fun v_285 => [.int (iv v_285), .int (iv (μ.1 111 82)), .ref (oP ω 155)]) (C := fun v_285 => (-2147483648 ≤ v_285 ∧ v_285 ≤ 2147483647) ∧ (True)) (fun v_285 hv_286 => ?_) (fun kont_193 => ?_)
              · skip
                obtain ⟨hr_v_285, hv_286⟩ := hv_286
                refine xa_iast G (a := 155) (i := μ.1 111 82) (x := v_285) rfl (by have h9 := G.lc (a := 155) (n := 12000) 93 rfl; omega) (by unfold ir; omega) dX12_turnsFailure_193 rfl (fun H locs G => ?_)
                refine lv_aload_n hx hb dX12_turnsFailure_194 rfl (lv_at hl 5 rfl) ?_
                refine xa_getr G fd_X12 (a := 111) (x := 156) 77 rfl (by decide) rfl (wm 7 226 rfl rfl) ⟨rfl, rfl, rfl⟩ dX12_turnsFailure_195 rfl (G.sk 154 rfl) (by decide) rfl ?_
                refine lv_iload hx hb dX12_turnsFailure_198 (lv_at hl 0 rfl) ?_
                refine lv_iload_n hx hb dX12_turnsFailure_200 rfl (lv_at hl 6 rfl) ?_
                refine xa_iast G (a := 156) (i := μ.1 111 82) (x := x1) rfl (by have h9 := G.lc (a := 156) (n := 12000) 94 rfl; omega) (by unfold ir; omega) dX12_turnsFailure_201 rfl (fun H locs G => ?_)
                refine lv_aload_n hx hb dX12_turnsFailure_202 rfl (lv_at hl 5 rfl) ?_
                refine lv_dup hx hb dX12_turnsFailure_203 rfl ?_
                refine xa_geti G fd_X12 (a := 111) (x := μ.1 111 90) 90 rfl (by decide) rfl (wm 7 239 rfl rfl) ⟨rfl, rfl, rfl⟩ dX12_turnsFailure_204 rfl ((sv_n _ (fun h9 => absurd h9.1 (by decide))).trans ((sv_n _ (fun h9 => absurd h9.1 (by decide))).trans ((hp_278 90 (by decide)).trans ((hp_189 90 (by decide)).trans (hp_11 90 (by decide)))))) ?_
                have hr_287 : -2147483648 ≤ μ.1 111 90 ∧ μ.1 111 90 ≤ 2147483647 := by have h9 := G.hr (a := 111) (k := 90) rfl; rw [show (sv (sv μ275 155 (μ.1 111 82) v_285) 156 (μ.1 111 82) x1).1 111 90 = μ.1 111 90 from ((sv_n _ (fun h9 => absurd h9.1 (by decide))).trans ((sv_n _ (fun h9 => absurd h9.1 (by decide))).trans ((hp_278 90 (by decide)).trans ((hp_189 90 (by decide)).trans (hp_11 90 (by decide))))))] at h9; exact h9
                refine lv_iconst (v := iv 1) hx hb dX12_turnsFailure_207 rfl ?_
                refine xb_iadd hx hb dX12_turnsFailure_208 ?_
                refine xb_topi (fun y_288 hr_y_288 he_y_288 => ?_)
                have hr_y_288 : -2147483648 ≤ y_288 ∧ y_288 ≤ 2147483647 := hr_y_288
                refine xa_puti G fd_X12 (a := 111) (x := y_288) 90 (kz := 90) rfl rfl (by decide) rfl (by unfold ir; omega) (wm 7 239 rfl rfl) ⟨rfl, rfl, rfl, rfl⟩ rfl dX12_turnsFailure_209 rfl (fun H locs G => ?_)
                refine lv_iload_n hx hb dX12_turnsFailure_212 rfl (lv_at hl 3 rfl) ?_
                refine lv_iconst (v := iv 2) hx hb dX12_turnsFailure_213 rfl ?_
                refine xb_icmp_ne (tgt := 228) hx hb (by unfold ir; omega) (by unfold ir; omega) dX12_turnsFailure_214 (by decide) (fun c_214 => ?_) (fun c_214 => ?_)
                · refine lv_aload_n hx hb dX12_turnsFailure_228 rfl (lv_at hl 5 rfl) ?_
                  refine lv_iload hx hb dX12_turnsFailure_229 (lv_at hl 0 rfl) ?_
                  refine lv_iconst (v := iv 1) hx hb dX12_turnsFailure_231 rfl ?_
                  have e_289 : (sv (sv (sv μ275 155 (μ.1 111 82) v_285) 156 (μ.1 111 82) x1) 111 90 y_288).1 111 83 = μ8.1 111 83 := ((sv_n _ (by decide)).trans ((sv_n _ (fun h9 => absurd h9.1 (by decide))).trans ((sv_n _ (fun h9 => absurd h9.1 (by decide))).trans ((hp_278 83 (by decide)).trans (hp_189 83 (by decide))))))
                  have hrx_290 := RX.eq (μ := μ) (ν := (sv (sv (sv μ275 155 (μ.1 111 82) v_285) 156 (μ.1 111 82) x1) 111 90 y_288)) (Eqa.fr (L := [111, 156, 155, 149, 150, 151, 152, 153, 154, 157]) (FrM.put (FrM.put (FrM.put (FrM.tr (FrM.tr (FrM.tr FrM.rf F_10 (by decide)) F_188 (by decide)) F_277 (by decide)) (by decide)) (by decide)) (by decide)) (by decide)) (Eqf.fd (L := [82, 83, 84, 90, 93, 94, 98, 99]) (fun j hj => ((sv_n _ (fun h9 => hj (by rw [h9.2]; decide))).trans ((sv_n _ (fun h9 => absurd h9.1 (by decide))).trans ((sv_n _ (fun h9 => absurd h9.1 (by decide))).trans ((hp_278 j (fun h9 => hj ((by decide : ∀ x ∈ ([82] : List Int), x ∈ ([82, 83, 84, 90, 93, 94, 98, 99] : List Int)) j h9))).trans ((hp_189 j (fun h9 => hj ((by decide : ∀ x ∈ ([98, 99] : List Int), x ∈ ([82, 83, 84, 90, 93, 94, 98, 99] : List Int)) j h9))).trans (hp_11 j (fun h9 => hj ((by decide : ∀ x ∈ ([83, 84, 93, 94] : List Int), x ∈ ([82, 83, 84, 90, 93, 94, 98, 99] : List Int)) j h9))))))))) (by decide))
                  have e_291 : (sv (sv (sv μ275 155 (μ.1 111 82) v_285) 156 (μ.1 111 82) x1) 111 90 y_288).1 111 94 = μ8.1 111 94 := ((sv_n _ (by decide)).trans ((sv_n _ (fun h9 => absurd h9.1 (by decide))).trans ((sv_n _ (fun h9 => absurd h9.1 (by decide))).trans ((hp_278 94 (by decide)).trans (hp_189 94 (by decide))))))
                  have e_292 : (sv (sv (sv μ275 155 (μ.1 111 82) v_285) 156 (μ.1 111 82) x1) 111 90 y_288).1 111 47 = n := ((sv_n _ (by decide)).trans ((sv_n _ (fun h9 => absurd h9.1 (by decide))).trans ((sv_n _ (fun h9 => absurd h9.1 (by decide))).trans ((hp_278 47 (by decide)).trans ((hp_189 47 (by decide)).trans ((hp_11 47 (by decide)).trans hn.symm))))))
                  have hMZ_293 : MZ (sv μ275 155 (μ.1 111 82) v_285) := MZ.pua hp_279 (by decide)
                  have hMZ_294 : MZ (sv (sv μ275 155 (μ.1 111 82) v_285) 156 (μ.1 111 82) x1) := MZ.gf hMZ_293 (by omega)
                  have hMZ_295 : MZ (sv (sv (sv μ275 155 (μ.1 111 82) v_285) 156 (μ.1 111 82) x1) 111 90 y_288) := MZ.f hMZ_294 (by decide)
                  have e_296 : (sv (sv (sv μ275 155 (μ.1 111 82) v_285) 156 (μ.1 111 82) x1) 111 90 y_288).1 111 94 = μ8.1 111 94 := ((sv_n _ (by decide)).trans ((sv_n _ (fun h9 => absurd h9.1 (by decide))).trans ((sv_n _ (fun h9 => absurd h9.1 (by decide))).trans ((hp_278 94 (by decide)).trans (hp_189 94 (by decide))))))
                  have hA1_297 : A1 (sv (sv (sv μ275 155 (μ.1 111 82) v_285) 156 (μ.1 111 82) x1) 111 90 y_288) := A1.mv hA1 (Eqa.fr (L := [111, 156, 155, 149, 150, 151, 152, 153, 154, 157]) (FrM.put (FrM.put (FrM.put (FrM.tr (FrM.tr (FrM.tr FrM.rf F_10 (by decide)) F_188 (by decide)) F_277 (by decide)) (by decide)) (by decide)) (by decide)) (by decide)) (Eqf.fd (L := [82, 83, 84, 90, 93, 94, 98, 99]) (fun j hj => ((sv_n _ (fun h9 => hj (by rw [h9.2]; decide))).trans ((sv_n _ (fun h9 => absurd h9.1 (by decide))).trans ((sv_n _ (fun h9 => absurd h9.1 (by decide))).trans ((hp_278 j (fun h9 => hj ((by decide : ∀ x ∈ ([82] : List Int), x ∈ ([82, 83, 84, 90, 93, 94, 98, 99] : List Int)) j h9))).trans ((hp_189 j (fun h9 => hj ((by decide : ∀ x ∈ ([98, 99] : List Int), x ∈ ([82, 83, 84, 90, 93, 94, 98, 99] : List Int)) j h9))).trans (hp_11 j (fun h9 => hj ((by decide : ∀ x ∈ ([83, 84, 93, 94] : List Int), x ∈ ([82, 83, 84, 90, 93, 94, 98, 99] : List Int)) j h9))))))))) (by decide))
                  refine xc_vV G (b := 111) (rest := []) (As := [.int (iv (μ.1 111 82)), .int (iv 1)]) (((fun (_ : Om) (_ : Launch) => hG)) ω l (sv (sv (sv μ275 155 (μ.1 111 82) v_285) 156 (μ.1 111 82) x1) 111 90 y_288) (μ.1 111 82) 1 n (by unfold ir; omega) (by omega) (by omega) hMZ_295 (by omega) (by omega) (by omega) (by have h9 : (sv (sv (sv μ275 155 (μ.1 111 82) v_285) 156 (μ.1 111 82) x1) 111 90 y_288).1 111 82 = (μ.1 111 82) + 1 := ((sv_n _ (by decide)).trans ((sv_n _ (fun h9 => absurd h9.1 (by decide))).trans ((sv_n _ (fun h9 => absurd h9.1 (by decide))).trans hs_281))); omega) (by have h9 : (sv (sv (sv μ275 155 (μ.1 111 82) v_285) 156 (μ.1 111 82) x1) 111 90 y_288).1 149 (μ.1 111 82) = (μ.1 127 (n - 1)) := ((sv_n _ (fun h9 => absurd h9.1 (by decide))).trans ((sv_n _ (fun h9 => absurd h9.1 (by decide))).trans ((sv_n _ (fun h9 => absurd h9.1 (by decide))).trans hs_282))); have h8 : (sv (sv (sv μ275 155 (μ.1 111 82) v_285) 156 (μ.1 111 82) x1) 111 90 y_288).1 127 (n - 1) = μ.1 127 (n - 1) := ((sv_n _ (fun h9 => absurd h9.1 (by decide))).trans ((sv_n _ (fun h9 => absurd h9.1 (by decide))).trans ((sv_n _ (fun h9 => absurd h9.1 (by decide))).trans ((F_277.1 127 (by decide) (n - 1)).trans ((F_188.1 127 (by decide) (n - 1)).trans (F_10.1 127 (by decide) (n - 1))))))); omega) (fun _ => hA1_297)) (wm 10 187 rfl rfl) (wm 10 189 rfl rfl) (wm 0 210 rfl rfl) rfl rfl (by decide) rfl (wm 1 18 rfl rfl) (wm 10 190 rfl rfl) (by decide) hR ⟨sfr (F := F) (a := 0) (by decide), slo (L := Lo) (m := 3) (a := 0) (by decide)⟩ (n := 2) rfl rfl (Nat.le_of_ble_eq_true rfl) hl.1 dX12_turnsFailure_232 (fun μ298 ρ d0 H locs hp G => ?_)
                  obtain ⟨F_299, hp_300, hp_301⟩ := hp
                  exact xr_v G hret hlk dX12_turnsFailure_235 ⟨(FrM.tr (FrM.put (FrM.put (FrM.put (FrM.tr (FrM.tr (FrM.tr FrM.rf F_10 (by decide)) F_188 (by decide)) F_277 (by decide)) (by decide)) (by decide)) (by decide)) F_299 (by decide)), (fun j hj => ((hp_300 j (fun h9 => hj ((by decide : ∀ x ∈ ([47, 53, 61, 81, 82, 83, 84, 90, 91, 93, 94, 95, 96, 97, 98, 99] : List Int), x ∈ ([47, 53, 61, 81, 82, 83, 84, 90, 91, 93, 94, 95, 96, 97, 98, 99] : List Int)) j h9))).trans ((sv_n _ (fun h9 => hj (by rw [h9.2]; decide))).trans ((sv_n _ (fun h9 => absurd h9.1 (by decide))).trans ((sv_n _ (fun h9 => absurd h9.1 (by decide))).trans ((hp_278 j (fun h9 => hj ((by decide : ∀ x ∈ ([82] : List Int), x ∈ ([47, 53, 61, 81, 82, 83, 84, 90, 91, 93, 94, 95, 96, 97, 98, 99] : List Int)) j h9))).trans ((hp_189 j (fun h9 => hj ((by decide : ∀ x ∈ ([98, 99] : List Int), x ∈ ([47, 53, 61, 81, 82, 83, 84, 90, 91, 93, 94, 95, 96, 97, 98, 99] : List Int)) j h9))).trans (hp_11 j (fun h9 => hj ((by decide : ∀ x ∈ ([83, 84, 93, 94] : List Int), x ∈ ([47, 53, 61, 81, 82, 83, 84, 90, 91, 93, 94, 95, 96, 97, 98, 99] : List Int)) j h9)))))))))), (hp_301.le (by omega))⟩
                · refine lv_aload_n hx hb dX12_turnsFailure_217 rfl (lv_at hl 5 rfl) ?_
                  refine lv_iconst (v := iv 4) hx hb dX12_turnsFailure_218 rfl ?_
                  refine lv_iload hx hb dX12_turnsFailure_219 (lv_at hl 0 rfl) ?_
                  refine xb_i2l hx hb (by unfold ir; omega) dX12_turnsFailure_221 ?_
                  have e_302 : (sv (sv (sv μ275 155 (μ.1 111 82) v_285) 156 (μ.1 111 82) x1) 111 90 y_288).1 111 83 = μ8.1 111 83 := ((sv_n _ (by decide)).trans ((sv_n _ (fun h9 => absurd h9.1 (by decide))).trans ((sv_n _ (fun h9 => absurd h9.1 (by decide))).trans ((hp_278 83 (by decide)).trans (hp_189 83 (by decide))))))
                  have hrx_303 := RX.eq (μ := μ) (ν := (sv (sv (sv μ275 155 (μ.1 111 82) v_285) 156 (μ.1 111 82) x1) 111 90 y_288)) (Eqa.fr (L := [111, 156, 155, 149, 150, 151, 152, 153, 154, 157]) (FrM.put (FrM.put (FrM.put (FrM.tr (FrM.tr (FrM.tr FrM.rf F_10 (by decide)) F_188 (by decide)) F_277 (by decide)) (by decide)) (by decide)) (by decide)) (by decide)) (Eqf.fd (L := [82, 83, 84, 90, 93, 94, 98, 99]) (fun j hj => ((sv_n _ (fun h9 => hj (by rw [h9.2]; decide))).trans ((sv_n _ (fun h9 => absurd h9.1 (by decide))).trans ((sv_n _ (fun h9 => absurd h9.1 (by decide))).trans ((hp_278 j (fun h9 => hj ((by decide : ∀ x ∈ ([82] : List Int), x ∈ ([82, 83, 84, 90, 93, 94, 98, 99] : List Int)) j h9))).trans ((hp_189 j (fun h9 => hj ((by decide : ∀ x ∈ ([98, 99] : List Int), x ∈ ([82, 83, 84, 90, 93, 94, 98, 99] : List Int)) j h9))).trans (hp_11 j (fun h9 => hj ((by decide : ∀ x ∈ ([83, 84, 93, 94] : List Int), x ∈ ([82, 83, 84, 90, 93, 94, 98, 99] : List Int)) j h9))))))))) (by decide))
                  have e_304 : (sv (sv (sv μ275 155 (μ.1 111 82) v_285) 156 (μ.1 111 82) x1) 111 90 y_288).1 111 94 = μ8.1 111 94 := ((sv_n _ (by decide)).trans ((sv_n _ (fun h9 => absurd h9.1 (by decide))).trans ((sv_n _ (fun h9 => absurd h9.1 (by decide))).trans ((hp_278 94 (by decide)).trans (hp_189 94 (by decide))))))
                  have hA1_305 : A1 (sv (sv (sv μ275 155 (μ.1 111 82) v_285) 156 (μ.1 111 82) x1) 111 90 y_288) := A1.mv hA1 (Eqa.fr (L := [111, 156, 155, 149, 150, 151, 152, 153, 154, 157]) (FrM.put (FrM.put (FrM.put (FrM.tr (FrM.tr (FrM.tr FrM.rf F_10 (by decide)) F_188 (by decide)) F_277 (by decide)) (by decide)) (by decide)) (by decide)) (by decide)) (Eqf.fd (L := [82, 83, 84, 90, 93, 94, 98, 99]) (fun j hj => ((sv_n _ (fun h9 => hj (by rw [h9.2]; decide))).trans ((sv_n _ (fun h9 => absurd h9.1 (by decide))).trans ((sv_n _ (fun h9 => absurd h9.1 (by decide))).trans ((hp_278 j (fun h9 => hj ((by decide : ∀ x ∈ ([82] : List Int), x ∈ ([82, 83, 84, 90, 93, 94, 98, 99] : List Int)) j h9))).trans ((hp_189 j (fun h9 => hj ((by decide : ∀ x ∈ ([98, 99] : List Int), x ∈ ([82, 83, 84, 90, 93, 94, 98, 99] : List Int)) j h9))).trans (hp_11 j (fun h9 => hj ((by decide : ∀ x ∈ ([83, 84, 93, 94] : List Int), x ∈ ([82, 83, 84, 90, 93, 94, 98, 99] : List Int)) j h9))))))))) (by decide))
                  have e_306 : (sv (sv (sv μ275 155 (μ.1 111 82) v_285) 156 (μ.1 111 82) x1) 111 90 y_288).1 111 47 = n := ((sv_n _ (by decide)).trans ((sv_n _ (fun h9 => absurd h9.1 (by decide))).trans ((sv_n _ (fun h9 => absurd h9.1 (by decide))).trans ((hp_278 47 (by decide)).trans ((hp_189 47 (by decide)).trans ((hp_11 47 (by decide)).trans hn.symm))))))
                  have e_307 : (sv (sv (sv μ275 155 (μ.1 111 82) v_285) 156 (μ.1 111 82) x1) 111 90 y_288).1 111 53 = μ.1 111 53 := ((sv_n _ (by decide)).trans ((sv_n _ (fun h9 => absurd h9.1 (by decide))).trans ((sv_n _ (fun h9 => absurd h9.1 (by decide))).trans ((hp_278 53 (by decide)).trans ((hp_189 53 (by decide)).trans (hp_11 53 (by decide)))))))
                  have e_308 : (sv (sv (sv μ275 155 (μ.1 111 82) v_285) 156 (μ.1 111 82) x1) 111 90 y_288).1 111 53 = μ.1 111 53 := ((sv_n _ (by decide)).trans ((sv_n _ (fun h9 => absurd h9.1 (by decide))).trans ((sv_n _ (fun h9 => absurd h9.1 (by decide))).trans ((hp_278 53 (by decide)).trans ((hp_189 53 (by decide)).trans (hp_11 53 (by decide)))))))
                  have hMZ_309 : MZ (sv μ275 155 (μ.1 111 82) v_285) := MZ.pua hp_279 (by decide)
                  have hMZ_310 : MZ (sv (sv μ275 155 (μ.1 111 82) v_285) 156 (μ.1 111 82) x1) := MZ.gf hMZ_309 (by omega)
                  have hMZ_311 : MZ (sv (sv (sv μ275 155 (μ.1 111 82) v_285) 156 (μ.1 111 82) x1) 111 90 y_288) := MZ.f hMZ_310 (by decide)
                  have e_312 : (sv (sv (sv μ275 155 (μ.1 111 82) v_285) 156 (μ.1 111 82) x1) 111 90 y_288).1 111 53 = μ.1 111 53 := ((sv_n _ (by decide)).trans ((sv_n _ (fun h9 => absurd h9.1 (by decide))).trans ((sv_n _ (fun h9 => absurd h9.1 (by decide))).trans ((hp_278 53 (by decide)).trans ((hp_189 53 (by decide)).trans (hp_11 53 (by decide)))))))
                  have e_313 : (sv (sv (sv μ275 155 (μ.1 111 82) v_285) 156 (μ.1 111 82) x1) 111 90 y_288).1 111 53 = μ.1 111 53 := ((sv_n _ (by decide)).trans ((sv_n _ (fun h9 => absurd h9.1 (by decide))).trans ((sv_n _ (fun h9 => absurd h9.1 (by decide))).trans ((hp_278 53 (by decide)).trans ((hp_189 53 (by decide)).trans (hp_11 53 (by decide)))))))
                  have e_314 : (sv (sv (sv μ275 155 (μ.1 111 82) v_285) 156 (μ.1 111 82) x1) 111 90 y_288).1 111 53 = μ.1 111 53 := ((sv_n _ (by decide)).trans ((sv_n _ (fun h9 => absurd h9.1 (by decide))).trans ((sv_n _ (fun h9 => absurd h9.1 (by decide))).trans ((hp_278 53 (by decide)).trans ((hp_189 53 (by decide)).trans (hp_11 53 (by decide)))))))
                  have e_315 : (sv (sv (sv μ275 155 (μ.1 111 82) v_285) 156 (μ.1 111 82) x1) 111 90 y_288).1 111 53 = μ.1 111 53 := ((sv_n _ (by decide)).trans ((sv_n _ (fun h9 => absurd h9.1 (by decide))).trans ((sv_n _ (fun h9 => absurd h9.1 (by decide))).trans ((hp_278 53 (by decide)).trans ((hp_189 53 (by decide)).trans (hp_11 53 (by decide)))))))
                  have e_316 : (sv (sv (sv μ275 155 (μ.1 111 82) v_285) 156 (μ.1 111 82) x1) 111 90 y_288).1 111 82 = (μ.1 111 82) + 1 := ((sv_n _ (by decide)).trans ((sv_n _ (fun h9 => absurd h9.1 (by decide))).trans ((sv_n _ (fun h9 => absurd h9.1 (by decide))).trans hs_281)))
                  refine xc_vV G (b := 111) (rest := []) (As := [.int (iv 4), .long (jv (μ.1 111 82))]) (c_X12_push ω l (sv (sv (sv μ275 155 (μ.1 111 82) v_285) 156 (μ.1 111 82) x1) 111 90 y_288) 4 (μ.1 111 82) (μ.1 111 53) (by unfold ir; omega) (by unfold jr; omega) (by omega) hMZ_311 (VV.n4 (by have h9 : (sv (sv (sv μ275 155 (μ.1 111 82) v_285) 156 (μ.1 111 82) x1) 111 90 y_288).1 111 82 = (μ.1 111 82) + 1 := ((sv_n _ (by decide)).trans ((sv_n _ (fun h9 => absurd h9.1 (by decide))).trans ((sv_n _ (fun h9 => absurd h9.1 (by decide))).trans hs_281))); omega)) (by omega)) (wm 10 127 rfl rfl) (wm 10 129 rfl rfl) (wm 0 195 rfl rfl) rfl rfl (by decide) rfl (wm 1 18 rfl rfl) (wm 10 130 rfl rfl) (by decide) hR ⟨nfr hF (by decide), nlo hLo (by decide)⟩ (n := 2) rfl rfl (Nat.le_of_ble_eq_true rfl) hl.1 dX12_turnsFailure_222 (fun μ317 ρ d0 H locs hp G => ?_)
                  obtain ⟨F_318, hp_319, hp_320, hs_321, hs_322, hs_323, ha_324, ha_325⟩ := hp
                  refine lv_goto (tgt := 235) hx hb dX12_turnsFailure_225 (by decide) ?_
                  have e_326 : μ317.1 111 94 = μ8.1 111 94 := ((hp_319 94 (by decide)).trans ((sv_n _ (by decide)).trans ((sv_n _ (fun h9 => absurd h9.1 (by decide))).trans ((sv_n _ (fun h9 => absurd h9.1 (by decide))).trans ((hp_278 94 (by decide)).trans (hp_189 94 (by decide)))))))
                  have e_327 : μ317.1 111 53 = (μ.1 111 53) + 1 := hs_321
                  have e_328 : (sv (sv (sv μ275 155 (μ.1 111 82) v_285) 156 (μ.1 111 82) x1) 111 90 y_288).1 111 53 = μ.1 111 53 := ((sv_n _ (by decide)).trans ((sv_n _ (fun h9 => absurd h9.1 (by decide))).trans ((sv_n _ (fun h9 => absurd h9.1 (by decide))).trans ((hp_278 53 (by decide)).trans ((hp_189 53 (by decide)).trans (hp_11 53 (by decide)))))))
                  exact xr_v G hret hlk dX12_turnsFailure_235 ⟨(FrM.tr (FrM.put (FrM.put (FrM.put (FrM.tr (FrM.tr (FrM.tr FrM.rf F_10 (by decide)) F_188 (by decide)) F_277 (by decide)) (by decide)) (by decide)) (by decide)) F_318 (by decide)), (fun j hj => ((hp_319 j (fun h9 => hj ((by decide : ∀ x ∈ ([53] : List Int), x ∈ ([47, 53, 61, 81, 82, 83, 84, 90, 91, 93, 94, 95, 96, 97, 98, 99] : List Int)) j h9))).trans ((sv_n _ (fun h9 => hj (by rw [h9.2]; decide))).trans ((sv_n _ (fun h9 => absurd h9.1 (by decide))).trans ((sv_n _ (fun h9 => absurd h9.1 (by decide))).trans ((hp_278 j (fun h9 => hj ((by decide : ∀ x ∈ ([82] : List Int), x ∈ ([47, 53, 61, 81, 82, 83, 84, 90, 91, 93, 94, 95, 96, 97, 98, 99] : List Int)) j h9))).trans ((hp_189 j (fun h9 => hj ((by decide : ∀ x ∈ ([98, 99] : List Int), x ∈ ([47, 53, 61, 81, 82, 83, 84, 90, 91, 93, 94, 95, 96, 97, 98, 99] : List Int)) j h9))).trans (hp_11 j (fun h9 => hj ((by decide : ∀ x ∈ ([83, 84, 93, 94] : List Int), x ∈ ([47, 53, 61, 81, 82, 83, 84, 90, 91, 93, 94, 95, 96, 97, 98, 99] : List Int)) j h9)))))))))), ((A1.res hA1_305 hp_320 (by have h9 : (sv (sv (sv μ275 155 (μ.1 111 82) v_285) 156 (μ.1 111 82) x1) 111 90 y_288).1 111 47 = n := ((sv_n _ (by decide)).trans ((sv_n _ (fun h9 => absurd h9.1 (by decide))).trans ((sv_n _ (fun h9 => absurd h9.1 (by decide))).trans ((hp_278 47 (by decide)).trans ((hp_189 47 (by decide)).trans ((hp_11 47 (by decide)).trans hn.symm)))))); omega) (Eqa.fr (L := [111, 135, 136]) (FrM.tr FrM.rf F_318 (by decide)) (by decide)) (Eqf.fd (L := [53]) (fun j hj => (hp_319 j (fun h9 => hj ((by decide : ∀ x ∈ ([53] : List Int), x ∈ ([53] : List Int)) j h9)))) (by decide)) (by have h9 : μ317.1 111 94 = μ8.1 111 94 := ((hp_319 94 (by decide)).trans ((sv_n _ (by decide)).trans ((sv_n _ (fun h9 => absurd h9.1 (by decide))).trans ((sv_n _ (fun h9 => absurd h9.1 (by decide))).trans ((hp_278 94 (by decide)).trans (hp_189 94 (by decide))))))); omega) (by have h9 : μ317.1 111 83 = μ8.1 111 83 := ((hp_319 83 (by decide)).trans ((sv_n _ (by decide)).trans ((sv_n _ (fun h9 => absurd h9.1 (by decide))).trans ((sv_n _ (fun h9 => absurd h9.1 (by decide))).trans ((hp_278 83 (by decide)).trans (hp_189 83 (by decide))))))); have h8 : (sv (sv (sv μ275 155 (μ.1 111 82) v_285) 156 (μ.1 111 82) x1) 111 90 y_288).1 111 83 = μ8.1 111 83 := ((sv_n _ (by decide)).trans ((sv_n _ (fun h9 => absurd h9.1 (by decide))).trans ((sv_n _ (fun h9 => absurd h9.1 (by decide))).trans ((hp_278 83 (by decide)).trans (hp_189 83 (by decide)))))); omega) (by omega)).le (by omega))⟩
              · skip
                refine lv_iload hx hb dX12_turnsFailure_182 (lv_at hl 1 rfl) ?_
                refine lv_iconst (v := iv (-1)) hx hb dX12_turnsFailure_184 rfl ?_
                refine xb_icmp_ne (tgt := 192) hx hb (by unfold ir; omega) (by unfold ir; omega) dX12_turnsFailure_185 (by decide) (fun c_185 => ?_) (fun c_185 => ?_)
                · refine lv_iconst (v := iv 1) hx hb dX12_turnsFailure_192 rfl ?_
                  exact kont_193 1 ⟨by omega, trivial⟩
                · refine lv_iconst (v := iv 2) hx hb dX12_turnsFailure_188 rfl ?_
                  refine lv_goto (tgt := 193) hx hb dX12_turnsFailure_189 (by decide) ?_
                  exact kont_193 2 ⟨by omega, trivial⟩
          · skip
            refine lv_iload hx hb dX12_turnsFailure_116 (lv_at hl 1 rfl) ?_
            refine lv_iconst (v := iv (-1)) hx hb dX12_turnsFailure_118 rfl ?_
            refine xb_icmp_ne (tgt := 132) hx hb (by unfold ir; omega) (by unfold ir; omega) dX12_turnsFailure_119 (by decide) (fun c_119 => ?_) (fun c_119 => ?_)
            · have hk1_ := ((hi_29 ())).resolve_left c_119
              refine lv_aload_n hx hb dX12_turnsFailure_132 rfl (lv_at hl 5 rfl) ?_
              refine xa_getr G fd_X12 (a := 111) (x := 165) 103 rfl (by decide) rfl (wm 8 12 rfl rfl) ⟨rfl, rfl, rfl⟩ dX12_turnsFailure_133 rfl (G.sk 163 rfl) (by decide) rfl ?_
              refine lv_iload hx hb dX12_turnsFailure_136 (lv_at hl 1 rfl) ?_
              refine xa_iald G (a := 165) (i := k9) rfl (by have h9 := G.lc (a := 165) (n := 100) 103 rfl; omega) dX12_turnsFailure_138 rfl ?_
              refine xb_ti (y := μ.1 165 k9) ((F_188.1 165 (by decide) k9).trans (F_10.1 165 (by decide) k9)) ?_
              have hr_329 : -2147483648 ≤ μ.1 165 k9 ∧ μ.1 165 k9 ≤ 2147483647 := by have h9 := G.hr (a := 165) (k := k9) rfl; rw [((F_188.1 165 (by decide) k9).trans (F_10.1 165 (by decide) k9))] at h9; exact h9
              exact kont_139 (μ.1 165 k9) ⟨by omega, (fun _ h9 => hen.2.1 _ _ _ (by omega) (by omega) (((hi_29 ())).resolve_left c_119).2.2 (by omega) (by omega) h9)⟩
            · refine lv_aload_n hx hb dX12_turnsFailure_122 rfl (lv_at hl 5 rfl) ?_
              refine xa_getr G fd_X12 (a := 111) (x := 166) 105 rfl (by decide) rfl (wm 8 14 rfl rfl) ⟨rfl, rfl, rfl⟩ dX12_turnsFailure_123 rfl (G.sk 164 rfl) (by decide) rfl ?_
              refine lv_iload hx hb dX12_turnsFailure_126 (lv_at hl 2 rfl) ?_
              refine xa_iald G (a := 166) (i := (4 * (μ.1 149 x1)) + (μ.1 127 (n - 1))) rfl (by have h9 := G.lc (a := 166) (n := 16) 104 rfl; omega) dX12_turnsFailure_128 rfl ?_
              refine xb_ti (y := μ.1 166 ((4 * (μ.1 149 x1)) + (μ.1 127 (n - 1)))) ((F_188.1 166 (by decide) ((4 * (μ.1 149 x1)) + (μ.1 127 (n - 1)))).trans (F_10.1 166 (by decide) ((4 * (μ.1 149 x1)) + (μ.1 127 (n - 1))))) ?_
              have hr_330 : -2147483648 ≤ μ.1 166 ((4 * (μ.1 149 x1)) + (μ.1 127 (n - 1))) ∧ μ.1 166 ((4 * (μ.1 149 x1)) + (μ.1 127 (n - 1))) ≤ 2147483647 := by have h9 := G.hr (a := 166) (k := (4 * (μ.1 149 x1)) + (μ.1 127 (n - 1))) rfl; rw [((F_188.1 166 (by decide) ((4 * (μ.1 149 x1)) + (μ.1 127 (n - 1)))).trans (F_10.1 166 (by decide) ((4 * (μ.1 149 x1)) + (μ.1 127 (n - 1)))))] at h9; exact h9
              refine lv_goto (tgt := 139) hx hb dX12_turnsFailure_129 (by decide) ?_
              exact kont_139 (μ.1 166 ((4 * (μ.1 149 x1)) + (μ.1 127 (n - 1)))) ⟨by omega, (fun _ h9 => hen.2.2 _ _ (by omega) (by omega) (by omega) (by omega) h9)⟩
        · have hm7_ := mrk_go hrk (k := w9) (by omega) (by omega)
          refine lv_aload_n hx hb dX12_turnsFailure_74 rfl (lv_at hl 5 rfl) ?_
          refine lv_iload hx hb dX12_turnsFailure_75 (lv_at hl 2 rfl) ?_
          refine lv_iload hx hb dX12_turnsFailure_77 (lv_at hl 0 rfl) ?_
          have e_331 : μ8.1 111 104 = μ.1 111 104 := (hp_11 104 (by decide))
          have e_332 : μ8.1 111 104 = μ.1 111 104 := (hp_11 104 (by decide))
          refine xc_iV G (b := 111) (rest := []) (As := [.int (iv ((4 * (μ.1 149 x1)) + (μ.1 127 (n - 1)))), .int (iv w9)]) (c_X12_entryOf ω l μ8 ((4 * (μ.1 149 x1)) + (μ.1 127 (n - 1))) w9 (by unfold ir; omega) (by unfold ir; omega) (by omega)) (wm 10 75 rfl rfl) (wm 10 77 rfl rfl) (wm 0 187 rfl rfl) rfl rfl (by decide) rfl (wm 1 18 rfl rfl) (wm 10 78 rfl rfl) (by decide) hR ⟨nfr hF (by decide), nlo hLo (by decide)⟩ (n := 2) rfl rfl (Nat.le_of_ble_eq_true rfl) hl.1 dX12_turnsFailure_79 (fun r_334 μ333 ρ d0 H locs hr_r_334 hp G => ?_)
          have hr_r_334 : -2147483648 ≤ r_334 ∧ r_334 ≤ 2147483647 := hr_r_334
          obtain ⟨hsm_335, hp_336⟩ := hp
          have hsm_335 := Eq.symm hsm_335
          subst hsm_335
          have hK_337 : ∀ _ : Unit, r_334 = -1 ∨ (0 ≤ r_334 ∧ r_334 < μ.1 111 104 ∧ μ.1 163 r_334 = 4 * (μ.1 149 x1) + (μ.1 127 (n - 1))) := fun _ => by have h9 := hp_336 (); rw [(show μ8.1 111 104 = μ.1 111 104 from (hp_11 104 (by decide))), show μ8.1 163 r_334 = μ.1 163 r_334 from (F_10.1 163 (by decide) r_334)] at h9; exact h9
          clear hp_336
          refine lv_istore (lv' := [(5, .int (iv r_334)), (6, .int (iv w9)), (4, .int (iv ((4 * (μ.1 149 x1)) + (μ.1 127 (n - 1))))), (3, .int (iv (μ.1 127 (n - 1)))), (2, .int (iv (μ.1 149 x1))), (0, .ref (oP ω 111)), (1, .int (iv x1))]) hx hb dX12_turnsFailure_82 hl (by decide) rfl (fun ls hl => ?_)
          refine lv_aload_n hx hb dX12_turnsFailure_84 rfl (lv_at hl 5 rfl) ?_
          refine xa_getr G fd_X12 (a := 111) (x := 114) 5 rfl (by decide) rfl (wm 7 154 rfl rfl) ⟨rfl, rfl, rfl⟩ dX12_turnsFailure_85 rfl (G.sk 112 rfl) (by decide) rfl ?_
          refine lv_iload hx hb dX12_turnsFailure_88 (lv_at hl 1 rfl) ?_
          refine xa_iald G (a := 114) (i := w9) rfl (by have h9 := G.lc (a := 114) (n := 64) 52 rfl; omega) dX12_turnsFailure_90 rfl ?_
          refine xb_ti (y := μ.1 114 w9) (F_10.1 114 (by decide) w9) ?_
          have hr_338 : -2147483648 ≤ μ.1 114 w9 ∧ μ.1 114 w9 ≤ 2147483647 := by have h9 := G.hr (a := 114) (k := w9) rfl; rw [(F_10.1 114 (by decide) w9)] at h9; exact h9
          refine lv_istore (lv' := [(6, .int (iv (μ.1 114 w9))), (5, .int (iv r_334)), (4, .int (iv ((4 * (μ.1 149 x1)) + (μ.1 127 (n - 1))))), (3, .int (iv (μ.1 127 (n - 1)))), (2, .int (iv (μ.1 149 x1))), (0, .ref (oP ω 111)), (1, .int (iv x1))]) hx hb dX12_turnsFailure_91 hl (by decide) rfl (fun ls hl => ?_)
          refine lv_goto (tgt := 62) hx hb dX12_turnsFailure_93 (by decide) ?_
          exact ih _ _ _ _ _ _ _ (by omega) ⟨r_334, μ.1 114 w9, rfl, (by omega), (by omega), (fun _ => (hK_337 ())), (by omega), rfl, lv_sub hl [0, 1, 2, 3, 4, 5, 6] rfl⟩ G
    · skip
      refine lv_iload_n hx hb dX12_turnsFailure_41 rfl (lv_at hl 3 rfl) ?_
      refine xb_if_ne (tgt := 59) hx hb (by unfold ir; omega) dX12_turnsFailure_42 (by decide) (fun c_42 => ?_) (fun c_42 => ?_)
      · refine lv_iconst (v := iv (-1)) hx hb dX12_turnsFailure_59 rfl ?_
        exact kont_60 (-1) ⟨by omega, (Or.inl rfl)⟩
      · refine lv_aload_n hx hb dX12_turnsFailure_45 rfl (lv_at hl 4 rfl) ?_
        refine xa_getr G fd_X12 (a := 111) (x := 114) 5 rfl (by decide) rfl (wm 7 154 rfl rfl) ⟨rfl, rfl, rfl⟩ dX12_turnsFailure_46 rfl (G.sk 112 rfl) (by decide) rfl ?_
        refine lv_aload_n hx hb dX12_turnsFailure_49 rfl (lv_at hl 4 rfl) ?_
        refine xa_getr G fd_X12 (a := 111) (x := 150) 71 rfl (by decide) rfl (wm 7 220 rfl rfl) ⟨rfl, rfl, rfl⟩ dX12_turnsFailure_50 rfl (G.sk 148 rfl) (by decide) rfl ?_
        refine lv_iload_n hx hb dX12_turnsFailure_53 rfl (lv_at hl 5 rfl) ?_
        refine xa_iald G (a := 150) (i := x1) rfl (by have h9 := G.lc (a := 150) (n := 12000) 88 rfl; omega) dX12_turnsFailure_54 rfl ?_
        refine xb_ti (y := μ.1 150 x1) (F_10.1 150 (by decide) x1) ?_
        refine xa_iald G (a := 114) (i := μ.1 150 x1) rfl (by have h9 := G.lc (a := 114) (n := 64) 52 rfl; omega) dX12_turnsFailure_55 rfl ?_
        refine xb_ti (y := μ.1 114 (μ.1 150 x1)) (F_10.1 114 (by decide) (μ.1 150 x1)) ?_
        have hr_339 : -2147483648 ≤ μ.1 114 (μ.1 150 x1) ∧ μ.1 114 (μ.1 150 x1) ≤ 2147483647 := by have h9 := G.hr (a := 114) (k := μ.1 150 x1) rfl; rw [(F_10.1 114 (by decide) (μ.1 150 x1))] at h9; exact h9
        refine lv_goto (tgt := 60) hx hb dX12_turnsFailure_56 (by decide) ?_
        exact kont_60 (μ.1 114 (μ.1 150 x1)) ⟨by omega, (mrk_go hrk (k := μ.1 150 x1) (by omega) (by omega)).1⟩
  · exact xr_v G hret hlk dX12_turnsFailure_19 ⟨(FrM.tr FrM.rf F_10 (by decide)), (fun j hj => (hp_11 j (fun h9 => hj ((by decide : ∀ x ∈ ([83, 84, 93, 94] : List Int), x ∈ ([47, 53, 61, 81, 82, 83, 84, 90, 91, 93, 94, 95, 96, 97, 98, 99] : List Int)) j h9)))), (RES.ov hp_12 (by omega))⟩

set_option maxHeartbeats 4000000 in
set_option maxRecDepth 100000 in
theorem c_X12_arisesWith (ω : Om) (l : Launch) (μ : M3) (x1 : Int) (x2 : Int) (x3 : Int) (F : Nat) (Lo : Nat) (kf : Int) (n : Int) (hx1 : ir x1) (hx2 : ir x2) (hx3 : jr x3) (hn : n = μ.1 111 47) (hMZ : MZ μ) (h1 : 1 ≤ n ∧ n ≤ 24) (hkf : n ≤ kf - 1) (h94 : μ.1 111 94 = 0) (hv : VV (μ.1 111 65) (μ.1 111 82) x2 x3) (hw : μ.1 127 (n - 1) = 0 → 1 ≤ x1 ∧ x1 < μ.1 111 4) (hA2 : μ.1 127 (n - 1) = 2 → A1 μ) (hF : 60 ≤ F) (hLo : 2000 ≤ Lo) (hG : ∀ (μ : M3) (x1 : Int) (x2 : Int) (n : Int) (hx1 : ir x1) (hx2 : x2 = 0 ∨ x2 = 1) (hn : n = μ.1 111 47) (hMZ : MZ μ) (h1 : 1 ≤ n ∧ n ≤ 24) (hkf : n ≤ kf - 1) (h94 : μ.1 111 94 = 0) (hgr : 0 ≤ x1 ∧ x1 < μ.1 111 82) (hgt : μ.1 149 x1 = μ.1 127 (n - 1)) (hby : x2 = 1 → A1 μ), CtV ω l yX12_goesOut cX12_goesOut 3 (F + 0) (Lo + 0) [.ref (oP ω 111), .int (iv x1), .int (iv x2)] μ (fun (μ' : M3) => (FrM [111, 129, 133, 134, 135, 136, 137, 138, 139, 140, 141, 142, 143, 149, 150, 151, 152, 153, 154, 155, 156, 157, 158, 159] μ μ') ∧ (∀ j, j ∉ ([47, 53, 61, 81, 82, 83, 84, 90, 91, 93, 94, 95, 96, 97, 98, 99] : List Int) → μ'.1 111 j = μ.1 111 j) ∧ (RES μ' (RX μ + 9000)))) : CtV ω l yX12_arisesWith cX12_arisesWith 6 (F + 1) (Lo + 22) [.ref (oP ω 111), .int (iv x1), .int (iv x2), .long (jv x3)] μ (fun (μ' : M3) => (FrM [111, 129, 133, 134, 135, 136, 137, 138, 139, 140, 141, 142, 143, 149, 150, 151, 152, 153, 154, 155, 156, 157, 158, 159] μ μ') ∧ (∀ j, j ∉ ([47, 53, 61, 81, 82, 83, 84, 90, 91, 93, 94, 95, 96, 97, 98, 99] : List Int) → μ'.1 111 j = μ.1 111 j) ∧ (RES μ' (RX μ - 190000))) := by
  refine CtV.go (by decide) (Nat.le_of_ble_eq_true rfl) (fun ρ p e s m below meth c R ls G hR hret hlk hl => ?_)
  have hx := G.1.1
  have hb := G.1.2.1
  have hl : lv_has ls 6 [(0, .ref (oP ω 111)), (1, .int (iv x1)), (2, .int (iv x2)), (3, .long (jv x3))] := hl
  generalize s.drawn = d0 at G ⊢
  have hr_x1 : -2147483648 ≤ x1 ∧ x1 ≤ 2147483647 := hx1
  have hr_x2 : -2147483648 ≤ x2 ∧ x2 ≤ 2147483647 := hx2
  have hzn_ := hMZ.n
  rw [← hn] at hzn_
  obtain ⟨hz47, hzFB, hzFL, hz81, hz82, hz84, hz65, hz4, hz104⟩ := hzn_
  have hfr_ := (hMZ.2.2.1 (n - 1) (by omega) (by omega)).1.1
  have hzB := FB_1 (μ := μ) (n := n) (by omega)
  have hzL := FL_1 (μ := μ) (n := n) (by omega)
  have hfr_ := (hMZ.2.2.1 (n - 1) (by omega) (by omega)).1.1
  refine lv_aload_n hx hb dX12_arisesWith_0 rfl (lv_at hl 0 rfl) ?_
  refine xc_iV G (b := 111) (rest := []) (As := []) (c_X12_step ω l μ (μ.1 111 83) (by omega) hMZ) (wm 10 122 rfl rfl) (wm 10 124 rfl rfl) (wm 0 194 rfl rfl) rfl rfl (by decide) rfl (wm 1 18 rfl rfl) (wm 10 125 rfl rfl) (by decide) hR ⟨nfr hF (by decide), nlo hLo (by decide)⟩ (n := 0) rfl rfl (Nat.le_of_ble_eq_true rfl) hl.1 dX12_arisesWith_1 (fun r_2 μ1 ρ d0 H locs hr_r_2 hp G => ?_)
  have hr_r_2 : -2147483648 ≤ r_2 ∧ r_2 ≤ 2147483647 := hr_r_2
  obtain ⟨F_3, hp_4, hp_5, hp_6⟩ := hp
  refine xb_if_ne (tgt := 8) hx hb (by unfold ir; omega) dX12_arisesWith_4 (by decide) (fun c_4 => ?_) (fun c_4 => ?_)
  · refine lv_aload_n hx hb dX12_arisesWith_8 rfl (lv_at hl 0 rfl) ?_
    refine lv_aload_n hx hb dX12_arisesWith_9 rfl (lv_at hl 0 rfl) ?_
    have e_7 : μ1.1 111 47 = n := ((hp_4 47 (by decide)).trans hn.symm)
    have e_8 : μ1.1 127 (n - 1) = μ.1 127 (n - 1) := (F_3.1 127 (by decide) (n - 1))
    refine xc_iV G (b := 111) (rest := [.ref (oP ω 111)]) (As := []) (c_X12_now ω l μ1 n (by omega) (by omega)) (wm 10 163 rfl rfl) (wm 10 165 rfl rfl) (wm 0 204 rfl rfl) rfl rfl (by decide) rfl (wm 1 18 rfl rfl) (wm 10 166 rfl rfl) (by decide) hR ⟨nfr hF (by decide), nlo hLo (by decide)⟩ (n := 0) rfl rfl (Nat.le_of_ble_eq_true rfl) hl.1 dX12_arisesWith_10 (fun r_10 μ9 ρ d0 H locs hr_r_10 hp G => ?_)
    have hr_r_10 : -2147483648 ≤ r_10 ∧ r_10 ≤ 2147483647 := hr_r_10
    obtain ⟨hsm_11, hp_12⟩ := hp
    have hsm_11 := Eq.symm hsm_11
    subst hsm_11
    have hp_12t : r_10 = μ.1 127 (n - 1) := hp_12.trans (F_3.1 127 (by decide) (n - 1))
    refine xb_ti (y := μ.1 127 (n - 1)) hp_12t ?_
    have hr_13 : -2147483648 ≤ μ.1 127 (n - 1) ∧ μ.1 127 (n - 1) ≤ 2147483647 := by omega
    refine lv_iload_n hx hb dX12_arisesWith_13 rfl (lv_at hl 1 rfl) ?_
    refine lv_iload_n hx hb dX12_arisesWith_14 rfl (lv_at hl 2 rfl) ?_
    refine lv_lload_n hx hb dX12_arisesWith_15 rfl (lv_at hl 3 rfl) ?_
    have e_14 : μ1.1 111 47 = n := ((hp_4 47 (by decide)).trans hn.symm)
    have e_15 : μ1.1 111 82 = μ.1 111 82 := (hp_4 82 (by decide))
    have e_16 : μ1.1 111 82 = μ.1 111 82 := (hp_4 82 (by decide))
    have e_17 : μ1.1 111 82 = μ.1 111 82 := (hp_4 82 (by decide))
    have e_18 : μ1.1 127 (n - 1) = μ.1 127 (n - 1) := (F_3.1 127 (by decide) (n - 1))
    have e_19 : μ1.1 127 (n - 1) = μ.1 127 (n - 1) := (F_3.1 127 (by decide) (n - 1))
    have e_20 : μ1.1 111 82 = μ.1 111 82 := (hp_4 82 (by decide))
    have e_21 : μ1.1 111 82 = μ.1 111 82 := (hp_4 82 (by decide))
    have e_22 : μ1.1 111 82 = μ.1 111 82 := (hp_4 82 (by decide))
    have e_23 : μ1.1 127 (n - 1) = μ.1 127 (n - 1) := (F_3.1 127 (by decide) (n - 1))
    have e_24 : μ1.1 111 82 = μ.1 111 82 := (hp_4 82 (by decide))
    refine xc_iV G (b := 111) (rest := []) (As := [.int (iv (μ.1 127 (n - 1))), .int (iv x1), .int (iv x2), .long (jv x3)]) (c_X12_newFailure ω l μ1 (μ.1 127 (n - 1)) x1 x2 x3 n (μ.1 111 82) (by unfold ir; omega) (by unfold ir; omega) (by unfold ir; omega) hx3 (by omega) (by omega) hp_5 (by omega) (by omega) (by omega) (fun h9 => by rw [(show μ1.1 111 4 = μ.1 111 4 from (hp_4 4 (by decide)))]; exact hw (by omega)) (by rw [(show μ1.1 111 65 = μ.1 111 65 from (hp_4 65 (by decide))), (show μ1.1 111 82 = μ.1 111 82 from (hp_4 82 (by decide)))]; exact hv)) (wm 10 183 rfl rfl) (wm 10 185 rfl rfl) (wm 0 209 rfl rfl) rfl rfl (by decide) rfl (wm 1 18 rfl rfl) (wm 10 186 rfl rfl) (by decide) hR ⟨nfr hF (by decide), nlo hLo (by decide)⟩ (n := 4) rfl rfl (Nat.le_of_ble_eq_true rfl) hl.1 dX12_arisesWith_16 (fun r_26 μ25 ρ d0 H locs hr_r_26 hp G => ?_)
    have hr_r_26 : -2147483648 ≤ r_26 ∧ r_26 ≤ 2147483647 := hr_r_26
    obtain ⟨F_27, hp_28, hp_29, hp_30, hs_31, hs_32, hs_33⟩ := hp
    refine xb_ti (y := μ.1 111 82) hp_30 ?_
    have hr_34 : -2147483648 ≤ μ.1 111 82 ∧ μ.1 111 82 ≤ 2147483647 := by omega
    refine lv_istore (lv' := [(5, .int (iv (μ.1 111 82))), (0, .ref (oP ω 111)), (1, .int (iv x1)), (2, .int (iv x2)), (3, .long (jv x3))]) hx hb dX12_arisesWith_19 hl (by decide) rfl (fun ls hl => ?_)
    refine lv_aload_n hx hb dX12_arisesWith_21 rfl (lv_at hl 1 rfl) ?_
    have e_35 : μ25.1 111 47 = n := ((hp_28 47 (by decide)).trans ((hp_4 47 (by decide)).trans hn.symm))
    have e_36 : μ25.1 127 (n - 1) = μ.1 127 (n - 1) := ((F_27.1 127 (by decide) (n - 1)).trans (F_3.1 127 (by decide) (n - 1)))
    refine xc_iV G (b := 111) (rest := []) (As := []) (c_X12_now ω l μ25 n (by omega) (by omega)) (wm 10 163 rfl rfl) (wm 10 165 rfl rfl) (wm 0 204 rfl rfl) rfl rfl (by decide) rfl (wm 1 18 rfl rfl) (wm 10 166 rfl rfl) (by decide) hR ⟨nfr hF (by decide), nlo hLo (by decide)⟩ (n := 0) rfl rfl (Nat.le_of_ble_eq_true rfl) hl.1 dX12_arisesWith_22 (fun r_38 μ37 ρ d0 H locs hr_r_38 hp G => ?_)
    have hr_r_38 : -2147483648 ≤ r_38 ∧ r_38 ≤ 2147483647 := hr_r_38
    obtain ⟨hsm_39, hp_40⟩ := hp
    have hsm_39 := Eq.symm hsm_39
    subst hsm_39
    have hp_40t : r_38 = μ.1 127 (n - 1) := hp_40.trans ((F_27.1 127 (by decide) (n - 1)).trans (F_3.1 127 (by decide) (n - 1)))
    refine xb_ti (y := μ.1 127 (n - 1)) hp_40t ?_
    refine lv_iconst (v := iv 2) hx hb dX12_arisesWith_25 rfl ?_
    refine xb_icmp_ne (tgt := 40) hx hb (by unfold ir; omega) (by unfold ir; omega) dX12_arisesWith_26 (by decide) (fun c_26 => ?_) (fun c_26 => ?_)
    · refine lv_aload_n hx hb dX12_arisesWith_40 rfl (lv_at hl 1 rfl) ?_
      refine lv_iload hx hb dX12_arisesWith_41 (lv_at hl 0 rfl) ?_
      refine lv_iconst (v := iv 0) hx hb dX12_arisesWith_43 rfl ?_
      have e_41 : μ25.1 111 83 = μ1.1 111 83 := (hp_28 83 (by decide))
      have hrx_42 := RX.eq (μ := μ) (ν := μ25) (Eqa.fr (L := [111, 149, 150, 151, 152, 153, 154, 155, 156, 157]) (FrM.tr (FrM.tr FrM.rf F_3 (by decide)) F_27 (by decide)) (by decide)) (Eqf.fd (L := [82, 83, 84, 93, 94]) (fun j hj => ((hp_28 j (fun h9 => hj ((by decide : ∀ x ∈ ([82] : List Int), x ∈ ([82, 83, 84, 93, 94] : List Int)) j h9))).trans (hp_4 j (fun h9 => hj ((by decide : ∀ x ∈ ([83, 84, 93, 94] : List Int), x ∈ ([82, 83, 84, 93, 94] : List Int)) j h9))))) (by decide))
      have e_43 : μ25.1 111 94 = μ1.1 111 94 := (hp_28 94 (by decide))
      have e_44 : μ25.1 111 47 = n := ((hp_28 47 (by decide)).trans ((hp_4 47 (by decide)).trans hn.symm))
      have e_45 : μ25.1 111 94 = μ1.1 111 94 := (hp_28 94 (by decide))
      refine xc_vV G (b := 111) (rest := []) (As := [.int (iv (μ.1 111 82)), .int (iv 0)]) (((fun (_ : Om) (_ : Launch) => hG)) ω l μ25 (μ.1 111 82) 0 n (by unfold ir; omega) (by omega) (by omega) hp_29 (by omega) (by omega) (by omega) (by have h9 : μ25.1 111 82 = (μ.1 111 82) + 1 := hs_31; omega) (by have h9 : μ25.1 149 (μ.1 111 82) = (μ.1 127 (n - 1)) := hs_32; have h8 : μ25.1 127 (n - 1) = μ.1 127 (n - 1) := ((F_27.1 127 (by decide) (n - 1)).trans (F_3.1 127 (by decide) (n - 1))); omega) (fun h9 => absurd h9 (by decide))) (wm 10 187 rfl rfl) (wm 10 189 rfl rfl) (wm 0 210 rfl rfl) rfl rfl (by decide) rfl (wm 1 18 rfl rfl) (wm 10 190 rfl rfl) (by decide) hR ⟨sfr (F := F) (a := 0) (by decide), slo (L := Lo) (m := 3) (a := 0) (by decide)⟩ (n := 2) rfl rfl (Nat.le_of_ble_eq_true rfl) hl.1 dX12_arisesWith_44 (fun μ46 ρ d0 H locs hp G => ?_)
      obtain ⟨F_47, hp_48, hp_49⟩ := hp
      exact xr_v G hret hlk dX12_arisesWith_47 ⟨(FrM.tr (FrM.tr (FrM.tr FrM.rf F_3 (by decide)) F_27 (by decide)) F_47 (by decide)), (fun j hj => ((hp_48 j (fun h9 => hj ((by decide : ∀ x ∈ ([47, 53, 61, 81, 82, 83, 84, 90, 91, 93, 94, 95, 96, 97, 98, 99] : List Int), x ∈ ([47, 53, 61, 81, 82, 83, 84, 90, 91, 93, 94, 95, 96, 97, 98, 99] : List Int)) j h9))).trans ((hp_28 j (fun h9 => hj ((by decide : ∀ x ∈ ([82] : List Int), x ∈ ([47, 53, 61, 81, 82, 83, 84, 90, 91, 93, 94, 95, 96, 97, 98, 99] : List Int)) j h9))).trans (hp_4 j (fun h9 => hj ((by decide : ∀ x ∈ ([83, 84, 93, 94] : List Int), x ∈ ([47, 53, 61, 81, 82, 83, 84, 90, 91, 93, 94, 95, 96, 97, 98, 99] : List Int)) j h9)))))), (hp_49.le (by omega))⟩
    · have hs2_ := A1.n (hA2 (by omega)) hMZ (by omega)
      refine lv_aload_n hx hb dX12_arisesWith_29 rfl (lv_at hl 1 rfl) ?_
      refine lv_iconst (v := iv 4) hx hb dX12_arisesWith_30 rfl ?_
      refine lv_iload hx hb dX12_arisesWith_31 (lv_at hl 0 rfl) ?_
      refine xb_i2l hx hb (by unfold ir; omega) dX12_arisesWith_33 ?_
      have e_50 : μ25.1 111 83 = μ1.1 111 83 := (hp_28 83 (by decide))
      have hrx_51 := RX.eq (μ := μ) (ν := μ25) (Eqa.fr (L := [111, 149, 150, 151, 152, 153, 154, 155, 156, 157]) (FrM.tr (FrM.tr FrM.rf F_3 (by decide)) F_27 (by decide)) (by decide)) (Eqf.fd (L := [82, 83, 84, 93, 94]) (fun j hj => ((hp_28 j (fun h9 => hj ((by decide : ∀ x ∈ ([82] : List Int), x ∈ ([82, 83, 84, 93, 94] : List Int)) j h9))).trans (hp_4 j (fun h9 => hj ((by decide : ∀ x ∈ ([83, 84, 93, 94] : List Int), x ∈ ([82, 83, 84, 93, 94] : List Int)) j h9))))) (by decide))
      have e_52 : μ25.1 111 94 = μ1.1 111 94 := (hp_28 94 (by decide))
      have hA1_53 : A1 μ25 := A1.mv (hA2 (by omega)) (Eqa.fr (L := [111, 149, 150, 151, 152, 153, 154, 155, 156, 157]) (FrM.tr (FrM.tr FrM.rf F_3 (by decide)) F_27 (by decide)) (by decide)) (Eqf.fd (L := [82, 83, 84, 93, 94]) (fun j hj => ((hp_28 j (fun h9 => hj ((by decide : ∀ x ∈ ([82] : List Int), x ∈ ([82, 83, 84, 93, 94] : List Int)) j h9))).trans (hp_4 j (fun h9 => hj ((by decide : ∀ x ∈ ([83, 84, 93, 94] : List Int), x ∈ ([82, 83, 84, 93, 94] : List Int)) j h9))))) (by decide))
      have e_54 : μ25.1 111 47 = n := ((hp_28 47 (by decide)).trans ((hp_4 47 (by decide)).trans hn.symm))
      have e_55 : μ25.1 111 53 = μ.1 111 53 := ((hp_28 53 (by decide)).trans (hp_4 53 (by decide)))
      have e_56 : μ25.1 111 53 = μ.1 111 53 := ((hp_28 53 (by decide)).trans (hp_4 53 (by decide)))
      have e_57 : μ25.1 111 53 = μ.1 111 53 := ((hp_28 53 (by decide)).trans (hp_4 53 (by decide)))
      have e_58 : μ25.1 111 53 = μ.1 111 53 := ((hp_28 53 (by decide)).trans (hp_4 53 (by decide)))
      have e_59 : μ25.1 111 53 = μ.1 111 53 := ((hp_28 53 (by decide)).trans (hp_4 53 (by decide)))
      have e_60 : μ25.1 111 53 = μ.1 111 53 := ((hp_28 53 (by decide)).trans (hp_4 53 (by decide)))
      have e_61 : μ25.1 111 82 = (μ.1 111 82) + 1 := hs_31
      refine xc_vV G (b := 111) (rest := []) (As := [.int (iv 4), .long (jv (μ.1 111 82))]) (c_X12_push ω l μ25 4 (μ.1 111 82) (μ.1 111 53) (by unfold ir; omega) (by unfold jr; omega) (by omega) hp_29 (VV.n4 (by have h9 : μ25.1 111 82 = (μ.1 111 82) + 1 := hs_31; omega)) (by omega)) (wm 10 127 rfl rfl) (wm 10 129 rfl rfl) (wm 0 195 rfl rfl) rfl rfl (by decide) rfl (wm 1 18 rfl rfl) (wm 10 130 rfl rfl) (by decide) hR ⟨nfr hF (by decide), nlo hLo (by decide)⟩ (n := 2) rfl rfl (Nat.le_of_ble_eq_true rfl) hl.1 dX12_arisesWith_34 (fun μ62 ρ d0 H locs hp G => ?_)
      obtain ⟨F_63, hp_64, hp_65, hs_66, hs_67, hs_68, ha_69, ha_70⟩ := hp
      refine lv_goto (tgt := 47) hx hb dX12_arisesWith_37 (by decide) ?_
      have e_71 : μ62.1 111 94 = μ1.1 111 94 := ((hp_64 94 (by decide)).trans (hp_28 94 (by decide)))
      have e_72 : μ62.1 111 53 = (μ.1 111 53) + 1 := hs_66
      have e_73 : μ25.1 111 53 = μ.1 111 53 := ((hp_28 53 (by decide)).trans (hp_4 53 (by decide)))
      exact xr_v G hret hlk dX12_arisesWith_47 ⟨(FrM.tr (FrM.tr (FrM.tr FrM.rf F_3 (by decide)) F_27 (by decide)) F_63 (by decide)), (fun j hj => ((hp_64 j (fun h9 => hj ((by decide : ∀ x ∈ ([53] : List Int), x ∈ ([47, 53, 61, 81, 82, 83, 84, 90, 91, 93, 94, 95, 96, 97, 98, 99] : List Int)) j h9))).trans ((hp_28 j (fun h9 => hj ((by decide : ∀ x ∈ ([82] : List Int), x ∈ ([47, 53, 61, 81, 82, 83, 84, 90, 91, 93, 94, 95, 96, 97, 98, 99] : List Int)) j h9))).trans (hp_4 j (fun h9 => hj ((by decide : ∀ x ∈ ([83, 84, 93, 94] : List Int), x ∈ ([47, 53, 61, 81, 82, 83, 84, 90, 91, 93, 94, 95, 96, 97, 98, 99] : List Int)) j h9)))))), ((A1.res hA1_53 hp_65 (by have h9 : μ25.1 111 47 = n := ((hp_28 47 (by decide)).trans ((hp_4 47 (by decide)).trans hn.symm)); omega) (Eqa.fr (L := [111, 135, 136]) (FrM.tr FrM.rf F_63 (by decide)) (by decide)) (Eqf.fd (L := [53]) (fun j hj => (hp_64 j (fun h9 => hj ((by decide : ∀ x ∈ ([53] : List Int), x ∈ ([53] : List Int)) j h9)))) (by decide)) (by have h9 : μ62.1 111 94 = μ1.1 111 94 := ((hp_64 94 (by decide)).trans (hp_28 94 (by decide))); omega) (by have h9 : μ62.1 111 83 = μ1.1 111 83 := ((hp_64 83 (by decide)).trans (hp_28 83 (by decide))); have h8 : μ25.1 111 83 = μ1.1 111 83 := (hp_28 83 (by decide)); omega) (by omega)).le (by omega))⟩
  · exact xr_v G hret hlk dX12_arisesWith_7 ⟨(FrM.tr FrM.rf F_3 (by decide)), (fun j hj => (hp_4 j (fun h9 => hj ((by decide : ∀ x ∈ ([83, 84, 93, 94] : List Int), x ∈ ([47, 53, 61, 81, 82, 83, 84, 90, 91, 93, 94, 95, 96, 97, 98, 99] : List Int)) j h9)))), (RES.ov hp_5 (by omega))⟩

set_option maxHeartbeats 4000000 in
set_option maxRecDepth 100000 in
theorem c_X12_arises (ω : Om) (l : Launch) (μ : M3) (x1 : Int) (F : Nat) (Lo : Nat) (kf : Int) (n : Int) (hx1 : ir x1) (hn : n = μ.1 111 47) (hMZ : MZ μ) (h1 : 1 ≤ n ∧ n ≤ 24) (hkf : n ≤ kf - 1) (h94 : μ.1 111 94 = 0) (hw : μ.1 127 (n - 1) = 0 → 1 ≤ x1 ∧ x1 < μ.1 111 4) (hA2 : μ.1 127 (n - 1) = 2 → A1 μ) (hF : 60 ≤ F) (hLo : 2000 ≤ Lo) (hG : ∀ (μ : M3) (x1 : Int) (x2 : Int) (n : Int) (hx1 : ir x1) (hx2 : x2 = 0 ∨ x2 = 1) (hn : n = μ.1 111 47) (hMZ : MZ μ) (h1 : 1 ≤ n ∧ n ≤ 24) (hkf : n ≤ kf - 1) (h94 : μ.1 111 94 = 0) (hgr : 0 ≤ x1 ∧ x1 < μ.1 111 82) (hgt : μ.1 149 x1 = μ.1 127 (n - 1)) (hby : x2 = 1 → A1 μ), CtV ω l yX12_goesOut cX12_goesOut 3 (F + 0) (Lo + 0) [.ref (oP ω 111), .int (iv x1), .int (iv x2)] μ (fun (μ' : M3) => (FrM [111, 129, 133, 134, 135, 136, 137, 138, 139, 140, 141, 142, 143, 149, 150, 151, 152, 153, 154, 155, 156, 157, 158, 159] μ μ') ∧ (∀ j, j ∉ ([47, 53, 61, 81, 82, 83, 84, 90, 91, 93, 94, 95, 96, 97, 98, 99] : List Int) → μ'.1 111 j = μ.1 111 j) ∧ (RES μ' (RX μ + 9000)))) : CtV ω l yX12_arises cX12_arises 2 (F + 2) (Lo + 47) [.ref (oP ω 111), .int (iv x1)] μ (fun (μ' : M3) => (FrM [111, 129, 133, 134, 135, 136, 137, 138, 139, 140, 141, 142, 143, 149, 150, 151, 152, 153, 154, 155, 156, 157, 158, 159] μ μ') ∧ (∀ j, j ∉ ([47, 53, 61, 81, 82, 83, 84, 90, 91, 93, 94, 95, 96, 97, 98, 99] : List Int) → μ'.1 111 j = μ.1 111 j) ∧ (RES μ' (RX μ - 190000))) := by
  refine CtV.go (by decide) (Nat.le_of_ble_eq_true rfl) (fun ρ p e s m below meth c R ls G hR hret hlk hl => ?_)
  have hx := G.1.1
  have hb := G.1.2.1
  have hl : lv_has ls 2 [(0, .ref (oP ω 111)), (1, .int (iv x1))] := hl
  generalize s.drawn = d0 at G ⊢
  have hr_x1 : -2147483648 ≤ x1 ∧ x1 ≤ 2147483647 := hx1
  have hzn_ := hMZ.n
  rw [← hn] at hzn_
  obtain ⟨hz47, hzFB, hzFL, hz81, hz82, hz84, hz65, hz4, hz104⟩ := hzn_
  have hfr_ := (hMZ.2.2.1 (n - 1) (by omega) (by omega)).1.1
  have hzB := FB_1 (μ := μ) (n := n) (by omega)
  have hzL := FL_1 (μ := μ) (n := n) (by omega)
  refine lv_aload_n hx hb dX12_arises_0 rfl (lv_at hl 0 rfl) ?_
  refine lv_iload_n hx hb dX12_arises_1 rfl (lv_at hl 1 rfl) ?_
  refine lv_iconst (v := iv 0) hx hb dX12_arises_2 rfl ?_
  refine lv_lconst (v := jv 0) hx hb dX12_arises_3 rfl ?_
  have e_1 : μ.1 111 47 = n := hn.symm
  have e_2 : μ.1 111 47 = n := hn.symm
  refine xc_vV G (b := 111) (rest := []) (As := [.int (iv x1), .int (iv 0), .long (jv 0)]) (c_X12_arisesWith ω l μ x1 0 0 F Lo kf n (by unfold ir; omega) (by unfold ir; omega) (by unfold jr; omega) (by omega) hMZ (by omega) (by omega) (by omega) VV.n0 hw (fun _ => (hA2 (by omega))) (by omega) (by omega) (by omega)) (wm 10 203 rfl rfl) (wm 10 205 rfl rfl) (wm 0 214 rfl rfl) rfl rfl (by decide) rfl (wm 1 18 rfl rfl) (wm 10 206 rfl rfl) (by decide) hR ⟨sfr (F := F) (a := 1) (by decide), slo (L := Lo) (m := 6) (a := 22) (by decide)⟩ (n := 3) rfl rfl (Nat.le_of_ble_eq_true rfl) hl.1 dX12_arises_4 (fun μ3 ρ d0 H locs hp G => ?_)
  obtain ⟨F_4, hp_5, hp_6⟩ := hp
  exact xr_v G hret hlk dX12_arises_7 ⟨(FrM.tr FrM.rf F_4 (by decide)), (fun j hj => (hp_5 j (fun h9 => hj ((by decide : ∀ x ∈ ([47, 53, 61, 81, 82, 83, 84, 90, 91, 93, 94, 95, 96, 97, 98, 99] : List Int), x ∈ ([47, 53, 61, 81, 82, 83, 84, 90, 91, 93, 94, 95, 96, 97, 98, 99] : List Int)) j h9)))), (hp_6.le (by omega))⟩

set_option maxHeartbeats 4000000 in
set_option maxRecDepth 100000 in
theorem c_X12_answers (ω : Om) (l : Launch) (μ : M3) (x1 : Int) (x2 : Int) (F : Nat) (Lo : Nat) (kf : Int) (n : Int) (hx1 : ir x1) (hx2 : jr x2) (hn : n = μ.1 111 47) (hMZ : MZ μ) (h1 : 1 ≤ n ∧ n ≤ 24) (hkf : n ≤ kf) (h94 : μ.1 111 94 = 0) (hv : VV (μ.1 111 65) (μ.1 111 82) x1 x2) (hF : 60 ≤ F) (hLo : 2000 ≤ Lo) (hG : ∀ (μ : M3) (x1 : Int) (x2 : Int) (n : Int) (hx1 : ir x1) (hx2 : x2 = 0 ∨ x2 = 1) (hn : n = μ.1 111 47) (hMZ : MZ μ) (h1 : 1 ≤ n ∧ n ≤ 24) (hkf : n ≤ kf - 1) (h94 : μ.1 111 94 = 0) (hgr : 0 ≤ x1 ∧ x1 < μ.1 111 82) (hgt : μ.1 149 x1 = μ.1 127 (n - 1)) (hby : x2 = 1 → A1 μ), CtV ω l yX12_goesOut cX12_goesOut 3 (F + 0) (Lo + 0) [.ref (oP ω 111), .int (iv x1), .int (iv x2)] μ (fun (μ' : M3) => (FrM [111, 129, 133, 134, 135, 136, 137, 138, 139, 140, 141, 142, 143, 149, 150, 151, 152, 153, 154, 155, 156, 157, 158, 159] μ μ') ∧ (∀ j, j ∉ ([47, 53, 61, 81, 82, 83, 84, 90, 91, 93, 94, 95, 96, 97, 98, 99] : List Int) → μ'.1 111 j = μ.1 111 j) ∧ (RES μ' (RX μ + 9000)))) : CtV ω l yX12_answers cX12_answers 6 (F + 3) (Lo + 68) [.ref (oP ω 111), .int (iv x1), .long (jv x2)] μ (fun (μ' : M3) => (FrM [111, 129, 133, 134, 135, 136, 137, 138, 139, 140, 141, 142, 143, 149, 150, 151, 152, 153, 154, 155, 156, 157, 158, 159] μ μ') ∧ (∀ j, j ∉ ([47, 53, 61, 81, 82, 83, 84, 90, 91, 93, 94, 95, 96, 97, 98, 99] : List Int) → μ'.1 111 j = μ.1 111 j) ∧ (RES μ' (RX μ - 10000))) := by
  refine CtV.go (by decide) (Nat.le_of_ble_eq_true rfl) (fun ρ p e s m below meth c R ls G hR hret hlk hl => ?_)
  have hx := G.1.1
  have hb := G.1.2.1
  have hl : lv_has ls 6 [(0, .ref (oP ω 111)), (1, .int (iv x1)), (2, .long (jv x2))] := hl
  generalize s.drawn = d0 at G ⊢
  have hr_x1 : -2147483648 ≤ x1 ∧ x1 ≤ 2147483647 := hx1
  have hzn_ := hMZ.n
  rw [← hn] at hzn_
  obtain ⟨hz47, hzFB, hzFL, hz81, hz82, hz84, hz65, hz4, hz104⟩ := hzn_
  have hfr_ := (hMZ.2.2.1 (n - 1) (by omega) (by omega)).1.1
  have hzB := FB_1 (μ := μ) (n := n) (by omega)
  have hzL := FL_1 (μ := μ) (n := n) (by omega)
  have hv0_ := hv.1
  have hfr_ := (hMZ.2.2.1 (n - 1) (by omega) (by omega)).1.1
  refine lv_aload_n hx hb dX12_answers_0 rfl (lv_at hl 0 rfl) ?_
  have e_1 : μ.1 111 47 = n := hn.symm
  refine xc_iV G (b := 111) (rest := []) (As := []) (c_X12_now ω l μ n (by omega) (by omega)) (wm 10 163 rfl rfl) (wm 10 165 rfl rfl) (wm 0 204 rfl rfl) rfl rfl (by decide) rfl (wm 1 18 rfl rfl) (wm 10 166 rfl rfl) (by decide) hR ⟨nfr hF (by decide), nlo hLo (by decide)⟩ (n := 0) rfl rfl (Nat.le_of_ble_eq_true rfl) hl.1 dX12_answers_1 (fun r_3 μ2 ρ d0 H locs hr_r_3 hp G => ?_)
  have hr_r_3 : -2147483648 ≤ r_3 ∧ r_3 ≤ 2147483647 := hr_r_3
  obtain ⟨hsm_4, hp_5⟩ := hp
  have hsm_4 := Eq.symm hsm_4
  subst hsm_4
  refine xb_ti (y := μ.1 127 (n - 1)) hp_5 ?_
  have hr_6 : -2147483648 ≤ μ.1 127 (n - 1) ∧ μ.1 127 (n - 1) ≤ 2147483647 := by omega
  refine lv_istore (lv' := [(4, .int (iv (μ.1 127 (n - 1)))), (0, .ref (oP ω 111)), (1, .int (iv x1)), (2, .long (jv x2))]) hx hb dX12_answers_4 hl (by decide) rfl (fun ls hl => ?_)
  refine lv_aload_n hx hb dX12_answers_6 rfl (lv_at hl 1 rfl) ?_
  have e_7 : μ.1 111 47 = n := hn.symm
  refine xc_vV G (b := 111) (rest := []) (As := []) (c_X12_leavesFrame ω l μ n (by omega) hMZ (by omega)) (wm 10 167 rfl rfl) (wm 10 169 rfl rfl) (wm 0 205 rfl rfl) rfl rfl (by decide) rfl (wm 1 18 rfl rfl) (wm 10 170 rfl rfl) (by decide) hR ⟨nfr hF (by decide), nlo hLo (by decide)⟩ (n := 0) rfl rfl (Nat.le_of_ble_eq_true rfl) hl.1 dX12_answers_7 (fun μ8 ρ d0 H locs hp G => ?_)
  obtain ⟨F_9, hp_10, hp_11, hp_12, hp_13, hs_14⟩ := hp
  refine lv_aload_n hx hb dX12_answers_10 rfl (lv_at hl 1 rfl) ?_
  refine xa_geti G fd_X12 (a := 111) (x := n - 1) 47 rfl (by decide) rfl (wm 7 196 rfl rfl) ⟨rfl, rfl, rfl⟩ dX12_answers_11 rfl hs_14 ?_
  have hr_15 : -2147483648 ≤ n - 1 ∧ n - 1 ≤ 2147483647 := by have h9 := G.hr (a := 111) (k := 47) rfl; rw [show μ8.1 111 47 = n - 1 from hs_14] at h9; exact h9
  refine xb_if_ne (tgt := 34) hx hb (by unfold ir; omega) dX12_answers_14 (by decide) (fun c_14 => ?_) (fun c_14 => ?_)
  · have hfr2_ := (hMZ.2.2.1 (n - 1 - 1) (by omega) (by omega)).1.1
    have hs2_ := A1.n (hp_12 (by omega)) hp_11 (by omega)
    refine lv_aload_n hx hb dX12_answers_34 rfl (lv_at hl 1 rfl) ?_
    have e_16 : μ8.1 111 47 = n - 1 := hs_14
    refine xc_iV G (b := 111) (rest := []) (As := []) (c_X12_now ω l μ8 (n - 1) (by omega) (by omega)) (wm 10 163 rfl rfl) (wm 10 165 rfl rfl) (wm 0 204 rfl rfl) rfl rfl (by decide) rfl (wm 1 18 rfl rfl) (wm 10 166 rfl rfl) (by decide) hR ⟨nfr hF (by decide), nlo hLo (by decide)⟩ (n := 0) rfl rfl (Nat.le_of_ble_eq_true rfl) hl.1 dX12_answers_35 (fun r_18 μ17 ρ d0 H locs hr_r_18 hp G => ?_)
    have hr_r_18 : -2147483648 ≤ r_18 ∧ r_18 ≤ 2147483647 := hr_r_18
    obtain ⟨hsm_19, hp_20⟩ := hp
    have hsm_19 := Eq.symm hsm_19
    subst hsm_19
    have hp_20t : r_18 = μ.1 127 (n - 1 - 1) := hp_20.trans (F_9.1 127 (by decide) (n - 1 - 1))
    refine xb_ti (y := μ.1 127 (n - 1 - 1)) hp_20t ?_
    have hr_21 : -2147483648 ≤ μ.1 127 (n - 1 - 1) ∧ μ.1 127 (n - 1 - 1) ≤ 2147483647 := by omega
    refine lv_istore (lv' := [(5, .int (iv (μ.1 127 (n - 1 - 1)))), (4, .int (iv (μ.1 127 (n - 1)))), (0, .ref (oP ω 111)), (1, .int (iv x1)), (2, .long (jv x2))]) hx hb dX12_answers_38 hl (by decide) rfl (fun ls hl => ?_)
    refine lv_iload hx hb dX12_answers_40 (lv_at hl 1 rfl) ?_
    refine lv_iload hx hb dX12_answers_42 (lv_at hl 0 rfl) ?_
    refine xb_icmp_ne (tgt := 56) hx hb (by unfold ir; omega) (by unfold ir; omega) dX12_answers_44 (by decide) (fun c_44 => ?_) (fun c_44 => ?_)
    · refine lv_iload_n hx hb dX12_answers_56 rfl (lv_at hl 3 rfl) ?_
      refine lv_iconst (v := iv 4) hx hb dX12_answers_57 rfl ?_
      refine xb_icmp_ne (tgt := 70) hx hb (by unfold ir; omega) (by unfold ir; omega) dX12_answers_58 (by decide) (fun c_58 => ?_) (fun c_58 => ?_)
      · refine lv_aload_n hx hb dX12_answers_70 rfl (lv_at hl 2 rfl) ?_
        refine lv_iload hx hb dX12_answers_71 (lv_at hl 1 rfl) ?_
        refine lv_iload hx hb dX12_answers_73 (lv_at hl 0 rfl) ?_
        refine lv_iload_n hx hb dX12_answers_75 rfl (lv_at hl 3 rfl) ?_
        refine lv_lload_n hx hb dX12_answers_76 rfl (lv_at hl 4 rfl) ?_
        have e_22 : μ8.1 127 (n - 1) = μ.1 127 (n - 1) := (F_9.1 127 (by decide) (n - 1))
        have e_23 : μ8.1 127 (n - 1) = μ.1 127 (n - 1) := (F_9.1 127 (by decide) (n - 1))
        have e_24 : μ8.1 127 (n - 1 - 1) = μ.1 127 (n - 1 - 1) := (F_9.1 127 (by decide) (n - 1 - 1))
        have e_25 : μ8.1 127 (n - 1 - 1) = μ.1 127 (n - 1 - 1) := (F_9.1 127 (by decide) (n - 1 - 1))
        refine xc_vV G (b := 111) (rest := []) (As := [.int (iv (μ.1 127 (n - 1))), .int (iv (μ.1 127 (n - 1 - 1))), .int (iv x1), .long (jv x2)]) (c_X12_turnsValue ω l μ8 (μ.1 127 (n - 1)) (μ.1 127 (n - 1 - 1)) x1 x2 (by unfold ir; omega) (by unfold ir; omega) (by unfold ir; omega) hx2 (by omega) (by omega)) (wm 10 179 rfl rfl) (wm 10 181 rfl rfl) (wm 0 208 rfl rfl) rfl rfl (by decide) rfl (wm 1 18 rfl rfl) (wm 10 182 rfl rfl) (by decide) hR ⟨nfr hF (by decide), nlo hLo (by decide)⟩ (n := 4) rfl rfl (Nat.le_of_ble_eq_true rfl) hl.1 dX12_answers_77 (fun μ26 ρ d0 H locs hp G => ?_)
        obtain ⟨F_27, hp_28, hp_29⟩ := hp
        refine lv_aload_n hx hb dX12_answers_80 rfl (lv_at hl 2 rfl) ?_
        refine xa_geti G fd_X12 (a := 111) (x := μ26.1 111 98) 98 rfl (by decide) rfl (wm 8 7 rfl rfl) ⟨rfl, rfl, rfl⟩ dX12_answers_81 rfl rfl ?_
        have hr_30 : -2147483648 ≤ μ26.1 111 98 ∧ μ26.1 111 98 ≤ 2147483647 := by have h9 := G.hr (a := 111) (k := 98) rfl; exact h9
        refine xb_if_eq (tgt := 99) hx hb (by unfold ir; omega) dX12_answers_84 (by decide) (fun c_84 => ?_) (fun c_84 => ?_)
        · refine lv_aload_n hx hb dX12_answers_99 rfl (lv_at hl 2 rfl) ?_
          refine lv_bipush (v := iv 9) hx hb dX12_answers_100 rfl ?_
          have e_31 : μ26.1 111 4 = μ.1 111 4 := ((hp_28 4 (by decide)).trans (hp_10 4 (by decide)))
          have e_32 : μ26.1 111 83 = μ.1 111 83 := ((hp_28 83 (by decide)).trans (hp_10 83 (by decide)))
          have e_33 : μ8.1 111 83 = μ.1 111 83 := (hp_10 83 (by decide))
          have hrx_34 := RX.eq (μ := μ8) (ν := μ26) (Eqa.fr (L := [111]) (FrM.tr FrM.rf F_27 (by decide)) (by decide)) (Eqf.fd (L := [98, 99]) (fun j hj => (hp_28 j (fun h9 => hj ((by decide : ∀ x ∈ ([98, 99] : List Int), x ∈ ([98, 99] : List Int)) j h9)))) (by decide))
          have e_35 : μ26.1 111 94 = μ.1 111 94 := ((hp_28 94 (by decide)).trans (hp_10 94 (by decide)))
          have e_36 : μ26.1 111 47 = n - 1 := ((hp_28 47 (by decide)).trans hs_14)
          have hMZ_37 : MZ μ26 := MZ.cg hp_11 F_27 (by decide) (Eqf.fd hp_28 (by decide))
          have e_38 : μ26.1 111 94 = μ.1 111 94 := ((hp_28 94 (by decide)).trans (hp_10 94 (by decide)))
          have hA1_39 : A1 μ26 := A1.mv (hp_12 (by omega)) (Eqa.fr (L := [111]) (FrM.tr FrM.rf F_27 (by decide)) (by decide)) (Eqf.fd (L := [98, 99]) (fun j hj => (hp_28 j (fun h9 => hj ((by decide : ∀ x ∈ ([98, 99] : List Int), x ∈ ([98, 99] : List Int)) j h9)))) (by decide))
          have e_40 : μ26.1 111 47 = n - 1 := ((hp_28 47 (by decide)).trans hs_14)
          have e_41 : μ26.1 111 94 = μ.1 111 94 := ((hp_28 94 (by decide)).trans (hp_10 94 (by decide)))
          have e_42 : μ26.1 111 82 = μ.1 111 82 := ((hp_28 82 (by decide)).trans (hp_10 82 (by decide)))
          have e_43 : μ26.1 149 9 = μ.1 149 9 := ((F_27.1 149 (by decide) 9).trans (F_9.1 149 (by decide) 9))
          refine xc_vV G (b := 111) (rest := []) (As := [.int (iv 9)]) (c_X12_arises ω l μ26 9 F Lo kf (n - 1) (by unfold ir; omega) (by omega) hMZ_37 (by omega) (by omega) (by omega) (fun _ => by omega) (fun _ => hA1_39) (by omega) (by omega) (by omega)) (wm 10 199 rfl rfl) (wm 10 201 rfl rfl) (wm 0 213 rfl rfl) rfl rfl (by decide) rfl (wm 1 18 rfl rfl) (wm 10 202 rfl rfl) (by decide) hR ⟨sfr (F := F) (a := 2) (by decide), slo (L := Lo) (m := 2) (a := 47) (by decide)⟩ (n := 1) rfl rfl (Nat.le_of_ble_eq_true rfl) hl.1 dX12_answers_102 (fun μ44 ρ d0 H locs hp G => ?_)
          obtain ⟨F_45, hp_46, hp_47⟩ := hp
          exact xr_v G hret hlk dX12_answers_105 ⟨(FrM.tr (FrM.tr (FrM.tr FrM.rf F_9 (by decide)) F_27 (by decide)) F_45 (by decide)), (fun j hj => ((hp_46 j (fun h9 => hj ((by decide : ∀ x ∈ ([47, 53, 61, 81, 82, 83, 84, 90, 91, 93, 94, 95, 96, 97, 98, 99] : List Int), x ∈ ([47, 53, 61, 81, 82, 83, 84, 90, 91, 93, 94, 95, 96, 97, 98, 99] : List Int)) j h9))).trans ((hp_28 j (fun h9 => hj ((by decide : ∀ x ∈ ([98, 99] : List Int), x ∈ ([47, 53, 61, 81, 82, 83, 84, 90, 91, 93, 94, 95, 96, 97, 98, 99] : List Int)) j h9))).trans (hp_10 j (fun h9 => hj ((by decide : ∀ x ∈ ([47, 53, 61] : List Int), x ∈ ([47, 53, 61, 81, 82, 83, 84, 90, 91, 93, 94, 95, 96, 97, 98, 99] : List Int)) j h9)))))), (hp_47.le (by omega))⟩
        · refine lv_aload_n hx hb dX12_answers_87 rfl (lv_at hl 2 rfl) ?_
          refine lv_iload_n hx hb dX12_answers_88 rfl (lv_at hl 3 rfl) ?_
          refine lv_aload_n hx hb dX12_answers_89 rfl (lv_at hl 2 rfl) ?_
          refine xa_getl G fd_X12 (a := 111) (x := μ26.1 111 99) 99 rfl (by decide) rfl (wm 8 8 rfl rfl) ⟨rfl, rfl, rfl⟩ dX12_answers_90 rfl rfl ?_
          have hj_48 : jr (μ26.1 111 99) := by have h9 := G.hj (a := 111) (k := 99) rfl; exact h9
          have e_49 : μ26.1 111 83 = μ.1 111 83 := ((hp_28 83 (by decide)).trans (hp_10 83 (by decide)))
          have e_50 : μ8.1 111 83 = μ.1 111 83 := (hp_10 83 (by decide))
          have hrx_51 := RX.eq (μ := μ8) (ν := μ26) (Eqa.fr (L := [111]) (FrM.tr FrM.rf F_27 (by decide)) (by decide)) (Eqf.fd (L := [98, 99]) (fun j hj => (hp_28 j (fun h9 => hj ((by decide : ∀ x ∈ ([98, 99] : List Int), x ∈ ([98, 99] : List Int)) j h9)))) (by decide))
          have e_52 : μ26.1 111 94 = μ.1 111 94 := ((hp_28 94 (by decide)).trans (hp_10 94 (by decide)))
          have hA1_53 : A1 μ26 := A1.mv (hp_12 (by omega)) (Eqa.fr (L := [111]) (FrM.tr FrM.rf F_27 (by decide)) (by decide)) (Eqf.fd (L := [98, 99]) (fun j hj => (hp_28 j (fun h9 => hj ((by decide : ∀ x ∈ ([98, 99] : List Int), x ∈ ([98, 99] : List Int)) j h9)))) (by decide))
          have e_54 : μ26.1 111 47 = n - 1 := ((hp_28 47 (by decide)).trans hs_14)
          have e_55 : μ26.1 111 53 = μ8.1 111 53 := (hp_28 53 (by decide))
          have hMZ_56 : MZ μ26 := MZ.cg hp_11 F_27 (by decide) (Eqf.fd hp_28 (by decide))
          refine xc_vV G (b := 111) (rest := []) (As := [.int (iv x1), .long (jv (μ26.1 111 99))]) (c_X12_push ω l μ26 x1 (μ26.1 111 99) (μ8.1 111 53) (by unfold ir; omega) hj_48 (by omega) hMZ_56 (by rw [(show μ26.1 111 65 = μ.1 111 65 from ((hp_28 65 (by decide)).trans (hp_10 65 (by decide)))), (show μ26.1 111 82 = μ.1 111 82 from ((hp_28 82 (by decide)).trans (hp_10 82 (by decide))))]; rcases Classical.em (x1 = 1) with h9 | h9; (rw [h9]; exact VV.n1); (rw [show μ26.1 111 99 = x2 from (hp_29 h9).2]; exact hv)) (by omega)) (wm 10 127 rfl rfl) (wm 10 129 rfl rfl) (wm 0 195 rfl rfl) rfl rfl (by decide) rfl (wm 1 18 rfl rfl) (wm 10 130 rfl rfl) (by decide) hR ⟨nfr hF (by decide), nlo hLo (by decide)⟩ (n := 2) rfl rfl (Nat.le_of_ble_eq_true rfl) hl.1 dX12_answers_93 (fun μ57 ρ d0 H locs hp G => ?_)
          obtain ⟨F_58, hp_59, hp_60, hs_61, hs_62, hs_63, ha_64, ha_65⟩ := hp
          refine lv_goto (tgt := 105) hx hb dX12_answers_96 (by decide) ?_
          have e_66 : μ57.1 111 94 = μ.1 111 94 := ((hp_59 94 (by decide)).trans ((hp_28 94 (by decide)).trans (hp_10 94 (by decide))))
          have e_67 : μ57.1 111 53 = (μ8.1 111 53) + 1 := hs_61
          have e_68 : μ26.1 111 53 = μ8.1 111 53 := (hp_28 53 (by decide))
          exact xr_v G hret hlk dX12_answers_105 ⟨(FrM.tr (FrM.tr (FrM.tr FrM.rf F_9 (by decide)) F_27 (by decide)) F_58 (by decide)), (fun j hj => ((hp_59 j (fun h9 => hj ((by decide : ∀ x ∈ ([53] : List Int), x ∈ ([47, 53, 61, 81, 82, 83, 84, 90, 91, 93, 94, 95, 96, 97, 98, 99] : List Int)) j h9))).trans ((hp_28 j (fun h9 => hj ((by decide : ∀ x ∈ ([98, 99] : List Int), x ∈ ([47, 53, 61, 81, 82, 83, 84, 90, 91, 93, 94, 95, 96, 97, 98, 99] : List Int)) j h9))).trans (hp_10 j (fun h9 => hj ((by decide : ∀ x ∈ ([47, 53, 61] : List Int), x ∈ ([47, 53, 61, 81, 82, 83, 84, 90, 91, 93, 94, 95, 96, 97, 98, 99] : List Int)) j h9)))))), ((A1.res hA1_53 hp_60 (by have h9 : μ26.1 111 47 = n - 1 := ((hp_28 47 (by decide)).trans hs_14); omega) (Eqa.fr (L := [111, 135, 136]) (FrM.tr FrM.rf F_58 (by decide)) (by decide)) (Eqf.fd (L := [53]) (fun j hj => (hp_59 j (fun h9 => hj ((by decide : ∀ x ∈ ([53] : List Int), x ∈ ([53] : List Int)) j h9)))) (by decide)) (by have h9 : μ57.1 111 94 = μ.1 111 94 := ((hp_59 94 (by decide)).trans ((hp_28 94 (by decide)).trans (hp_10 94 (by decide)))); omega) (by have h9 : μ57.1 111 83 = μ.1 111 83 := ((hp_59 83 (by decide)).trans ((hp_28 83 (by decide)).trans (hp_10 83 (by decide)))); have h8 : μ26.1 111 83 = μ.1 111 83 := ((hp_28 83 (by decide)).trans (hp_10 83 (by decide))); omega) (by omega)).le (by omega))⟩
      · refine lv_aload_n hx hb dX12_answers_61 rfl (lv_at hl 2 rfl) ?_
        refine lv_lload_n hx hb dX12_answers_62 rfl (lv_at hl 4 rfl) ?_
        refine xb_l2i hx hb dX12_answers_63 ?_
        refine xb_topi (fun y_69 hr_y_69 he_y_69 => ?_)
        have hr_y_69 : -2147483648 ≤ y_69 ∧ y_69 ≤ 2147483647 := hr_y_69
        have hli_y_69 : ir x2 → y_69 = x2 := fun h9 => (iv_eq hr_y_69 h9).mp he_y_69
        unfold ir at hli_y_69
        have hv4_ := hv.2.2.2 (by omega)
        have hv5_ : 0 ≤ μ.1 111 82 ∧ μ.1 111 82 ≤ 5000 := by omega
        have e_70 : μ8.1 111 94 = μ.1 111 94 := (hp_10 94 (by decide))
        have e_71 : μ8.1 111 47 = n - 1 := hs_14
        have e_72 : μ8.1 111 94 = μ.1 111 94 := (hp_10 94 (by decide))
        have e_73 : μ8.1 111 82 = μ.1 111 82 := (hp_10 82 (by decide))
        have e_74 : μ8.1 111 47 = n - 1 := hs_14
        have e_75 : μ8.1 111 94 = μ.1 111 94 := (hp_10 94 (by decide))
        have e_76 : μ8.1 111 82 = μ.1 111 82 := (hp_10 82 (by decide))
        have e_77 : μ8.1 149 y_69 = μ.1 149 y_69 := (F_9.1 149 (by decide) y_69)
        refine xc_vV G (b := 111) (rest := []) (As := [.int (iv y_69)]) (c_X12_turnsFailure ω l μ8 y_69 F Lo kf (n - 1) (by unfold ir; omega) (by omega) hp_11 (by omega) (by omega) (by omega) (by omega) (hp_12 (by omega)) (by omega) (by omega) (by omega)) (wm 10 175 rfl rfl) (wm 10 177 rfl rfl) (wm 0 207 rfl rfl) rfl rfl (by decide) rfl (wm 1 18 rfl rfl) (wm 10 178 rfl rfl) (by decide) hR ⟨sfr (F := F) (a := 1) (by decide), slo (L := Lo) (m := 7) (a := 22) (by decide)⟩ (n := 1) rfl rfl (Nat.le_of_ble_eq_true rfl) hl.1 dX12_answers_64 (fun μ78 ρ d0 H locs hp G => ?_)
        obtain ⟨F_79, hp_80, hp_81⟩ := hp
        refine lv_goto (tgt := 105) hx hb dX12_answers_67 (by decide) ?_
        exact xr_v G hret hlk dX12_answers_105 ⟨(FrM.tr (FrM.tr FrM.rf F_9 (by decide)) F_79 (by decide)), (fun j hj => ((hp_80 j (fun h9 => hj ((by decide : ∀ x ∈ ([47, 53, 61, 81, 82, 83, 84, 90, 91, 93, 94, 95, 96, 97, 98, 99] : List Int), x ∈ ([47, 53, 61, 81, 82, 83, 84, 90, 91, 93, 94, 95, 96, 97, 98, 99] : List Int)) j h9))).trans (hp_10 j (fun h9 => hj ((by decide : ∀ x ∈ ([47, 53, 61] : List Int), x ∈ ([47, 53, 61, 81, 82, 83, 84, 90, 91, 93, 94, 95, 96, 97, 98, 99] : List Int)) j h9))))), (hp_81.le (by omega))⟩
    · refine lv_aload_n hx hb dX12_answers_47 rfl (lv_at hl 2 rfl) ?_
      refine lv_iload_n hx hb dX12_answers_48 rfl (lv_at hl 3 rfl) ?_
      refine lv_lload_n hx hb dX12_answers_49 rfl (lv_at hl 4 rfl) ?_
      have e_82 : μ8.1 111 94 = μ.1 111 94 := (hp_10 94 (by decide))
      have e_83 : μ8.1 111 47 = n - 1 := hs_14
      refine xc_vV G (b := 111) (rest := []) (As := [.int (iv x1), .long (jv x2)]) (c_X12_push ω l μ8 x1 x2 (μ8.1 111 53) (by unfold ir; omega) hx2 (by omega) hp_11 (by rw [(show μ8.1 111 65 = μ.1 111 65 from (hp_10 65 (by decide))), (show μ8.1 111 82 = μ.1 111 82 from (hp_10 82 (by decide)))]; exact hv) (by omega)) (wm 10 127 rfl rfl) (wm 10 129 rfl rfl) (wm 0 195 rfl rfl) rfl rfl (by decide) rfl (wm 1 18 rfl rfl) (wm 10 130 rfl rfl) (by decide) hR ⟨nfr hF (by decide), nlo hLo (by decide)⟩ (n := 2) rfl rfl (Nat.le_of_ble_eq_true rfl) hl.1 dX12_answers_50 (fun μ84 ρ d0 H locs hp G => ?_)
      obtain ⟨F_85, hp_86, hp_87, hs_88, hs_89, hs_90, ha_91, ha_92⟩ := hp
      refine lv_goto (tgt := 105) hx hb dX12_answers_53 (by decide) ?_
      have e_93 : μ84.1 111 94 = μ.1 111 94 := ((hp_86 94 (by decide)).trans (hp_10 94 (by decide)))
      have e_94 : μ84.1 111 53 = (μ8.1 111 53) + 1 := hs_88
      exact xr_v G hret hlk dX12_answers_105 ⟨(FrM.tr (FrM.tr FrM.rf F_9 (by decide)) F_85 (by decide)), (fun j hj => ((hp_86 j (fun h9 => hj ((by decide : ∀ x ∈ ([53] : List Int), x ∈ ([47, 53, 61, 81, 82, 83, 84, 90, 91, 93, 94, 95, 96, 97, 98, 99] : List Int)) j h9))).trans (hp_10 j (fun h9 => hj ((by decide : ∀ x ∈ ([47, 53, 61] : List Int), x ∈ ([47, 53, 61, 81, 82, 83, 84, 90, 91, 93, 94, 95, 96, 97, 98, 99] : List Int)) j h9))))), ((A1.res (hp_12 (by omega)) hp_87 (by have h9 : μ8.1 111 47 = n - 1 := hs_14; omega) (Eqa.fr (L := [111, 135, 136]) (FrM.tr FrM.rf F_85 (by decide)) (by decide)) (Eqf.fd (L := [53]) (fun j hj => (hp_86 j (fun h9 => hj ((by decide : ∀ x ∈ ([53] : List Int), x ∈ ([53] : List Int)) j h9)))) (by decide)) (by have h9 : μ84.1 111 94 = μ.1 111 94 := ((hp_86 94 (by decide)).trans (hp_10 94 (by decide))); omega) (by have h9 : μ84.1 111 83 = μ.1 111 83 := ((hp_86 83 (by decide)).trans (hp_10 83 (by decide))); have h8 : μ8.1 111 83 = μ.1 111 83 := (hp_10 83 (by decide)); omega) (by omega)).le (by omega))⟩
  · refine lv_aload_n hx hb dX12_answers_17 rfl (lv_at hl 1 rfl) ?_
    refine xj (pc2 := 28) (st2 := fun v_95 => [.int (iv v_95), .ref (oP ω 111)]) (C := fun v_95 => (-2147483648 ≤ v_95 ∧ v_95 ≤ 2147483647) ∧ ((v_95 = 0 ∧ x1 ≠ 4) ∨ (v_95 = 1 ∧ x1 = 4))) (fun v_95 hv_96 => ?_) (fun kont_28 => ?_)
    · skip
      obtain ⟨hr_v_95, hv_96⟩ := hv_96
      refine lv_iload_n hx hb dX12_answers_28 rfl (lv_at hl 2 rfl) ?_
      refine lv_lload_n hx hb dX12_answers_29 rfl (lv_at hl 3 rfl) ?_
      refine xc_vV G (b := 111) (rest := []) (As := [.int (iv v_95), .int (iv x1), .long (jv x2)]) (c_X12_ends ω l μ8 v_95 x1 x2 (by unfold ir; omega) (by unfold ir; omega) hx2 hp_11 (fun _ => (by rw [(show μ8.1 111 65 = μ.1 111 65 from (hp_10 65 (by decide))), (show μ8.1 111 82 = μ.1 111 82 from (hp_10 82 (by decide)))]; exact hv)) (fun h9 => by have h8 := hv.2.2.2 (by omega); rw [(show μ8.1 111 82 = μ.1 111 82 from (hp_10 82 (by decide)))]; exact h8)) (wm 10 171 rfl rfl) (wm 10 173 rfl rfl) (wm 0 206 rfl rfl) rfl rfl (by decide) rfl (wm 1 18 rfl rfl) (wm 10 174 rfl rfl) (by decide) hR ⟨nfr hF (by decide), nlo hLo (by decide)⟩ (n := 3) rfl rfl (Nat.le_of_ble_eq_true rfl) hl.1 dX12_answers_30 (fun μ97 ρ d0 H locs hp G => ?_)
      obtain ⟨F_98, hp_99, hp_100, hs_101⟩ := hp
      have e_102 : μ97.1 111 94 = 1 := hs_101
      exact xr_v G hret hlk dX12_answers_33 ⟨(FrM.tr (FrM.tr FrM.rf F_9 (by decide)) F_98 (by decide)), (fun j hj => ((hp_99 j (fun h9 => hj ((by decide : ∀ x ∈ ([93, 94, 95, 96, 97] : List Int), x ∈ ([47, 53, 61, 81, 82, 83, 84, 90, 91, 93, 94, 95, 96, 97, 98, 99] : List Int)) j h9))).trans (hp_10 j (fun h9 => hj ((by decide : ∀ x ∈ ([47, 53, 61] : List Int), x ∈ ([47, 53, 61, 81, 82, 83, 84, 90, 91, 93, 94, 95, 96, 97, 98, 99] : List Int)) j h9))))), (RES.ov hp_100 (by omega))⟩
    · skip
      refine lv_iload_n hx hb dX12_answers_18 rfl (lv_at hl 2 rfl) ?_
      refine lv_iconst (v := iv 4) hx hb dX12_answers_19 rfl ?_
      refine xb_icmp_ne (tgt := 27) hx hb (by unfold ir; omega) (by unfold ir; omega) dX12_answers_20 (by decide) (fun c_20 => ?_) (fun c_20 => ?_)
      · refine lv_iconst (v := iv 0) hx hb dX12_answers_27 rfl ?_
        exact kont_28 0 ⟨by omega, (Or.inl ⟨rfl, by omega⟩)⟩
      · refine lv_iconst (v := iv 1) hx hb dX12_answers_23 rfl ?_
        refine lv_goto (tgt := 28) hx hb dX12_answers_24 (by decide) ?_
        exact kont_28 1 ⟨by omega, (Or.inr ⟨rfl, by omega⟩)⟩

set_option maxHeartbeats 4000000 in
set_option maxRecDepth 100000 in
theorem c_X12_failsOut (ω : Om) (l : Launch) (μ : M3) (x1 : Int) (F : Nat) (Lo : Nat) (kf : Int) (n : Int) (hx1 : ir x1) (hn : n = μ.1 111 47) (hMZ : MZ μ) (h1 : 1 ≤ n ∧ n ≤ 24) (hkf : n ≤ kf) (h94 : μ.1 111 94 = 0) (hgr : 0 ≤ x1 ∧ x1 < μ.1 111 82) (hgt : μ.1 149 x1 = μ.1 127 (n - 1)) (hF : 60 ≤ F) (hLo : 2000 ≤ Lo) (hG : ∀ (μ : M3) (x1 : Int) (x2 : Int) (n : Int) (hx1 : ir x1) (hx2 : x2 = 0 ∨ x2 = 1) (hn : n = μ.1 111 47) (hMZ : MZ μ) (h1 : 1 ≤ n ∧ n ≤ 24) (hkf : n ≤ kf - 1) (h94 : μ.1 111 94 = 0) (hgr : 0 ≤ x1 ∧ x1 < μ.1 111 82) (hgt : μ.1 149 x1 = μ.1 127 (n - 1)) (hby : x2 = 1 → A1 μ), CtV ω l yX12_goesOut cX12_goesOut 3 (F + 0) (Lo + 0) [.ref (oP ω 111), .int (iv x1), .int (iv x2)] μ (fun (μ' : M3) => (FrM [111, 129, 133, 134, 135, 136, 137, 138, 139, 140, 141, 142, 143, 149, 150, 151, 152, 153, 154, 155, 156, 157, 158, 159] μ μ') ∧ (∀ j, j ∉ ([47, 53, 61, 81, 82, 83, 84, 90, 91, 93, 94, 95, 96, 97, 98, 99] : List Int) → μ'.1 111 j = μ.1 111 j) ∧ (RES μ' (RX μ + 9000)))) : CtV ω l yX12_failsOut cX12_failsOut 3 (F + 2) (Lo + 48) [.ref (oP ω 111), .int (iv x1)] μ (fun (μ' : M3) => (FrM [111, 129, 133, 134, 135, 136, 137, 138, 139, 140, 141, 142, 143, 149, 150, 151, 152, 153, 154, 155, 156, 157, 158, 159] μ μ') ∧ (∀ j, j ∉ ([47, 53, 61, 81, 82, 83, 84, 90, 91, 93, 94, 95, 96, 97, 98, 99] : List Int) → μ'.1 111 j = μ.1 111 j) ∧ (RES μ' (RX μ - 10000))) := by
  refine CtV.go (by decide) (Nat.le_of_ble_eq_true rfl) (fun ρ p e s m below meth c R ls G hR hret hlk hl => ?_)
  have hx := G.1.1
  have hb := G.1.2.1
  have hl : lv_has ls 3 [(0, .ref (oP ω 111)), (1, .int (iv x1))] := hl
  generalize s.drawn = d0 at G ⊢
  have hr_x1 : -2147483648 ≤ x1 ∧ x1 ≤ 2147483647 := hx1
  have hzn_ := hMZ.n
  rw [← hn] at hzn_
  obtain ⟨hz47, hzFB, hzFL, hz81, hz82, hz84, hz65, hz4, hz104⟩ := hzn_
  have hfr_ := (hMZ.2.2.1 (n - 1) (by omega) (by omega)).1.1
  have hzB := FB_1 (μ := μ) (n := n) (by omega)
  have hzL := FL_1 (μ := μ) (n := n) (by omega)
  refine lv_aload_n hx hb dX12_failsOut_0 rfl (lv_at hl 0 rfl) ?_
  have e_1 : μ.1 111 47 = n := hn.symm
  refine xc_iV G (b := 111) (rest := []) (As := []) (c_X12_now ω l μ n (by omega) (by omega)) (wm 10 163 rfl rfl) (wm 10 165 rfl rfl) (wm 0 204 rfl rfl) rfl rfl (by decide) rfl (wm 1 18 rfl rfl) (wm 10 166 rfl rfl) (by decide) hR ⟨nfr hF (by decide), nlo hLo (by decide)⟩ (n := 0) rfl rfl (Nat.le_of_ble_eq_true rfl) hl.1 dX12_failsOut_1 (fun r_3 μ2 ρ d0 H locs hr_r_3 hp G => ?_)
  have hr_r_3 : -2147483648 ≤ r_3 ∧ r_3 ≤ 2147483647 := hr_r_3
  obtain ⟨hsm_4, hp_5⟩ := hp
  have hsm_4 := Eq.symm hsm_4
  subst hsm_4
  refine xb_ti (y := μ.1 127 (n - 1)) hp_5 ?_
  have hr_6 : -2147483648 ≤ μ.1 127 (n - 1) ∧ μ.1 127 (n - 1) ≤ 2147483647 := by omega
  refine lv_istore_n (lv' := [(2, .int (iv (μ.1 127 (n - 1)))), (0, .ref (oP ω 111)), (1, .int (iv x1))]) hx hb dX12_failsOut_4 rfl hl (by decide) rfl (fun ls hl => ?_)
  refine lv_aload_n hx hb dX12_failsOut_5 rfl (lv_at hl 1 rfl) ?_
  have e_7 : μ.1 111 47 = n := hn.symm
  refine xc_vV G (b := 111) (rest := []) (As := []) (c_X12_leavesFrame ω l μ n (by omega) hMZ (by omega)) (wm 10 167 rfl rfl) (wm 10 169 rfl rfl) (wm 0 205 rfl rfl) rfl rfl (by decide) rfl (wm 1 18 rfl rfl) (wm 10 170 rfl rfl) (by decide) hR ⟨nfr hF (by decide), nlo hLo (by decide)⟩ (n := 0) rfl rfl (Nat.le_of_ble_eq_true rfl) hl.1 dX12_failsOut_6 (fun μ8 ρ d0 H locs hp G => ?_)
  obtain ⟨F_9, hp_10, hp_11, hp_12, hp_13, hs_14⟩ := hp
  refine lv_aload_n hx hb dX12_failsOut_9 rfl (lv_at hl 1 rfl) ?_
  refine xa_geti G fd_X12 (a := 111) (x := n - 1) 47 rfl (by decide) rfl (wm 7 196 rfl rfl) ⟨rfl, rfl, rfl⟩ dX12_failsOut_10 rfl hs_14 ?_
  have hr_15 : -2147483648 ≤ n - 1 ∧ n - 1 ≤ 2147483647 := by have h9 := G.hr (a := 111) (k := 47) rfl; rw [show μ8.1 111 47 = n - 1 from hs_14] at h9; exact h9
  refine xb_if_ne (tgt := 27) hx hb (by unfold ir; omega) dX12_failsOut_13 (by decide) (fun c_13 => ?_) (fun c_13 => ?_)
  · have hs2_ := A1.n (hp_12 (by omega)) hp_11 (by omega)
    refine lv_iload_n hx hb dX12_failsOut_27 rfl (lv_at hl 0 rfl) ?_
    refine lv_aload_n hx hb dX12_failsOut_28 rfl (lv_at hl 1 rfl) ?_
    have e_16 : μ8.1 111 47 = n - 1 := hs_14
    refine xc_iV G (b := 111) (rest := [.int (iv (μ.1 127 (n - 1)))]) (As := []) (c_X12_now ω l μ8 (n - 1) (by omega) (by omega)) (wm 10 163 rfl rfl) (wm 10 165 rfl rfl) (wm 0 204 rfl rfl) rfl rfl (by decide) rfl (wm 1 18 rfl rfl) (wm 10 166 rfl rfl) (by decide) hR ⟨nfr hF (by decide), nlo hLo (by decide)⟩ (n := 0) rfl rfl (Nat.le_of_ble_eq_true rfl) hl.1 dX12_failsOut_29 (fun r_18 μ17 ρ d0 H locs hr_r_18 hp G => ?_)
    have hr_r_18 : -2147483648 ≤ r_18 ∧ r_18 ≤ 2147483647 := hr_r_18
    obtain ⟨hsm_19, hp_20⟩ := hp
    have hsm_19 := Eq.symm hsm_19
    subst hsm_19
    have hp_20t : r_18 = μ.1 127 (n - 1 - 1) := hp_20.trans (F_9.1 127 (by decide) (n - 1 - 1))
    refine xb_ti (y := μ.1 127 (n - 1 - 1)) hp_20t ?_
    have hr_21 : -2147483648 ≤ μ.1 127 (n - 1 - 1) ∧ μ.1 127 (n - 1 - 1) ≤ 2147483647 := by omega
    refine xb_icmp_ne (tgt := 44) hx hb (by unfold ir; omega) (by unfold ir; omega) dX12_failsOut_32 (by decide) (fun c_32 => ?_) (fun c_32 => ?_)
    · refine lv_aload_n hx hb dX12_failsOut_44 rfl (lv_at hl 1 rfl) ?_
      refine lv_iload_n hx hb dX12_failsOut_45 rfl (lv_at hl 2 rfl) ?_
      have e_22 : μ8.1 111 94 = μ.1 111 94 := (hp_10 94 (by decide))
      have e_23 : μ8.1 111 47 = n - 1 := hs_14
      have e_24 : μ8.1 111 94 = μ.1 111 94 := (hp_10 94 (by decide))
      have e_25 : μ8.1 111 82 = μ.1 111 82 := (hp_10 82 (by decide))
      have e_26 : μ8.1 111 47 = n - 1 := hs_14
      have e_27 : μ8.1 111 94 = μ.1 111 94 := (hp_10 94 (by decide))
      have e_28 : μ8.1 111 82 = μ.1 111 82 := (hp_10 82 (by decide))
      have e_29 : μ8.1 149 x1 = μ.1 149 x1 := (F_9.1 149 (by decide) x1)
      refine xc_vV G (b := 111) (rest := []) (As := [.int (iv x1)]) (c_X12_turnsFailure ω l μ8 x1 F Lo kf (n - 1) (by unfold ir; omega) (by omega) hp_11 (by omega) (by omega) (by omega) (by omega) (hp_12 (by omega)) (by omega) (by omega) (by omega)) (wm 10 175 rfl rfl) (wm 10 177 rfl rfl) (wm 0 207 rfl rfl) rfl rfl (by decide) rfl (wm 1 18 rfl rfl) (wm 10 178 rfl rfl) (by decide) hR ⟨sfr (F := F) (a := 1) (by decide), slo (L := Lo) (m := 7) (a := 22) (by decide)⟩ (n := 1) rfl rfl (Nat.le_of_ble_eq_true rfl) hl.1 dX12_failsOut_46 (fun μ30 ρ d0 H locs hp G => ?_)
      obtain ⟨F_31, hp_32, hp_33⟩ := hp
      exact xr_v G hret hlk dX12_failsOut_49 ⟨(FrM.tr (FrM.tr FrM.rf F_9 (by decide)) F_31 (by decide)), (fun j hj => ((hp_32 j (fun h9 => hj ((by decide : ∀ x ∈ ([47, 53, 61, 81, 82, 83, 84, 90, 91, 93, 94, 95, 96, 97, 98, 99] : List Int), x ∈ ([47, 53, 61, 81, 82, 83, 84, 90, 91, 93, 94, 95, 96, 97, 98, 99] : List Int)) j h9))).trans (hp_10 j (fun h9 => hj ((by decide : ∀ x ∈ ([47, 53, 61] : List Int), x ∈ ([47, 53, 61, 81, 82, 83, 84, 90, 91, 93, 94, 95, 96, 97, 98, 99] : List Int)) j h9))))), (hp_33.le (by omega))⟩
    · refine lv_aload_n hx hb dX12_failsOut_35 rfl (lv_at hl 1 rfl) ?_
      refine lv_iload_n hx hb dX12_failsOut_36 rfl (lv_at hl 2 rfl) ?_
      refine lv_iconst (v := iv 1) hx hb dX12_failsOut_37 rfl ?_
      have e_34 : μ8.1 111 94 = μ.1 111 94 := (hp_10 94 (by decide))
      have e_35 : μ8.1 111 47 = n - 1 := hs_14
      have e_36 : μ8.1 111 94 = μ.1 111 94 := (hp_10 94 (by decide))
      have e_37 : μ8.1 111 82 = μ.1 111 82 := (hp_10 82 (by decide))
      refine xc_vV G (b := 111) (rest := []) (As := [.int (iv x1), .int (iv 1)]) (((fun (_ : Om) (_ : Launch) => hG)) ω l μ8 x1 1 (n - 1) (by unfold ir; omega) (by omega) (by omega) hp_11 (by omega) (by omega) (by omega) (by omega) (by rw [(show μ8.1 149 x1 = μ.1 149 x1 from (F_9.1 149 (by decide) x1)), (show μ8.1 127 (n - 1 - 1) = μ.1 127 (n - 1 - 1) from (F_9.1 127 (by decide) (n - 1 - 1)))]; omega) (fun _ => (hp_12 (by omega)))) (wm 10 187 rfl rfl) (wm 10 189 rfl rfl) (wm 0 210 rfl rfl) rfl rfl (by decide) rfl (wm 1 18 rfl rfl) (wm 10 190 rfl rfl) (by decide) hR ⟨sfr (F := F) (a := 0) (by decide), slo (L := Lo) (m := 3) (a := 0) (by decide)⟩ (n := 2) rfl rfl (Nat.le_of_ble_eq_true rfl) hl.1 dX12_failsOut_38 (fun μ38 ρ d0 H locs hp G => ?_)
      obtain ⟨F_39, hp_40, hp_41⟩ := hp
      refine lv_goto (tgt := 49) hx hb dX12_failsOut_41 (by decide) ?_
      exact xr_v G hret hlk dX12_failsOut_49 ⟨(FrM.tr (FrM.tr FrM.rf F_9 (by decide)) F_39 (by decide)), (fun j hj => ((hp_40 j (fun h9 => hj ((by decide : ∀ x ∈ ([47, 53, 61, 81, 82, 83, 84, 90, 91, 93, 94, 95, 96, 97, 98, 99] : List Int), x ∈ ([47, 53, 61, 81, 82, 83, 84, 90, 91, 93, 94, 95, 96, 97, 98, 99] : List Int)) j h9))).trans (hp_10 j (fun h9 => hj ((by decide : ∀ x ∈ ([47, 53, 61] : List Int), x ∈ ([47, 53, 61, 81, 82, 83, 84, 90, 91, 93, 94, 95, 96, 97, 98, 99] : List Int)) j h9))))), (hp_41.le (by omega))⟩
  · refine lv_aload_n hx hb dX12_failsOut_16 rfl (lv_at hl 1 rfl) ?_
    refine lv_iconst (v := iv 1) hx hb dX12_failsOut_17 rfl ?_
    refine lv_iconst (v := iv 0) hx hb dX12_failsOut_18 rfl ?_
    refine lv_iload_n hx hb dX12_failsOut_19 rfl (lv_at hl 2 rfl) ?_
    refine xb_i2l hx hb (by unfold ir; omega) dX12_failsOut_20 ?_
    refine xc_vV G (b := 111) (rest := []) (As := [.int (iv 1), .int (iv 0), .long (jv x1)]) (c_X12_ends ω l μ8 1 0 x1 (by unfold ir; omega) (by unfold ir; omega) (by unfold jr; omega) hp_11 (fun h9 => absurd h9 (by decide)) (fun _ => by rw [(show μ8.1 111 82 = μ.1 111 82 from (hp_10 82 (by decide)))]; exact hgr)) (wm 10 171 rfl rfl) (wm 10 173 rfl rfl) (wm 0 206 rfl rfl) rfl rfl (by decide) rfl (wm 1 18 rfl rfl) (wm 10 174 rfl rfl) (by decide) hR ⟨nfr hF (by decide), nlo hLo (by decide)⟩ (n := 3) rfl rfl (Nat.le_of_ble_eq_true rfl) hl.1 dX12_failsOut_21 (fun μ42 ρ d0 H locs hp G => ?_)
    obtain ⟨F_43, hp_44, hp_45, hs_46⟩ := hp
    refine lv_goto (tgt := 49) hx hb dX12_failsOut_24 (by decide) ?_
    have e_47 : μ42.1 111 94 = 1 := hs_46
    exact xr_v G hret hlk dX12_failsOut_49 ⟨(FrM.tr (FrM.tr FrM.rf F_9 (by decide)) F_43 (by decide)), (fun j hj => ((hp_44 j (fun h9 => hj ((by decide : ∀ x ∈ ([93, 94, 95, 96, 97] : List Int), x ∈ ([47, 53, 61, 81, 82, 83, 84, 90, 91, 93, 94, 95, 96, 97, 98, 99] : List Int)) j h9))).trans (hp_10 j (fun h9 => hj ((by decide : ∀ x ∈ ([47, 53, 61] : List Int), x ∈ ([47, 53, 61, 81, 82, 83, 84, 90, 91, 93, 94, 95, 96, 97, 98, 99] : List Int)) j h9))))), (RES.ov hp_45 (by omega))⟩

set_option maxHeartbeats 4000000 in
set_option maxRecDepth 100000 in
theorem c_X12_unwinds (ω : Om) (l : Launch) (μ : M3) (x1 : Int) (x2 : Int) (x3 : Int) (F : Nat) (Lo : Nat) (kf : Int) (n : Int) (hx1 : ir x1) (hx2 : ir x2) (hx3 : jr x3) (hn : n = μ.1 111 47) (hMZ : MZ μ) (h1 : 1 ≤ n ∧ n ≤ 24) (hkf : n ≤ kf) (h94 : μ.1 111 94 = 0) (hhow : x1 = 1 ∨ x1 = 2) (hv : x1 = 1 → VV (μ.1 111 65) (μ.1 111 82) x2 x3) (hg2 : x1 = 2 → (0 ≤ x3 ∧ x3 < μ.1 111 82) ∧ μ.1 149 x3 = μ.1 127 (n - 1)) (hF : 60 ≤ F) (hLo : 2000 ≤ Lo) (hG : ∀ (μ : M3) (x1 : Int) (x2 : Int) (n : Int) (hx1 : ir x1) (hx2 : x2 = 0 ∨ x2 = 1) (hn : n = μ.1 111 47) (hMZ : MZ μ) (h1 : 1 ≤ n ∧ n ≤ 24) (hkf : n ≤ kf - 1) (h94 : μ.1 111 94 = 0) (hgr : 0 ≤ x1 ∧ x1 < μ.1 111 82) (hgt : μ.1 149 x1 = μ.1 127 (n - 1)) (hby : x2 = 1 → A1 μ), CtV ω l yX12_goesOut cX12_goesOut 3 (F + 0) (Lo + 0) [.ref (oP ω 111), .int (iv x1), .int (iv x2)] μ (fun (μ' : M3) => (FrM [111, 129, 133, 134, 135, 136, 137, 138, 139, 140, 141, 142, 143, 149, 150, 151, 152, 153, 154, 155, 156, 157, 158, 159] μ μ') ∧ (∀ j, j ∉ ([47, 53, 61, 81, 82, 83, 84, 90, 91, 93, 94, 95, 96, 97, 98, 99] : List Int) → μ'.1 111 j = μ.1 111 j) ∧ (RES μ' (RX μ + 9000)))) : CtV ω l yX12_unwinds cX12_unwinds 9 (F + 4) (Lo + 93) [.ref (oP ω 111), .int (iv x1), .int (iv x2), .long (jv x3)] μ (fun (μ' : M3) => (FrM [111, 129, 133, 134, 135, 136, 137, 138, 139, 140, 141, 142, 143, 149, 150, 151, 152, 153, 154, 155, 156, 157, 158, 159] μ μ') ∧ (∀ j, j ∉ ([47, 53, 61, 81, 82, 83, 84, 90, 91, 93, 94, 95, 96, 97, 98, 99] : List Int) → μ'.1 111 j = μ.1 111 j) ∧ (RES μ' (RX μ - 1))) := by
  refine CtV.go (by decide) (Nat.le_of_ble_eq_true rfl) (fun ρ p e s m below meth c R ls G hR hret hlk hl => ?_)
  have hx := G.1.1
  have hb := G.1.2.1
  have hl : lv_has ls 9 [(0, .ref (oP ω 111)), (1, .int (iv x1)), (2, .int (iv x2)), (3, .long (jv x3))] := hl
  generalize s.drawn = d0 at G ⊢
  have hr_x1 : -2147483648 ≤ x1 ∧ x1 ≤ 2147483647 := hx1
  have hr_x2 : -2147483648 ≤ x2 ∧ x2 ≤ 2147483647 := hx2
  have hzn_ := hMZ.n
  rw [← hn] at hzn_
  obtain ⟨hz47, hzFB, hzFL, hz81, hz82, hz84, hz65, hz4, hz104⟩ := hzn_
  have hfr_ := (hMZ.2.2.1 (n - 1) (by omega) (by omega)).1.1
  have hzB := FB_1 (μ := μ) (n := n) (by omega)
  have hzL := FL_1 (μ := μ) (n := n) (by omega)
  have hg3_ : x1 = 2 → 0 ≤ x3 ∧ x3 < 5000 := fun h9 => by have := (hg2 h9).1; omega
  have hz132 := (hMZ.2.2.1 (n - 1) (by omega) (by omega)).1.2.2.2
  refine lv_aload_n hx hb dX12_unwinds_0 rfl (lv_at hl 0 rfl) ?_
  refine xa_geti G fd_X12 (a := 111) (x := n) 47 rfl (by decide) rfl (wm 7 196 rfl rfl) ⟨rfl, rfl, rfl⟩ dX12_unwinds_1 rfl hn.symm ?_
  have hr_1 : -2147483648 ≤ n ∧ n ≤ 2147483647 := by have h9 := G.hr (a := 111) (k := 47) rfl; rw [show μ.1 111 47 = n from hn.symm] at h9; exact h9
  refine lv_iconst (v := iv 1) hx hb dX12_unwinds_4 rfl ?_
  refine xb_isub hx hb dX12_unwinds_5 ?_
  refine lv_istore (lv' := [(5, .int (iv (n - 1))), (0, .ref (oP ω 111)), (1, .int (iv x1)), (2, .int (iv x2)), (3, .long (jv x3))]) hx hb dX12_unwinds_6 hl (by decide) rfl (fun ls hl => ?_)
  refine lv_lload_n hx hb dX12_unwinds_8 rfl (lv_at hl 4 rfl) ?_
  refine lv_lstore (lv' := [(6, .long (jv x3)), (5, .int (iv (n - 1))), (0, .ref (oP ω 111)), (1, .int (iv x1)), (2, .int (iv x2)), (3, .long (jv x3))]) hx hb dX12_unwinds_9 hl (by decide) rfl (fun ls hl => ?_)
  refine xl (fun n_9 μ' ls => (FrM [111, 129, 133, 134, 157, 158, 159] μ μ') ∧ (∀ j, j ∉ ([53, 61, 81] : List Int) → μ'.1 111 j = μ.1 111 j) ∧ (MZ μ') ∧ (RX μ' ≤ RX μ) ∧ (μ'.1 111 61 ≤ μ.1 111 61) ∧ n_9 = Int.toNat (μ'.1 111 61) ∧ lv_has ls 9 [(6, .long (jv x3)), (5, .int (iv (n - 1))), (0, .ref (oP ω 111)), (1, .int (iv x1)), (2, .int (iv x2)), (3, .long (jv x3))]) (fun n_9 ρ μL2 d0 H locs ls hI_l G ih => ?_) _ _ _ _ _ _ _ ⟨FrM.rf, (fun j hj => rfl), hMZ, (Int.le_refl _), (by omega), rfl, lv_sub hl [0, 1, 2, 3, 4, 5] rfl⟩ G
  obtain ⟨FL3, hi_5, hi_6, hi_7, hi_8, hn4, hl⟩ := hI_l
  have hzL_ := hi_6.n
  have e_9 : μL2.1 111 47 = n := ((hi_5 47 (by decide)).trans hn.symm)
  have e_10 : μL2.1 111 82 = μ.1 111 82 := (hi_5 82 (by decide))
  have e_11 : μL2.1 111 83 = μ.1 111 83 := (hi_5 83 (by decide))
  have e_12 : μL2.1 111 65 = μ.1 111 65 := (hi_5 65 (by decide))
  rw [(show μL2.1 111 47 = n from ((hi_5 47 (by decide)).trans hn.symm))] at hzL_
  obtain ⟨-, hq61, hq53, hq81, -, -, -, -, -⟩ := hzL_
  have hqB := FB_1 (μ := μL2) (n := n) (by omega)
  have hqL := FL_1 (μ := μL2) (n := n) (by omega)
  have hq32 : μL2.1 132 (n - 1) = μ.1 132 (n - 1) := (FL3.1 132 (by decide) (n - 1))
  refine lv_aload_n hx hb dX12_unwinds_11 rfl (lv_at hl 2 rfl) ?_
  refine xa_geti G fd_X12 (a := 111) (x := μL2.1 111 61) 61 rfl (by decide) rfl (wm 7 210 rfl rfl) ⟨rfl, rfl, rfl⟩ dX12_unwinds_12 rfl rfl ?_
  have hr_13 : -2147483648 ≤ μL2.1 111 61 ∧ μL2.1 111 61 ≤ 2147483647 := by have h9 := G.hr (a := 111) (k := 61) rfl; exact h9
  refine lv_aload_n hx hb dX12_unwinds_15 rfl (lv_at hl 2 rfl) ?_
  refine xa_getr G fd_X12 (a := 111) (x := 132) 46 rfl (by decide) rfl (wm 7 195 rfl rfl) ⟨rfl, rfl, rfl⟩ dX12_unwinds_16 rfl (G.sk 130 rfl) (by decide) rfl ?_
  refine lv_iload hx hb dX12_unwinds_19 (lv_at hl 1 rfl) ?_
  refine xa_iald G (a := 132) (i := n - 1) rfl (by have h9 := G.lc (a := 132) (n := 26) 70 rfl; omega) dX12_unwinds_21 rfl ?_
  refine xb_ti (y := μ.1 132 (n - 1)) (FL3.1 132 (by decide) (n - 1)) ?_
  have hr_14 : -2147483648 ≤ μ.1 132 (n - 1) ∧ μ.1 132 (n - 1) ≤ 2147483647 := by have h9 := G.hr (a := 132) (k := n - 1) rfl; rw [(FL3.1 132 (by decide) (n - 1))] at h9; exact h9
  refine xb_icmp_le (tgt := 203) hx hb (by unfold ir; omega) (by unfold ir; omega) dX12_unwinds_22 (by decide) (fun c_22 => ?_) (fun c_22 => ?_)
  · refine lv_iload_n hx hb dX12_unwinds_203 rfl (lv_at hl 3 rfl) ?_
    refine lv_iconst (v := iv 1) hx hb dX12_unwinds_204 rfl ?_
    refine xb_icmp_ne (tgt := 218) hx hb (by unfold ir; omega) (by unfold ir; omega) dX12_unwinds_205 (by decide) (fun c_205 => ?_) (fun c_205 => ?_)
    · refine lv_aload_n hx hb dX12_unwinds_218 rfl (lv_at hl 2 rfl) ?_
      refine lv_lload hx hb dX12_unwinds_219 (lv_at hl 0 rfl) ?_
      refine xb_l2i hx hb dX12_unwinds_221 ?_
      refine xb_topi (fun y_15 hr_y_15 he_y_15 => ?_)
      have hr_y_15 : -2147483648 ≤ y_15 ∧ y_15 ≤ 2147483647 := hr_y_15
      have hli_y_15 : ir x3 → y_15 = x3 := fun h9 => (iv_eq hr_y_15 h9).mp he_y_15
      unfold ir at hli_y_15
      refine xb_ti (y := x3) (hli_y_15 (by have h9 := hg3_ (by omega); omega)) ?_
      have hr_16 : -2147483648 ≤ x3 ∧ x3 ≤ 2147483647 := by have h9 := hg3_ (by omega); omega
      have hg2_ := hg2 (by omega)
      have e_17 : μL2.1 111 94 = μ.1 111 94 := (hi_5 94 (by decide))
      have e_18 : μL2.1 111 47 = n := ((hi_5 47 (by decide)).trans hn.symm)
      have e_19 : μL2.1 111 94 = μ.1 111 94 := (hi_5 94 (by decide))
      have e_20 : μL2.1 111 82 = μ.1 111 82 := (hi_5 82 (by decide))
      have e_21 : μL2.1 111 47 = n := ((hi_5 47 (by decide)).trans hn.symm)
      have e_22 : μL2.1 111 94 = μ.1 111 94 := (hi_5 94 (by decide))
      have e_23 : μL2.1 111 82 = μ.1 111 82 := (hi_5 82 (by decide))
      have e_24 : μL2.1 149 x3 = μ.1 149 x3 := (FL3.1 149 (by decide) x3)
      have e_25 : μL2.1 127 (n - 1) = μ.1 127 (n - 1) := (FL3.1 127 (by decide) (n - 1))
      refine xc_vV G (b := 111) (rest := []) (As := [.int (iv x3)]) (c_X12_failsOut ω l μL2 x3 F Lo kf n (by unfold ir; omega) (by omega) hi_6 (by omega) (by omega) (by omega) (by omega) (by rw [(show μL2.1 149 x3 = μ.1 149 x3 from (FL3.1 149 (by decide) x3)), (show μL2.1 127 (n - 1) = μ.1 127 (n - 1) from (FL3.1 127 (by decide) (n - 1)))]; exact hg2_.2) (by omega) (by omega) (by omega)) (wm 10 195 rfl rfl) (wm 10 197 rfl rfl) (wm 0 212 rfl rfl) rfl rfl (by decide) rfl (wm 1 18 rfl rfl) (wm 10 198 rfl rfl) (by decide) hR ⟨sfr (F := F) (a := 2) (by decide), slo (L := Lo) (m := 3) (a := 48) (by decide)⟩ (n := 1) rfl rfl (Nat.le_of_ble_eq_true rfl) hl.1 dX12_unwinds_222 (fun μ26 ρ d0 H locs hp G => ?_)
      obtain ⟨F_27, hp_28, hp_29⟩ := hp
      exact xr_v G hret hlk dX12_unwinds_225 ⟨(FrM.tr (FrM.tr FrM.rf FL3 (by decide)) F_27 (by decide)), (fun j hj => ((hp_28 j (fun h9 => hj ((by decide : ∀ x ∈ ([47, 53, 61, 81, 82, 83, 84, 90, 91, 93, 94, 95, 96, 97, 98, 99] : List Int), x ∈ ([47, 53, 61, 81, 82, 83, 84, 90, 91, 93, 94, 95, 96, 97, 98, 99] : List Int)) j h9))).trans (hi_5 j (fun h9 => hj ((by decide : ∀ x ∈ ([53, 61, 81] : List Int), x ∈ ([47, 53, 61, 81, 82, 83, 84, 90, 91, 93, 94, 95, 96, 97, 98, 99] : List Int)) j h9))))), (hp_29.le (by omega))⟩
    · refine lv_aload_n hx hb dX12_unwinds_208 rfl (lv_at hl 2 rfl) ?_
      refine lv_iload_n hx hb dX12_unwinds_209 rfl (lv_at hl 4 rfl) ?_
      refine lv_lload hx hb dX12_unwinds_210 (lv_at hl 0 rfl) ?_
      have e_30 : μL2.1 111 94 = μ.1 111 94 := (hi_5 94 (by decide))
      have e_31 : μL2.1 111 47 = n := ((hi_5 47 (by decide)).trans hn.symm)
      have e_32 : μL2.1 111 94 = μ.1 111 94 := (hi_5 94 (by decide))
      have e_33 : μL2.1 111 47 = n := ((hi_5 47 (by decide)).trans hn.symm)
      have e_34 : μL2.1 111 94 = μ.1 111 94 := (hi_5 94 (by decide))
      have e_35 : μL2.1 111 82 = μ.1 111 82 := (hi_5 82 (by decide))
      have e_36 : μL2.1 149 x2 = μ.1 149 x2 := (FL3.1 149 (by decide) x2)
      have e_37 : μL2.1 127 (n - 1) = μ.1 127 (n - 1) := (FL3.1 127 (by decide) (n - 1))
      refine xc_vV G (b := 111) (rest := []) (As := [.int (iv x2), .long (jv x3)]) (c_X12_answers ω l μL2 x2 x3 F Lo kf n (by unfold ir; omega) hx3 (by omega) hi_6 (by omega) (by omega) (by omega) (by rw [(show μL2.1 111 65 = μ.1 111 65 from (hi_5 65 (by decide))), (show μL2.1 111 82 = μ.1 111 82 from (hi_5 82 (by decide)))]; exact (hv (by omega))) (by omega) (by omega) (by omega)) (wm 10 159 rfl rfl) (wm 10 161 rfl rfl) (wm 0 203 rfl rfl) rfl rfl (by decide) rfl (wm 1 18 rfl rfl) (wm 10 162 rfl rfl) (by decide) hR ⟨sfr (F := F) (a := 3) (by decide), slo (L := Lo) (m := 6) (a := 68) (by decide)⟩ (n := 2) rfl rfl (Nat.le_of_ble_eq_true rfl) hl.1 dX12_unwinds_212 (fun μ38 ρ d0 H locs hp G => ?_)
      obtain ⟨F_39, hp_40, hp_41⟩ := hp
      refine lv_goto (tgt := 225) hx hb dX12_unwinds_215 (by decide) ?_
      exact xr_v G hret hlk dX12_unwinds_225 ⟨(FrM.tr (FrM.tr FrM.rf FL3 (by decide)) F_39 (by decide)), (fun j hj => ((hp_40 j (fun h9 => hj ((by decide : ∀ x ∈ ([47, 53, 61, 81, 82, 83, 84, 90, 91, 93, 94, 95, 96, 97, 98, 99] : List Int), x ∈ ([47, 53, 61, 81, 82, 83, 84, 90, 91, 93, 94, 95, 96, 97, 98, 99] : List Int)) j h9))).trans (hi_5 j (fun h9 => hj ((by decide : ∀ x ∈ ([53, 61, 81] : List Int), x ∈ ([47, 53, 61, 81, 82, 83, 84, 90, 91, 93, 94, 95, 96, 97, 98, 99] : List Int)) j h9))))), (hp_41.le (by omega))⟩
  · have hbk := MZ.bk (k := μL2.1 111 61 - 1) hi_6 (by have h9 : μL2.1 111 47 = n := ((hi_5 47 (by decide)).trans hn.symm); omega) (by omega) ⟨by omega, by omega⟩
    obtain ⟨hbk, hpd⟩ := hbk
    have hq_42 : μL2.1 137 (μL2.1 111 61 - 1) = μ.1 137 (μL2.1 111 61 - 1) := (FL3.1 137 (by decide) (μL2.1 111 61 - 1))
    have hq_43 : μL2.1 138 (μL2.1 111 61 - 1) = μ.1 138 (μL2.1 111 61 - 1) := (FL3.1 138 (by decide) (μL2.1 111 61 - 1))
    have hq_44 : μL2.1 140 (μL2.1 111 61 - 1) = μ.1 140 (μL2.1 111 61 - 1) := (FL3.1 140 (by decide) (μL2.1 111 61 - 1))
    have hq_45 : μL2.1 141 (μL2.1 111 61 - 1) = μ.1 141 (μL2.1 111 61 - 1) := (FL3.1 141 (by decide) (μL2.1 111 61 - 1))
    have hq_46 : μL2.1 142 (μL2.1 111 61 - 1) = μ.1 142 (μL2.1 111 61 - 1) := (FL3.1 142 (by decide) (μL2.1 111 61 - 1))
    have hq_47 : μL2.1 143 (μL2.1 111 61 - 1) = μ.1 143 (μL2.1 111 61 - 1) := (FL3.1 143 (by decide) (μL2.1 111 61 - 1))
    replace hpd := fun _ : Unit => hpd
    have hbk2_ := hbk.2.1
    refine lv_aload_n hx hb dX12_unwinds_25 rfl (lv_at hl 2 rfl) ?_
    refine lv_dup hx hb dX12_unwinds_26 rfl ?_
    refine xa_geti G fd_X12 (a := 111) (x := μL2.1 111 61) 61 rfl (by decide) rfl (wm 7 210 rfl rfl) ⟨rfl, rfl, rfl⟩ dX12_unwinds_27 rfl rfl ?_
    refine lv_iconst (v := iv 1) hx hb dX12_unwinds_30 rfl ?_
    refine xb_isub hx hb dX12_unwinds_31 ?_
    refine xa_puti G fd_X12 (a := 111) (x := (μL2.1 111 61) - 1) 61 (kz := 61) rfl rfl (by decide) rfl (by unfold ir; omega) (wm 7 210 rfl rfl) ⟨rfl, rfl, rfl, rfl⟩ rfl dX12_unwinds_32 rfl (fun H locs G => ?_)
    refine lv_aload_n hx hb dX12_unwinds_35 rfl (lv_at hl 2 rfl) ?_
    refine xa_geti G fd_X12 (a := 111) (x := (μL2.1 111 61) - 1) 61 rfl (by decide) rfl (wm 7 210 rfl rfl) ⟨rfl, rfl, rfl⟩ dX12_unwinds_36 rfl (sv_s _ _ _ _) ?_
    have hr_48 : -2147483648 ≤ (μL2.1 111 61) - 1 ∧ (μL2.1 111 61) - 1 ≤ 2147483647 := by have h9 := G.hr (a := 111) (k := 61) rfl; rw [show (sv μL2 111 61 ((μL2.1 111 61) - 1)).1 111 61 = (μL2.1 111 61) - 1 from (sv_s _ _ _ _)] at h9; exact h9
    refine lv_istore (lv' := [(8, .int (iv ((μL2.1 111 61) - 1))), (6, .long (jv x3)), (5, .int (iv (n - 1))), (0, .ref (oP ω 111)), (1, .int (iv x1)), (2, .int (iv x2)), (3, .long (jv x3))]) hx hb dX12_unwinds_39 hl (by decide) rfl (fun ls hl => ?_)
    refine lv_aload_n hx hb dX12_unwinds_41 rfl (lv_at hl 3 rfl) ?_
    refine xa_getr G fd_X12 (a := 111) (x := 137) 54 rfl (by decide) rfl (wm 7 203 rfl rfl) ⟨rfl, rfl, rfl⟩ dX12_unwinds_42 rfl (G.sk 135 rfl) (by decide) rfl ?_
    refine lv_iload hx hb dX12_unwinds_45 (lv_at hl 0 rfl) ?_
    refine xa_iald G (a := 137) (i := (μL2.1 111 61) - 1) rfl (by have h9 := G.lc (a := 137) (n := 900) 75 rfl; omega) dX12_unwinds_47 rfl ?_
    refine xb_ti (y := μ.1 137 (μL2.1 111 61 - 1)) ((sv_n _ (fun h9 => absurd h9.1 (by decide))).trans (FL3.1 137 (by decide) (μL2.1 111 61 - 1))) ?_
    have hr_49 : -2147483648 ≤ μ.1 137 (μL2.1 111 61 - 1) ∧ μ.1 137 (μL2.1 111 61 - 1) ≤ 2147483647 := by have h9 := G.hr (a := 137) (k := (μL2.1 111 61) - 1) rfl; rw [((sv_n _ (fun h9 => absurd h9.1 (by decide))).trans (FL3.1 137 (by decide) (μL2.1 111 61 - 1)))] at h9; exact h9
    refine lv_iconst (v := iv 1) hx hb dX12_unwinds_48 rfl ?_
    refine xb_icmp_ne (tgt := 110) hx hb (by unfold ir; omega) (by unfold ir; omega) dX12_unwinds_49 (by decide) (fun c_49 => ?_) (fun c_49 => ?_)
    · refine lv_aload_n hx hb dX12_unwinds_110 rfl (lv_at hl 3 rfl) ?_
      refine xa_getr G fd_X12 (a := 111) (x := 137) 54 rfl (by decide) rfl (wm 7 203 rfl rfl) ⟨rfl, rfl, rfl⟩ dX12_unwinds_111 rfl (G.sk 135 rfl) (by decide) rfl ?_
      refine lv_iload hx hb dX12_unwinds_114 (lv_at hl 0 rfl) ?_
      refine xa_iald G (a := 137) (i := (μL2.1 111 61) - 1) rfl (by have h9 := G.lc (a := 137) (n := 900) 75 rfl; omega) dX12_unwinds_116 rfl ?_
      refine xb_ti (y := μ.1 137 (μL2.1 111 61 - 1)) ((sv_n _ (fun h9 => absurd h9.1 (by decide))).trans (FL3.1 137 (by decide) (μL2.1 111 61 - 1))) ?_
      refine lv_iconst (v := iv 2) hx hb dX12_unwinds_117 rfl ?_
      refine xb_icmp_ne (tgt := 131) hx hb (by unfold ir; omega) (by unfold ir; omega) dX12_unwinds_118 (by decide) (fun c_118 => ?_) (fun c_118 => ?_)
      · refine lv_iload_n hx hb dX12_unwinds_131 rfl (lv_at hl 4 rfl) ?_
        refine lv_iconst (v := iv 2) hx hb dX12_unwinds_132 rfl ?_
        refine xb_icmp_ne (tgt := 200) hx hb (by unfold ir; omega) (by unfold ir; omega) dX12_unwinds_133 (by decide) (fun c_133 => ?_) (fun c_133 => ?_)
        · refine lv_goto (tgt := 11) hx hb dX12_unwinds_200 (by decide) ?_
          have hMZ_50 : MZ (sv μL2 111 61 ((μL2.1 111 61) - 1)) := MZ.bl1 hi_6 (n := n) (s := μ.1 132 (n - 1)) (((hi_5 47 (by decide)).trans hn.symm)) (by have h9 : μL2.1 132 (n - 1) = μ.1 132 (n - 1) := (FL3.1 132 (by decide) (n - 1)); exact h9) (by omega) (by have h9 : μL2.1 111 61 = μL2.1 111 61 := rfl; omega)
          have e_51 : (sv μL2 111 61 ((μL2.1 111 61) - 1)).1 111 61 = (μL2.1 111 61) - 1 := (sv_s _ _ _ _)
          have e_52 : (sv μL2 111 61 ((μL2.1 111 61) - 1)).1 111 61 = (μL2.1 111 61) - 1 := (sv_s _ _ _ _)
          have e_53 : (sv μL2 111 61 ((μL2.1 111 61) - 1)).1 111 61 = (μL2.1 111 61) - 1 := (sv_s _ _ _ _)
          exact ih _ _ _ _ _ _ _ (by omega) ⟨(FrM.put FL3 (by decide)), (fun j hj => ((sv_n _ (fun h9 => hj (by rw [h9.2]; decide))).trans (hi_5 j (fun h9 => hj ((by decide : ∀ x ∈ ([53, 61, 81] : List Int), x ∈ ([53, 61, 81] : List Int)) j h9))))), hMZ_50, (Int.le_trans (RX.dn (fun j _ => (sv_n _ (by omega))) ((((sv_n _ (by decide)).trans ((hi_5 47 (by decide)).trans hn.symm))).trans (((hi_5 47 (by decide)).trans hn.symm)).symm) ((((sv_n _ (by decide)).trans (hi_5 83 (by decide)))).trans ((hi_5 83 (by decide))).symm) (by omega)) hi_7), (by omega), rfl, lv_sub hl [1, 2, 3, 4, 5, 6] rfl⟩ G
        · refine lv_aload_n hx hb dX12_unwinds_136 rfl (lv_at hl 3 rfl) ?_
          refine xa_getr G fd_X12 (a := 111) (x := 137) 54 rfl (by decide) rfl (wm 7 203 rfl rfl) ⟨rfl, rfl, rfl⟩ dX12_unwinds_137 rfl (G.sk 135 rfl) (by decide) rfl ?_
          refine lv_iload hx hb dX12_unwinds_140 (lv_at hl 0 rfl) ?_
          refine xa_iald G (a := 137) (i := (μL2.1 111 61) - 1) rfl (by have h9 := G.lc (a := 137) (n := 900) 75 rfl; omega) dX12_unwinds_142 rfl ?_
          refine xb_ti (y := μ.1 137 (μL2.1 111 61 - 1)) ((sv_n _ (fun h9 => absurd h9.1 (by decide))).trans (FL3.1 137 (by decide) (μL2.1 111 61 - 1))) ?_
          refine xb_if_ne (tgt := 158) hx hb (by unfold ir; omega) dX12_unwinds_143 (by decide) (fun c_143 => ?_) (fun c_143 => ?_)
          · refine lv_aload_n hx hb dX12_unwinds_158 rfl (lv_at hl 3 rfl) ?_
            refine xa_getr G fd_X12 (a := 111) (x := 137) 54 rfl (by decide) rfl (wm 7 203 rfl rfl) ⟨rfl, rfl, rfl⟩ dX12_unwinds_159 rfl (G.sk 135 rfl) (by decide) rfl ?_
            refine lv_iload hx hb dX12_unwinds_162 (lv_at hl 0 rfl) ?_
            refine xa_iald G (a := 137) (i := (μL2.1 111 61) - 1) rfl (by have h9 := G.lc (a := 137) (n := 900) 75 rfl; omega) dX12_unwinds_164 rfl ?_
            refine xb_ti (y := μ.1 137 (μL2.1 111 61 - 1)) ((sv_n _ (fun h9 => absurd h9.1 (by decide))).trans (FL3.1 137 (by decide) (μL2.1 111 61 - 1))) ?_
            refine lv_iconst (v := iv 4) hx hb dX12_unwinds_165 rfl ?_
            refine xb_icmp_ne (tgt := 200) hx hb (by unfold ir; omega) (by unfold ir; omega) dX12_unwinds_166 (by decide) (fun c_166 => ?_) (fun c_166 => ?_)
            · refine lv_goto (tgt := 11) hx hb dX12_unwinds_200 (by decide) ?_
              have hMZ_54 : MZ (sv μL2 111 61 ((μL2.1 111 61) - 1)) := MZ.bl1 hi_6 (n := n) (s := μ.1 132 (n - 1)) (((hi_5 47 (by decide)).trans hn.symm)) (by have h9 : μL2.1 132 (n - 1) = μ.1 132 (n - 1) := (FL3.1 132 (by decide) (n - 1)); exact h9) (by omega) (by have h9 : μL2.1 111 61 = μL2.1 111 61 := rfl; omega)
              have e_55 : (sv μL2 111 61 ((μL2.1 111 61) - 1)).1 111 61 = (μL2.1 111 61) - 1 := (sv_s _ _ _ _)
              have e_56 : (sv μL2 111 61 ((μL2.1 111 61) - 1)).1 111 61 = (μL2.1 111 61) - 1 := (sv_s _ _ _ _)
              have e_57 : (sv μL2 111 61 ((μL2.1 111 61) - 1)).1 111 61 = (μL2.1 111 61) - 1 := (sv_s _ _ _ _)
              exact ih _ _ _ _ _ _ _ (by omega) ⟨(FrM.put FL3 (by decide)), (fun j hj => ((sv_n _ (fun h9 => hj (by rw [h9.2]; decide))).trans (hi_5 j (fun h9 => hj ((by decide : ∀ x ∈ ([53, 61, 81] : List Int), x ∈ ([53, 61, 81] : List Int)) j h9))))), hMZ_54, (Int.le_trans (RX.dn (fun j _ => (sv_n _ (by omega))) ((((sv_n _ (by decide)).trans ((hi_5 47 (by decide)).trans hn.symm))).trans (((hi_5 47 (by decide)).trans hn.symm)).symm) ((((sv_n _ (by decide)).trans (hi_5 83 (by decide)))).trans ((hi_5 83 (by decide))).symm) (by omega)) hi_7), (by omega), rfl, lv_sub hl [1, 2, 3, 4, 5, 6] rfl⟩ G
            · refine lv_aload_n hx hb dX12_unwinds_169 rfl (lv_at hl 3 rfl) ?_
              refine xa_getr G fd_X12 (a := 111) (x := 139) 56 rfl (by decide) rfl (wm 7 205 rfl rfl) ⟨rfl, rfl, rfl⟩ dX12_unwinds_170 rfl (G.sk 137 rfl) (by decide) rfl ?_
              refine lv_iload hx hb dX12_unwinds_173 (lv_at hl 0 rfl) ?_
              refine xa_iald G (a := 139) (i := (μL2.1 111 61) - 1) rfl (by have h9 := G.lc (a := 139) (n := 900) 77 rfl; omega) dX12_unwinds_175 rfl ?_
              refine xb_ti (y := μ.1 139 (μL2.1 111 61 - 1)) ((sv_n _ (fun h9 => absurd h9.1 (by decide))).trans (FL3.1 139 (by decide) (μL2.1 111 61 - 1))) ?_
              have hr_58 : -2147483648 ≤ μ.1 139 (μL2.1 111 61 - 1) ∧ μ.1 139 (μL2.1 111 61 - 1) ≤ 2147483647 := by have h9 := G.hr (a := 139) (k := (μL2.1 111 61) - 1) rfl; rw [((sv_n _ (fun h9 => absurd h9.1 (by decide))).trans (FL3.1 139 (by decide) (μL2.1 111 61 - 1)))] at h9; exact h9
              refine lv_aload_n hx hb dX12_unwinds_176 rfl (lv_at hl 3 rfl) ?_
              refine xa_getr G fd_X12 (a := 111) (x := 150) 71 rfl (by decide) rfl (wm 7 220 rfl rfl) ⟨rfl, rfl, rfl⟩ dX12_unwinds_177 rfl (G.sk 148 rfl) (by decide) rfl ?_
              refine lv_lload hx hb dX12_unwinds_180 (lv_at hl 1 rfl) ?_
              refine xb_l2i hx hb dX12_unwinds_182 ?_
              refine xb_topi (fun y_59 hr_y_59 he_y_59 => ?_)
              have hr_y_59 : -2147483648 ≤ y_59 ∧ y_59 ≤ 2147483647 := hr_y_59
              have hli_y_59 : ir x3 → y_59 = x3 := fun h9 => (iv_eq hr_y_59 h9).mp he_y_59
              unfold ir at hli_y_59
              refine xb_ti (y := x3) (hli_y_59 (by have h9 := hg3_ (by omega); omega)) ?_
              have hr_60 : -2147483648 ≤ x3 ∧ x3 ≤ 2147483647 := by have h9 := hg3_ (by omega); omega
              refine xa_iald G (a := 150) (i := x3) rfl (by have h9 := G.lc (a := 150) (n := 12000) 88 rfl; omega) dX12_unwinds_183 rfl ?_
              refine xb_ti (y := μ.1 150 x3) ((sv_n _ (fun h9 => absurd h9.1 (by decide))).trans (FL3.1 150 (by decide) x3)) ?_
              have hr_61 : -2147483648 ≤ μ.1 150 x3 ∧ μ.1 150 x3 ≤ 2147483647 := by have h9 := G.hr (a := 150) (k := x3) rfl; rw [((sv_n _ (fun h9 => absurd h9.1 (by decide))).trans (FL3.1 150 (by decide) x3))] at h9; exact h9
              refine xb_icmp_ne (tgt := 200) hx hb (by unfold ir; omega) (by unfold ir; omega) dX12_unwinds_184 (by decide) (fun c_184 => ?_) (fun c_184 => ?_)
              · refine lv_goto (tgt := 11) hx hb dX12_unwinds_200 (by decide) ?_
                have hMZ_62 : MZ (sv μL2 111 61 ((μL2.1 111 61) - 1)) := MZ.bl1 hi_6 (n := n) (s := μ.1 132 (n - 1)) (((hi_5 47 (by decide)).trans hn.symm)) (by have h9 : μL2.1 132 (n - 1) = μ.1 132 (n - 1) := (FL3.1 132 (by decide) (n - 1)); exact h9) (by omega) (by have h9 : μL2.1 111 61 = μL2.1 111 61 := rfl; omega)
                have e_63 : (sv μL2 111 61 ((μL2.1 111 61) - 1)).1 111 61 = (μL2.1 111 61) - 1 := (sv_s _ _ _ _)
                have e_64 : (sv μL2 111 61 ((μL2.1 111 61) - 1)).1 111 61 = (μL2.1 111 61) - 1 := (sv_s _ _ _ _)
                have e_65 : (sv μL2 111 61 ((μL2.1 111 61) - 1)).1 111 61 = (μL2.1 111 61) - 1 := (sv_s _ _ _ _)
                exact ih _ _ _ _ _ _ _ (by omega) ⟨(FrM.put FL3 (by decide)), (fun j hj => ((sv_n _ (fun h9 => hj (by rw [h9.2]; decide))).trans (hi_5 j (fun h9 => hj ((by decide : ∀ x ∈ ([53, 61, 81] : List Int), x ∈ ([53, 61, 81] : List Int)) j h9))))), hMZ_62, (Int.le_trans (RX.dn (fun j _ => (sv_n _ (by omega))) ((((sv_n _ (by decide)).trans ((hi_5 47 (by decide)).trans hn.symm))).trans (((hi_5 47 (by decide)).trans hn.symm)).symm) ((((sv_n _ (by decide)).trans (hi_5 83 (by decide)))).trans ((hi_5 83 (by decide))).symm) (by omega)) hi_7), (by omega), rfl, lv_sub hl [1, 2, 3, 4, 5, 6] rfl⟩ G
              · refine lv_aload_n hx hb dX12_unwinds_187 rfl (lv_at hl 3 rfl) ?_
                refine lv_iload hx hb dX12_unwinds_188 (lv_at hl 0 rfl) ?_
                refine lv_lload hx hb dX12_unwinds_190 (lv_at hl 1 rfl) ?_
                refine xb_l2i hx hb dX12_unwinds_192 ?_
                refine xb_topi (fun y_66 hr_y_66 he_y_66 => ?_)
                have hr_y_66 : -2147483648 ≤ y_66 ∧ y_66 ≤ 2147483647 := hr_y_66
                have hli_y_66 : ir x3 → y_66 = x3 := fun h9 => (iv_eq hr_y_66 h9).mp he_y_66
                unfold ir at hli_y_66
                refine xb_ti (y := x3) (hli_y_66 (by have h9 := hg3_ (by omega); omega)) ?_
                have e_67 : (sv μL2 111 61 ((μL2.1 111 61) - 1)).1 111 61 = (μL2.1 111 61) - 1 := (sv_s _ _ _ _)
                have hrd_68 := RX.d1 (μ := μL2) (ν := (sv μL2 111 61 ((μL2.1 111 61) - 1))) (k := (μL2.1 111 61 - 1)) (fun j _ => (sv_n _ (by omega))) ((((sv_n _ (by decide)).trans ((hi_5 47 (by decide)).trans hn.symm))).trans (((hi_5 47 (by decide)).trans hn.symm)).symm) ((((sv_n _ (by decide)).trans (hi_5 83 (by decide)))).trans ((hi_5 83 (by decide))).symm) (by omega) (by omega) (by omega) (by omega)
                have hg2_ := hg2 (by omega)
                have e_69 : (sv μL2 111 61 ((μL2.1 111 61) - 1)).1 111 94 = μ.1 111 94 := ((sv_n _ (by decide)).trans (hi_5 94 (by decide)))
                have e_70 : (sv μL2 111 61 ((μL2.1 111 61) - 1)).1 111 47 = n := ((sv_n _ (by decide)).trans ((hi_5 47 (by decide)).trans hn.symm))
                have e_71 : (sv μL2 111 61 ((μL2.1 111 61) - 1)).1 111 61 = (μL2.1 111 61) - 1 := (sv_s _ _ _ _)
                have hMZ_72 : MZ (sv μL2 111 61 ((μL2.1 111 61) - 1)) := MZ.bl1 hi_6 (n := n) (s := μ.1 132 (n - 1)) (((hi_5 47 (by decide)).trans hn.symm)) (by have h9 : μL2.1 132 (n - 1) = μ.1 132 (n - 1) := (FL3.1 132 (by decide) (n - 1)); exact h9) (by omega) (by have h9 : μL2.1 111 61 = μL2.1 111 61 := rfl; omega)
                have e_73 : (sv μL2 111 61 ((μL2.1 111 61) - 1)).1 111 82 = μ.1 111 82 := ((sv_n _ (by decide)).trans (hi_5 82 (by decide)))
                have e_74 : (sv μL2 111 61 ((μL2.1 111 61) - 1)).1 111 94 = μ.1 111 94 := ((sv_n _ (by decide)).trans (hi_5 94 (by decide)))
                refine xc_iV G (b := 111) (rest := []) (As := [.int (iv ((μL2.1 111 61) - 1)), .int (iv x3)]) (c_X12_opensTo ω l (sv μL2 111 61 ((μL2.1 111 61) - 1)) ((μL2.1 111 61) - 1) x3 n ((μL2.1 111 61) - 1) (by unfold ir; omega) (by unfold ir; omega) (by omega) (by omega) hMZ_72 (by omega) (by omega) (BK.fr (L := [111]) hbk (FrM.put FrM.rf (by decide)) (by decide) ((((sv_n _ (by decide)).trans (hi_5 4 (by decide)))).trans ((hi_5 4 (by decide))).symm) (by have h9 : (sv μL2 111 61 ((μL2.1 111 61) - 1)).1 111 82 = μ.1 111 82 := ((sv_n _ (by decide)).trans (hi_5 82 (by decide))); have h8 : μL2.1 111 82 = μ.1 111 82 := (hi_5 82 (by decide)); omega)) (by omega) (by omega) (by omega) (by rw [(show (sv μL2 111 61 ((μL2.1 111 61) - 1)).1 137 (μL2.1 111 61 - 1) = μ.1 137 (μL2.1 111 61 - 1) from ((sv_n _ (fun h9 => absurd h9.1 (by decide))).trans (FL3.1 137 (by decide) (μL2.1 111 61 - 1))))]; omega)) (wm 10 155 rfl rfl) (wm 10 157 rfl rfl) (wm 0 202 rfl rfl) rfl rfl (by decide) rfl (wm 1 18 rfl rfl) (wm 10 158 rfl rfl) (by decide) hR ⟨nfr hF (by decide), nlo hLo (by decide)⟩ (n := 2) rfl rfl (Nat.le_of_ble_eq_true rfl) hl.1 dX12_unwinds_193 (fun r_76 μ75 ρ d0 H locs hr_r_76 hp G => ?_)
                have hr_r_76 : -2147483648 ≤ r_76 ∧ r_76 ≤ 2147483647 := hr_r_76
                obtain ⟨F_77, hp_78, hp_79, hp_80⟩ := hp
                refine xb_ti (y := 1) hp_80 ?_
                refine xb_if_eq (tgt := 200) hx hb (x := 1) (by unfold ir; omega) dX12_unwinds_196 (by decide) (fun c_196 => absurd c_196 (by decide)) (fun c_196 => ?_)
                exact xr_v G hret hlk dX12_unwinds_199 ⟨(FrM.tr (FrM.put (FrM.tr FrM.rf FL3 (by decide)) (by decide)) F_77 (by decide)), (fun j hj => ((hp_78 j (fun h9 => hj ((by decide : ∀ x ∈ ([53] : List Int), x ∈ ([47, 53, 61, 81, 82, 83, 84, 90, 91, 93, 94, 95, 96, 97, 98, 99] : List Int)) j h9))).trans ((sv_n _ (fun h9 => hj (by rw [h9.2]; decide))).trans (hi_5 j (fun h9 => hj ((by decide : ∀ x ∈ ([53, 61, 81] : List Int), x ∈ ([47, 53, 61, 81, 82, 83, 84, 90, 91, 93, 94, 95, 96, 97, 98, 99] : List Int)) j h9)))))), (hp_79.le (by omega))⟩
          · refine lv_aload_n hx hb dX12_unwinds_146 rfl (lv_at hl 3 rfl) ?_
            refine lv_iload hx hb dX12_unwinds_147 (lv_at hl 0 rfl) ?_
            refine lv_lload hx hb dX12_unwinds_149 (lv_at hl 1 rfl) ?_
            refine xb_l2i hx hb dX12_unwinds_151 ?_
            refine xb_topi (fun y_81 hr_y_81 he_y_81 => ?_)
            have hr_y_81 : -2147483648 ≤ y_81 ∧ y_81 ≤ 2147483647 := hr_y_81
            have hli_y_81 : ir x3 → y_81 = x3 := fun h9 => (iv_eq hr_y_81 h9).mp he_y_81
            unfold ir at hli_y_81
            refine xb_ti (y := x3) (hli_y_81 (by have h9 := hg3_ (by omega); omega)) ?_
            have hr_82 : -2147483648 ≤ x3 ∧ x3 ≤ 2147483647 := by have h9 := hg3_ (by omega); omega
            have e_83 : (sv μL2 111 61 ((μL2.1 111 61) - 1)).1 111 61 = (μL2.1 111 61) - 1 := (sv_s _ _ _ _)
            have hrd_84 := RX.d1 (μ := μL2) (ν := (sv μL2 111 61 ((μL2.1 111 61) - 1))) (k := (μL2.1 111 61 - 1)) (fun j _ => (sv_n _ (by omega))) ((((sv_n _ (by decide)).trans ((hi_5 47 (by decide)).trans hn.symm))).trans (((hi_5 47 (by decide)).trans hn.symm)).symm) ((((sv_n _ (by decide)).trans (hi_5 83 (by decide)))).trans ((hi_5 83 (by decide))).symm) (by omega) (by omega) (by omega) (by omega)
            have h270_ := (hbk.2.2.2.1 (by omega)).1
            have hg2_ := hg2 (by omega)
            have hq27 : μL2.1 127 (n - 1) = μ.1 127 (n - 1) := (FL3.1 127 (by decide) (n - 1))
            have e_85 : (sv μL2 111 61 ((μL2.1 111 61) - 1)).1 111 94 = μ.1 111 94 := ((sv_n _ (by decide)).trans (hi_5 94 (by decide)))
            have e_86 : (sv μL2 111 61 ((μL2.1 111 61) - 1)).1 111 47 = n := ((sv_n _ (by decide)).trans ((hi_5 47 (by decide)).trans hn.symm))
            have e_87 : (sv μL2 111 61 ((μL2.1 111 61) - 1)).1 111 61 = (μL2.1 111 61) - 1 := (sv_s _ _ _ _)
            have hMZ_88 : MZ (sv μL2 111 61 ((μL2.1 111 61) - 1)) := MZ.bl1 hi_6 (n := n) (s := μ.1 132 (n - 1)) (((hi_5 47 (by decide)).trans hn.symm)) (by have h9 : μL2.1 132 (n - 1) = μ.1 132 (n - 1) := (FL3.1 132 (by decide) (n - 1)); exact h9) (by omega) (by have h9 : μL2.1 111 61 = μL2.1 111 61 := rfl; omega)
            have e_89 : (sv μL2 111 61 ((μL2.1 111 61) - 1)).1 111 82 = μ.1 111 82 := ((sv_n _ (by decide)).trans (hi_5 82 (by decide)))
            have e_90 : (sv μL2 111 61 ((μL2.1 111 61) - 1)).1 111 94 = μ.1 111 94 := ((sv_n _ (by decide)).trans (hi_5 94 (by decide)))
            refine xc_iV G (b := 111) (rest := []) (As := [.int (iv ((μL2.1 111 61) - 1)), .int (iv x3)]) (c_X12_catches ω l (sv μL2 111 61 ((μL2.1 111 61) - 1)) ((μL2.1 111 61) - 1) x3 n ((μL2.1 111 61) - 1) (by unfold ir; omega) (by unfold ir; omega) (by omega) (by omega) hMZ_88 (by omega) (by omega) (BK.fr (L := [111]) hbk (FrM.put FrM.rf (by decide)) (by decide) ((((sv_n _ (by decide)).trans (hi_5 4 (by decide)))).trans ((hi_5 4 (by decide))).symm) (by have h9 : (sv μL2 111 61 ((μL2.1 111 61) - 1)).1 111 82 = μ.1 111 82 := ((sv_n _ (by decide)).trans (hi_5 82 (by decide))); have h8 : μL2.1 111 82 = μ.1 111 82 := (hi_5 82 (by decide)); omega)) (by omega) (by omega) (by omega) (by rw [(show (sv μL2 111 61 ((μL2.1 111 61) - 1)).1 137 (μL2.1 111 61 - 1) = μ.1 137 (μL2.1 111 61 - 1) from ((sv_n _ (fun h9 => absurd h9.1 (by decide))).trans (FL3.1 137 (by decide) (μL2.1 111 61 - 1))))]; omega) (by rw [(show (sv μL2 111 61 ((μL2.1 111 61) - 1)).1 149 x3 = μ.1 149 x3 from ((sv_n _ (fun h9 => absurd h9.1 (by decide))).trans (FL3.1 149 (by decide) x3)))]; omega)) (wm 10 147 rfl rfl) (wm 10 149 rfl rfl) (wm 0 200 rfl rfl) rfl rfl (by decide) rfl (wm 1 18 rfl rfl) (wm 10 150 rfl rfl) (by decide) hR ⟨nfr hF (by decide), nlo hLo (by decide)⟩ (n := 2) rfl rfl (Nat.le_of_ble_eq_true rfl) hl.1 dX12_unwinds_152 (fun r_92 μ91 ρ d0 H locs hr_r_92 hp G => ?_)
            have hr_r_92 : -2147483648 ≤ r_92 ∧ r_92 ≤ 2147483647 := hr_r_92
            obtain ⟨F_93, hp_94, hp_95, hp_96, hp_97⟩ := hp
            replace hp_97 := fun _ : Unit => hp_97
            refine xb_if_ne (tgt := 199) hx hb (by unfold ir; omega) dX12_unwinds_155 (by decide) (fun c_155 => ?_) (fun c_155 => ?_)
            · exact xr_v G hret hlk dX12_unwinds_199 ⟨(FrM.tr (FrM.put (FrM.tr FrM.rf FL3 (by decide)) (by decide)) F_93 (by decide)), (fun j hj => ((hp_94 j (fun h9 => hj ((by decide : ∀ x ∈ ([53] : List Int), x ∈ ([47, 53, 61, 81, 82, 83, 84, 90, 91, 93, 94, 95, 96, 97, 98, 99] : List Int)) j h9))).trans ((sv_n _ (fun h9 => hj (by rw [h9.2]; decide))).trans (hi_5 j (fun h9 => hj ((by decide : ∀ x ∈ ([53, 61, 81] : List Int), x ∈ ([47, 53, 61, 81, 82, 83, 84, 90, 91, 93, 94, 95, 96, 97, 98, 99] : List Int)) j h9)))))), ((hp_97 () (by omega)).le (by omega))⟩
            · refine lv_aload_n hx hb dX12_unwinds_158 rfl (lv_at hl 3 rfl) ?_
              refine xa_getr G fd_X12 (a := 111) (x := 137) 54 rfl (by decide) rfl (wm 7 203 rfl rfl) ⟨rfl, rfl, rfl⟩ dX12_unwinds_159 rfl (G.sk 135 rfl) (by decide) rfl ?_
              refine lv_iload hx hb dX12_unwinds_162 (lv_at hl 0 rfl) ?_
              refine xa_iald G (a := 137) (i := (μL2.1 111 61) - 1) rfl (by have h9 := G.lc (a := 137) (n := 900) 75 rfl; omega) dX12_unwinds_164 rfl ?_
              refine xb_ti (y := μ.1 137 (μL2.1 111 61 - 1)) ((F_93.1 137 (by decide) (μL2.1 111 61 - 1)).trans ((sv_n _ (fun h9 => absurd h9.1 (by decide))).trans (FL3.1 137 (by decide) (μL2.1 111 61 - 1)))) ?_
              refine lv_iconst (v := iv 4) hx hb dX12_unwinds_165 rfl ?_
              refine xb_icmp_ne (tgt := 200) hx hb (by unfold ir; omega) (by unfold ir; omega) dX12_unwinds_166 (by decide) (fun c_166 => ?_) (fun c_166 => absurd c_166 (by omega))
              refine lv_goto (tgt := 11) hx hb dX12_unwinds_200 (by decide) ?_
              have e_98 : μ91.1 111 61 = (μL2.1 111 61) - 1 := ((hp_94 61 (by decide)).trans (sv_s _ _ _ _))
              have e_99 : μ91.1 111 61 = (μL2.1 111 61) - 1 := ((hp_94 61 (by decide)).trans (sv_s _ _ _ _))
              have e_100 : μ91.1 111 61 = (μL2.1 111 61) - 1 := ((hp_94 61 (by decide)).trans (sv_s _ _ _ _))
              exact ih _ _ _ _ _ _ _ (by omega) ⟨(FrM.tr (FrM.put FL3 (by decide)) F_93 (by decide)), (fun j hj => ((hp_94 j (fun h9 => hj ((by decide : ∀ x ∈ ([53] : List Int), x ∈ ([53, 61, 81] : List Int)) j h9))).trans ((sv_n _ (fun h9 => hj (by rw [h9.2]; decide))).trans (hi_5 j (fun h9 => hj ((by decide : ∀ x ∈ ([53, 61, 81] : List Int), x ∈ ([53, 61, 81] : List Int)) j h9)))))), hp_95, (Int.le_trans (RX.dn (fun j _ => ((F_93.1 137 (by decide) j).trans (sv_n _ (by omega)))) ((((hp_94 47 (by decide)).trans ((sv_n _ (by decide)).trans ((hi_5 47 (by decide)).trans hn.symm)))).trans (((hi_5 47 (by decide)).trans hn.symm)).symm) ((((hp_94 83 (by decide)).trans ((sv_n _ (by decide)).trans (hi_5 83 (by decide))))).trans ((hi_5 83 (by decide))).symm) (by omega)) hi_7), (by omega), rfl, lv_sub hl [1, 2, 3, 4, 5, 6] rfl⟩ G
      · refine lv_aload_n hx hb dX12_unwinds_121 rfl (lv_at hl 3 rfl) ?_
        refine lv_iload_n hx hb dX12_unwinds_122 rfl (lv_at hl 4 rfl) ?_
        refine lv_iload_n hx hb dX12_unwinds_123 rfl (lv_at hl 5 rfl) ?_
        refine lv_lload hx hb dX12_unwinds_124 (lv_at hl 1 rfl) ?_
        refine lv_iload hx hb dX12_unwinds_126 (lv_at hl 0 rfl) ?_
        have e_101 : (sv μL2 111 61 ((μL2.1 111 61) - 1)).1 111 81 = μL2.1 111 81 := (sv_n _ (by decide))
        have hMZ_102 : MZ (sv μL2 111 61 ((μL2.1 111 61) - 1)) := MZ.bl1 hi_6 (n := n) (s := μ.1 132 (n - 1)) (((hi_5 47 (by decide)).trans hn.symm)) (by have h9 : μL2.1 132 (n - 1) = μ.1 132 (n - 1) := (FL3.1 132 (by decide) (n - 1)); exact h9) (by omega) (by have h9 : μL2.1 111 61 = μL2.1 111 61 := rfl; omega)
        have e_103 : (sv μL2 111 61 ((μL2.1 111 61) - 1)).1 111 61 = (μL2.1 111 61) - 1 := (sv_s _ _ _ _)
        have e_104 : (sv μL2 111 61 ((μL2.1 111 61) - 1)).1 111 83 = μ.1 111 83 := ((sv_n _ (by decide)).trans (hi_5 83 (by decide)))
        refine xc_vV G (b := 111) (rest := []) (As := [.int (iv x1), .int (iv x2), .long (jv x3), .int (iv ((μL2.1 111 61) - 1))]) (c_X12_lies ω l (sv μL2 111 61 ((μL2.1 111 61) - 1)) x1 x2 x3 ((μL2.1 111 61) - 1) (μL2.1 111 81) (by unfold ir; omega) (by unfold ir; omega) hx3 (by unfold ir; omega) (by omega) hMZ_102 (by omega) (fun h9 => by rw [(show (sv μL2 111 61 ((μL2.1 111 61) - 1)).1 111 82 = μ.1 111 82 from ((sv_n _ (by decide)).trans (hi_5 82 (by decide))))]; rcases hhow with h8 | h8; (exact (hv h8).2.2.2 (by omega)); (exact (hg2 h8).1)) (by rw [(show (sv μL2 111 61 ((μL2.1 111 61) - 1)).1 141 (μL2.1 111 61 - 1) = μ.1 141 (μL2.1 111 61 - 1) from ((sv_n _ (fun h9 => absurd h9.1 (by decide))).trans (FL3.1 141 (by decide) (μL2.1 111 61 - 1)))), (show (sv μL2 111 61 ((μL2.1 111 61) - 1)).1 142 (μL2.1 111 61 - 1) = μ.1 142 (μL2.1 111 61 - 1) from ((sv_n _ (fun h9 => absurd h9.1 (by decide))).trans (FL3.1 142 (by decide) (μL2.1 111 61 - 1)))), (show (sv μL2 111 61 ((μL2.1 111 61) - 1)).1 143 (μL2.1 111 61 - 1) = μ.1 143 (μL2.1 111 61 - 1) from ((sv_n _ (fun h9 => absurd h9.1 (by decide))).trans (FL3.1 143 (by decide) (μL2.1 111 61 - 1)))), (show (sv μL2 111 61 ((μL2.1 111 61) - 1)).1 111 82 = μ.1 111 82 from ((sv_n _ (by decide)).trans (hi_5 82 (by decide))))]; intro h9; have h8 := hpd () (by omega); rcases h9 with h9 | h9; (have h7 := h8.2.2 (by omega); omega); (have h7 := (h8.2.1 (by omega)).2.2.2 (by omega); omega)) (by omega)) (wm 10 143 rfl rfl) (wm 10 145 rfl rfl) (wm 0 199 rfl rfl) rfl rfl (by decide) rfl (wm 1 18 rfl rfl) (wm 10 146 rfl rfl) (by decide) hR ⟨nfr hF (by decide), nlo hLo (by decide)⟩ (n := 4) rfl rfl (Nat.le_of_ble_eq_true rfl) hl.1 dX12_unwinds_128 (fun μ105 ρ d0 H locs hp G => ?_)
        obtain ⟨F_106, hp_107, hp_108⟩ := hp
        refine lv_iload_n hx hb dX12_unwinds_131 rfl (lv_at hl 4 rfl) ?_
        refine lv_iconst (v := iv 2) hx hb dX12_unwinds_132 rfl ?_
        refine xb_icmp_ne (tgt := 200) hx hb (by unfold ir; omega) (by unfold ir; omega) dX12_unwinds_133 (by decide) (fun c_133 => ?_) (fun c_133 => ?_)
        · refine lv_goto (tgt := 11) hx hb dX12_unwinds_200 (by decide) ?_
          have e_109 : μ105.1 111 61 = (μL2.1 111 61) - 1 := ((hp_107 61 (by decide)).trans (sv_s _ _ _ _))
          have e_110 : μ105.1 111 61 = (μL2.1 111 61) - 1 := ((hp_107 61 (by decide)).trans (sv_s _ _ _ _))
          have e_111 : μ105.1 111 61 = (μL2.1 111 61) - 1 := ((hp_107 61 (by decide)).trans (sv_s _ _ _ _))
          exact ih _ _ _ _ _ _ _ (by omega) ⟨(FrM.tr (FrM.put FL3 (by decide)) F_106 (by decide)), (fun j hj => ((hp_107 j (fun h9 => hj ((by decide : ∀ x ∈ ([81] : List Int), x ∈ ([53, 61, 81] : List Int)) j h9))).trans ((sv_n _ (fun h9 => hj (by rw [h9.2]; decide))).trans (hi_5 j (fun h9 => hj ((by decide : ∀ x ∈ ([53, 61, 81] : List Int), x ∈ ([53, 61, 81] : List Int)) j h9)))))), hp_108, (Int.le_trans (RX.dn (fun j _ => ((F_106.1 137 (by decide) j).trans (sv_n _ (by omega)))) ((((hp_107 47 (by decide)).trans ((sv_n _ (by decide)).trans ((hi_5 47 (by decide)).trans hn.symm)))).trans (((hi_5 47 (by decide)).trans hn.symm)).symm) ((((hp_107 83 (by decide)).trans ((sv_n _ (by decide)).trans (hi_5 83 (by decide))))).trans ((hi_5 83 (by decide))).symm) (by omega)) hi_7), (by omega), rfl, lv_sub hl [1, 2, 3, 4, 5, 6] rfl⟩ G
        · refine lv_aload_n hx hb dX12_unwinds_136 rfl (lv_at hl 3 rfl) ?_
          refine xa_getr G fd_X12 (a := 111) (x := 137) 54 rfl (by decide) rfl (wm 7 203 rfl rfl) ⟨rfl, rfl, rfl⟩ dX12_unwinds_137 rfl (G.sk 135 rfl) (by decide) rfl ?_
          refine lv_iload hx hb dX12_unwinds_140 (lv_at hl 0 rfl) ?_
          refine xa_iald G (a := 137) (i := (μL2.1 111 61) - 1) rfl (by have h9 := G.lc (a := 137) (n := 900) 75 rfl; omega) dX12_unwinds_142 rfl ?_
          refine xb_ti (y := μ.1 137 (μL2.1 111 61 - 1)) ((F_106.1 137 (by decide) (μL2.1 111 61 - 1)).trans ((sv_n _ (fun h9 => absurd h9.1 (by decide))).trans (FL3.1 137 (by decide) (μL2.1 111 61 - 1)))) ?_
          refine xb_if_ne (tgt := 158) hx hb (by unfold ir; omega) dX12_unwinds_143 (by decide) (fun c_143 => ?_) (fun c_143 => ?_)
          · refine lv_aload_n hx hb dX12_unwinds_158 rfl (lv_at hl 3 rfl) ?_
            refine xa_getr G fd_X12 (a := 111) (x := 137) 54 rfl (by decide) rfl (wm 7 203 rfl rfl) ⟨rfl, rfl, rfl⟩ dX12_unwinds_159 rfl (G.sk 135 rfl) (by decide) rfl ?_
            refine lv_iload hx hb dX12_unwinds_162 (lv_at hl 0 rfl) ?_
            refine xa_iald G (a := 137) (i := (μL2.1 111 61) - 1) rfl (by have h9 := G.lc (a := 137) (n := 900) 75 rfl; omega) dX12_unwinds_164 rfl ?_
            refine xb_ti (y := μ.1 137 (μL2.1 111 61 - 1)) ((F_106.1 137 (by decide) (μL2.1 111 61 - 1)).trans ((sv_n _ (fun h9 => absurd h9.1 (by decide))).trans (FL3.1 137 (by decide) (μL2.1 111 61 - 1)))) ?_
            refine lv_iconst (v := iv 4) hx hb dX12_unwinds_165 rfl ?_
            refine xb_icmp_ne (tgt := 200) hx hb (by unfold ir; omega) (by unfold ir; omega) dX12_unwinds_166 (by decide) (fun c_166 => ?_) (fun c_166 => ?_)
            · refine lv_goto (tgt := 11) hx hb dX12_unwinds_200 (by decide) ?_
              have e_112 : μ105.1 111 61 = (μL2.1 111 61) - 1 := ((hp_107 61 (by decide)).trans (sv_s _ _ _ _))
              have e_113 : μ105.1 111 61 = (μL2.1 111 61) - 1 := ((hp_107 61 (by decide)).trans (sv_s _ _ _ _))
              have e_114 : μ105.1 111 61 = (μL2.1 111 61) - 1 := ((hp_107 61 (by decide)).trans (sv_s _ _ _ _))
              exact ih _ _ _ _ _ _ _ (by omega) ⟨(FrM.tr (FrM.put FL3 (by decide)) F_106 (by decide)), (fun j hj => ((hp_107 j (fun h9 => hj ((by decide : ∀ x ∈ ([81] : List Int), x ∈ ([53, 61, 81] : List Int)) j h9))).trans ((sv_n _ (fun h9 => hj (by rw [h9.2]; decide))).trans (hi_5 j (fun h9 => hj ((by decide : ∀ x ∈ ([53, 61, 81] : List Int), x ∈ ([53, 61, 81] : List Int)) j h9)))))), hp_108, (Int.le_trans (RX.dn (fun j _ => ((F_106.1 137 (by decide) j).trans (sv_n _ (by omega)))) ((((hp_107 47 (by decide)).trans ((sv_n _ (by decide)).trans ((hi_5 47 (by decide)).trans hn.symm)))).trans (((hi_5 47 (by decide)).trans hn.symm)).symm) ((((hp_107 83 (by decide)).trans ((sv_n _ (by decide)).trans (hi_5 83 (by decide))))).trans ((hi_5 83 (by decide))).symm) (by omega)) hi_7), (by omega), rfl, lv_sub hl [1, 2, 3, 4, 5, 6] rfl⟩ G
            · refine lv_aload_n hx hb dX12_unwinds_169 rfl (lv_at hl 3 rfl) ?_
              refine xa_getr G fd_X12 (a := 111) (x := 139) 56 rfl (by decide) rfl (wm 7 205 rfl rfl) ⟨rfl, rfl, rfl⟩ dX12_unwinds_170 rfl (G.sk 137 rfl) (by decide) rfl ?_
              refine lv_iload hx hb dX12_unwinds_173 (lv_at hl 0 rfl) ?_
              refine xa_iald G (a := 139) (i := (μL2.1 111 61) - 1) rfl (by have h9 := G.lc (a := 139) (n := 900) 77 rfl; omega) dX12_unwinds_175 rfl ?_
              refine xb_ti (y := μ.1 139 (μL2.1 111 61 - 1)) ((F_106.1 139 (by decide) (μL2.1 111 61 - 1)).trans ((sv_n _ (fun h9 => absurd h9.1 (by decide))).trans (FL3.1 139 (by decide) (μL2.1 111 61 - 1)))) ?_
              have hr_115 : -2147483648 ≤ μ.1 139 (μL2.1 111 61 - 1) ∧ μ.1 139 (μL2.1 111 61 - 1) ≤ 2147483647 := by have h9 := G.hr (a := 139) (k := (μL2.1 111 61) - 1) rfl; rw [((F_106.1 139 (by decide) (μL2.1 111 61 - 1)).trans ((sv_n _ (fun h9 => absurd h9.1 (by decide))).trans (FL3.1 139 (by decide) (μL2.1 111 61 - 1))))] at h9; exact h9
              refine lv_aload_n hx hb dX12_unwinds_176 rfl (lv_at hl 3 rfl) ?_
              refine xa_getr G fd_X12 (a := 111) (x := 150) 71 rfl (by decide) rfl (wm 7 220 rfl rfl) ⟨rfl, rfl, rfl⟩ dX12_unwinds_177 rfl (G.sk 148 rfl) (by decide) rfl ?_
              refine lv_lload hx hb dX12_unwinds_180 (lv_at hl 1 rfl) ?_
              refine xb_l2i hx hb dX12_unwinds_182 ?_
              refine xb_topi (fun y_116 hr_y_116 he_y_116 => ?_)
              have hr_y_116 : -2147483648 ≤ y_116 ∧ y_116 ≤ 2147483647 := hr_y_116
              have hli_y_116 : ir x3 → y_116 = x3 := fun h9 => (iv_eq hr_y_116 h9).mp he_y_116
              unfold ir at hli_y_116
              refine xb_ti (y := x3) (hli_y_116 (by have h9 := hg3_ (by omega); omega)) ?_
              have hr_117 : -2147483648 ≤ x3 ∧ x3 ≤ 2147483647 := by have h9 := hg3_ (by omega); omega
              refine xa_iald G (a := 150) (i := x3) rfl (by have h9 := G.lc (a := 150) (n := 12000) 88 rfl; omega) dX12_unwinds_183 rfl ?_
              refine xb_ti (y := μ.1 150 x3) ((F_106.1 150 (by decide) x3).trans ((sv_n _ (fun h9 => absurd h9.1 (by decide))).trans (FL3.1 150 (by decide) x3))) ?_
              have hr_118 : -2147483648 ≤ μ.1 150 x3 ∧ μ.1 150 x3 ≤ 2147483647 := by have h9 := G.hr (a := 150) (k := x3) rfl; rw [((F_106.1 150 (by decide) x3).trans ((sv_n _ (fun h9 => absurd h9.1 (by decide))).trans (FL3.1 150 (by decide) x3)))] at h9; exact h9
              refine xb_icmp_ne (tgt := 200) hx hb (by unfold ir; omega) (by unfold ir; omega) dX12_unwinds_184 (by decide) (fun c_184 => ?_) (fun c_184 => ?_)
              · refine lv_goto (tgt := 11) hx hb dX12_unwinds_200 (by decide) ?_
                have e_119 : μ105.1 111 61 = (μL2.1 111 61) - 1 := ((hp_107 61 (by decide)).trans (sv_s _ _ _ _))
                have e_120 : μ105.1 111 61 = (μL2.1 111 61) - 1 := ((hp_107 61 (by decide)).trans (sv_s _ _ _ _))
                have e_121 : μ105.1 111 61 = (μL2.1 111 61) - 1 := ((hp_107 61 (by decide)).trans (sv_s _ _ _ _))
                exact ih _ _ _ _ _ _ _ (by omega) ⟨(FrM.tr (FrM.put FL3 (by decide)) F_106 (by decide)), (fun j hj => ((hp_107 j (fun h9 => hj ((by decide : ∀ x ∈ ([81] : List Int), x ∈ ([53, 61, 81] : List Int)) j h9))).trans ((sv_n _ (fun h9 => hj (by rw [h9.2]; decide))).trans (hi_5 j (fun h9 => hj ((by decide : ∀ x ∈ ([53, 61, 81] : List Int), x ∈ ([53, 61, 81] : List Int)) j h9)))))), hp_108, (Int.le_trans (RX.dn (fun j _ => ((F_106.1 137 (by decide) j).trans (sv_n _ (by omega)))) ((((hp_107 47 (by decide)).trans ((sv_n _ (by decide)).trans ((hi_5 47 (by decide)).trans hn.symm)))).trans (((hi_5 47 (by decide)).trans hn.symm)).symm) ((((hp_107 83 (by decide)).trans ((sv_n _ (by decide)).trans (hi_5 83 (by decide))))).trans ((hi_5 83 (by decide))).symm) (by omega)) hi_7), (by omega), rfl, lv_sub hl [1, 2, 3, 4, 5, 6] rfl⟩ G
              · refine lv_aload_n hx hb dX12_unwinds_187 rfl (lv_at hl 3 rfl) ?_
                refine lv_iload hx hb dX12_unwinds_188 (lv_at hl 0 rfl) ?_
                refine lv_lload hx hb dX12_unwinds_190 (lv_at hl 1 rfl) ?_
                refine xb_l2i hx hb dX12_unwinds_192 ?_
                refine xb_topi (fun y_122 hr_y_122 he_y_122 => ?_)
                have hr_y_122 : -2147483648 ≤ y_122 ∧ y_122 ≤ 2147483647 := hr_y_122
                have hli_y_122 : ir x3 → y_122 = x3 := fun h9 => (iv_eq hr_y_122 h9).mp he_y_122
                unfold ir at hli_y_122
                refine xb_ti (y := x3) (hli_y_122 (by have h9 := hg3_ (by omega); omega)) ?_
                have e_123 : μ105.1 111 61 = (μL2.1 111 61) - 1 := ((hp_107 61 (by decide)).trans (sv_s _ _ _ _))
                have hrd_124 := RX.d1 (μ := μL2) (ν := μ105) (k := (μL2.1 111 61 - 1)) (fun j _ => ((F_106.1 137 (by decide) j).trans (sv_n _ (by omega)))) ((((hp_107 47 (by decide)).trans ((sv_n _ (by decide)).trans ((hi_5 47 (by decide)).trans hn.symm)))).trans (((hi_5 47 (by decide)).trans hn.symm)).symm) ((((hp_107 83 (by decide)).trans ((sv_n _ (by decide)).trans (hi_5 83 (by decide))))).trans ((hi_5 83 (by decide))).symm) (by omega) (by omega) (by omega) (by omega)
                have hg2_ := hg2 (by omega)
                have e_125 : μ105.1 111 94 = μ.1 111 94 := ((hp_107 94 (by decide)).trans ((sv_n _ (by decide)).trans (hi_5 94 (by decide))))
                have e_126 : μ105.1 111 47 = n := ((hp_107 47 (by decide)).trans ((sv_n _ (by decide)).trans ((hi_5 47 (by decide)).trans hn.symm)))
                have e_127 : μ105.1 111 61 = (μL2.1 111 61) - 1 := ((hp_107 61 (by decide)).trans (sv_s _ _ _ _))
                have e_128 : μ105.1 111 82 = μ.1 111 82 := ((hp_107 82 (by decide)).trans ((sv_n _ (by decide)).trans (hi_5 82 (by decide))))
                have e_129 : μ105.1 111 94 = μ.1 111 94 := ((hp_107 94 (by decide)).trans ((sv_n _ (by decide)).trans (hi_5 94 (by decide))))
                refine xc_iV G (b := 111) (rest := []) (As := [.int (iv ((μL2.1 111 61) - 1)), .int (iv x3)]) (c_X12_opensTo ω l μ105 ((μL2.1 111 61) - 1) x3 n ((μL2.1 111 61) - 1) (by unfold ir; omega) (by unfold ir; omega) (by omega) (by omega) hp_108 (by omega) (by omega) (BK.fr (L := [111, 157, 158, 159]) hbk (FrM.tr (FrM.put FrM.rf (by decide)) F_106 (by decide)) (by decide) ((((hp_107 4 (by decide)).trans ((sv_n _ (by decide)).trans (hi_5 4 (by decide))))).trans ((hi_5 4 (by decide))).symm) (by have h9 : μ105.1 111 82 = μ.1 111 82 := ((hp_107 82 (by decide)).trans ((sv_n _ (by decide)).trans (hi_5 82 (by decide)))); have h8 : μL2.1 111 82 = μ.1 111 82 := (hi_5 82 (by decide)); omega)) (by omega) (by omega) (by omega) (by rw [(show μ105.1 137 (μL2.1 111 61 - 1) = μ.1 137 (μL2.1 111 61 - 1) from ((F_106.1 137 (by decide) (μL2.1 111 61 - 1)).trans ((sv_n _ (fun h9 => absurd h9.1 (by decide))).trans (FL3.1 137 (by decide) (μL2.1 111 61 - 1)))))]; omega)) (wm 10 155 rfl rfl) (wm 10 157 rfl rfl) (wm 0 202 rfl rfl) rfl rfl (by decide) rfl (wm 1 18 rfl rfl) (wm 10 158 rfl rfl) (by decide) hR ⟨nfr hF (by decide), nlo hLo (by decide)⟩ (n := 2) rfl rfl (Nat.le_of_ble_eq_true rfl) hl.1 dX12_unwinds_193 (fun r_131 μ130 ρ d0 H locs hr_r_131 hp G => ?_)
                have hr_r_131 : -2147483648 ≤ r_131 ∧ r_131 ≤ 2147483647 := hr_r_131
                obtain ⟨F_132, hp_133, hp_134, hp_135⟩ := hp
                refine xb_ti (y := 1) hp_135 ?_
                refine xb_if_eq (tgt := 200) hx hb (x := 1) (by unfold ir; omega) dX12_unwinds_196 (by decide) (fun c_196 => absurd c_196 (by decide)) (fun c_196 => ?_)
                exact xr_v G hret hlk dX12_unwinds_199 ⟨(FrM.tr (FrM.tr (FrM.put (FrM.tr FrM.rf FL3 (by decide)) (by decide)) F_106 (by decide)) F_132 (by decide)), (fun j hj => ((hp_133 j (fun h9 => hj ((by decide : ∀ x ∈ ([53] : List Int), x ∈ ([47, 53, 61, 81, 82, 83, 84, 90, 91, 93, 94, 95, 96, 97, 98, 99] : List Int)) j h9))).trans ((hp_107 j (fun h9 => hj ((by decide : ∀ x ∈ ([81] : List Int), x ∈ ([47, 53, 61, 81, 82, 83, 84, 90, 91, 93, 94, 95, 96, 97, 98, 99] : List Int)) j h9))).trans ((sv_n _ (fun h9 => hj (by rw [h9.2]; decide))).trans (hi_5 j (fun h9 => hj ((by decide : ∀ x ∈ ([53, 61, 81] : List Int), x ∈ ([47, 53, 61, 81, 82, 83, 84, 90, 91, 93, 94, 95, 96, 97, 98, 99] : List Int)) j h9))))))), (hp_134.le (by omega))⟩
          · refine lv_aload_n hx hb dX12_unwinds_146 rfl (lv_at hl 3 rfl) ?_
            refine lv_iload hx hb dX12_unwinds_147 (lv_at hl 0 rfl) ?_
            refine lv_lload hx hb dX12_unwinds_149 (lv_at hl 1 rfl) ?_
            refine xb_l2i hx hb dX12_unwinds_151 ?_
            refine xb_topi (fun y_136 hr_y_136 he_y_136 => ?_)
            have hr_y_136 : -2147483648 ≤ y_136 ∧ y_136 ≤ 2147483647 := hr_y_136
            have hli_y_136 : ir x3 → y_136 = x3 := fun h9 => (iv_eq hr_y_136 h9).mp he_y_136
            unfold ir at hli_y_136
            refine xb_ti (y := x3) (hli_y_136 (by have h9 := hg3_ (by omega); omega)) ?_
            have hr_137 : -2147483648 ≤ x3 ∧ x3 ≤ 2147483647 := by have h9 := hg3_ (by omega); omega
            have e_138 : μ105.1 111 61 = (μL2.1 111 61) - 1 := ((hp_107 61 (by decide)).trans (sv_s _ _ _ _))
            have hrd_139 := RX.d1 (μ := μL2) (ν := μ105) (k := (μL2.1 111 61 - 1)) (fun j _ => ((F_106.1 137 (by decide) j).trans (sv_n _ (by omega)))) ((((hp_107 47 (by decide)).trans ((sv_n _ (by decide)).trans ((hi_5 47 (by decide)).trans hn.symm)))).trans (((hi_5 47 (by decide)).trans hn.symm)).symm) ((((hp_107 83 (by decide)).trans ((sv_n _ (by decide)).trans (hi_5 83 (by decide))))).trans ((hi_5 83 (by decide))).symm) (by omega) (by omega) (by omega) (by omega)
            have h270_ := (hbk.2.2.2.1 (by omega)).1
            have hg2_ := hg2 (by omega)
            have hq27 : μL2.1 127 (n - 1) = μ.1 127 (n - 1) := (FL3.1 127 (by decide) (n - 1))
            have e_140 : μ105.1 111 94 = μ.1 111 94 := ((hp_107 94 (by decide)).trans ((sv_n _ (by decide)).trans (hi_5 94 (by decide))))
            have e_141 : μ105.1 111 47 = n := ((hp_107 47 (by decide)).trans ((sv_n _ (by decide)).trans ((hi_5 47 (by decide)).trans hn.symm)))
            have e_142 : μ105.1 111 61 = (μL2.1 111 61) - 1 := ((hp_107 61 (by decide)).trans (sv_s _ _ _ _))
            have e_143 : μ105.1 111 82 = μ.1 111 82 := ((hp_107 82 (by decide)).trans ((sv_n _ (by decide)).trans (hi_5 82 (by decide))))
            have e_144 : μ105.1 111 94 = μ.1 111 94 := ((hp_107 94 (by decide)).trans ((sv_n _ (by decide)).trans (hi_5 94 (by decide))))
            refine xc_iV G (b := 111) (rest := []) (As := [.int (iv ((μL2.1 111 61) - 1)), .int (iv x3)]) (c_X12_catches ω l μ105 ((μL2.1 111 61) - 1) x3 n ((μL2.1 111 61) - 1) (by unfold ir; omega) (by unfold ir; omega) (by omega) (by omega) hp_108 (by omega) (by omega) (BK.fr (L := [111, 157, 158, 159]) hbk (FrM.tr (FrM.put FrM.rf (by decide)) F_106 (by decide)) (by decide) ((((hp_107 4 (by decide)).trans ((sv_n _ (by decide)).trans (hi_5 4 (by decide))))).trans ((hi_5 4 (by decide))).symm) (by have h9 : μ105.1 111 82 = μ.1 111 82 := ((hp_107 82 (by decide)).trans ((sv_n _ (by decide)).trans (hi_5 82 (by decide)))); have h8 : μL2.1 111 82 = μ.1 111 82 := (hi_5 82 (by decide)); omega)) (by omega) (by omega) (by omega) (by rw [(show μ105.1 137 (μL2.1 111 61 - 1) = μ.1 137 (μL2.1 111 61 - 1) from ((F_106.1 137 (by decide) (μL2.1 111 61 - 1)).trans ((sv_n _ (fun h9 => absurd h9.1 (by decide))).trans (FL3.1 137 (by decide) (μL2.1 111 61 - 1)))))]; omega) (by rw [(show μ105.1 149 x3 = μ.1 149 x3 from ((F_106.1 149 (by decide) x3).trans ((sv_n _ (fun h9 => absurd h9.1 (by decide))).trans (FL3.1 149 (by decide) x3))))]; omega)) (wm 10 147 rfl rfl) (wm 10 149 rfl rfl) (wm 0 200 rfl rfl) rfl rfl (by decide) rfl (wm 1 18 rfl rfl) (wm 10 150 rfl rfl) (by decide) hR ⟨nfr hF (by decide), nlo hLo (by decide)⟩ (n := 2) rfl rfl (Nat.le_of_ble_eq_true rfl) hl.1 dX12_unwinds_152 (fun r_146 μ145 ρ d0 H locs hr_r_146 hp G => ?_)
            have hr_r_146 : -2147483648 ≤ r_146 ∧ r_146 ≤ 2147483647 := hr_r_146
            obtain ⟨F_147, hp_148, hp_149, hp_150, hp_151⟩ := hp
            replace hp_151 := fun _ : Unit => hp_151
            refine xb_if_ne (tgt := 199) hx hb (by unfold ir; omega) dX12_unwinds_155 (by decide) (fun c_155 => ?_) (fun c_155 => ?_)
            · exact xr_v G hret hlk dX12_unwinds_199 ⟨(FrM.tr (FrM.tr (FrM.put (FrM.tr FrM.rf FL3 (by decide)) (by decide)) F_106 (by decide)) F_147 (by decide)), (fun j hj => ((hp_148 j (fun h9 => hj ((by decide : ∀ x ∈ ([53] : List Int), x ∈ ([47, 53, 61, 81, 82, 83, 84, 90, 91, 93, 94, 95, 96, 97, 98, 99] : List Int)) j h9))).trans ((hp_107 j (fun h9 => hj ((by decide : ∀ x ∈ ([81] : List Int), x ∈ ([47, 53, 61, 81, 82, 83, 84, 90, 91, 93, 94, 95, 96, 97, 98, 99] : List Int)) j h9))).trans ((sv_n _ (fun h9 => hj (by rw [h9.2]; decide))).trans (hi_5 j (fun h9 => hj ((by decide : ∀ x ∈ ([53, 61, 81] : List Int), x ∈ ([47, 53, 61, 81, 82, 83, 84, 90, 91, 93, 94, 95, 96, 97, 98, 99] : List Int)) j h9))))))), ((hp_151 () (by omega)).le (by omega))⟩
            · refine lv_aload_n hx hb dX12_unwinds_158 rfl (lv_at hl 3 rfl) ?_
              refine xa_getr G fd_X12 (a := 111) (x := 137) 54 rfl (by decide) rfl (wm 7 203 rfl rfl) ⟨rfl, rfl, rfl⟩ dX12_unwinds_159 rfl (G.sk 135 rfl) (by decide) rfl ?_
              refine lv_iload hx hb dX12_unwinds_162 (lv_at hl 0 rfl) ?_
              refine xa_iald G (a := 137) (i := (μL2.1 111 61) - 1) rfl (by have h9 := G.lc (a := 137) (n := 900) 75 rfl; omega) dX12_unwinds_164 rfl ?_
              refine xb_ti (y := μ.1 137 (μL2.1 111 61 - 1)) ((F_147.1 137 (by decide) (μL2.1 111 61 - 1)).trans ((F_106.1 137 (by decide) (μL2.1 111 61 - 1)).trans ((sv_n _ (fun h9 => absurd h9.1 (by decide))).trans (FL3.1 137 (by decide) (μL2.1 111 61 - 1))))) ?_
              refine lv_iconst (v := iv 4) hx hb dX12_unwinds_165 rfl ?_
              refine xb_icmp_ne (tgt := 200) hx hb (by unfold ir; omega) (by unfold ir; omega) dX12_unwinds_166 (by decide) (fun c_166 => ?_) (fun c_166 => absurd c_166 (by omega))
              refine lv_goto (tgt := 11) hx hb dX12_unwinds_200 (by decide) ?_
              have e_152 : μ145.1 111 61 = (μL2.1 111 61) - 1 := ((hp_148 61 (by decide)).trans ((hp_107 61 (by decide)).trans (sv_s _ _ _ _)))
              have e_153 : μ145.1 111 61 = (μL2.1 111 61) - 1 := ((hp_148 61 (by decide)).trans ((hp_107 61 (by decide)).trans (sv_s _ _ _ _)))
              have e_154 : μ145.1 111 61 = (μL2.1 111 61) - 1 := ((hp_148 61 (by decide)).trans ((hp_107 61 (by decide)).trans (sv_s _ _ _ _)))
              exact ih _ _ _ _ _ _ _ (by omega) ⟨(FrM.tr (FrM.tr (FrM.put FL3 (by decide)) F_106 (by decide)) F_147 (by decide)), (fun j hj => ((hp_148 j (fun h9 => hj ((by decide : ∀ x ∈ ([53] : List Int), x ∈ ([53, 61, 81] : List Int)) j h9))).trans ((hp_107 j (fun h9 => hj ((by decide : ∀ x ∈ ([81] : List Int), x ∈ ([53, 61, 81] : List Int)) j h9))).trans ((sv_n _ (fun h9 => hj (by rw [h9.2]; decide))).trans (hi_5 j (fun h9 => hj ((by decide : ∀ x ∈ ([53, 61, 81] : List Int), x ∈ ([53, 61, 81] : List Int)) j h9))))))), hp_149, (Int.le_trans (RX.dn (fun j _ => ((F_147.1 137 (by decide) j).trans ((F_106.1 137 (by decide) j).trans (sv_n _ (by omega))))) ((((hp_148 47 (by decide)).trans ((hp_107 47 (by decide)).trans ((sv_n _ (by decide)).trans ((hi_5 47 (by decide)).trans hn.symm))))).trans (((hi_5 47 (by decide)).trans hn.symm)).symm) ((((hp_148 83 (by decide)).trans ((hp_107 83 (by decide)).trans ((sv_n _ (by decide)).trans (hi_5 83 (by decide)))))).trans ((hi_5 83 (by decide))).symm) (by omega)) hi_7), (by omega), rfl, lv_sub hl [1, 2, 3, 4, 5, 6] rfl⟩ G
    · refine lv_aload_n hx hb dX12_unwinds_52 rfl (lv_at hl 3 rfl) ?_
      refine lv_aload_n hx hb dX12_unwinds_53 rfl (lv_at hl 3 rfl) ?_
      refine xa_getr G fd_X12 (a := 111) (x := 140) 57 rfl (by decide) rfl (wm 7 206 rfl rfl) ⟨rfl, rfl, rfl⟩ dX12_unwinds_54 rfl (G.sk 138 rfl) (by decide) rfl ?_
      refine lv_iload hx hb dX12_unwinds_57 (lv_at hl 0 rfl) ?_
      refine xa_iald G (a := 140) (i := (μL2.1 111 61) - 1) rfl (by have h9 := G.lc (a := 140) (n := 900) 78 rfl; omega) dX12_unwinds_59 rfl ?_
      refine xb_ti (y := μ.1 140 (μL2.1 111 61 - 1)) ((sv_n _ (fun h9 => absurd h9.1 (by decide))).trans (FL3.1 140 (by decide) (μL2.1 111 61 - 1))) ?_
      have hr_155 : -2147483648 ≤ μ.1 140 (μL2.1 111 61 - 1) ∧ μ.1 140 (μL2.1 111 61 - 1) ≤ 2147483647 := by have h9 := G.hr (a := 140) (k := (μL2.1 111 61) - 1) rfl; rw [((sv_n _ (fun h9 => absurd h9.1 (by decide))).trans (FL3.1 140 (by decide) (μL2.1 111 61 - 1)))] at h9; exact h9
      refine xa_puti G fd_X12 (a := 111) (x := μ.1 140 (μL2.1 111 61 - 1)) 53 (kz := 53) rfl rfl (by decide) rfl (by unfold ir; omega) (wm 7 202 rfl rfl) ⟨rfl, rfl, rfl, rfl⟩ rfl dX12_unwinds_60 rfl (fun H locs G => ?_)
      refine lv_aload_n hx hb dX12_unwinds_63 rfl (lv_at hl 3 rfl) ?_
      refine xa_getr G fd_X12 (a := 111) (x := 129) 43 rfl (by decide) rfl (wm 7 192 rfl rfl) ⟨rfl, rfl, rfl⟩ dX12_unwinds_64 rfl (G.sk 127 rfl) (by decide) rfl ?_
      refine lv_iload hx hb dX12_unwinds_67 (lv_at hl 2 rfl) ?_
      refine lv_aload_n hx hb dX12_unwinds_69 rfl (lv_at hl 3 rfl) ?_
      refine xa_getr G fd_X12 (a := 111) (x := 138) 55 rfl (by decide) rfl (wm 7 204 rfl rfl) ⟨rfl, rfl, rfl⟩ dX12_unwinds_70 rfl (G.sk 136 rfl) (by decide) rfl ?_
      refine lv_iload hx hb dX12_unwinds_73 (lv_at hl 0 rfl) ?_
      refine xa_iald G (a := 138) (i := (μL2.1 111 61) - 1) rfl (by have h9 := G.lc (a := 138) (n := 900) 76 rfl; omega) dX12_unwinds_75 rfl ?_
      refine xb_ti (y := μ.1 138 (μL2.1 111 61 - 1)) ((sv_n _ (fun h9 => absurd h9.1 (by decide))).trans ((sv_n _ (fun h9 => absurd h9.1 (by decide))).trans (FL3.1 138 (by decide) (μL2.1 111 61 - 1)))) ?_
      have hr_156 : -2147483648 ≤ μ.1 138 (μL2.1 111 61 - 1) ∧ μ.1 138 (μL2.1 111 61 - 1) ≤ 2147483647 := by have h9 := G.hr (a := 138) (k := (μL2.1 111 61) - 1) rfl; rw [((sv_n _ (fun h9 => absurd h9.1 (by decide))).trans ((sv_n _ (fun h9 => absurd h9.1 (by decide))).trans (FL3.1 138 (by decide) (μL2.1 111 61 - 1))))] at h9; exact h9
      refine xa_iast G (a := 129) (i := n - 1) (x := μ.1 138 (μL2.1 111 61 - 1)) rfl (by have h9 := G.lc (a := 129) (n := 26) 67 rfl; omega) (by unfold ir; omega) dX12_unwinds_76 rfl (fun H locs G => ?_)
      refine lv_aload_n hx hb dX12_unwinds_77 rfl (lv_at hl 3 rfl) ?_
      refine lv_iconst (v := iv 2) hx hb dX12_unwinds_78 rfl ?_
      refine lv_iconst (v := iv 0) hx hb dX12_unwinds_79 rfl ?_
      refine lv_iconst (v := iv 0) hx hb dX12_unwinds_80 rfl ?_
      have e_157 : (sv (sv (sv μL2 111 61 ((μL2.1 111 61) - 1)) 111 53 (μ.1 140 (μL2.1 111 61 - 1))) 129 (n - 1) (μ.1 138 (μL2.1 111 61 - 1))).1 111 61 = (μL2.1 111 61) - 1 := ((sv_n _ (fun h9 => absurd h9.1 (by decide))).trans ((sv_n _ (by decide)).trans (sv_s _ _ _ _)))
      refine xc_vV G (b := 111) (rest := []) (As := [.int (iv 2), .int (iv 0), .int (iv 0)]) (c_X12_block_ ω l (sv (sv (sv μL2 111 61 ((μL2.1 111 61) - 1)) 111 53 (μ.1 140 (μL2.1 111 61 - 1))) 129 (n - 1) (μ.1 138 (μL2.1 111 61 - 1))) 2 0 0 ((μL2.1 111 61) - 1) (by unfold ir; omega) (by unfold ir; omega) (by unfold ir; omega) (by omega) (by omega)) (wm 10 139 rfl rfl) (wm 10 141 rfl rfl) (wm 0 198 rfl rfl) rfl rfl (by decide) rfl (wm 1 18 rfl rfl) (wm 10 142 rfl rfl) (by decide) hR ⟨nfr hF (by decide), nlo hLo (by decide)⟩ (n := 3) rfl rfl (Nat.le_of_ble_eq_true rfl) hl.1 dX12_unwinds_81 (fun μ158 ρ d0 H locs hp G => ?_)
      obtain ⟨F_159, hp_160, hs_161, hs_162, hs_163, hs_164, hs_165, hs_166, ha_167, ha_168, ha_169, ha_170, ha_171⟩ := hp
      refine lv_aload_n hx hb dX12_unwinds_84 rfl (lv_at hl 3 rfl) ?_
      refine xa_getr G fd_X12 (a := 111) (x := 141) 58 rfl (by decide) rfl (wm 7 207 rfl rfl) ⟨rfl, rfl, rfl⟩ dX12_unwinds_85 rfl (G.sk 139 rfl) (by decide) rfl ?_
      refine lv_iload hx hb dX12_unwinds_88 (lv_at hl 0 rfl) ?_
      refine lv_iload_n hx hb dX12_unwinds_90 rfl (lv_at hl 4 rfl) ?_
      refine xa_iast G (a := 141) (i := (μL2.1 111 61) - 1) (x := x1) rfl (by have h9 := G.lc (a := 141) (n := 900) 79 rfl; omega) (by unfold ir; omega) dX12_unwinds_91 rfl (fun H locs G => ?_)
      refine lv_aload_n hx hb dX12_unwinds_92 rfl (lv_at hl 3 rfl) ?_
      refine xa_getr G fd_X12 (a := 111) (x := 142) 59 rfl (by decide) rfl (wm 7 208 rfl rfl) ⟨rfl, rfl, rfl⟩ dX12_unwinds_93 rfl (G.sk 140 rfl) (by decide) rfl ?_
      refine lv_iload hx hb dX12_unwinds_96 (lv_at hl 0 rfl) ?_
      refine lv_iload_n hx hb dX12_unwinds_98 rfl (lv_at hl 5 rfl) ?_
      refine xa_iast G (a := 142) (i := (μL2.1 111 61) - 1) (x := x2) rfl (by have h9 := G.lc (a := 142) (n := 900) 80 rfl; omega) (by unfold ir; omega) dX12_unwinds_99 rfl (fun H locs G => ?_)
      refine lv_aload_n hx hb dX12_unwinds_100 rfl (lv_at hl 3 rfl) ?_
      refine xa_getr G fd_X12 (a := 111) (x := 143) 60 rfl (by decide) rfl (wm 7 209 rfl rfl) ⟨rfl, rfl, rfl⟩ dX12_unwinds_101 rfl (G.sk 141 rfl) (by decide) rfl ?_
      refine lv_iload hx hb dX12_unwinds_104 (lv_at hl 0 rfl) ?_
      refine lv_lload hx hb dX12_unwinds_106 (lv_at hl 1 rfl) ?_
      refine xa_last G (a := 143) (i := (μL2.1 111 61) - 1) (x := x3) rfl (by have h9 := G.lc (a := 143) (n := 900) 81 rfl; omega) hx3 dX12_unwinds_108 rfl (fun H locs G => ?_)
      exact xr_v G hret hlk dX12_unwinds_109 ⟨(FrM.put (FrM.put (FrM.put (FrM.tr (FrM.put (FrM.put (FrM.put (FrM.tr FrM.rf FL3 (by decide)) (by decide)) (by decide)) (by decide)) F_159 (by decide)) (by decide)) (by decide)) (by decide)), (fun j hj => ((sv_n _ (fun h9 => absurd h9.1 (by decide))).trans ((sv_n _ (fun h9 => absurd h9.1 (by decide))).trans ((sv_n _ (fun h9 => absurd h9.1 (by decide))).trans ((hp_160 j (fun h9 => hj ((by decide : ∀ x ∈ ([61] : List Int), x ∈ ([47, 53, 61, 81, 82, 83, 84, 90, 91, 93, 94, 95, 96, 97, 98, 99] : List Int)) j h9))).trans ((sv_n _ (fun h9 => absurd h9.1 (by decide))).trans ((sv_n _ (fun h9 => hj (by rw [h9.2]; decide))).trans ((sv_n _ (fun h9 => hj (by rw [h9.2]; decide))).trans (hi_5 j (fun h9 => hj ((by decide : ∀ x ∈ ([53, 61, 81] : List Int), x ∈ ([47, 53, 61, 81, 82, 83, 84, 90, 91, 93, 94, 95, 96, 97, 98, 99] : List Int)) j h9))))))))))), ((MZ.fin (n := n) (k := (μL2.1 111 61 - 1)) (how := x1) (kd := x2) (it := x3) hi_6 (by have h9 : μL2.1 111 47 = n := ((hi_5 47 (by decide)).trans hn.symm); omega) (by omega) (by omega) (by omega) (by omega) (Eqa.fr (L := [143, 142, 141, 111, 137, 138, 139, 140, 129]) (FrM.put (FrM.put (FrM.put (FrM.tr (FrM.put (FrM.put (FrM.put FrM.rf (by decide)) (by decide)) (by decide)) F_159 (by decide)) (by decide)) (by decide)) (by decide)) (by decide)) (Eqf.fd (L := [53, 61]) (fun j hj => ((sv_n _ (fun h9 => absurd h9.1 (by decide))).trans ((sv_n _ (fun h9 => absurd h9.1 (by decide))).trans ((sv_n _ (fun h9 => absurd h9.1 (by decide))).trans ((hp_160 j (fun h9 => hj ((by decide : ∀ x ∈ ([61] : List Int), x ∈ ([53, 61] : List Int)) j h9))).trans ((sv_n _ (fun h9 => absurd h9.1 (by decide))).trans ((sv_n _ (fun h9 => hj (by rw [h9.2]; decide))).trans (sv_n _ (fun h9 => hj (by rw [h9.2]; decide)))))))))) (by decide)) (fun j hj => ((sv_n _ (by omega)).trans ((sv_n _ (by omega)).trans ((sv_n _ (by omega)).trans ((F_159.1 129 (by decide) j).trans ((sv_n _ (by omega)).trans ((sv_n _ (by omega)).trans (sv_n _ (by omega))))))))) (by have h9 : (sv (sv (sv μ158 141 ((μL2.1 111 61) - 1) x1) 142 ((μL2.1 111 61) - 1) x2) 143 ((μL2.1 111 61) - 1) x3).1 129 (n - 1) = μ.1 138 (μL2.1 111 61 - 1) := ((sv_n _ (fun h9 => absurd h9.1 (by decide))).trans ((sv_n _ (fun h9 => absurd h9.1 (by decide))).trans ((sv_n _ (fun h9 => absurd h9.1 (by decide))).trans ((F_159.1 129 (by decide) (n - 1)).trans (sv_s _ _ _ _))))); omega) (by have h9 : (sv (sv (sv μ158 141 ((μL2.1 111 61) - 1) x1) 142 ((μL2.1 111 61) - 1) x2) 143 ((μL2.1 111 61) - 1) x3).1 111 61 = ((μL2.1 111 61) - 1) + 1 := ((sv_n _ (fun h9 => absurd h9.1 (by decide))).trans ((sv_n _ (fun h9 => absurd h9.1 (by decide))).trans ((sv_n _ (fun h9 => absurd h9.1 (by decide))).trans hs_161))); omega) (by have h9 : (sv (sv (sv μ158 141 ((μL2.1 111 61) - 1) x1) 142 ((μL2.1 111 61) - 1) x2) 143 ((μL2.1 111 61) - 1) x3).1 111 53 = μ.1 140 (μL2.1 111 61 - 1) := ((sv_n _ (fun h9 => absurd h9.1 (by decide))).trans ((sv_n _ (fun h9 => absurd h9.1 (by decide))).trans ((sv_n _ (fun h9 => absurd h9.1 (by decide))).trans ((hp_160 53 (by decide)).trans ((sv_n _ (fun h9 => absurd h9.1 (by decide))).trans (sv_s _ _ _ _)))))); omega) (fun a ha j hj => by simp only [List.mem_cons, List.not_mem_nil, or_false] at ha; rcases ha with rfl | rfl | rfl | rfl | rfl | rfl; exact ((sv_n _ (by omega)).trans ((sv_n _ (by omega)).trans ((sv_n _ (by omega)).trans ((ha_167 j (by omega)).trans ((sv_n _ (by omega)).trans ((sv_n _ (by omega)).trans (sv_n _ (by omega)))))))); exact ((sv_n _ (by omega)).trans ((sv_n _ (by omega)).trans ((sv_n _ (by omega)).trans ((ha_168 j (by omega)).trans ((sv_n _ (by omega)).trans ((sv_n _ (by omega)).trans (sv_n _ (by omega)))))))); exact ((sv_n _ (by omega)).trans ((sv_n _ (by omega)).trans ((sv_n _ (by omega)).trans ((ha_170 j (by omega)).trans ((sv_n _ (by omega)).trans ((sv_n _ (by omega)).trans (sv_n _ (by omega)))))))); exact ((sv_n _ (by omega)).trans ((sv_n _ (by omega)).trans ((sv_n _ (by omega)).trans ((ha_171 j (by omega)).trans ((sv_n _ (by omega)).trans ((sv_n _ (by omega)).trans (sv_n _ (by omega)))))))); exact ((sv_n _ (by omega)).trans ((sv_n _ (by omega)).trans ((sv_n _ (by omega)).trans ((F_159.1 142 (by decide) j).trans ((sv_n _ (by omega)).trans ((sv_n _ (by omega)).trans (sv_n _ (by omega)))))))); exact ((sv_n _ (by omega)).trans ((sv_n _ (by omega)).trans ((sv_n _ (by omega)).trans ((F_159.1 143 (by decide) j).trans ((sv_n _ (by omega)).trans ((sv_n _ (by omega)).trans (sv_n _ (by omega))))))))) (by have h9 : (sv (sv (sv μ158 141 ((μL2.1 111 61) - 1) x1) 142 ((μL2.1 111 61) - 1) x2) 143 ((μL2.1 111 61) - 1) x3).1 137 (μL2.1 111 61 - 1) = 2 := ((sv_n _ (fun h9 => absurd h9.1 (by decide))).trans ((sv_n _ (fun h9 => absurd h9.1 (by decide))).trans ((sv_n _ (fun h9 => absurd h9.1 (by decide))).trans hs_162))); omega) (by have h9 : (sv (sv (sv μ158 141 ((μL2.1 111 61) - 1) x1) 142 ((μL2.1 111 61) - 1) x2) 143 ((μL2.1 111 61) - 1) x3).1 140 (μL2.1 111 61 - 1) = (sv (sv (sv μL2 111 61 ((μL2.1 111 61) - 1)) 111 53 (μ.1 140 (μL2.1 111 61 - 1))) 129 (n - 1) (μ.1 138 (μL2.1 111 61 - 1))).1 111 53 := ((sv_n _ (fun h9 => absurd h9.1 (by decide))).trans ((sv_n _ (fun h9 => absurd h9.1 (by decide))).trans ((sv_n _ (fun h9 => absurd h9.1 (by decide))).trans hs_165))); have h8 : (sv (sv (sv μL2 111 61 ((μL2.1 111 61) - 1)) 111 53 (μ.1 140 (μL2.1 111 61 - 1))) 129 (n - 1) (μ.1 138 (μL2.1 111 61 - 1))).1 111 53 = μ.1 140 (μL2.1 111 61 - 1) := ((sv_n _ (fun h9 => absurd h9.1 (by decide))).trans (sv_s _ _ _ _)); omega) (by have h9 : (sv (sv (sv μ158 141 ((μL2.1 111 61) - 1) x1) 142 ((μL2.1 111 61) - 1) x2) 143 ((μL2.1 111 61) - 1) x3).1 141 (μL2.1 111 61 - 1) = x1 := ((sv_n _ (fun h9 => absurd h9.1 (by decide))).trans ((sv_n _ (fun h9 => absurd h9.1 (by decide))).trans (sv_s _ _ _ _))); omega) (fun _ => (by have h9 : (sv (sv (sv μ158 141 ((μL2.1 111 61) - 1) x1) 142 ((μL2.1 111 61) - 1) x2) 143 ((μL2.1 111 61) - 1) x3).1 142 (μL2.1 111 61 - 1) = x2 := ((sv_n _ (fun h9 => absurd h9.1 (by decide))).trans (sv_s _ _ _ _)); omega)) (fun _ => (by have h9 : (sv (sv (sv μ158 141 ((μL2.1 111 61) - 1) x1) 142 ((μL2.1 111 61) - 1) x2) 143 ((μL2.1 111 61) - 1) x3).1 143 (μL2.1 111 61 - 1) = x3 := (sv_s _ _ _ _); omega)) (by omega) (fun h9 => by have h8 := hv h9; show VV _ _ _ _; rw [(show μL2.1 111 65 = μ.1 111 65 from (hi_5 65 (by decide))), (show μL2.1 111 82 = μ.1 111 82 from (hi_5 82 (by decide)))]; exact h8) (fun h9 => by have h8 := hg2 h9; rw [(show μL2.1 111 82 = μ.1 111 82 from (hi_5 82 (by decide))), (show μL2.1 149 x3 = μ.1 149 x3 from (FL3.1 149 (by decide) x3)), (show μL2.1 127 (n - 1) = μ.1 127 (n - 1) from (FL3.1 127 (by decide) (n - 1)))]; exact h8) (by have h9 : (sv (sv (sv μ158 141 ((μL2.1 111 61) - 1) x1) 142 ((μL2.1 111 61) - 1) x2) 143 ((μL2.1 111 61) - 1) x3).1 111 94 = μ.1 111 94 := ((sv_n _ (fun h9 => absurd h9.1 (by decide))).trans ((sv_n _ (fun h9 => absurd h9.1 (by decide))).trans ((sv_n _ (fun h9 => absurd h9.1 (by decide))).trans ((hp_160 94 (by decide)).trans ((sv_n _ (fun h9 => absurd h9.1 (by decide))).trans ((sv_n _ (by decide)).trans ((sv_n _ (by decide)).trans (hi_5 94 (by decide))))))))); omega)).le (by omega))⟩

set_option maxHeartbeats 4000000 in
set_option maxRecDepth 100000 in
theorem c_X12_codeGoes (ω : Om) (l : Launch) (μ : M3) (x1 : Int) (x2 : Int) (F : Nat) (Lo : Nat) (kf : Int) (n : Int) (hx1 : ir x1) (hx2 : x2 = 0 ∨ x2 = 1) (hn : n = μ.1 111 47) (hMZ : MZ μ) (h1 : 1 ≤ n ∧ n ≤ 24) (hkf : n ≤ kf) (h94 : μ.1 111 94 = 0) (hgr : 0 ≤ x1 ∧ x1 < μ.1 111 82) (hgt : μ.1 149 x1 = μ.1 127 (n - 1)) (hby : x2 = 1 → A1 μ) (ht1 : μ.1 127 (n - 1) = 1) (hF : 60 ≤ F) (hLo : 2000 ≤ Lo) (hG : ∀ (μ : M3) (x1 : Int) (x2 : Int) (n : Int) (hx1 : ir x1) (hx2 : x2 = 0 ∨ x2 = 1) (hn : n = μ.1 111 47) (hMZ : MZ μ) (h1 : 1 ≤ n ∧ n ≤ 24) (hkf : n ≤ kf - 1) (h94 : μ.1 111 94 = 0) (hgr : 0 ≤ x1 ∧ x1 < μ.1 111 82) (hgt : μ.1 149 x1 = μ.1 127 (n - 1)) (hby : x2 = 1 → A1 μ), CtV ω l yX12_goesOut cX12_goesOut 3 (F + 0) (Lo + 0) [.ref (oP ω 111), .int (iv x1), .int (iv x2)] μ (fun (μ' : M3) => (FrM [111, 129, 133, 134, 135, 136, 137, 138, 139, 140, 141, 142, 143, 149, 150, 151, 152, 153, 154, 155, 156, 157, 158, 159] μ μ') ∧ (∀ j, j ∉ ([47, 53, 61, 81, 82, 83, 84, 90, 91, 93, 94, 95, 96, 97, 98, 99] : List Int) → μ'.1 111 j = μ.1 111 j) ∧ (RES μ' (RX μ + 9000)))) : CtV ω l yX12_codeGoes cX12_codeGoes 4 (F + 3) (Lo + 70) [.ref (oP ω 111), .int (iv x1), .int (iv x2)] μ (fun (μ' : M3) => (FrM [111, 129, 133, 134, 135, 136, 137, 138, 139, 140, 141, 142, 143, 149, 150, 151, 152, 153, 154, 155, 156, 157, 158, 159] μ μ') ∧ (∀ j, j ∉ ([47, 53, 61, 81, 82, 83, 84, 90, 91, 93, 94, 95, 96, 97, 98, 99] : List Int) → μ'.1 111 j = μ.1 111 j) ∧ (RES μ' (RX μ + 9000))) := by
  refine CtV.go (by decide) (Nat.le_of_ble_eq_true rfl) (fun ρ p e s m below meth c R ls G hR hret hlk hl => ?_)
  have hx := G.1.1
  have hb := G.1.2.1
  have hl : lv_has ls 4 [(0, .ref (oP ω 111)), (1, .int (iv x1)), (2, .int (iv x2))] := hl
  generalize s.drawn = d0 at G ⊢
  have hr_x1 : -2147483648 ≤ x1 ∧ x1 ≤ 2147483647 := hx1
  have hzn_ := hMZ.n
  rw [← hn] at hzn_
  obtain ⟨hz47, hzFB, hzFL, hz81, hz82, hz84, hz65, hz4, hz104⟩ := hzn_
  have hfr_ := (hMZ.2.2.1 (n - 1) (by omega) (by omega)).1.1
  have hzB := FB_1 (μ := μ) (n := n) (by omega)
  have hzL := FL_1 (μ := μ) (n := n) (by omega)
  have hf9 := hMZ.1.2.2.2.1.2.1 x1 hgr.1 hgr.2
  refine lv_aload_n hx hb dX12_codeGoes_0 rfl (lv_at hl 0 rfl) ?_
  refine lv_aload_n hx hb dX12_codeGoes_1 rfl (lv_at hl 0 rfl) ?_
  refine xa_getr G fd_X12 (a := 111) (x := 150) 71 rfl (by decide) rfl (wm 7 220 rfl rfl) ⟨rfl, rfl, rfl⟩ dX12_codeGoes_2 rfl (G.sk 148 rfl) (by decide) rfl ?_
  refine lv_iload_n hx hb dX12_codeGoes_5 rfl (lv_at hl 1 rfl) ?_
  refine xa_iald G (a := 150) (i := x1) rfl (by have h9 := G.lc (a := 150) (n := 12000) 88 rfl; omega) dX12_codeGoes_6 rfl ?_
  have hr_1 : -2147483648 ≤ μ.1 150 x1 ∧ μ.1 150 x1 ≤ 2147483647 := by have h9 := G.hr (a := 150) (k := x1) rfl; exact h9
  refine xa_puti G fd_X12 (a := 111) (x := μ.1 150 x1) 91 (kz := 91) rfl rfl (by decide) rfl (by unfold ir; omega) (wm 8 0 rfl rfl) ⟨rfl, rfl, rfl, rfl⟩ rfl dX12_codeGoes_7 rfl (fun H locs G => ?_)
  refine lv_aload_n hx hb dX12_codeGoes_10 rfl (lv_at hl 0 rfl) ?_
  refine xa_geti G fd_X12 (a := 111) (x := n) 47 rfl (by decide) rfl (wm 7 196 rfl rfl) ⟨rfl, rfl, rfl⟩ dX12_codeGoes_11 rfl ((sv_n _ (by decide)).trans hn.symm) ?_
  have hr_2 : -2147483648 ≤ n ∧ n ≤ 2147483647 := by have h9 := G.hr (a := 111) (k := 47) rfl; rw [show (sv μ 111 91 (μ.1 150 x1)).1 111 47 = n from ((sv_n _ (by decide)).trans hn.symm)] at h9; exact h9
  refine lv_iconst (v := iv 1) hx hb dX12_codeGoes_14 rfl ?_
  refine xb_isub hx hb dX12_codeGoes_15 ?_
  refine lv_istore_n (lv' := [(3, .int (iv (n - 1))), (0, .ref (oP ω 111)), (1, .int (iv x1)), (2, .int (iv x2))]) hx hb dX12_codeGoes_16 rfl hl (by decide) rfl (fun ls hl => ?_)
  refine lv_aload_n hx hb dX12_codeGoes_17 rfl (lv_at hl 1 rfl) ?_
  refine xa_geti G fd_X12 (a := 111) (x := μ.1 111 61) 61 rfl (by decide) rfl (wm 7 210 rfl rfl) ⟨rfl, rfl, rfl⟩ dX12_codeGoes_18 rfl (sv_n _ (by decide)) ?_
  have hr_3 : -2147483648 ≤ μ.1 111 61 ∧ μ.1 111 61 ≤ 2147483647 := by have h9 := G.hr (a := 111) (k := 61) rfl; rw [show (sv μ 111 91 (μ.1 150 x1)).1 111 61 = μ.1 111 61 from (sv_n _ (by decide))] at h9; exact h9
  refine lv_aload_n hx hb dX12_codeGoes_21 rfl (lv_at hl 1 rfl) ?_
  refine xa_getr G fd_X12 (a := 111) (x := 132) 46 rfl (by decide) rfl (wm 7 195 rfl rfl) ⟨rfl, rfl, rfl⟩ dX12_codeGoes_22 rfl (G.sk 130 rfl) (by decide) rfl ?_
  refine lv_iload_n hx hb dX12_codeGoes_25 rfl (lv_at hl 0 rfl) ?_
  refine xa_iald G (a := 132) (i := n - 1) rfl (by have h9 := G.lc (a := 132) (n := 26) 70 rfl; omega) dX12_codeGoes_26 rfl ?_
  refine xb_ti (y := μ.1 132 (n - 1)) (sv_n _ (fun h9 => absurd h9.1 (by decide))) ?_
  have hr_4 : -2147483648 ≤ μ.1 132 (n - 1) ∧ μ.1 132 (n - 1) ≤ 2147483647 := by have h9 := G.hr (a := 132) (k := n - 1) rfl; rw [(sv_n _ (fun h9 => absurd h9.1 (by decide)))] at h9; exact h9
  refine xb_icmp_le (tgt := 69) hx hb (by unfold ir; omega) (by unfold ir; omega) dX12_codeGoes_27 (by decide) (fun c_27 => ?_) (fun c_27 => ?_)
  · refine lv_iload_n hx hb dX12_codeGoes_69 rfl (lv_at hl 3 rfl) ?_
    refine xb_if_eq (tgt := 82) hx hb (by unfold ir; omega) dX12_codeGoes_70 (by decide) (fun c_70 => ?_) (fun c_70 => ?_)
    · refine lv_aload_n hx hb dX12_codeGoes_82 rfl (lv_at hl 1 rfl) ?_
      refine lv_iload_n hx hb dX12_codeGoes_83 rfl (lv_at hl 2 rfl) ?_
      have e_5 : (sv μ 111 91 (μ.1 150 x1)).1 111 83 = μ.1 111 83 := (sv_n _ (by decide))
      have hrx_6 := RX.eq (μ := μ) (ν := (sv μ 111 91 (μ.1 150 x1))) (Eqa.fr (L := [111]) (FrM.put FrM.rf (by decide)) (by decide)) (Eqf.fd (L := [91]) (fun j hj => (sv_n _ (fun h9 => hj (by rw [h9.2]; decide)))) (by decide))
      have e_7 : (sv μ 111 91 (μ.1 150 x1)).1 111 94 = μ.1 111 94 := (sv_n _ (by decide))
      have e_8 : (sv μ 111 91 (μ.1 150 x1)).1 111 47 = n := ((sv_n _ (by decide)).trans hn.symm)
      have hMZ_9 : MZ (sv μ 111 91 (μ.1 150 x1)) := MZ.f hMZ (by decide)
      have e_10 : (sv μ 111 91 (μ.1 150 x1)).1 111 94 = μ.1 111 94 := (sv_n _ (by decide))
      have e_11 : (sv μ 111 91 (μ.1 150 x1)).1 111 82 = μ.1 111 82 := (sv_n _ (by decide))
      have e_12 : (sv μ 111 91 (μ.1 150 x1)).1 111 47 = n := ((sv_n _ (by decide)).trans hn.symm)
      have e_13 : (sv μ 111 91 (μ.1 150 x1)).1 111 94 = μ.1 111 94 := (sv_n _ (by decide))
      have e_14 : (sv μ 111 91 (μ.1 150 x1)).1 111 82 = μ.1 111 82 := (sv_n _ (by decide))
      have e_15 : (sv μ 111 91 (μ.1 150 x1)).1 149 x1 = μ.1 149 x1 := (sv_n _ (fun h9 => absurd h9.1 (by decide)))
      have e_16 : (sv μ 111 91 (μ.1 150 x1)).1 127 (n - 1) = μ.1 127 (n - 1) := (sv_n _ (fun h9 => absurd h9.1 (by decide)))
      refine xc_vV G (b := 111) (rest := []) (As := [.int (iv x1)]) (c_X12_failsOut ω l (sv μ 111 91 (μ.1 150 x1)) x1 F Lo kf n (by unfold ir; omega) (by omega) hMZ_9 (by omega) (by omega) (by omega) (by omega) (by rw [(show (sv μ 111 91 (μ.1 150 x1)).1 149 x1 = μ.1 149 x1 from (sv_n _ (fun h9 => absurd h9.1 (by decide)))), (show (sv μ 111 91 (μ.1 150 x1)).1 127 (n - 1) = μ.1 127 (n - 1) from (sv_n _ (fun h9 => absurd h9.1 (by decide))))]; exact hgt) (by omega) (by omega) (by omega)) (wm 10 195 rfl rfl) (wm 10 197 rfl rfl) (wm 0 212 rfl rfl) rfl rfl (by decide) rfl (wm 1 18 rfl rfl) (wm 10 198 rfl rfl) (by decide) hR ⟨sfr (F := F) (a := 2) (by decide), slo (L := Lo) (m := 3) (a := 48) (by decide)⟩ (n := 1) rfl rfl (Nat.le_of_ble_eq_true rfl) hl.1 dX12_codeGoes_84 (fun μ17 ρ d0 H locs hp G => ?_)
      obtain ⟨F_18, hp_19, hp_20⟩ := hp
      exact xr_v G hret hlk dX12_codeGoes_87 ⟨(FrM.tr (FrM.put FrM.rf (by decide)) F_18 (by decide)), (fun j hj => ((hp_19 j (fun h9 => hj ((by decide : ∀ x ∈ ([47, 53, 61, 81, 82, 83, 84, 90, 91, 93, 94, 95, 96, 97, 98, 99] : List Int), x ∈ ([47, 53, 61, 81, 82, 83, 84, 90, 91, 93, 94, 95, 96, 97, 98, 99] : List Int)) j h9))).trans (sv_n _ (fun h9 => hj (by rw [h9.2]; decide))))), (hp_20.le (by omega))⟩
    · have hs2_ := A1.n (hby (by omega)) hMZ (by omega)
      refine lv_aload_n hx hb dX12_codeGoes_73 rfl (lv_at hl 1 rfl) ?_
      refine lv_iconst (v := iv 0) hx hb dX12_codeGoes_74 rfl ?_
      refine lv_lconst (v := jv 0) hx hb dX12_codeGoes_75 rfl ?_
      have e_21 : (sv μ 111 91 (μ.1 150 x1)).1 111 83 = μ.1 111 83 := (sv_n _ (by decide))
      have hrx_22 := RX.eq (μ := μ) (ν := (sv μ 111 91 (μ.1 150 x1))) (Eqa.fr (L := [111]) (FrM.put FrM.rf (by decide)) (by decide)) (Eqf.fd (L := [91]) (fun j hj => (sv_n _ (fun h9 => hj (by rw [h9.2]; decide)))) (by decide))
      have e_23 : (sv μ 111 91 (μ.1 150 x1)).1 111 94 = μ.1 111 94 := (sv_n _ (by decide))
      have hA1_24 : A1 (sv μ 111 91 (μ.1 150 x1)) := A1.mv (hby (by omega)) (Eqa.fr (L := [111]) (FrM.put FrM.rf (by decide)) (by decide)) (Eqf.fd (L := [91]) (fun j hj => (sv_n _ (fun h9 => hj (by rw [h9.2]; decide)))) (by decide))
      have e_25 : (sv μ 111 91 (μ.1 150 x1)).1 111 47 = n := ((sv_n _ (by decide)).trans hn.symm)
      have e_26 : (sv μ 111 91 (μ.1 150 x1)).1 111 53 = μ.1 111 53 := (sv_n _ (by decide))
      have e_27 : (sv μ 111 91 (μ.1 150 x1)).1 111 53 = μ.1 111 53 := (sv_n _ (by decide))
      have hMZ_28 : MZ (sv μ 111 91 (μ.1 150 x1)) := MZ.f hMZ (by decide)
      have e_29 : (sv μ 111 91 (μ.1 150 x1)).1 111 53 = μ.1 111 53 := (sv_n _ (by decide))
      have e_30 : (sv μ 111 91 (μ.1 150 x1)).1 111 53 = μ.1 111 53 := (sv_n _ (by decide))
      have e_31 : (sv μ 111 91 (μ.1 150 x1)).1 111 53 = μ.1 111 53 := (sv_n _ (by decide))
      have e_32 : (sv μ 111 91 (μ.1 150 x1)).1 111 53 = μ.1 111 53 := (sv_n _ (by decide))
      refine xc_vV G (b := 111) (rest := []) (As := [.int (iv 0), .long (jv 0)]) (c_X12_push ω l (sv μ 111 91 (μ.1 150 x1)) 0 0 (μ.1 111 53) (by unfold ir; omega) (by unfold jr; omega) (by omega) hMZ_28 VV.n0 (by omega)) (wm 10 127 rfl rfl) (wm 10 129 rfl rfl) (wm 0 195 rfl rfl) rfl rfl (by decide) rfl (wm 1 18 rfl rfl) (wm 10 130 rfl rfl) (by decide) hR ⟨nfr hF (by decide), nlo hLo (by decide)⟩ (n := 2) rfl rfl (Nat.le_of_ble_eq_true rfl) hl.1 dX12_codeGoes_76 (fun μ33 ρ d0 H locs hp G => ?_)
      obtain ⟨F_34, hp_35, hp_36, hs_37, hs_38, hs_39, ha_40, ha_41⟩ := hp
      refine lv_goto (tgt := 87) hx hb dX12_codeGoes_79 (by decide) ?_
      have e_42 : μ33.1 111 94 = μ.1 111 94 := ((hp_35 94 (by decide)).trans (sv_n _ (by decide)))
      have e_43 : μ33.1 111 53 = (μ.1 111 53) + 1 := hs_37
      have e_44 : (sv μ 111 91 (μ.1 150 x1)).1 111 53 = μ.1 111 53 := (sv_n _ (by decide))
      exact xr_v G hret hlk dX12_codeGoes_87 ⟨(FrM.tr (FrM.put FrM.rf (by decide)) F_34 (by decide)), (fun j hj => ((hp_35 j (fun h9 => hj ((by decide : ∀ x ∈ ([53] : List Int), x ∈ ([47, 53, 61, 81, 82, 83, 84, 90, 91, 93, 94, 95, 96, 97, 98, 99] : List Int)) j h9))).trans (sv_n _ (fun h9 => hj (by rw [h9.2]; decide))))), ((A1.res hA1_24 hp_36 (by have h9 : (sv μ 111 91 (μ.1 150 x1)).1 111 47 = n := ((sv_n _ (by decide)).trans hn.symm); omega) (Eqa.fr (L := [111, 135, 136]) (FrM.tr FrM.rf F_34 (by decide)) (by decide)) (Eqf.fd (L := [53]) (fun j hj => (hp_35 j (fun h9 => hj ((by decide : ∀ x ∈ ([53] : List Int), x ∈ ([53] : List Int)) j h9)))) (by decide)) (by have h9 : μ33.1 111 94 = μ.1 111 94 := ((hp_35 94 (by decide)).trans (sv_n _ (by decide))); omega) (by have h9 : μ33.1 111 83 = μ.1 111 83 := ((hp_35 83 (by decide)).trans (sv_n _ (by decide))); have h8 : (sv μ 111 91 (μ.1 150 x1)).1 111 83 = μ.1 111 83 := (sv_n _ (by decide)); omega) (by omega)).le (by omega))⟩
  · have hzn2 := hMZ.n.2.1
    obtain ⟨hbk, -⟩ := MZ.bk (k := (μ.1 111 61 - 1)) hMZ hn.symm (by omega) ⟨by omega, by omega⟩
    have hk3_ := hbk.2.2.1 ht1
    have htp := (hbk.2.2.2.2.2.1 (Or.inl hk3_)).tp0
    have htq := htp.1.pc
    have hb1_ := hbk.1
    have hz132 := (hMZ.2.2.1 (n - 1) (by omega) (by omega)).1.2.2.2
    refine lv_aload_n hx hb dX12_codeGoes_30 rfl (lv_at hl 1 rfl) ?_
    refine lv_dup hx hb dX12_codeGoes_31 rfl ?_
    refine xa_geti G fd_X12 (a := 111) (x := μ.1 111 61) 61 rfl (by decide) rfl (wm 7 210 rfl rfl) ⟨rfl, rfl, rfl⟩ dX12_codeGoes_32 rfl (sv_n _ (by decide)) ?_
    refine lv_iconst (v := iv 1) hx hb dX12_codeGoes_35 rfl ?_
    refine xb_isub hx hb dX12_codeGoes_36 ?_
    refine xa_puti G fd_X12 (a := 111) (x := (μ.1 111 61) - 1) 61 (kz := 61) rfl rfl (by decide) rfl (by unfold ir; omega) (wm 7 210 rfl rfl) ⟨rfl, rfl, rfl, rfl⟩ rfl dX12_codeGoes_37 rfl (fun H locs G => ?_)
    refine lv_aload_n hx hb dX12_codeGoes_40 rfl (lv_at hl 1 rfl) ?_
    refine lv_aload_n hx hb dX12_codeGoes_41 rfl (lv_at hl 1 rfl) ?_
    refine xa_getr G fd_X12 (a := 111) (x := 140) 57 rfl (by decide) rfl (wm 7 206 rfl rfl) ⟨rfl, rfl, rfl⟩ dX12_codeGoes_42 rfl (G.sk 138 rfl) (by decide) rfl ?_
    refine lv_aload_n hx hb dX12_codeGoes_45 rfl (lv_at hl 1 rfl) ?_
    refine xa_geti G fd_X12 (a := 111) (x := (μ.1 111 61) - 1) 61 rfl (by decide) rfl (wm 7 210 rfl rfl) ⟨rfl, rfl, rfl⟩ dX12_codeGoes_46 rfl (sv_s _ _ _ _) ?_
    have hr_45 : -2147483648 ≤ (μ.1 111 61) - 1 ∧ (μ.1 111 61) - 1 ≤ 2147483647 := by have h9 := G.hr (a := 111) (k := 61) rfl; rw [show (sv (sv μ 111 91 (μ.1 150 x1)) 111 61 ((μ.1 111 61) - 1)).1 111 61 = (μ.1 111 61) - 1 from (sv_s _ _ _ _)] at h9; exact h9
    refine xa_iald G (a := 140) (i := (μ.1 111 61) - 1) rfl (by have h9 := G.lc (a := 140) (n := 900) 78 rfl; omega) dX12_codeGoes_49 rfl ?_
    refine xb_ti (y := μ.1 140 (μ.1 111 61 - 1)) ((sv_n _ (fun h9 => absurd h9.1 (by decide))).trans (sv_n _ (fun h9 => absurd h9.1 (by decide)))) ?_
    have hr_46 : -2147483648 ≤ μ.1 140 (μ.1 111 61 - 1) ∧ μ.1 140 (μ.1 111 61 - 1) ≤ 2147483647 := by have h9 := G.hr (a := 140) (k := (μ.1 111 61) - 1) rfl; rw [((sv_n _ (fun h9 => absurd h9.1 (by decide))).trans (sv_n _ (fun h9 => absurd h9.1 (by decide))))] at h9; exact h9
    refine xa_puti G fd_X12 (a := 111) (x := μ.1 140 (μ.1 111 61 - 1)) 53 (kz := 53) rfl rfl (by decide) rfl (by unfold ir; omega) (wm 7 202 rfl rfl) ⟨rfl, rfl, rfl, rfl⟩ rfl dX12_codeGoes_50 rfl (fun H locs G => ?_)
    refine lv_aload_n hx hb dX12_codeGoes_53 rfl (lv_at hl 1 rfl) ?_
    refine xa_getr G fd_X12 (a := 111) (x := 129) 43 rfl (by decide) rfl (wm 7 192 rfl rfl) ⟨rfl, rfl, rfl⟩ dX12_codeGoes_54 rfl (G.sk 127 rfl) (by decide) rfl ?_
    refine lv_iload_n hx hb dX12_codeGoes_57 rfl (lv_at hl 0 rfl) ?_
    refine lv_aload_n hx hb dX12_codeGoes_58 rfl (lv_at hl 1 rfl) ?_
    refine xa_getr G fd_X12 (a := 111) (x := 138) 55 rfl (by decide) rfl (wm 7 204 rfl rfl) ⟨rfl, rfl, rfl⟩ dX12_codeGoes_59 rfl (G.sk 136 rfl) (by decide) rfl ?_
    refine lv_aload_n hx hb dX12_codeGoes_62 rfl (lv_at hl 1 rfl) ?_
    refine xa_geti G fd_X12 (a := 111) (x := (μ.1 111 61) - 1) 61 rfl (by decide) rfl (wm 7 210 rfl rfl) ⟨rfl, rfl, rfl⟩ dX12_codeGoes_63 rfl ((sv_n _ (by decide)).trans (sv_s _ _ _ _)) ?_
    refine xa_iald G (a := 138) (i := (μ.1 111 61) - 1) rfl (by have h9 := G.lc (a := 138) (n := 900) 76 rfl; omega) dX12_codeGoes_66 rfl ?_
    refine xb_ti (y := μ.1 138 (μ.1 111 61 - 1)) ((sv_n _ (fun h9 => absurd h9.1 (by decide))).trans ((sv_n _ (fun h9 => absurd h9.1 (by decide))).trans (sv_n _ (fun h9 => absurd h9.1 (by decide))))) ?_
    have hr_47 : -2147483648 ≤ μ.1 138 (μ.1 111 61 - 1) ∧ μ.1 138 (μ.1 111 61 - 1) ≤ 2147483647 := by have h9 := G.hr (a := 138) (k := (μ.1 111 61) - 1) rfl; rw [((sv_n _ (fun h9 => absurd h9.1 (by decide))).trans ((sv_n _ (fun h9 => absurd h9.1 (by decide))).trans (sv_n _ (fun h9 => absurd h9.1 (by decide)))))] at h9; exact h9
    refine xa_iast G (a := 129) (i := n - 1) (x := μ.1 138 (μ.1 111 61 - 1)) rfl (by have h9 := G.lc (a := 129) (n := 26) 67 rfl; omega) (by unfold ir; omega) dX12_codeGoes_67 rfl (fun H locs G => ?_)
    have e_48 : (sv (sv (sv (sv μ 111 91 (μ.1 150 x1)) 111 61 ((μ.1 111 61) - 1)) 111 53 (μ.1 140 (μ.1 111 61 - 1))) 129 (n - 1) (μ.1 138 (μ.1 111 61 - 1))).1 111 61 = (μ.1 111 61) - 1 := ((sv_n _ (fun h9 => absurd h9.1 (by decide))).trans ((sv_n _ (by decide)).trans (sv_s _ _ _ _)))
    have e_49 : (sv (sv (sv (sv μ 111 91 (μ.1 150 x1)) 111 61 ((μ.1 111 61) - 1)) 111 53 (μ.1 140 (μ.1 111 61 - 1))) 129 (n - 1) (μ.1 138 (μ.1 111 61 - 1))).1 111 53 = μ.1 140 (μ.1 111 61 - 1) := ((sv_n _ (fun h9 => absurd h9.1 (by decide))).trans (sv_s _ _ _ _))
    have hrd_ := RX.d1 (μ := μ) (ν := (sv (sv (sv (sv μ 111 91 (μ.1 150 x1)) 111 61 ((μ.1 111 61) - 1)) 111 53 (μ.1 140 (μ.1 111 61 - 1))) 129 (n - 1) (μ.1 138 (μ.1 111 61 - 1)))) (k := (μ.1 111 61 - 1)) (fun j _ => ((sv_n _ (by omega)).trans ((sv_n _ (by omega)).trans ((sv_n _ (by omega)).trans (sv_n _ (by omega)))))) (by have h9 : (sv (sv (sv (sv μ 111 91 (μ.1 150 x1)) 111 61 ((μ.1 111 61) - 1)) 111 53 (μ.1 140 (μ.1 111 61 - 1))) 129 (n - 1) (μ.1 138 (μ.1 111 61 - 1))).1 111 47 = n := ((sv_n _ (fun h9 => absurd h9.1 (by decide))).trans ((sv_n _ (by decide)).trans ((sv_n _ (by decide)).trans ((sv_n _ (by decide)).trans hn.symm)))); omega) ((sv_n _ (fun h9 => absurd h9.1 (by decide))).trans ((sv_n _ (by decide)).trans ((sv_n _ (by decide)).trans (sv_n _ (by decide))))) (by omega) (by omega) (by omega) (by omega)
    have hMZ_50 : MZ (sv μ 111 91 (μ.1 150 x1)) := MZ.f hMZ (by decide)
    have hMZ_51 : MZ (sv (sv μ 111 91 (μ.1 150 x1)) 111 61 ((μ.1 111 61) - 1)) := MZ.bl1 hMZ_50 (n := n) (s := μ.1 132 (n - 1)) (((sv_n _ (by decide)).trans hn.symm)) (by have h9 : (sv μ 111 91 (μ.1 150 x1)).1 132 (n - 1) = μ.1 132 (n - 1) := (sv_n _ (fun h9 => absurd h9.1 (by decide))); exact h9) (by omega) (by have h9 : (sv μ 111 91 (μ.1 150 x1)).1 111 61 = μ.1 111 61 := (sv_n _ (by decide)); omega)
    have hMZ_52 : MZ (sv (sv (sv μ 111 91 (μ.1 150 x1)) 111 61 ((μ.1 111 61) - 1)) 111 53 (μ.1 140 (μ.1 111 61 - 1))) := MZ.mn1 hMZ_51 (n := n) (s := μ.1 131 (n - 1)) (((sv_n _ (by decide)).trans ((sv_n _ (by decide)).trans hn.symm))) (by have h9 : (sv (sv μ 111 91 (μ.1 150 x1)) 111 61 ((μ.1 111 61) - 1)).1 131 (n - 1) = μ.1 131 (n - 1) := ((sv_n _ (fun h9 => absurd h9.1 (by decide))).trans (sv_n _ (fun h9 => absurd h9.1 (by decide)))); exact h9) (by omega) (by have h9 : (sv (sv μ 111 91 (μ.1 150 x1)) 111 61 ((μ.1 111 61) - 1)).1 111 53 = μ.1 111 53 := ((sv_n _ (by decide)).trans (sv_n _ (by decide))); omega)
    have hMZ_53 : MZ (sv (sv (sv (sv μ 111 91 (μ.1 150 x1)) 111 61 ((μ.1 111 61) - 1)) 111 53 (μ.1 140 (μ.1 111 61 - 1))) 129 (n - 1) (μ.1 138 (μ.1 111 61 - 1))) := MZ.pc hMZ_52 (by rw [show (sv (sv (sv μ 111 91 (μ.1 150 x1)) 111 61 ((μ.1 111 61) - 1)) 111 53 (μ.1 140 (μ.1 111 61 - 1))).1 111 47 = n from ((sv_n _ (by decide)).trans ((sv_n _ (by decide)).trans ((sv_n _ (by decide)).trans hn.symm)))])
    exact xr_v G hret hlk dX12_codeGoes_68 ⟨(FrM.put (FrM.put (FrM.put (FrM.put FrM.rf (by decide)) (by decide)) (by decide)) (by decide)), (fun j hj => ((sv_n _ (fun h9 => absurd h9.1 (by decide))).trans ((sv_n _ (fun h9 => hj (by rw [h9.2]; decide))).trans ((sv_n _ (fun h9 => hj (by rw [h9.2]; decide))).trans (sv_n _ (fun h9 => hj (by rw [h9.2]; decide))))))), (RES.le (RES.at_ (n := n) (x := μ.1 138 (μ.1 111 61 - 1)) hMZ_53 (by have h8 : (sv (sv (sv (sv μ 111 91 (μ.1 150 x1)) 111 61 ((μ.1 111 61) - 1)) 111 53 (μ.1 140 (μ.1 111 61 - 1))) 129 (n - 1) (μ.1 138 (μ.1 111 61 - 1))).1 111 47 = n := ((sv_n _ (fun h9 => absurd h9.1 (by decide))).trans ((sv_n _ (by decide)).trans ((sv_n _ (by decide)).trans ((sv_n _ (by decide)).trans hn.symm)))); omega) (by omega) (by have h8 : (sv (sv (sv (sv μ 111 91 (μ.1 150 x1)) 111 61 ((μ.1 111 61) - 1)) 111 53 (μ.1 140 (μ.1 111 61 - 1))) 129 (n - 1) (μ.1 138 (μ.1 111 61 - 1))).1 111 94 = μ.1 111 94 := ((sv_n _ (fun h9 => absurd h9.1 (by decide))).trans ((sv_n _ (by decide)).trans ((sv_n _ (by decide)).trans (sv_n _ (by decide))))); omega) (by have h8 : (sv (sv (sv (sv μ 111 91 (μ.1 150 x1)) 111 61 ((μ.1 111 61) - 1)) 111 53 (μ.1 140 (μ.1 111 61 - 1))) 129 (n - 1) (μ.1 138 (μ.1 111 61 - 1))).1 129 (n - 1) = μ.1 138 (μ.1 111 61 - 1) := (sv_s _ _ _ _); omega) (TP.mv2 htp.1 (Eqa.fr (L := [129, 111]) (FrM.put (FrM.put (FrM.put (FrM.put FrM.rf (by decide)) (by decide)) (by decide)) (by decide)) (by decide)) ((sv_n _ (fun h9 => absurd h9.1 (by decide))).trans ((sv_n _ (by decide)).trans ((sv_n _ (by decide)).trans (sv_n _ (by decide))))) (by have h9 : (sv (sv (sv (sv μ 111 91 (μ.1 150 x1)) 111 61 ((μ.1 111 61) - 1)) 111 53 (μ.1 140 (μ.1 111 61 - 1))) 129 (n - 1) (μ.1 138 (μ.1 111 61 - 1))).1 111 53 = μ.1 140 (μ.1 111 61 - 1) := ((sv_n _ (fun h9 => absurd h9.1 (by decide))).trans (sv_s _ _ _ _)); omega) (by have h9 : (sv (sv (sv (sv μ 111 91 (μ.1 150 x1)) 111 61 ((μ.1 111 61) - 1)) 111 53 (μ.1 140 (μ.1 111 61 - 1))) 129 (n - 1) (μ.1 138 (μ.1 111 61 - 1))).1 111 61 = (μ.1 111 61) - 1 := ((sv_n _ (fun h9 => absurd h9.1 (by decide))).trans ((sv_n _ (by decide)).trans (sv_s _ _ _ _))); omega)) (by rw [fC.mv (Eqa.fr (L := [129, 111]) (FrM.put (FrM.put (FrM.put (FrM.put FrM.rf (by decide)) (by decide)) (by decide)) (by decide)) (by decide)) ((sv_n _ (fun h9 => absurd h9.1 (by decide))).trans ((sv_n _ (by decide)).trans ((sv_n _ (by decide)).trans (sv_n _ (by decide)))))]; exact htp.2)) (by omega))⟩

set_option maxHeartbeats 4000000 in
set_option maxRecDepth 100000 in
theorem c_X12_goesOut (ω : Om) (l : Launch) (μ : M3) (x1 : Int) (x2 : Int) (F : Nat) (Lo : Nat) (kf : Int) (n : Int) (hx1 : ir x1) (hx2 : x2 = 0 ∨ x2 = 1) (hn : n = μ.1 111 47) (hMZ : MZ μ) (h1 : 1 ≤ n ∧ n ≤ 24) (hkf : n ≤ kf) (h94 : μ.1 111 94 = 0) (hgr : 0 ≤ x1 ∧ x1 < μ.1 111 82) (hgt : μ.1 149 x1 = μ.1 127 (n - 1)) (hby : x2 = 1 → A1 μ) (hF : 60 ≤ F) (hLo : 2000 ≤ Lo) (hG : ∀ (μ : M3) (x1 : Int) (x2 : Int) (n : Int) (hx1 : ir x1) (hx2 : x2 = 0 ∨ x2 = 1) (hn : n = μ.1 111 47) (hMZ : MZ μ) (h1 : 1 ≤ n ∧ n ≤ 24) (hkf : n ≤ kf - 1) (h94 : μ.1 111 94 = 0) (hgr : 0 ≤ x1 ∧ x1 < μ.1 111 82) (hgt : μ.1 149 x1 = μ.1 127 (n - 1)) (hby : x2 = 1 → A1 μ), CtV ω l yX12_goesOut cX12_goesOut 3 (F + 0) (Lo + 0) [.ref (oP ω 111), .int (iv x1), .int (iv x2)] μ (fun (μ' : M3) => (FrM [111, 129, 133, 134, 135, 136, 137, 138, 139, 140, 141, 142, 143, 149, 150, 151, 152, 153, 154, 155, 156, 157, 158, 159] μ μ') ∧ (∀ j, j ∉ ([47, 53, 61, 81, 82, 83, 84, 90, 91, 93, 94, 95, 96, 97, 98, 99] : List Int) → μ'.1 111 j = μ.1 111 j) ∧ (RES μ' (RX μ + 9000)))) : CtV ω l yX12_goesOut cX12_goesOut 3 (F + 5) (Lo + 121) [.ref (oP ω 111), .int (iv x1), .int (iv x2)] μ (fun (μ' : M3) => (FrM [111, 129, 133, 134, 135, 136, 137, 138, 139, 140, 141, 142, 143, 149, 150, 151, 152, 153, 154, 155, 156, 157, 158, 159] μ μ') ∧ (∀ j, j ∉ ([47, 53, 61, 81, 82, 83, 84, 90, 91, 93, 94, 95, 96, 97, 98, 99] : List Int) → μ'.1 111 j = μ.1 111 j) ∧ (RES μ' (RX μ + 9000))) := by
  refine CtV.go (by decide) (Nat.le_of_ble_eq_true rfl) (fun ρ p e s m below meth c R ls G hR hret hlk hl => ?_)
  have hx := G.1.1
  have hb := G.1.2.1
  have hl : lv_has ls 3 [(0, .ref (oP ω 111)), (1, .int (iv x1)), (2, .int (iv x2))] := hl
  generalize s.drawn = d0 at G ⊢
  have hr_x1 : -2147483648 ≤ x1 ∧ x1 ≤ 2147483647 := hx1
  have hzn_ := hMZ.n
  rw [← hn] at hzn_
  obtain ⟨hz47, hzFB, hzFL, hz81, hz82, hz84, hz65, hz4, hz104⟩ := hzn_
  have hfr_ := (hMZ.2.2.1 (n - 1) (by omega) (by omega)).1.1
  have hzB := FB_1 (μ := μ) (n := n) (by omega)
  have hzL := FL_1 (μ := μ) (n := n) (by omega)
  refine lv_aload_n hx hb dX12_goesOut_0 rfl (lv_at hl 0 rfl) ?_
  have e_1 : μ.1 111 47 = n := hn.symm
  refine xc_iV G (b := 111) (rest := []) (As := []) (c_X12_now ω l μ n (by omega) (by omega)) (wm 10 163 rfl rfl) (wm 10 165 rfl rfl) (wm 0 204 rfl rfl) rfl rfl (by decide) rfl (wm 1 18 rfl rfl) (wm 10 166 rfl rfl) (by decide) hR ⟨nfr hF (by decide), nlo hLo (by decide)⟩ (n := 0) rfl rfl (Nat.le_of_ble_eq_true rfl) hl.1 dX12_goesOut_1 (fun r_3 μ2 ρ d0 H locs hr_r_3 hp G => ?_)
  have hr_r_3 : -2147483648 ≤ r_3 ∧ r_3 ≤ 2147483647 := hr_r_3
  obtain ⟨hsm_4, hp_5⟩ := hp
  have hsm_4 := Eq.symm hsm_4
  subst hsm_4
  refine xb_ti (y := μ.1 127 (n - 1)) hp_5 ?_
  have hr_6 : -2147483648 ≤ μ.1 127 (n - 1) ∧ μ.1 127 (n - 1) ≤ 2147483647 := by omega
  refine lv_iconst (v := iv 1) hx hb dX12_goesOut_4 rfl ?_
  refine xb_icmp_ne (tgt := 17) hx hb (by unfold ir; omega) (by unfold ir; omega) dX12_goesOut_5 (by decide) (fun c_5 => ?_) (fun c_5 => ?_)
  · refine lv_aload_n hx hb dX12_goesOut_17 rfl (lv_at hl 0 rfl) ?_
    refine lv_iconst (v := iv 2) hx hb dX12_goesOut_18 rfl ?_
    refine lv_iconst (v := iv 0) hx hb dX12_goesOut_19 rfl ?_
    refine lv_iload_n hx hb dX12_goesOut_20 rfl (lv_at hl 1 rfl) ?_
    refine xb_i2l hx hb (by unfold ir; omega) dX12_goesOut_21 ?_
    have e_7 : μ.1 111 47 = n := hn.symm
    have e_8 : μ.1 111 47 = n := hn.symm
    refine xc_vV G (b := 111) (rest := []) (As := [.int (iv 2), .int (iv 0), .long (jv x1)]) (c_X12_unwinds ω l μ 2 0 x1 F Lo kf n (by unfold ir; omega) (by unfold ir; omega) (by unfold jr; omega) (by omega) hMZ (by omega) (by omega) (by omega) (by omega) (fun h9 => absurd h9 (by decide)) (fun _ => ⟨hgr, hgt⟩) (by omega) (by omega) (by omega)) (wm 10 135 rfl rfl) (wm 10 137 rfl rfl) (wm 0 197 rfl rfl) rfl rfl (by decide) rfl (wm 1 18 rfl rfl) (wm 10 138 rfl rfl) (by decide) hR ⟨sfr (F := F) (a := 4) (by decide), slo (L := Lo) (m := 9) (a := 93) (by decide)⟩ (n := 3) rfl rfl (Nat.le_of_ble_eq_true rfl) hl.1 dX12_goesOut_22 (fun μ9 ρ d0 H locs hp G => ?_)
    obtain ⟨F_10, hp_11, hp_12⟩ := hp
    exact xr_v G hret hlk dX12_goesOut_25 ⟨(FrM.tr FrM.rf F_10 (by decide)), (fun j hj => (hp_11 j (fun h9 => hj ((by decide : ∀ x ∈ ([47, 53, 61, 81, 82, 83, 84, 90, 91, 93, 94, 95, 96, 97, 98, 99] : List Int), x ∈ ([47, 53, 61, 81, 82, 83, 84, 90, 91, 93, 94, 95, 96, 97, 98, 99] : List Int)) j h9)))), (hp_12.le (by omega))⟩
  · refine lv_aload_n hx hb dX12_goesOut_8 rfl (lv_at hl 0 rfl) ?_
    refine lv_iload_n hx hb dX12_goesOut_9 rfl (lv_at hl 1 rfl) ?_
    refine lv_iload_n hx hb dX12_goesOut_10 rfl (lv_at hl 2 rfl) ?_
    have e_13 : μ.1 111 47 = n := hn.symm
    have e_14 : μ.1 111 47 = n := hn.symm
    refine xc_vV G (b := 111) (rest := []) (As := [.int (iv x1), .int (iv x2)]) (c_X12_codeGoes ω l μ x1 x2 F Lo kf n (by unfold ir; omega) (by omega) (by omega) hMZ (by omega) (by omega) (by omega) (by omega) hgt hby (by omega) (by omega) (by omega) (by omega)) (wm 10 191 rfl rfl) (wm 10 193 rfl rfl) (wm 0 211 rfl rfl) rfl rfl (by decide) rfl (wm 1 18 rfl rfl) (wm 10 194 rfl rfl) (by decide) hR ⟨sfr (F := F) (a := 3) (by decide), slo (L := Lo) (m := 4) (a := 70) (by decide)⟩ (n := 2) rfl rfl (Nat.le_of_ble_eq_true rfl) hl.1 dX12_goesOut_11 (fun μ15 ρ d0 H locs hp G => ?_)
    obtain ⟨F_16, hp_17, hp_18⟩ := hp
    refine lv_goto (tgt := 25) hx hb dX12_goesOut_14 (by decide) ?_
    exact xr_v G hret hlk dX12_goesOut_25 ⟨(FrM.tr FrM.rf F_16 (by decide)), (fun j hj => (hp_17 j (fun h9 => hj ((by decide : ∀ x ∈ ([47, 53, 61, 81, 82, 83, 84, 90, 91, 93, 94, 95, 96, 97, 98, 99] : List Int), x ∈ ([47, 53, 61, 81, 82, 83, 84, 90, 91, 93, 94, 95, 96, 97, 98, 99] : List Int)) j h9)))), (hp_18.le (by omega))⟩
/-! what fails goes out, from any number of frames -/
def rLv (ω : Om) (l : Launch) (kf : Int) (F Lo : Nat) : Prop := ∀ (μ : M3) (x1 : Int) (x2 : Int) (n : Int) (hx1 : ir x1) (hx2 : x2 = 0 ∨ x2 = 1) (hn : n = μ.1 111 47) (hMZ : MZ μ) (h1 : 1 ≤ n ∧ n ≤ 24) (hkf : n ≤ kf) (h94 : μ.1 111 94 = 0) (hgr : 0 ≤ x1 ∧ x1 < μ.1 111 82) (hgt : μ.1 149 x1 = μ.1 127 (n - 1)) (hby : x2 = 1 → A1 μ), CtV ω l yX12_goesOut cX12_goesOut 3 (F + 0) (Lo + 0) [.ref (oP ω 111), .int (iv x1), .int (iv x2)] μ (fun (μ' : M3) => (FrM [111, 129, 133, 134, 135, 136, 137, 138, 139, 140, 141, 142, 143, 149, 150, 151, 152, 153, 154, 155, 156, 157, 158, 159] μ μ') ∧ (∀ j, j ∉ ([47, 53, 61, 81, 82, 83, 84, 90, 91, 93, 94, 95, 96, 97, 98, 99] : List Int) → μ'.1 111 j = μ.1 111 j) ∧ (RES μ' (RX μ + 9000)))
theorem rlv_0 (ω : Om) (l : Launch) (F Lo : Nat) : rLv ω l 0 F Lo := by
  intro μ x1 x2 n hx1 hx2 hn hMZ h1 hkf h94 hgr hgt hby
  exact absurd h1.1 (by omega)
theorem rlv_all (ω : Om) (l : Launch) : ∀ k : Nat, rLv ω l (k : Int) (60 + 5 * k) (2000 + 121 * k)
  | 0 => rlv_0 ω l _ _
  | k + 1 => by
    have ih := rlv_all ω l k
    have e1 : 60 + 5 * (k + 1) = 60 + 5 * k + 5 := by omega
    have e2 : 2000 + 121 * (k + 1) = 2000 + 121 * k + 121 := by omega
    rw [e1, e2]
    intro μ x1 x2 n hx1 hx2 hn hMZ h1 hkf h94 hgr hgt hby
    refine c_X12_goesOut ω l μ x1 x2 (60 + 5 * k) (2000 + 121 * k) ((k + 1 : Nat) : Int) n hx1 hx2 hn hMZ h1 hkf h94 hgr hgt hby (by omega) (by omega) (by rw [show ((k + 1 : Nat) : Int) - 1 = (k : Int) by omega]; exact ih)
theorem rlv_24 (ω : Om) (l : Launch) : rLv ω l 24 180 4904 := rlv_all ω l 24
theorem c_X12_turnsFailure_a (ω : Om) (l : Launch) (μ : M3) (x1 : Int) (n : Int) (hx1 : ir x1) (hn : n = μ.1 111 47) (hMZ : MZ μ) (h1 : 1 ≤ n ∧ n ≤ 24) (h94 : μ.1 111 94 = 0) (hgr : 0 ≤ x1 ∧ x1 < μ.1 111 82) (hA1 : A1 μ) : CtV ω l yX12_turnsFailure cX12_turnsFailure 7 181 4926 [.ref (oP ω 111), .int (iv x1)] μ (fun (μ' : M3) => (FrM [111, 129, 133, 134, 135, 136, 137, 138, 139, 140, 141, 142, 143, 149, 150, 151, 152, 153, 154, 155, 156, 157, 158, 159] μ μ') ∧ (∀ j, j ∉ ([47, 53, 61, 81, 82, 83, 84, 90, 91, 93, 94, 95, 96, 97, 98, 99] : List Int) → μ'.1 111 j = μ.1 111 j) ∧ (RES μ' (RX μ - 190000))) := by
  exact c_X12_turnsFailure ω l μ x1 180 4904 25 n hx1 hn hMZ h1 (by omega) h94 hgr hA1 (by omega) (by omega) (rlv_24 ω l)
theorem c_X12_arisesWith_a (ω : Om) (l : Launch) (μ : M3) (x1 : Int) (x2 : Int) (x3 : Int) (n : Int) (hx1 : ir x1) (hx2 : ir x2) (hx3 : jr x3) (hn : n = μ.1 111 47) (hMZ : MZ μ) (h1 : 1 ≤ n ∧ n ≤ 24) (h94 : μ.1 111 94 = 0) (hv : VV (μ.1 111 65) (μ.1 111 82) x2 x3) (hw : μ.1 127 (n - 1) = 0 → 1 ≤ x1 ∧ x1 < μ.1 111 4) (hA2 : μ.1 127 (n - 1) = 2 → A1 μ) : CtV ω l yX12_arisesWith cX12_arisesWith 6 181 4926 [.ref (oP ω 111), .int (iv x1), .int (iv x2), .long (jv x3)] μ (fun (μ' : M3) => (FrM [111, 129, 133, 134, 135, 136, 137, 138, 139, 140, 141, 142, 143, 149, 150, 151, 152, 153, 154, 155, 156, 157, 158, 159] μ μ') ∧ (∀ j, j ∉ ([47, 53, 61, 81, 82, 83, 84, 90, 91, 93, 94, 95, 96, 97, 98, 99] : List Int) → μ'.1 111 j = μ.1 111 j) ∧ (RES μ' (RX μ - 190000))) := by
  exact c_X12_arisesWith ω l μ x1 x2 x3 180 4904 25 n hx1 hx2 hx3 hn hMZ h1 (by omega) h94 hv hw hA2 (by omega) (by omega) (rlv_24 ω l)
theorem c_X12_arises_a (ω : Om) (l : Launch) (μ : M3) (x1 : Int) (n : Int) (hx1 : ir x1) (hn : n = μ.1 111 47) (hMZ : MZ μ) (h1 : 1 ≤ n ∧ n ≤ 24) (h94 : μ.1 111 94 = 0) (hw : μ.1 127 (n - 1) = 0 → 1 ≤ x1 ∧ x1 < μ.1 111 4) (hA2 : μ.1 127 (n - 1) = 2 → A1 μ) : CtV ω l yX12_arises cX12_arises 2 182 4951 [.ref (oP ω 111), .int (iv x1)] μ (fun (μ' : M3) => (FrM [111, 129, 133, 134, 135, 136, 137, 138, 139, 140, 141, 142, 143, 149, 150, 151, 152, 153, 154, 155, 156, 157, 158, 159] μ μ') ∧ (∀ j, j ∉ ([47, 53, 61, 81, 82, 83, 84, 90, 91, 93, 94, 95, 96, 97, 98, 99] : List Int) → μ'.1 111 j = μ.1 111 j) ∧ (RES μ' (RX μ - 190000))) := by
  exact c_X12_arises ω l μ x1 180 4904 25 n hx1 hn hMZ h1 (by omega) h94 hw hA2 (by omega) (by omega) (rlv_24 ω l)
theorem c_X12_answers_a (ω : Om) (l : Launch) (μ : M3) (x1 : Int) (x2 : Int) (n : Int) (hx1 : ir x1) (hx2 : jr x2) (hn : n = μ.1 111 47) (hMZ : MZ μ) (h1 : 1 ≤ n ∧ n ≤ 24) (h94 : μ.1 111 94 = 0) (hv : VV (μ.1 111 65) (μ.1 111 82) x1 x2) : CtV ω l yX12_answers cX12_answers 6 183 4972 [.ref (oP ω 111), .int (iv x1), .long (jv x2)] μ (fun (μ' : M3) => (FrM [111, 129, 133, 134, 135, 136, 137, 138, 139, 140, 141, 142, 143, 149, 150, 151, 152, 153, 154, 155, 156, 157, 158, 159] μ μ') ∧ (∀ j, j ∉ ([47, 53, 61, 81, 82, 83, 84, 90, 91, 93, 94, 95, 96, 97, 98, 99] : List Int) → μ'.1 111 j = μ.1 111 j) ∧ (RES μ' (RX μ - 10000))) := by
  exact c_X12_answers ω l μ x1 x2 180 4904 25 n hx1 hx2 hn hMZ h1 (by omega) h94 hv (by omega) (by omega) (rlv_24 ω l)
theorem c_X12_failsOut_a (ω : Om) (l : Launch) (μ : M3) (x1 : Int) (n : Int) (hx1 : ir x1) (hn : n = μ.1 111 47) (hMZ : MZ μ) (h1 : 1 ≤ n ∧ n ≤ 24) (h94 : μ.1 111 94 = 0) (hgr : 0 ≤ x1 ∧ x1 < μ.1 111 82) (hgt : μ.1 149 x1 = μ.1 127 (n - 1)) : CtV ω l yX12_failsOut cX12_failsOut 3 182 4952 [.ref (oP ω 111), .int (iv x1)] μ (fun (μ' : M3) => (FrM [111, 129, 133, 134, 135, 136, 137, 138, 139, 140, 141, 142, 143, 149, 150, 151, 152, 153, 154, 155, 156, 157, 158, 159] μ μ') ∧ (∀ j, j ∉ ([47, 53, 61, 81, 82, 83, 84, 90, 91, 93, 94, 95, 96, 97, 98, 99] : List Int) → μ'.1 111 j = μ.1 111 j) ∧ (RES μ' (RX μ - 10000))) := by
  exact c_X12_failsOut ω l μ x1 180 4904 25 n hx1 hn hMZ h1 (by omega) h94 hgr hgt (by omega) (by omega) (rlv_24 ω l)
theorem c_X12_unwinds_a (ω : Om) (l : Launch) (μ : M3) (x1 : Int) (x2 : Int) (x3 : Int) (n : Int) (hx1 : ir x1) (hx2 : ir x2) (hx3 : jr x3) (hn : n = μ.1 111 47) (hMZ : MZ μ) (h1 : 1 ≤ n ∧ n ≤ 24) (h94 : μ.1 111 94 = 0) (hhow : x1 = 1 ∨ x1 = 2) (hv : x1 = 1 → VV (μ.1 111 65) (μ.1 111 82) x2 x3) (hg2 : x1 = 2 → (0 ≤ x3 ∧ x3 < μ.1 111 82) ∧ μ.1 149 x3 = μ.1 127 (n - 1)) : CtV ω l yX12_unwinds cX12_unwinds 9 184 4997 [.ref (oP ω 111), .int (iv x1), .int (iv x2), .long (jv x3)] μ (fun (μ' : M3) => (FrM [111, 129, 133, 134, 135, 136, 137, 138, 139, 140, 141, 142, 143, 149, 150, 151, 152, 153, 154, 155, 156, 157, 158, 159] μ μ') ∧ (∀ j, j ∉ ([47, 53, 61, 81, 82, 83, 84, 90, 91, 93, 94, 95, 96, 97, 98, 99] : List Int) → μ'.1 111 j = μ.1 111 j) ∧ (RES μ' (RX μ - 1))) := by
  exact c_X12_unwinds ω l μ x1 x2 x3 180 4904 25 n hx1 hx2 hx3 hn hMZ h1 (by omega) h94 hhow hv hg2 (by omega) (by omega) (rlv_24 ω l)
theorem c_X12_codeGoes_a (ω : Om) (l : Launch) (μ : M3) (x1 : Int) (x2 : Int) (n : Int) (hx1 : ir x1) (hx2 : x2 = 0 ∨ x2 = 1) (hn : n = μ.1 111 47) (hMZ : MZ μ) (h1 : 1 ≤ n ∧ n ≤ 24) (h94 : μ.1 111 94 = 0) (hgr : 0 ≤ x1 ∧ x1 < μ.1 111 82) (hgt : μ.1 149 x1 = μ.1 127 (n - 1)) (hby : x2 = 1 → A1 μ) (ht1 : μ.1 127 (n - 1) = 1) : CtV ω l yX12_codeGoes cX12_codeGoes 4 183 4974 [.ref (oP ω 111), .int (iv x1), .int (iv x2)] μ (fun (μ' : M3) => (FrM [111, 129, 133, 134, 135, 136, 137, 138, 139, 140, 141, 142, 143, 149, 150, 151, 152, 153, 154, 155, 156, 157, 158, 159] μ μ') ∧ (∀ j, j ∉ ([47, 53, 61, 81, 82, 83, 84, 90, 91, 93, 94, 95, 96, 97, 98, 99] : List Int) → μ'.1 111 j = μ.1 111 j) ∧ (RES μ' (RX μ + 9000))) := by
  exact c_X12_codeGoes ω l μ x1 x2 180 4904 25 n hx1 hx2 hn hMZ h1 (by omega) h94 hgr hgt hby ht1 (by omega) (by omega) (rlv_24 ω l)
theorem c_X12_goesOut_a (ω : Om) (l : Launch) (μ : M3) (x1 : Int) (x2 : Int) (n : Int) (hx1 : ir x1) (hx2 : x2 = 0 ∨ x2 = 1) (hn : n = μ.1 111 47) (hMZ : MZ μ) (h1 : 1 ≤ n ∧ n ≤ 24) (h94 : μ.1 111 94 = 0) (hgr : 0 ≤ x1 ∧ x1 < μ.1 111 82) (hgt : μ.1 149 x1 = μ.1 127 (n - 1)) (hby : x2 = 1 → A1 μ) : CtV ω l yX12_goesOut cX12_goesOut 3 185 5025 [.ref (oP ω 111), .int (iv x1), .int (iv x2)] μ (fun (μ' : M3) => (FrM [111, 129, 133, 134, 135, 136, 137, 138, 139, 140, 141, 142, 143, 149, 150, 151, 152, 153, 154, 155, 156, 157, 158, 159] μ μ') ∧ (∀ j, j ∉ ([47, 53, 61, 81, 82, 83, 84, 90, 91, 93, 94, 95, 96, 97, 98, 99] : List Int) → μ'.1 111 j = μ.1 111 j) ∧ (RES μ' (RX μ + 9000))) := by
  exact c_X12_goesOut ω l μ x1 x2 180 4904 25 n hx1 hx2 hn hMZ h1 (by omega) h94 hgr hgt hby (by omega) (by omega) (rlv_24 ω l)
