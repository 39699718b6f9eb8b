abbrev cX6_traps : ByteArray := prog_8_method_9_code
def yX6_traps : MethodName := ⟨RX6, "traps", "(IIJJ)Z"⟩
abbrev cX6_ofWholes : ByteArray := prog_8_method_10_code
def yX6_ofWholes : MethodName := ⟨RX6, "ofWholes", "(IJJ)J"⟩
abbrev cX6_ofReals : ByteArray := prog_8_method_11_code
def yX6_ofReals : MethodName := ⟨RX6, "ofReals", "(IDD)D"⟩
abbrev cX6_rest : ByteArray := prog_8_method_12_code
def yX6_rest : MethodName := ⟨RX6, "rest", "(DD)D"⟩
abbrev cX6_compareWholes : ByteArray := prog_8_method_13_code
def yX6_compareWholes : MethodName := ⟨RX6, "compareWholes", "(IJJ)Z"⟩
abbrev cX6_compareReals : ByteArray := prog_8_method_14_code
def yX6_compareReals : MethodName := ⟨RX6, "compareReals", "(IDD)Z"⟩
abbrev cX6_bits : ByteArray := prog_8_method_15_code
def yX6_bits : MethodName := ⟨RX6, "bits", "(D)J"⟩
theorem dX6_traps_0 : decode cX6_traps 0 = .ok (.iload_n 0, 1) := by decide +kernel
theorem dX6_traps_1 : decode cX6_traps 1 = .ok (.ifCond .ne 5, 3) := by decide +kernel
theorem dX6_traps_4 : decode cX6_traps 4 = .ok (.iconst 0, 1) := by decide +kernel
theorem dX6_traps_5 : decode cX6_traps 5 = .ok (.ireturn, 1) := by decide +kernel
theorem dX6_traps_6 : decode cX6_traps 6 = .ok (.iload_n 1, 1) := by decide +kernel
theorem dX6_traps_7 : decode cX6_traps 7 = .ok (.bipush 42, 2) := by decide +kernel
theorem dX6_traps_9 : decode cX6_traps 9 = .ok (.if_icmp .ne 28, 3) := by decide +kernel
theorem dX6_traps_12 : decode cX6_traps 12 = .ok (.lload_n 2, 1) := by decide +kernel
theorem dX6_traps_13 : decode cX6_traps 13 = .ok (.lconst 0, 1) := by decide +kernel
theorem dX6_traps_14 : decode cX6_traps 14 = .ok (.lcmp, 1) := by decide +kernel
theorem dX6_traps_15 : decode cX6_traps 15 = .ok (.ifCond .eq 22, 3) := by decide +kernel
theorem dX6_traps_18 : decode cX6_traps 18 = .ok (.lload 4, 2) := by decide +kernel
theorem dX6_traps_20 : decode cX6_traps 20 = .ok (.invokestatic 41, 3) := by decide +kernel
theorem dX6_traps_23 : decode cX6_traps 23 = .ok (.ldc2_w 19, 3) := by decide +kernel
theorem dX6_traps_26 : decode cX6_traps 26 = .ok (.lload_n 2, 1) := by decide +kernel
theorem dX6_traps_27 : decode cX6_traps 27 = .ok (.invokestatic 41, 3) := by decide +kernel
theorem dX6_traps_30 : decode cX6_traps 30 = .ok (.ldiv, 1) := by decide +kernel
theorem dX6_traps_31 : decode cX6_traps 31 = .ok (.lcmp, 1) := by decide +kernel
theorem dX6_traps_32 : decode cX6_traps 32 = .ok (.ifCond .le 5, 3) := by decide +kernel
theorem dX6_traps_35 : decode cX6_traps 35 = .ok (.iconst 1, 1) := by decide +kernel
theorem dX6_traps_36 : decode cX6_traps 36 = .ok (.ireturn, 1) := by decide +kernel
theorem dX6_traps_37 : decode cX6_traps 37 = .ok (.iload_n 1, 1) := by decide +kernel
theorem dX6_traps_38 : decode cX6_traps 38 = .ok (.lload_n 2, 1) := by decide +kernel
theorem dX6_traps_39 : decode cX6_traps 39 = .ok (.lload 4, 2) := by decide +kernel
theorem dX6_traps_41 : decode cX6_traps 41 = .ok (.invokestatic 47, 3) := by decide +kernel
theorem dX6_traps_44 : decode cX6_traps 44 = .ok (.lstore 6, 2) := by decide +kernel
theorem dX6_traps_46 : decode cX6_traps 46 = .ok (.lload 6, 2) := by decide +kernel
theorem dX6_traps_48 : decode cX6_traps 48 = .ok (.iload_n 0, 1) := by decide +kernel
theorem dX6_traps_49 : decode cX6_traps 49 = .ok (.invokestatic 31, 3) := by decide +kernel
theorem dX6_traps_52 : decode cX6_traps 52 = .ok (.lcmp, 1) := by decide +kernel
theorem dX6_traps_53 : decode cX6_traps 53 = .ok (.ifCond .lt 13, 3) := by decide +kernel
theorem dX6_traps_56 : decode cX6_traps 56 = .ok (.lload 6, 2) := by decide +kernel
theorem dX6_traps_58 : decode cX6_traps 58 = .ok (.iload_n 0, 1) := by decide +kernel
theorem dX6_traps_59 : decode cX6_traps 59 = .ok (.invokestatic 35, 3) := by decide +kernel
theorem dX6_traps_62 : decode cX6_traps 62 = .ok (.lcmp, 1) := by decide +kernel
theorem dX6_traps_63 : decode cX6_traps 63 = .ok (.ifCond .le 7, 3) := by decide +kernel
theorem dX6_traps_66 : decode cX6_traps 66 = .ok (.iconst 1, 1) := by decide +kernel
theorem dX6_traps_67 : decode cX6_traps 67 = .ok (.goto 4, 3) := by decide +kernel
theorem dX6_traps_70 : decode cX6_traps 70 = .ok (.iconst 0, 1) := by decide +kernel
theorem dX6_traps_71 : decode cX6_traps 71 = .ok (.ireturn, 1) := by decide +kernel
theorem dX6_ofWholes_0 : decode cX6_ofWholes 0 = .ok (.iload_n 0, 1) := by decide +kernel
theorem dX6_ofWholes_1 : decode cX6_ofWholes 1 = .ok (.tableswitch 99 37 47 #[85, 99, 99, 99, 99, 67, 59, 99, 63, 99, 71], 59) := by decide +kernel
theorem dX6_ofWholes_60 : decode cX6_ofWholes 60 = .ok (.lload_n 1, 1) := by decide +kernel
theorem dX6_ofWholes_61 : decode cX6_ofWholes 61 = .ok (.lload_n 3, 1) := by decide +kernel
theorem dX6_ofWholes_62 : decode cX6_ofWholes 62 = .ok (.ladd, 1) := by decide +kernel
theorem dX6_ofWholes_63 : decode cX6_ofWholes 63 = .ok (.lreturn, 1) := by decide +kernel
theorem dX6_ofWholes_64 : decode cX6_ofWholes 64 = .ok (.lload_n 1, 1) := by decide +kernel
theorem dX6_ofWholes_65 : decode cX6_ofWholes 65 = .ok (.lload_n 3, 1) := by decide +kernel
theorem dX6_ofWholes_66 : decode cX6_ofWholes 66 = .ok (.lsub, 1) := by decide +kernel
theorem dX6_ofWholes_67 : decode cX6_ofWholes 67 = .ok (.lreturn, 1) := by decide +kernel
theorem dX6_ofWholes_68 : decode cX6_ofWholes 68 = .ok (.lload_n 1, 1) := by decide +kernel
theorem dX6_ofWholes_69 : decode cX6_ofWholes 69 = .ok (.lload_n 3, 1) := by decide +kernel
theorem dX6_ofWholes_70 : decode cX6_ofWholes 70 = .ok (.lmul, 1) := by decide +kernel
theorem dX6_ofWholes_71 : decode cX6_ofWholes 71 = .ok (.lreturn, 1) := by decide +kernel
theorem dX6_ofWholes_72 : decode cX6_ofWholes 72 = .ok (.lload_n 3, 1) := by decide +kernel
theorem dX6_ofWholes_73 : decode cX6_ofWholes 73 = .ok (.lconst 0, 1) := by decide +kernel
theorem dX6_ofWholes_74 : decode cX6_ofWholes 74 = .ok (.lcmp, 1) := by decide +kernel
theorem dX6_ofWholes_75 : decode cX6_ofWholes 75 = .ok (.ifCond .ne 7, 3) := by decide +kernel
theorem dX6_ofWholes_78 : decode cX6_ofWholes 78 = .ok (.lconst 0, 1) := by decide +kernel
theorem dX6_ofWholes_79 : decode cX6_ofWholes 79 = .ok (.goto 6, 3) := by decide +kernel
theorem dX6_ofWholes_82 : decode cX6_ofWholes 82 = .ok (.lload_n 1, 1) := by decide +kernel
theorem dX6_ofWholes_83 : decode cX6_ofWholes 83 = .ok (.lload_n 3, 1) := by decide +kernel
theorem dX6_ofWholes_84 : decode cX6_ofWholes 84 = .ok (.ldiv, 1) := by decide +kernel
theorem dX6_ofWholes_85 : decode cX6_ofWholes 85 = .ok (.lreturn, 1) := by decide +kernel
theorem dX6_ofWholes_86 : decode cX6_ofWholes 86 = .ok (.lload_n 3, 1) := by decide +kernel
theorem dX6_ofWholes_87 : decode cX6_ofWholes 87 = .ok (.lconst 0, 1) := by decide +kernel
theorem dX6_ofWholes_88 : decode cX6_ofWholes 88 = .ok (.lcmp, 1) := by decide +kernel
theorem dX6_ofWholes_89 : decode cX6_ofWholes 89 = .ok (.ifCond .ne 7, 3) := by decide +kernel
theorem dX6_ofWholes_92 : decode cX6_ofWholes 92 = .ok (.lconst 0, 1) := by decide +kernel
theorem dX6_ofWholes_93 : decode cX6_ofWholes 93 = .ok (.goto 6, 3) := by decide +kernel
theorem dX6_ofWholes_96 : decode cX6_ofWholes 96 = .ok (.lload_n 1, 1) := by decide +kernel
theorem dX6_ofWholes_97 : decode cX6_ofWholes 97 = .ok (.lload_n 3, 1) := by decide +kernel
theorem dX6_ofWholes_98 : decode cX6_ofWholes 98 = .ok (.lrem, 1) := by decide +kernel
theorem dX6_ofWholes_99 : decode cX6_ofWholes 99 = .ok (.lreturn, 1) := by decide +kernel
theorem dX6_ofWholes_100 : decode cX6_ofWholes 100 = .ok (.lconst 0, 1) := by decide +kernel
theorem dX6_ofWholes_101 : decode cX6_ofWholes 101 = .ok (.lreturn, 1) := by decide +kernel
theorem dX6_ofReals_0 : decode cX6_ofReals 0 = .ok (.iload_n 0, 1) := by decide +kernel
theorem dX6_ofReals_1 : decode cX6_ofReals 1 = .ok (.tableswitch 101 37 47 #[85, 101, 101, 101, 101, 67, 59, 101, 63, 101, 71], 59) := by decide +kernel
theorem dX6_ofReals_60 : decode cX6_ofReals 60 = .ok (.dload_n 1, 1) := by decide +kernel
theorem dX6_ofReals_61 : decode cX6_ofReals 61 = .ok (.dload_n 3, 1) := by decide +kernel
theorem dX6_ofReals_62 : decode cX6_ofReals 62 = .ok (.dadd, 1) := by decide +kernel
theorem dX6_ofReals_63 : decode cX6_ofReals 63 = .ok (.dreturn, 1) := by decide +kernel
theorem dX6_ofReals_64 : decode cX6_ofReals 64 = .ok (.dload_n 1, 1) := by decide +kernel
theorem dX6_ofReals_65 : decode cX6_ofReals 65 = .ok (.dload_n 3, 1) := by decide +kernel
theorem dX6_ofReals_66 : decode cX6_ofReals 66 = .ok (.dsub, 1) := by decide +kernel
theorem dX6_ofReals_67 : decode cX6_ofReals 67 = .ok (.dreturn, 1) := by decide +kernel
theorem dX6_ofReals_68 : decode cX6_ofReals 68 = .ok (.dload_n 1, 1) := by decide +kernel
theorem dX6_ofReals_69 : decode cX6_ofReals 69 = .ok (.dload_n 3, 1) := by decide +kernel
theorem dX6_ofReals_70 : decode cX6_ofReals 70 = .ok (.dmul, 1) := by decide +kernel
theorem dX6_ofReals_71 : decode cX6_ofReals 71 = .ok (.dreturn, 1) := by decide +kernel
theorem dX6_ofReals_72 : decode cX6_ofReals 72 = .ok (.dload_n 3, 1) := by decide +kernel
theorem dX6_ofReals_73 : decode cX6_ofReals 73 = .ok (.dconst 0, 1) := by decide +kernel
theorem dX6_ofReals_74 : decode cX6_ofReals 74 = .ok (.dcmp .l, 1) := by decide +kernel
theorem dX6_ofReals_75 : decode cX6_ofReals 75 = .ok (.ifCond .ne 7, 3) := by decide +kernel
theorem dX6_ofReals_78 : decode cX6_ofReals 78 = .ok (.dconst 0, 1) := by decide +kernel
theorem dX6_ofReals_79 : decode cX6_ofReals 79 = .ok (.goto 6, 3) := by decide +kernel
theorem dX6_ofReals_82 : decode cX6_ofReals 82 = .ok (.dload_n 1, 1) := by decide +kernel
theorem dX6_ofReals_83 : decode cX6_ofReals 83 = .ok (.dload_n 3, 1) := by decide +kernel
theorem dX6_ofReals_84 : decode cX6_ofReals 84 = .ok (.ddiv, 1) := by decide +kernel
theorem dX6_ofReals_85 : decode cX6_ofReals 85 = .ok (.dreturn, 1) := by decide +kernel
theorem dX6_ofReals_86 : decode cX6_ofReals 86 = .ok (.dload_n 3, 1) := by decide +kernel
theorem dX6_ofReals_87 : decode cX6_ofReals 87 = .ok (.dconst 0, 1) := by decide +kernel
theorem dX6_ofReals_88 : decode cX6_ofReals 88 = .ok (.dcmp .l, 1) := by decide +kernel
theorem dX6_ofReals_89 : decode cX6_ofReals 89 = .ok (.ifCond .ne 7, 3) := by decide +kernel
theorem dX6_ofReals_92 : decode cX6_ofReals 92 = .ok (.dconst 0, 1) := by decide +kernel
theorem dX6_ofReals_93 : decode cX6_ofReals 93 = .ok (.goto 8, 3) := by decide +kernel
theorem dX6_ofReals_96 : decode cX6_ofReals 96 = .ok (.dload_n 1, 1) := by decide +kernel
theorem dX6_ofReals_97 : decode cX6_ofReals 97 = .ok (.dload_n 3, 1) := by decide +kernel
theorem dX6_ofReals_98 : decode cX6_ofReals 98 = .ok (.invokestatic 51, 3) := by decide +kernel
theorem dX6_ofReals_101 : decode cX6_ofReals 101 = .ok (.dreturn, 1) := by decide +kernel
theorem dX6_ofReals_102 : decode cX6_ofReals 102 = .ok (.dconst 0, 1) := by decide +kernel
theorem dX6_ofReals_103 : decode cX6_ofReals 103 = .ok (.dreturn, 1) := by decide +kernel
theorem dX6_rest_0 : decode cX6_rest 0 = .ok (.dload_n 0, 1) := by decide +kernel
theorem dX6_rest_1 : decode cX6_rest 1 = .ok (.dconst 0, 1) := by decide +kernel
theorem dX6_rest_2 : decode cX6_rest 2 = .ok (.dcmp .g, 1) := by decide +kernel
theorem dX6_rest_3 : decode cX6_rest 3 = .ok (.ifCond .ge 8, 3) := by decide +kernel
theorem dX6_rest_6 : decode cX6_rest 6 = .ok (.dload_n 0, 1) := by decide +kernel
theorem dX6_rest_7 : decode cX6_rest 7 = .ok (.dneg, 1) := by decide +kernel
theorem dX6_rest_8 : decode cX6_rest 8 = .ok (.goto 4, 3) := by decide +kernel
theorem dX6_rest_11 : decode cX6_rest 11 = .ok (.dload_n 0, 1) := by decide +kernel
theorem dX6_rest_12 : decode cX6_rest 12 = .ok (.dstore 4, 2) := by decide +kernel
theorem dX6_rest_14 : decode cX6_rest 14 = .ok (.dload_n 2, 1) := by decide +kernel
theorem dX6_rest_15 : decode cX6_rest 15 = .ok (.dconst 0, 1) := by decide +kernel
theorem dX6_rest_16 : decode cX6_rest 16 = .ok (.dcmp .g, 1) := by decide +kernel
theorem dX6_rest_17 : decode cX6_rest 17 = .ok (.ifCond .ge 8, 3) := by decide +kernel
theorem dX6_rest_20 : decode cX6_rest 20 = .ok (.dload_n 2, 1) := by decide +kernel
theorem dX6_rest_21 : decode cX6_rest 21 = .ok (.dneg, 1) := by decide +kernel
theorem dX6_rest_22 : decode cX6_rest 22 = .ok (.goto 4, 3) := by decide +kernel
theorem dX6_rest_25 : decode cX6_rest 25 = .ok (.dload_n 2, 1) := by decide +kernel
theorem dX6_rest_26 : decode cX6_rest 26 = .ok (.dstore 6, 2) := by decide +kernel
theorem dX6_rest_28 : decode cX6_rest 28 = .ok (.dload 4, 2) := by decide +kernel
theorem dX6_rest_30 : decode cX6_rest 30 = .ok (.dload 6, 2) := by decide +kernel
theorem dX6_rest_32 : decode cX6_rest 32 = .ok (.dcmp .g, 1) := by decide +kernel
theorem dX6_rest_33 : decode cX6_rest 33 = .ok (.ifCond .ge 5, 3) := by decide +kernel
theorem dX6_rest_36 : decode cX6_rest 36 = .ok (.dload_n 0, 1) := by decide +kernel
theorem dX6_rest_37 : decode cX6_rest 37 = .ok (.dreturn, 1) := by decide +kernel
theorem dX6_rest_38 : decode cX6_rest 38 = .ok (.iconst 0, 1) := by decide +kernel
theorem dX6_rest_39 : decode cX6_rest 39 = .ok (.istore 8, 2) := by decide +kernel
theorem dX6_rest_41 : decode cX6_rest 41 = .ok (.iload 8, 2) := by decide +kernel
theorem dX6_rest_43 : decode cX6_rest 43 = .ok (.sipush 2200, 3) := by decide +kernel
theorem dX6_rest_46 : decode cX6_rest 46 = .ok (.if_icmp .ge 42, 3) := by decide +kernel
theorem dX6_rest_49 : decode cX6_rest 49 = .ok (.dload 6, 2) := by decide +kernel
theorem dX6_rest_51 : decode cX6_rest 51 = .ok (.invokestatic 38, 3) := by decide +kernel
theorem dX6_rest_54 : decode cX6_rest 54 = .ok (.ldc2_w 55, 3) := by decide +kernel
theorem dX6_rest_57 : decode cX6_rest 57 = .ok (.ddiv, 1) := by decide +kernel
theorem dX6_rest_58 : decode cX6_rest 58 = .ok (.dcmp .g, 1) := by decide +kernel
theorem dX6_rest_59 : decode cX6_rest 59 = .ok (.ifCond .gt 29, 3) := by decide +kernel
theorem dX6_rest_62 : decode cX6_rest 62 = .ok (.dload 6, 2) := by decide +kernel
theorem dX6_rest_64 : decode cX6_rest 64 = .ok (.ldc2_w 55, 3) := by decide +kernel
theorem dX6_rest_67 : decode cX6_rest 67 = .ok (.dmul, 1) := by decide +kernel
theorem dX6_rest_68 : decode cX6_rest 68 = .ok (.dload 4, 2) := by decide +kernel
theorem dX6_rest_70 : decode cX6_rest 70 = .ok (.dcmp .g, 1) := by decide +kernel
theorem dX6_rest_71 : decode cX6_rest 71 = .ok (.ifCond .gt 17, 3) := by decide +kernel
theorem dX6_rest_74 : decode cX6_rest 74 = .ok (.dload 6, 2) := by decide +kernel
theorem dX6_rest_76 : decode cX6_rest 76 = .ok (.ldc2_w 55, 3) := by decide +kernel
theorem dX6_rest_79 : decode cX6_rest 79 = .ok (.dmul, 1) := by decide +kernel
theorem dX6_rest_80 : decode cX6_rest 80 = .ok (.dstore 6, 2) := by decide +kernel
theorem dX6_rest_82 : decode cX6_rest 82 = .ok (.iinc 8 1, 3) := by decide +kernel
theorem dX6_rest_85 : decode cX6_rest 85 = .ok (.goto (-44), 3) := by decide +kernel
theorem dX6_rest_88 : decode cX6_rest 88 = .ok (.iconst 0, 1) := by decide +kernel
theorem dX6_rest_89 : decode cX6_rest 89 = .ok (.istore 9, 2) := by decide +kernel
theorem dX6_rest_91 : decode cX6_rest 91 = .ok (.iload 9, 2) := by decide +kernel
theorem dX6_rest_93 : decode cX6_rest 93 = .ok (.iload 8, 2) := by decide +kernel
theorem dX6_rest_95 : decode cX6_rest 95 = .ok (.if_icmp .gt 32, 3) := by decide +kernel
theorem dX6_rest_98 : decode cX6_rest 98 = .ok (.dload 4, 2) := by decide +kernel
theorem dX6_rest_100 : decode cX6_rest 100 = .ok (.dload 6, 2) := by decide +kernel
theorem dX6_rest_102 : decode cX6_rest 102 = .ok (.dcmp .l, 1) := by decide +kernel
theorem dX6_rest_103 : decode cX6_rest 103 = .ok (.ifCond .lt 10, 3) := by decide +kernel
theorem dX6_rest_106 : decode cX6_rest 106 = .ok (.dload 4, 2) := by decide +kernel
theorem dX6_rest_108 : decode cX6_rest 108 = .ok (.dload 6, 2) := by decide +kernel
theorem dX6_rest_110 : decode cX6_rest 110 = .ok (.dsub, 1) := by decide +kernel
theorem dX6_rest_111 : decode cX6_rest 111 = .ok (.dstore 4, 2) := by decide +kernel
theorem dX6_rest_113 : decode cX6_rest 113 = .ok (.dload 6, 2) := by decide +kernel
theorem dX6_rest_115 : decode cX6_rest 115 = .ok (.ldc2_w 57, 3) := by decide +kernel
theorem dX6_rest_118 : decode cX6_rest 118 = .ok (.dmul, 1) := by decide +kernel
theorem dX6_rest_119 : decode cX6_rest 119 = .ok (.dstore 6, 2) := by decide +kernel
theorem dX6_rest_121 : decode cX6_rest 121 = .ok (.iinc 9 1, 3) := by decide +kernel
theorem dX6_rest_124 : decode cX6_rest 124 = .ok (.goto (-33), 3) := by decide +kernel
theorem dX6_rest_127 : decode cX6_rest 127 = .ok (.dload_n 0, 1) := by decide +kernel
theorem dX6_rest_128 : decode cX6_rest 128 = .ok (.dconst 0, 1) := by decide +kernel
theorem dX6_rest_129 : decode cX6_rest 129 = .ok (.dcmp .g, 1) := by decide +kernel
theorem dX6_rest_130 : decode cX6_rest 130 = .ok (.ifCond .ge 9, 3) := by decide +kernel
theorem dX6_rest_133 : decode cX6_rest 133 = .ok (.dload 4, 2) := by decide +kernel
theorem dX6_rest_135 : decode cX6_rest 135 = .ok (.dneg, 1) := by decide +kernel
theorem dX6_rest_136 : decode cX6_rest 136 = .ok (.goto 5, 3) := by decide +kernel
theorem dX6_rest_139 : decode cX6_rest 139 = .ok (.dload 4, 2) := by decide +kernel
theorem dX6_rest_141 : decode cX6_rest 141 = .ok (.dreturn, 1) := by decide +kernel
theorem dX6_compareWholes_0 : decode cX6_compareWholes 0 = .ok (.iload_n 0, 1) := by decide +kernel
theorem dX6_compareWholes_1 : decode cX6_compareWholes 1 = .ok (.lookupswitch 91 #[(60, 43), (62, 55), (131, 67), (132, 79)], 43) := by decide +kernel
theorem dX6_compareWholes_44 : decode cX6_compareWholes 44 = .ok (.lload_n 1, 1) := by decide +kernel
theorem dX6_compareWholes_45 : decode cX6_compareWholes 45 = .ok (.lload_n 3, 1) := by decide +kernel
theorem dX6_compareWholes_46 : decode cX6_compareWholes 46 = .ok (.lcmp, 1) := by decide +kernel
theorem dX6_compareWholes_47 : decode cX6_compareWholes 47 = .ok (.ifCond .ge 7, 3) := by decide +kernel
theorem dX6_compareWholes_50 : decode cX6_compareWholes 50 = .ok (.iconst 1, 1) := by decide +kernel
theorem dX6_compareWholes_51 : decode cX6_compareWholes 51 = .ok (.goto 4, 3) := by decide +kernel
theorem dX6_compareWholes_54 : decode cX6_compareWholes 54 = .ok (.iconst 0, 1) := by decide +kernel
theorem dX6_compareWholes_55 : decode cX6_compareWholes 55 = .ok (.ireturn, 1) := by decide +kernel
theorem dX6_compareWholes_56 : decode cX6_compareWholes 56 = .ok (.lload_n 1, 1) := by decide +kernel
theorem dX6_compareWholes_57 : decode cX6_compareWholes 57 = .ok (.lload_n 3, 1) := by decide +kernel
theorem dX6_compareWholes_58 : decode cX6_compareWholes 58 = .ok (.lcmp, 1) := by decide +kernel
theorem dX6_compareWholes_59 : decode cX6_compareWholes 59 = .ok (.ifCond .le 7, 3) := by decide +kernel
theorem dX6_compareWholes_62 : decode cX6_compareWholes 62 = .ok (.iconst 1, 1) := by decide +kernel
theorem dX6_compareWholes_63 : decode cX6_compareWholes 63 = .ok (.goto 4, 3) := by decide +kernel
theorem dX6_compareWholes_66 : decode cX6_compareWholes 66 = .ok (.iconst 0, 1) := by decide +kernel
theorem dX6_compareWholes_67 : decode cX6_compareWholes 67 = .ok (.ireturn, 1) := by decide +kernel
theorem dX6_compareWholes_68 : decode cX6_compareWholes 68 = .ok (.lload_n 1, 1) := by decide +kernel
theorem dX6_compareWholes_69 : decode cX6_compareWholes 69 = .ok (.lload_n 3, 1) := by decide +kernel
theorem dX6_compareWholes_70 : decode cX6_compareWholes 70 = .ok (.lcmp, 1) := by decide +kernel
theorem dX6_compareWholes_71 : decode cX6_compareWholes 71 = .ok (.ifCond .gt 7, 3) := by decide +kernel
theorem dX6_compareWholes_74 : decode cX6_compareWholes 74 = .ok (.iconst 1, 1) := by decide +kernel
theorem dX6_compareWholes_75 : decode cX6_compareWholes 75 = .ok (.goto 4, 3) := by decide +kernel
theorem dX6_compareWholes_78 : decode cX6_compareWholes 78 = .ok (.iconst 0, 1) := by decide +kernel
theorem dX6_compareWholes_79 : decode cX6_compareWholes 79 = .ok (.ireturn, 1) := by decide +kernel
theorem dX6_compareWholes_80 : decode cX6_compareWholes 80 = .ok (.lload_n 1, 1) := by decide +kernel
theorem dX6_compareWholes_81 : decode cX6_compareWholes 81 = .ok (.lload_n 3, 1) := by decide +kernel
theorem dX6_compareWholes_82 : decode cX6_compareWholes 82 = .ok (.lcmp, 1) := by decide +kernel
theorem dX6_compareWholes_83 : decode cX6_compareWholes 83 = .ok (.ifCond .lt 7, 3) := by decide +kernel
theorem dX6_compareWholes_86 : decode cX6_compareWholes 86 = .ok (.iconst 1, 1) := by decide +kernel
theorem dX6_compareWholes_87 : decode cX6_compareWholes 87 = .ok (.goto 4, 3) := by decide +kernel
theorem dX6_compareWholes_90 : decode cX6_compareWholes 90 = .ok (.iconst 0, 1) := by decide +kernel
theorem dX6_compareWholes_91 : decode cX6_compareWholes 91 = .ok (.ireturn, 1) := by decide +kernel
theorem dX6_compareWholes_92 : decode cX6_compareWholes 92 = .ok (.iconst 0, 1) := by decide +kernel
theorem dX6_compareWholes_93 : decode cX6_compareWholes 93 = .ok (.ireturn, 1) := by decide +kernel
theorem dX6_compareReals_0 : decode cX6_compareReals 0 = .ok (.iload_n 0, 1) := by decide +kernel
theorem dX6_compareReals_1 : decode cX6_compareReals 1 = .ok (.lookupswitch 91 #[(60, 43), (62, 55), (131, 67), (132, 79)], 43) := by decide +kernel
theorem dX6_compareReals_44 : decode cX6_compareReals 44 = .ok (.dload_n 1, 1) := by decide +kernel
theorem dX6_compareReals_45 : decode cX6_compareReals 45 = .ok (.dload_n 3, 1) := by decide +kernel
theorem dX6_compareReals_46 : decode cX6_compareReals 46 = .ok (.dcmp .g, 1) := by decide +kernel
theorem dX6_compareReals_47 : decode cX6_compareReals 47 = .ok (.ifCond .ge 7, 3) := by decide +kernel
theorem dX6_compareReals_50 : decode cX6_compareReals 50 = .ok (.iconst 1, 1) := by decide +kernel
theorem dX6_compareReals_51 : decode cX6_compareReals 51 = .ok (.goto 4, 3) := by decide +kernel
theorem dX6_compareReals_54 : decode cX6_compareReals 54 = .ok (.iconst 0, 1) := by decide +kernel
theorem dX6_compareReals_55 : decode cX6_compareReals 55 = .ok (.ireturn, 1) := by decide +kernel
theorem dX6_compareReals_56 : decode cX6_compareReals 56 = .ok (.dload_n 1, 1) := by decide +kernel
theorem dX6_compareReals_57 : decode cX6_compareReals 57 = .ok (.dload_n 3, 1) := by decide +kernel
theorem dX6_compareReals_58 : decode cX6_compareReals 58 = .ok (.dcmp .l, 1) := by decide +kernel
theorem dX6_compareReals_59 : decode cX6_compareReals 59 = .ok (.ifCond .le 7, 3) := by decide +kernel
theorem dX6_compareReals_62 : decode cX6_compareReals 62 = .ok (.iconst 1, 1) := by decide +kernel
theorem dX6_compareReals_63 : decode cX6_compareReals 63 = .ok (.goto 4, 3) := by decide +kernel
theorem dX6_compareReals_66 : decode cX6_compareReals 66 = .ok (.iconst 0, 1) := by decide +kernel
theorem dX6_compareReals_67 : decode cX6_compareReals 67 = .ok (.ireturn, 1) := by decide +kernel
theorem dX6_compareReals_68 : decode cX6_compareReals 68 = .ok (.dload_n 1, 1) := by decide +kernel
theorem dX6_compareReals_69 : decode cX6_compareReals 69 = .ok (.dload_n 3, 1) := by decide +kernel
theorem dX6_compareReals_70 : decode cX6_compareReals 70 = .ok (.dcmp .g, 1) := by decide +kernel
theorem dX6_compareReals_71 : decode cX6_compareReals 71 = .ok (.ifCond .gt 7, 3) := by decide +kernel
theorem dX6_compareReals_74 : decode cX6_compareReals 74 = .ok (.iconst 1, 1) := by decide +kernel
theorem dX6_compareReals_75 : decode cX6_compareReals 75 = .ok (.goto 4, 3) := by decide +kernel
theorem dX6_compareReals_78 : decode cX6_compareReals 78 = .ok (.iconst 0, 1) := by decide +kernel
theorem dX6_compareReals_79 : decode cX6_compareReals 79 = .ok (.ireturn, 1) := by decide +kernel
theorem dX6_compareReals_80 : decode cX6_compareReals 80 = .ok (.dload_n 1, 1) := by decide +kernel
theorem dX6_compareReals_81 : decode cX6_compareReals 81 = .ok (.dload_n 3, 1) := by decide +kernel
theorem dX6_compareReals_82 : decode cX6_compareReals 82 = .ok (.dcmp .l, 1) := by decide +kernel
theorem dX6_compareReals_83 : decode cX6_compareReals 83 = .ok (.ifCond .lt 7, 3) := by decide +kernel
theorem dX6_compareReals_86 : decode cX6_compareReals 86 = .ok (.iconst 1, 1) := by decide +kernel
theorem dX6_compareReals_87 : decode cX6_compareReals 87 = .ok (.goto 4, 3) := by decide +kernel
theorem dX6_compareReals_90 : decode cX6_compareReals 90 = .ok (.iconst 0, 1) := by decide +kernel
theorem dX6_compareReals_91 : decode cX6_compareReals 91 = .ok (.ireturn, 1) := by decide +kernel
theorem dX6_compareReals_92 : decode cX6_compareReals 92 = .ok (.iconst 0, 1) := by decide +kernel
theorem dX6_compareReals_93 : decode cX6_compareReals 93 = .ok (.ireturn, 1) := by decide +kernel
theorem dX6_bits_0 : decode cX6_bits 0 = .ok (.dload_n 0, 1) := by decide +kernel
theorem dX6_bits_1 : decode cX6_bits 1 = .ok (.dconst 0, 1) := by decide +kernel
theorem dX6_bits_2 : decode cX6_bits 2 = .ok (.dcmp .l, 1) := by decide +kernel
theorem dX6_bits_3 : decode cX6_bits 3 = .ok (.ifCond .ne 19, 3) := by decide +kernel
theorem dX6_bits_6 : decode cX6_bits 6 = .ok (.dconst 1, 1) := by decide +kernel
theorem dX6_bits_7 : decode cX6_bits 7 = .ok (.dload_n 0, 1) := by decide +kernel
theorem dX6_bits_8 : decode cX6_bits 8 = .ok (.ddiv, 1) := by decide +kernel
theorem dX6_bits_9 : decode cX6_bits 9 = .ok (.dconst 0, 1) := by decide +kernel
theorem dX6_bits_10 : decode cX6_bits 10 = .ok (.dcmp .g, 1) := by decide +kernel
theorem dX6_bits_11 : decode cX6_bits 11 = .ok (.ifCond .ge 9, 3) := by decide +kernel
theorem dX6_bits_14 : decode cX6_bits 14 = .ok (.ldc2_w 15, 3) := by decide +kernel
theorem dX6_bits_17 : decode cX6_bits 17 = .ok (.goto 4, 3) := by decide +kernel
theorem dX6_bits_20 : decode cX6_bits 20 = .ok (.lconst 0, 1) := by decide +kernel
theorem dX6_bits_21 : decode cX6_bits 21 = .ok (.lreturn, 1) := by decide +kernel
theorem dX6_bits_22 : decode cX6_bits 22 = .ok (.dload_n 0, 1) := by decide +kernel
theorem dX6_bits_23 : decode cX6_bits 23 = .ok (.dconst 0, 1) := by decide +kernel
theorem dX6_bits_24 : decode cX6_bits 24 = .ok (.dcmp .g, 1) := by decide +kernel
theorem dX6_bits_25 : decode cX6_bits 25 = .ok (.ifCond .ge 9, 3) := by decide +kernel
theorem dX6_bits_28 : decode cX6_bits 28 = .ok (.ldc2_w 15, 3) := by decide +kernel
theorem dX6_bits_31 : decode cX6_bits 31 = .ok (.goto 4, 3) := by decide +kernel
theorem dX6_bits_34 : decode cX6_bits 34 = .ok (.lconst 0, 1) := by decide +kernel
theorem dX6_bits_35 : decode cX6_bits 35 = .ok (.lstore_n 2, 1) := by decide +kernel
theorem dX6_bits_36 : decode cX6_bits 36 = .ok (.dload_n 0, 1) := by decide +kernel
theorem dX6_bits_37 : decode cX6_bits 37 = .ok (.dconst 0, 1) := by decide +kernel
theorem dX6_bits_38 : decode cX6_bits 38 = .ok (.dcmp .g, 1) := by decide +kernel
theorem dX6_bits_39 : decode cX6_bits 39 = .ok (.ifCond .ge 8, 3) := by decide +kernel
theorem dX6_bits_42 : decode cX6_bits 42 = .ok (.dload_n 0, 1) := by decide +kernel
theorem dX6_bits_43 : decode cX6_bits 43 = .ok (.dneg, 1) := by decide +kernel
theorem dX6_bits_44 : decode cX6_bits 44 = .ok (.goto 4, 3) := by decide +kernel
theorem dX6_bits_47 : decode cX6_bits 47 = .ok (.dload_n 0, 1) := by decide +kernel
theorem dX6_bits_48 : decode cX6_bits 48 = .ok (.dstore 4, 2) := by decide +kernel
theorem dX6_bits_50 : decode cX6_bits 50 = .ok (.iconst 0, 1) := by decide +kernel
theorem dX6_bits_51 : decode cX6_bits 51 = .ok (.istore 6, 2) := by decide +kernel
theorem dX6_bits_53 : decode cX6_bits 53 = .ok (.iconst 0, 1) := by decide +kernel
theorem dX6_bits_54 : decode cX6_bits 54 = .ok (.istore 7, 2) := by decide +kernel
theorem dX6_bits_56 : decode cX6_bits 56 = .ok (.iload 7, 2) := by decide +kernel
theorem dX6_bits_58 : decode cX6_bits 58 = .ok (.sipush 1100, 3) := by decide +kernel
theorem dX6_bits_61 : decode cX6_bits 61 = .ok (.if_icmp .ge 29, 3) := by decide +kernel
theorem dX6_bits_64 : decode cX6_bits 64 = .ok (.dload 4, 2) := by decide +kernel
theorem dX6_bits_66 : decode cX6_bits 66 = .ok (.ldc2_w 55, 3) := by decide +kernel
theorem dX6_bits_69 : decode cX6_bits 69 = .ok (.dcmp .l, 1) := by decide +kernel
theorem dX6_bits_70 : decode cX6_bits 70 = .ok (.ifCond .lt 20, 3) := by decide +kernel
theorem dX6_bits_73 : decode cX6_bits 73 = .ok (.dload 4, 2) := by decide +kernel
theorem dX6_bits_75 : decode cX6_bits 75 = .ok (.ldc2_w 57, 3) := by decide +kernel
theorem dX6_bits_78 : decode cX6_bits 78 = .ok (.dmul, 1) := by decide +kernel
theorem dX6_bits_79 : decode cX6_bits 79 = .ok (.dstore 4, 2) := by decide +kernel
theorem dX6_bits_81 : decode cX6_bits 81 = .ok (.iinc 6 1, 3) := by decide +kernel
theorem dX6_bits_84 : decode cX6_bits 84 = .ok (.iinc 7 1, 3) := by decide +kernel
theorem dX6_bits_87 : decode cX6_bits 87 = .ok (.goto (-31), 3) := by decide +kernel
theorem dX6_bits_90 : decode cX6_bits 90 = .ok (.iconst 0, 1) := by decide +kernel
theorem dX6_bits_91 : decode cX6_bits 91 = .ok (.istore 7, 2) := by decide +kernel
theorem dX6_bits_93 : decode cX6_bits 93 = .ok (.iload 7, 2) := by decide +kernel
theorem dX6_bits_95 : decode cX6_bits 95 = .ok (.sipush 1100, 3) := by decide +kernel
theorem dX6_bits_98 : decode cX6_bits 98 = .ok (.if_icmp .ge 27, 3) := by decide +kernel
theorem dX6_bits_101 : decode cX6_bits 101 = .ok (.dload 4, 2) := by decide +kernel
theorem dX6_bits_103 : decode cX6_bits 103 = .ok (.dconst 1, 1) := by decide +kernel
theorem dX6_bits_104 : decode cX6_bits 104 = .ok (.dcmp .g, 1) := by decide +kernel
theorem dX6_bits_105 : decode cX6_bits 105 = .ok (.ifCond .ge 20, 3) := by decide +kernel
theorem dX6_bits_108 : decode cX6_bits 108 = .ok (.dload 4, 2) := by decide +kernel
theorem dX6_bits_110 : decode cX6_bits 110 = .ok (.ldc2_w 55, 3) := by decide +kernel
theorem dX6_bits_113 : decode cX6_bits 113 = .ok (.dmul, 1) := by decide +kernel
theorem dX6_bits_114 : decode cX6_bits 114 = .ok (.dstore 4, 2) := by decide +kernel
theorem dX6_bits_116 : decode cX6_bits 116 = .ok (.iinc 6 (-1), 3) := by decide +kernel
theorem dX6_bits_119 : decode cX6_bits 119 = .ok (.iinc 7 1, 3) := by decide +kernel
theorem dX6_bits_122 : decode cX6_bits 122 = .ok (.goto (-29), 3) := by decide +kernel
theorem dX6_bits_125 : decode cX6_bits 125 = .ok (.dload 4, 2) := by decide +kernel
theorem dX6_bits_127 : decode cX6_bits 127 = .ok (.ldc2_w 59, 3) := by decide +kernel
theorem dX6_bits_130 : decode cX6_bits 130 = .ok (.dmul, 1) := by decide +kernel
theorem dX6_bits_131 : decode cX6_bits 131 = .ok (.d2l, 1) := by decide +kernel
theorem dX6_bits_132 : decode cX6_bits 132 = .ok (.lstore 7, 2) := by decide +kernel
theorem dX6_bits_134 : decode cX6_bits 134 = .ok (.iload 6, 2) := by decide +kernel
theorem dX6_bits_136 : decode cX6_bits 136 = .ok (.sipush (-1022), 3) := by decide +kernel
theorem dX6_bits_139 : decode cX6_bits 139 = .ok (.if_icmp .ge 15, 3) := by decide +kernel
theorem dX6_bits_142 : decode cX6_bits 142 = .ok (.lload_n 2, 1) := by decide +kernel
theorem dX6_bits_143 : decode cX6_bits 143 = .ok (.lload 7, 2) := by decide +kernel
theorem dX6_bits_145 : decode cX6_bits 145 = .ok (.sipush (-1022), 3) := by decide +kernel
theorem dX6_bits_148 : decode cX6_bits 148 = .ok (.iload 6, 2) := by decide +kernel
theorem dX6_bits_150 : decode cX6_bits 150 = .ok (.isub, 1) := by decide +kernel
theorem dX6_bits_151 : decode cX6_bits 151 = .ok (.lshr, 1) := by decide +kernel
theorem dX6_bits_152 : decode cX6_bits 152 = .ok (.lor, 1) := by decide +kernel
theorem dX6_bits_153 : decode cX6_bits 153 = .ok (.lreturn, 1) := by decide +kernel
theorem dX6_bits_154 : decode cX6_bits 154 = .ok (.lload_n 2, 1) := by decide +kernel
theorem dX6_bits_155 : decode cX6_bits 155 = .ok (.iload 6, 2) := by decide +kernel
theorem dX6_bits_157 : decode cX6_bits 157 = .ok (.sipush 1023, 3) := by decide +kernel
theorem dX6_bits_160 : decode cX6_bits 160 = .ok (.iadd, 1) := by decide +kernel
theorem dX6_bits_161 : decode cX6_bits 161 = .ok (.i2l, 1) := by decide +kernel
theorem dX6_bits_162 : decode cX6_bits 162 = .ok (.bipush 52, 2) := by decide +kernel
theorem dX6_bits_164 : decode cX6_bits 164 = .ok (.lshl, 1) := by decide +kernel
theorem dX6_bits_165 : decode cX6_bits 165 = .ok (.lor, 1) := by decide +kernel
theorem dX6_bits_166 : decode cX6_bits 166 = .ok (.lload 7, 2) := by decide +kernel
theorem dX6_bits_168 : decode cX6_bits 168 = .ok (.ldc2_w 61, 3) := by decide +kernel
theorem dX6_bits_171 : decode cX6_bits 171 = .ok (.lsub, 1) := by decide +kernel
theorem dX6_bits_172 : decode cX6_bits 172 = .ok (.lor, 1) := by decide +kernel
theorem dX6_bits_173 : decode cX6_bits 173 = .ok (.lreturn, 1) := by decide +kernel
set_option maxHeartbeats 4000000 in
set_option maxRecDepth 100000 in
theorem c_X6_ofWholes (ω : Om) (l : Launch) (μ : M3) (x1 : Int) (x2 : Int) (x3 : Int) (hx1 : ir x1) (hx2 : jr x2) (hx3 : jr x3) : CtL ω l yX6_ofWholes cX6_ofWholes 5 0 0 [.int (iv x1), .long (jv x2), .long (jv x3)] μ (fun (r : Int) (μ' : M3) => (μ' = μ)) := by
  refine CtL.go (by decide) (Nat.le_of_ble_eq_true rfl) (fun ρ p e s m below meth c R ls G hR hret hlk hl => ?_)
  have hx := G.1.1
  have hb := G.1.2.1
  have hl : lv_has ls 5 [(0, .int (iv x1)), (1, .long (jv x2)), (3, .long (jv x3))] := hl
  generalize s.drawn = d0 at G ⊢
  have hr_x1 : -2147483648 ≤ x1 ∧ x1 ≤ 2147483647 := hx1
  refine lv_iload_n hx hb dX6_ofWholes_0 rfl (lv_at hl 0 rfl) ?_
  by_cases c_1_out : x1 < 37 ∨ 47 < x1
  · refine xb_tout (tgt := 100) hx hb (by unfold ir; omega) dX6_ofWholes_1 c_1_out (by decide) ?_
    refine lv_lconst (v := jv 0) hx hb dX6_ofWholes_100 rfl ?_
    exact xr_l G (x := 0) hret hlk (by unfold jr; omega) dX6_ofWholes_101 rfl
  by_cases c_1_37 : x1 = 37
  · refine xb_tin (tgt := 86) hx hb (by unfold ir; omega) dX6_ofWholes_1 (by omega) (off := 85) (by rw [c_1_37]; rfl) (by decide) ?_
    refine lv_lload_n hx hb dX6_ofWholes_86 rfl (lv_at hl 2 rfl) ?_
    refine lv_lconst (v := jv 0) hx hb dX6_ofWholes_87 rfl ?_
    refine xb_lcmp hx hb hx3 (by unfold jr; omega) dX6_ofWholes_88 ?_
    have hr_1 : -2147483648 ≤ lcm x3 0 ∧ lcm x3 0 ≤ 2147483647 := lcm_ir _ _
    refine xb_if_ne (tgt := 96) hx hb (by unfold ir; omega) dX6_ofWholes_89 (by decide) (fun c_89 => ?_) (fun c_89 => ?_)
    · refine lv_lload_n hx hb dX6_ofWholes_96 rfl (lv_at hl 1 rfl) ?_
      refine lv_lload_n hx hb dX6_ofWholes_97 rfl (lv_at hl 2 rfl) ?_
      refine lv_lrem hx hb dX6_ofWholes_98 (jv_ne0 hx3 (fun h9 => c_89 (by rw [h9]; rfl))) ?_
      refine xb_topl (fun z_2 hr_z_2 he_z_2 => ?_)
      exact xr_l G (x := z_2) hret hlk hr_z_2 dX6_ofWholes_99 rfl
    · refine lv_lconst (v := jv 0) hx hb dX6_ofWholes_92 rfl ?_
      refine lv_goto (tgt := 99) hx hb dX6_ofWholes_93 (by decide) ?_
      exact xr_l G (x := 0) hret hlk (by unfold jr; omega) dX6_ofWholes_99 rfl
  by_cases c_1_38 : x1 = 38 ∨ x1 = 39 ∨ x1 = 40 ∨ x1 = 41 ∨ x1 = 44 ∨ x1 = 46
  · refine xb_tin (tgt := 100) hx hb (by unfold ir; omega) dX6_ofWholes_1 (by omega) (off := 99) (by rcases c_1_38 with h9 | h9 | h9 | h9 | h9 | h9 <;> (rw [h9]; rfl)) (by decide) ?_
    refine lv_lconst (v := jv 0) hx hb dX6_ofWholes_100 rfl ?_
    exact xr_l G (x := 0) hret hlk (by unfold jr; omega) dX6_ofWholes_101 rfl
  by_cases c_1_42 : x1 = 42
  · refine xb_tin (tgt := 68) hx hb (by unfold ir; omega) dX6_ofWholes_1 (by omega) (off := 67) (by rw [c_1_42]; rfl) (by decide) ?_
    refine lv_lload_n hx hb dX6_ofWholes_68 rfl (lv_at hl 1 rfl) ?_
    refine lv_lload_n hx hb dX6_ofWholes_69 rfl (lv_at hl 2 rfl) ?_
    refine xb_lmul hx hb dX6_ofWholes_70 ?_
    refine xb_topl (fun z_3 hr_z_3 he_z_3 => ?_)
    exact xr_l G (x := z_3) hret hlk hr_z_3 dX6_ofWholes_71 rfl
  by_cases c_1_43 : x1 = 43
  · refine xb_tin (tgt := 60) hx hb (by unfold ir; omega) dX6_ofWholes_1 (by omega) (off := 59) (by rw [c_1_43]; rfl) (by decide) ?_
    refine lv_lload_n hx hb dX6_ofWholes_60 rfl (lv_at hl 1 rfl) ?_
    refine lv_lload_n hx hb dX6_ofWholes_61 rfl (lv_at hl 2 rfl) ?_
    refine xb_ladd hx hb dX6_ofWholes_62 ?_
    refine xb_topl (fun z_4 hr_z_4 he_z_4 => ?_)
    exact xr_l G (x := z_4) hret hlk hr_z_4 dX6_ofWholes_63 rfl
  by_cases c_1_45 : x1 = 45
  · refine xb_tin (tgt := 64) hx hb (by unfold ir; omega) dX6_ofWholes_1 (by omega) (off := 63) (by rw [c_1_45]; rfl) (by decide) ?_
    refine lv_lload_n hx hb dX6_ofWholes_64 rfl (lv_at hl 1 rfl) ?_
    refine lv_lload_n hx hb dX6_ofWholes_65 rfl (lv_at hl 2 rfl) ?_
    refine xb_lsub hx hb dX6_ofWholes_66 ?_
    refine xb_topl (fun z_5 hr_z_5 he_z_5 => ?_)
    exact xr_l G (x := z_5) hret hlk hr_z_5 dX6_ofWholes_67 rfl
  have c_1_47 : x1 = 47 := by omega
  refine xb_tin (tgt := 72) hx hb (by unfold ir; omega) dX6_ofWholes_1 (by omega) (off := 71) (by rw [c_1_47]; rfl) (by decide) ?_
  refine lv_lload_n hx hb dX6_ofWholes_72 rfl (lv_at hl 2 rfl) ?_
  refine lv_lconst (v := jv 0) hx hb dX6_ofWholes_73 rfl ?_
  refine xb_lcmp hx hb hx3 (by unfold jr; omega) dX6_ofWholes_74 ?_
  have hr_6 : -2147483648 ≤ lcm x3 0 ∧ lcm x3 0 ≤ 2147483647 := lcm_ir _ _
  refine xb_if_ne (tgt := 82) hx hb (by unfold ir; omega) dX6_ofWholes_75 (by decide) (fun c_75 => ?_) (fun c_75 => ?_)
  · refine lv_lload_n hx hb dX6_ofWholes_82 rfl (lv_at hl 1 rfl) ?_
    refine lv_lload_n hx hb dX6_ofWholes_83 rfl (lv_at hl 2 rfl) ?_
    refine lv_ldiv hx hb dX6_ofWholes_84 (jv_ne0 hx3 (fun h9 => c_75 (by rw [h9]; rfl))) ?_
    refine xb_topl (fun z_7 hr_z_7 he_z_7 => ?_)
    exact xr_l G (x := z_7) hret hlk hr_z_7 dX6_ofWholes_85 rfl
  · refine lv_lconst (v := jv 0) hx hb dX6_ofWholes_78 rfl ?_
    refine lv_goto (tgt := 85) hx hb dX6_ofWholes_79 (by decide) ?_
    exact xr_l G (x := 0) hret hlk (by unfold jr; omega) dX6_ofWholes_85 rfl

set_option maxHeartbeats 4000000 in
set_option maxRecDepth 100000 in
theorem c_X6_traps (ω : Om) (l : Launch) (μ : M3) (x1 : Int) (x2 : Int) (x3 : Int) (x4 : Int) (hx1 : ir x1) (hx2 : ir x2) (hx3 : jr x3) (hx4 : jr x4) : CtI ω l yX6_traps cX6_traps 8 .boolean 1 40 [.int (iv x1), .int (iv x2), .long (jv x3), .long (jv x4)] μ (fun (r : Int) (μ' : M3) => (μ' = μ) ∧ (r = 0 ∨ r = 1)) := by
  refine CtI.go (by decide) (Nat.le_of_ble_eq_true rfl) (fun ρ p e s m below meth c R ls G hR hret hlk hl => ?_)
  have hx := G.1.1
  have hb := G.1.2.1
  have hl : lv_has ls 8 [(0, .int (iv x1)), (1, .int (iv x2)), (2, .long (jv x3)), (4, .long (jv x4))] := hl
  generalize s.drawn = d0 at G ⊢
  have hr_x1 : -2147483648 ≤ x1 ∧ x1 ≤ 2147483647 := hx1
  have hr_x2 : -2147483648 ≤ x2 ∧ x2 ≤ 2147483647 := hx2
  refine lv_iload_n hx hb dX6_traps_0 rfl (lv_at hl 0 rfl) ?_
  refine xb_if_ne (tgt := 6) hx hb (by unfold ir; omega) dX6_traps_1 (by decide) (fun c_1 => ?_) (fun c_1 => ?_)
  · refine lv_iload_n hx hb dX6_traps_6 rfl (lv_at hl 1 rfl) ?_
    refine lv_bipush (v := iv 42) hx hb dX6_traps_7 rfl ?_
    refine xb_icmp_ne (tgt := 37) hx hb (by unfold ir; omega) (by unfold ir; omega) dX6_traps_9 (by decide) (fun c_9 => ?_) (fun c_9 => ?_)
    · refine lv_iload_n hx hb dX6_traps_37 rfl (lv_at hl 1 rfl) ?_
      refine lv_lload_n hx hb dX6_traps_38 rfl (lv_at hl 2 rfl) ?_
      refine lv_lload hx hb dX6_traps_39 (lv_at hl 3 rfl) ?_
      refine xc_lS G (rest := []) (As := [.int (iv x2), .long (jv x3), .long (jv x4)]) (c_X6_ofWholes ω l μ x2 x3 x4 (by unfold ir; omega) hx3 hx4) (wm 6 188 rfl rfl) (wm 6 189 rfl rfl) (wm 1 20 rfl rfl) (wm 6 190 rfl rfl) (by decide) hR (by decide) (n := 3) rfl rfl (Nat.le_of_ble_eq_true rfl) hl.1 dX6_traps_41 (fun r_2 μ1 ρ d0 H locs hr_r_2 hp G => ?_)
      have hsm_3 := hp
      have hsm_3 := Eq.symm hsm_3
      subst hsm_3
      refine lv_lstore (lv' := [(6, .long (jv r_2)), (0, .int (iv x1)), (1, .int (iv x2)), (2, .long (jv x3)), (4, .long (jv x4))]) hx hb dX6_traps_44 hl (by decide) rfl (fun ls hl => ?_)
      refine lv_lload hx hb dX6_traps_46 (lv_at hl 0 rfl) ?_
      refine lv_iload_n hx hb dX6_traps_48 rfl (lv_at hl 1 rfl) ?_
      refine xc_lS G (rest := [.long (jv r_2)]) (As := [.int (iv x1)]) (c_X6_least ω l μ x1 (by unfold ir; omega)) (wm 5 40 rfl rfl) (wm 5 41 rfl rfl) (wm 1 20 rfl rfl) (wm 5 42 rfl rfl) (by decide) hR (by decide) (n := 1) rfl rfl (Nat.le_of_ble_eq_true rfl) hl.1 dX6_traps_49 (fun r_5 μ4 ρ d0 H locs hr_r_5 hp G => ?_)
      have hsm_6 := hp
      have hsm_6 := Eq.symm hsm_6
      subst hsm_6
      refine xb_lcmp hx hb hr_r_2 hr_r_5 dX6_traps_52 ?_
      have hr_7 : -2147483648 ≤ lcm r_2 r_5 ∧ lcm r_2 r_5 ≤ 2147483647 := lcm_ir _ _
      refine xb_if_lt (tgt := 66) hx hb (by unfold ir; omega) dX6_traps_53 (by decide) (fun c_53 => ?_) (fun c_53 => ?_)
      · refine lv_iconst (v := iv 1) hx hb dX6_traps_66 rfl ?_
        refine lv_goto (tgt := 71) hx hb dX6_traps_67 (by decide) ?_
        exact xr_i G (x := 1) hret hlk (by unfold ir; omega) (zr (by omega)) dX6_traps_71 ⟨rfl, (by omega)⟩
      · refine lv_lload hx hb dX6_traps_56 (lv_at hl 0 rfl) ?_
        refine lv_iload_n hx hb dX6_traps_58 rfl (lv_at hl 1 rfl) ?_
        refine xc_lS G (rest := [.long (jv r_2)]) (As := [.int (iv x1)]) (c_X6_most ω l μ x1 (by unfold ir; omega)) (wm 5 46 rfl rfl) (wm 3 91 rfl rfl) (wm 1 20 rfl rfl) (wm 3 92 rfl rfl) (by decide) hR (by decide) (n := 1) rfl rfl (Nat.le_of_ble_eq_true rfl) hl.1 dX6_traps_59 (fun r_9 μ8 ρ d0 H locs hr_r_9 hp G => ?_)
        have hsm_10 := hp
        have hsm_10 := Eq.symm hsm_10
        subst hsm_10
        refine xb_lcmp hx hb hr_r_2 hr_r_9 dX6_traps_62 ?_
        have hr_11 : -2147483648 ≤ lcm r_2 r_9 ∧ lcm r_2 r_9 ≤ 2147483647 := lcm_ir _ _
        refine xb_if_le (tgt := 70) hx hb (by unfold ir; omega) dX6_traps_63 (by decide) (fun c_63 => ?_) (fun c_63 => ?_)
        · refine lv_iconst (v := iv 0) hx hb dX6_traps_70 rfl ?_
          exact xr_i G (x := 0) hret hlk (by unfold ir; omega) (zr (by omega)) dX6_traps_71 ⟨rfl, (by omega)⟩
        · refine lv_iconst (v := iv 1) hx hb dX6_traps_66 rfl ?_
          refine lv_goto (tgt := 71) hx hb dX6_traps_67 (by decide) ?_
          exact xr_i G (x := 1) hret hlk (by unfold ir; omega) (zr (by omega)) dX6_traps_71 ⟨rfl, (by omega)⟩
    · refine lv_lload_n hx hb dX6_traps_12 rfl (lv_at hl 2 rfl) ?_
      refine lv_lconst (v := jv 0) hx hb dX6_traps_13 rfl ?_
      refine xb_lcmp hx hb hx3 (by unfold jr; omega) dX6_traps_14 ?_
      have hr_12 : -2147483648 ≤ lcm x3 0 ∧ lcm x3 0 ≤ 2147483647 := lcm_ir _ _
      refine xb_if_eq (tgt := 37) hx hb (by unfold ir; omega) dX6_traps_15 (by decide) (fun c_15 => ?_) (fun c_15 => ?_)
      · refine lv_iload_n hx hb dX6_traps_37 rfl (lv_at hl 1 rfl) ?_
        refine lv_lload_n hx hb dX6_traps_38 rfl (lv_at hl 2 rfl) ?_
        refine lv_lload hx hb dX6_traps_39 (lv_at hl 3 rfl) ?_
        refine xc_lS G (rest := []) (As := [.int (iv x2), .long (jv x3), .long (jv x4)]) (c_X6_ofWholes ω l μ x2 x3 x4 (by unfold ir; omega) hx3 hx4) (wm 6 188 rfl rfl) (wm 6 189 rfl rfl) (wm 1 20 rfl rfl) (wm 6 190 rfl rfl) (by decide) hR (by decide) (n := 3) rfl rfl (Nat.le_of_ble_eq_true rfl) hl.1 dX6_traps_41 (fun r_14 μ13 ρ d0 H locs hr_r_14 hp G => ?_)
        have hsm_15 := hp
        have hsm_15 := Eq.symm hsm_15
        subst hsm_15
        refine lv_lstore (lv' := [(6, .long (jv r_14)), (0, .int (iv x1)), (1, .int (iv x2)), (2, .long (jv x3)), (4, .long (jv x4))]) hx hb dX6_traps_44 hl (by decide) rfl (fun ls hl => ?_)
        refine lv_lload hx hb dX6_traps_46 (lv_at hl 0 rfl) ?_
        refine lv_iload_n hx hb dX6_traps_48 rfl (lv_at hl 1 rfl) ?_
        refine xc_lS G (rest := [.long (jv r_14)]) (As := [.int (iv x1)]) (c_X6_least ω l μ x1 (by unfold ir; omega)) (wm 5 40 rfl rfl) (wm 5 41 rfl rfl) (wm 1 20 rfl rfl) (wm 5 42 rfl rfl) (by decide) hR (by decide) (n := 1) rfl rfl (Nat.le_of_ble_eq_true rfl) hl.1 dX6_traps_49 (fun r_17 μ16 ρ d0 H locs hr_r_17 hp G => ?_)
        have hsm_18 := hp
        have hsm_18 := Eq.symm hsm_18
        subst hsm_18
        refine xb_lcmp hx hb hr_r_14 hr_r_17 dX6_traps_52 ?_
        have hr_19 : -2147483648 ≤ lcm r_14 r_17 ∧ lcm r_14 r_17 ≤ 2147483647 := lcm_ir _ _
        refine xb_if_lt (tgt := 66) hx hb (by unfold ir; omega) dX6_traps_53 (by decide) (fun c_53 => ?_) (fun c_53 => ?_)
        · refine lv_iconst (v := iv 1) hx hb dX6_traps_66 rfl ?_
          refine lv_goto (tgt := 71) hx hb dX6_traps_67 (by decide) ?_
          exact xr_i G (x := 1) hret hlk (by unfold ir; omega) (zr (by omega)) dX6_traps_71 ⟨rfl, (by omega)⟩
        · refine lv_lload hx hb dX6_traps_56 (lv_at hl 0 rfl) ?_
          refine lv_iload_n hx hb dX6_traps_58 rfl (lv_at hl 1 rfl) ?_
          refine xc_lS G (rest := [.long (jv r_14)]) (As := [.int (iv x1)]) (c_X6_most ω l μ x1 (by unfold ir; omega)) (wm 5 46 rfl rfl) (wm 3 91 rfl rfl) (wm 1 20 rfl rfl) (wm 3 92 rfl rfl) (by decide) hR (by decide) (n := 1) rfl rfl (Nat.le_of_ble_eq_true rfl) hl.1 dX6_traps_59 (fun r_21 μ20 ρ d0 H locs hr_r_21 hp G => ?_)
          have hsm_22 := hp
          have hsm_22 := Eq.symm hsm_22
          subst hsm_22
          refine xb_lcmp hx hb hr_r_14 hr_r_21 dX6_traps_62 ?_
          have hr_23 : -2147483648 ≤ lcm r_14 r_21 ∧ lcm r_14 r_21 ≤ 2147483647 := lcm_ir _ _
          refine xb_if_le (tgt := 70) hx hb (by unfold ir; omega) dX6_traps_63 (by decide) (fun c_63 => ?_) (fun c_63 => ?_)
          · refine lv_iconst (v := iv 0) hx hb dX6_traps_70 rfl ?_
            exact xr_i G (x := 0) hret hlk (by unfold ir; omega) (zr (by omega)) dX6_traps_71 ⟨rfl, (by omega)⟩
          · refine lv_iconst (v := iv 1) hx hb dX6_traps_66 rfl ?_
            refine lv_goto (tgt := 71) hx hb dX6_traps_67 (by decide) ?_
            exact xr_i G (x := 1) hret hlk (by unfold ir; omega) (zr (by omega)) dX6_traps_71 ⟨rfl, (by omega)⟩
      · refine lv_lload hx hb dX6_traps_18 (lv_at hl 3 rfl) ?_
        refine xm_absl G (wm 6 185 rfl rfl) (wm 6 186 rfl rfl) (wm 1 11 rfl rfl) (wm 6 187 rfl rfl) hR (by decide) (Nat.le_of_ble_eq_true rfl) hl.1 hx4 dX6_traps_20 (fun z_24 hr_z_24 hz_z_24 => ?_)
        refine lv_ldc2 (s := s.setDrawn d0) hx hb G.1.2.2.2.1 (dr_words G.1.2.2.2.2 d0 _ (wm 3 94 rfl rfl)) dX6_traps_23 ?_
        refine xb_litl (x := 100000000000000000) (by decide) ?_
        refine lv_lload_n hx hb dX6_traps_26 rfl (lv_at hl 2 rfl) ?_
        refine xm_absl G (wm 6 185 rfl rfl) (wm 6 186 rfl rfl) (wm 1 11 rfl rfl) (wm 6 187 rfl rfl) hR (by decide) (Nat.le_of_ble_eq_true rfl) hl.1 hx3 dX6_traps_27 (fun z_25 hr_z_25 hz_z_25 => ?_)
        refine lv_ldiv hx hb dX6_traps_30 (jv_ne0 hr_z_25 (hz_z_25 (fun h9 => c_15 (by rw [h9]; rfl)))) ?_
        refine xb_topl (fun z_26 hr_z_26 he_z_26 => ?_)
        refine xb_lcmp hx hb hr_z_24 hr_z_26 dX6_traps_31 ?_
        have hr_27 : -2147483648 ≤ lcm z_24 z_26 ∧ lcm z_24 z_26 ≤ 2147483647 := lcm_ir _ _
        refine xb_if_le (tgt := 37) hx hb (by unfold ir; omega) dX6_traps_32 (by decide) (fun c_32 => ?_) (fun c_32 => ?_)
        · refine lv_iload_n hx hb dX6_traps_37 rfl (lv_at hl 1 rfl) ?_
          refine lv_lload_n hx hb dX6_traps_38 rfl (lv_at hl 2 rfl) ?_
          refine lv_lload hx hb dX6_traps_39 (lv_at hl 3 rfl) ?_
          refine xc_lS G (rest := []) (As := [.int (iv x2), .long (jv x3), .long (jv x4)]) (c_X6_ofWholes ω l μ x2 x3 x4 (by unfold ir; omega) hx3 hx4) (wm 6 188 rfl rfl) (wm 6 189 rfl rfl) (wm 1 20 rfl rfl) (wm 6 190 rfl rfl) (by decide) hR (by decide) (n := 3) rfl rfl (Nat.le_of_ble_eq_true rfl) hl.1 dX6_traps_41 (fun r_29 μ28 ρ d0 H locs hr_r_29 hp G => ?_)
          have hsm_30 := hp
          have hsm_30 := Eq.symm hsm_30
          subst hsm_30
          refine lv_lstore (lv' := [(6, .long (jv r_29)), (0, .int (iv x1)), (1, .int (iv x2)), (2, .long (jv x3)), (4, .long (jv x4))]) hx hb dX6_traps_44 hl (by decide) rfl (fun ls hl => ?_)
          refine lv_lload hx hb dX6_traps_46 (lv_at hl 0 rfl) ?_
          refine lv_iload_n hx hb dX6_traps_48 rfl (lv_at hl 1 rfl) ?_
          refine xc_lS G (rest := [.long (jv r_29)]) (As := [.int (iv x1)]) (c_X6_least ω l μ x1 (by unfold ir; omega)) (wm 5 40 rfl rfl) (wm 5 41 rfl rfl) (wm 1 20 rfl rfl) (wm 5 42 rfl rfl) (by decide) hR (by decide) (n := 1) rfl rfl (Nat.le_of_ble_eq_true rfl) hl.1 dX6_traps_49 (fun r_32 μ31 ρ d0 H locs hr_r_32 hp G => ?_)
          have hsm_33 := hp
          have hsm_33 := Eq.symm hsm_33
          subst hsm_33
          refine xb_lcmp hx hb hr_r_29 hr_r_32 dX6_traps_52 ?_
          have hr_34 : -2147483648 ≤ lcm r_29 r_32 ∧ lcm r_29 r_32 ≤ 2147483647 := lcm_ir _ _
          refine xb_if_lt (tgt := 66) hx hb (by unfold ir; omega) dX6_traps_53 (by decide) (fun c_53 => ?_) (fun c_53 => ?_)
          · refine lv_iconst (v := iv 1) hx hb dX6_traps_66 rfl ?_
            refine lv_goto (tgt := 71) hx hb dX6_traps_67 (by decide) ?_
            exact xr_i G (x := 1) hret hlk (by unfold ir; omega) (zr (by omega)) dX6_traps_71 ⟨rfl, (by omega)⟩
          · refine lv_lload hx hb dX6_traps_56 (lv_at hl 0 rfl) ?_
            refine lv_iload_n hx hb dX6_traps_58 rfl (lv_at hl 1 rfl) ?_
            refine xc_lS G (rest := [.long (jv r_29)]) (As := [.int (iv x1)]) (c_X6_most ω l μ x1 (by unfold ir; omega)) (wm 5 46 rfl rfl) (wm 3 91 rfl rfl) (wm 1 20 rfl rfl) (wm 3 92 rfl rfl) (by decide) hR (by decide) (n := 1) rfl rfl (Nat.le_of_ble_eq_true rfl) hl.1 dX6_traps_59 (fun r_36 μ35 ρ d0 H locs hr_r_36 hp G => ?_)
            have hsm_37 := hp
            have hsm_37 := Eq.symm hsm_37
            subst hsm_37
            refine xb_lcmp hx hb hr_r_29 hr_r_36 dX6_traps_62 ?_
            have hr_38 : -2147483648 ≤ lcm r_29 r_36 ∧ lcm r_29 r_36 ≤ 2147483647 := lcm_ir _ _
            refine xb_if_le (tgt := 70) hx hb (by unfold ir; omega) dX6_traps_63 (by decide) (fun c_63 => ?_) (fun c_63 => ?_)
            · refine lv_iconst (v := iv 0) hx hb dX6_traps_70 rfl ?_
              exact xr_i G (x := 0) hret hlk (by unfold ir; omega) (zr (by omega)) dX6_traps_71 ⟨rfl, (by omega)⟩
            · refine lv_iconst (v := iv 1) hx hb dX6_traps_66 rfl ?_
              refine lv_goto (tgt := 71) hx hb dX6_traps_67 (by decide) ?_
              exact xr_i G (x := 1) hret hlk (by unfold ir; omega) (zr (by omega)) dX6_traps_71 ⟨rfl, (by omega)⟩
        · refine lv_iconst (v := iv 1) hx hb dX6_traps_35 rfl ?_
          exact xr_i G (x := 1) hret hlk (by unfold ir; omega) (zr (by omega)) dX6_traps_36 ⟨rfl, (by omega)⟩
  · refine lv_iconst (v := iv 0) hx hb dX6_traps_4 rfl ?_
    exact xr_i G (x := 0) hret hlk (by unfold ir; omega) (zr (by omega)) dX6_traps_5 ⟨rfl, (by omega)⟩

set_option maxHeartbeats 4000000 in
set_option maxRecDepth 100000 in
theorem c_X6_compareWholes (ω : Om) (l : Launch) (μ : M3) (x1 : Int) (x2 : Int) (x3 : Int) (hx1 : ir x1) (hx2 : jr x2) (hx3 : jr x3) : CtI ω l yX6_compareWholes cX6_compareWholes 5 .boolean 0 0 [.int (iv x1), .long (jv x2), .long (jv x3)] μ (fun (r : Int) (μ' : M3) => (μ' = μ) ∧ (r = 0 ∨ r = 1)) := by
  refine CtI.go (by decide) (Nat.le_of_ble_eq_true rfl) (fun ρ p e s m below meth c R ls G hR hret hlk hl => ?_)
  have hx := G.1.1
  have hb := G.1.2.1
  have hl : lv_has ls 5 [(0, .int (iv x1)), (1, .long (jv x2)), (3, .long (jv x3))] := hl
  generalize s.drawn = d0 at G ⊢
  have hr_x1 : -2147483648 ≤ x1 ∧ x1 ≤ 2147483647 := hx1
  refine lv_iload_n hx hb dX6_compareWholes_0 rfl (lv_at hl 0 rfl) ?_
  by_cases c_1_60 : x1 = 60
  · refine xb_lsw (tgt := 44) hx hb (by unfold ir; omega) dX6_compareWholes_1 (by decide) (off := 43) (by rw [c_1_60]; rfl) (by decide) ?_
    refine lv_lload_n hx hb dX6_compareWholes_44 rfl (lv_at hl 1 rfl) ?_
    refine lv_lload_n hx hb dX6_compareWholes_45 rfl (lv_at hl 2 rfl) ?_
    refine xb_lcmp hx hb hx2 hx3 dX6_compareWholes_46 ?_
    have hr_1 : -2147483648 ≤ lcm x2 x3 ∧ lcm x2 x3 ≤ 2147483647 := lcm_ir _ _
    refine xb_if_ge (tgt := 54) hx hb (by unfold ir; omega) dX6_compareWholes_47 (by decide) (fun c_47 => ?_) (fun c_47 => ?_)
    · refine lv_iconst (v := iv 0) hx hb dX6_compareWholes_54 rfl ?_
      exact xr_i G (x := 0) hret hlk (by unfold ir; omega) (zr (by omega)) dX6_compareWholes_55 ⟨rfl, (by omega)⟩
    · refine lv_iconst (v := iv 1) hx hb dX6_compareWholes_50 rfl ?_
      refine lv_goto (tgt := 55) hx hb dX6_compareWholes_51 (by decide) ?_
      exact xr_i G (x := 1) hret hlk (by unfold ir; omega) (zr (by omega)) dX6_compareWholes_55 ⟨rfl, (by omega)⟩
  by_cases c_1_62 : x1 = 62
  · refine xb_lsw (tgt := 56) hx hb (by unfold ir; omega) dX6_compareWholes_1 (by decide) (off := 55) (by rw [c_1_62]; rfl) (by decide) ?_
    refine lv_lload_n hx hb dX6_compareWholes_56 rfl (lv_at hl 1 rfl) ?_
    refine lv_lload_n hx hb dX6_compareWholes_57 rfl (lv_at hl 2 rfl) ?_
    refine xb_lcmp hx hb hx2 hx3 dX6_compareWholes_58 ?_
    have hr_2 : -2147483648 ≤ lcm x2 x3 ∧ lcm x2 x3 ≤ 2147483647 := lcm_ir _ _
    refine xb_if_le (tgt := 66) hx hb (by unfold ir; omega) dX6_compareWholes_59 (by decide) (fun c_59 => ?_) (fun c_59 => ?_)
    · refine lv_iconst (v := iv 0) hx hb dX6_compareWholes_66 rfl ?_
      exact xr_i G (x := 0) hret hlk (by unfold ir; omega) (zr (by omega)) dX6_compareWholes_67 ⟨rfl, (by omega)⟩
    · refine lv_iconst (v := iv 1) hx hb dX6_compareWholes_62 rfl ?_
      refine lv_goto (tgt := 67) hx hb dX6_compareWholes_63 (by decide) ?_
      exact xr_i G (x := 1) hret hlk (by unfold ir; omega) (zr (by omega)) dX6_compareWholes_67 ⟨rfl, (by omega)⟩
  by_cases c_1_131 : x1 = 131
  · refine xb_lsw (tgt := 68) hx hb (by unfold ir; omega) dX6_compareWholes_1 (by decide) (off := 67) (by rw [c_1_131]; rfl) (by decide) ?_
    refine lv_lload_n hx hb dX6_compareWholes_68 rfl (lv_at hl 1 rfl) ?_
    refine lv_lload_n hx hb dX6_compareWholes_69 rfl (lv_at hl 2 rfl) ?_
    refine xb_lcmp hx hb hx2 hx3 dX6_compareWholes_70 ?_
    have hr_3 : -2147483648 ≤ lcm x2 x3 ∧ lcm x2 x3 ≤ 2147483647 := lcm_ir _ _
    refine xb_if_gt (tgt := 78) hx hb (by unfold ir; omega) dX6_compareWholes_71 (by decide) (fun c_71 => ?_) (fun c_71 => ?_)
    · refine lv_iconst (v := iv 0) hx hb dX6_compareWholes_78 rfl ?_
      exact xr_i G (x := 0) hret hlk (by unfold ir; omega) (zr (by omega)) dX6_compareWholes_79 ⟨rfl, (by omega)⟩
    · refine lv_iconst (v := iv 1) hx hb dX6_compareWholes_74 rfl ?_
      refine lv_goto (tgt := 79) hx hb dX6_compareWholes_75 (by decide) ?_
      exact xr_i G (x := 1) hret hlk (by unfold ir; omega) (zr (by omega)) dX6_compareWholes_79 ⟨rfl, (by omega)⟩
  by_cases c_1_132 : x1 = 132
  · refine xb_lsw (tgt := 80) hx hb (by unfold ir; omega) dX6_compareWholes_1 (by decide) (off := 79) (by rw [c_1_132]; rfl) (by decide) ?_
    refine lv_lload_n hx hb dX6_compareWholes_80 rfl (lv_at hl 1 rfl) ?_
    refine lv_lload_n hx hb dX6_compareWholes_81 rfl (lv_at hl 2 rfl) ?_
    refine xb_lcmp hx hb hx2 hx3 dX6_compareWholes_82 ?_
    have hr_4 : -2147483648 ≤ lcm x2 x3 ∧ lcm x2 x3 ≤ 2147483647 := lcm_ir _ _
    refine xb_if_lt (tgt := 90) hx hb (by unfold ir; omega) dX6_compareWholes_83 (by decide) (fun c_83 => ?_) (fun c_83 => ?_)
    · refine lv_iconst (v := iv 0) hx hb dX6_compareWholes_90 rfl ?_
      exact xr_i G (x := 0) hret hlk (by unfold ir; omega) (zr (by omega)) dX6_compareWholes_91 ⟨rfl, (by omega)⟩
    · refine lv_iconst (v := iv 1) hx hb dX6_compareWholes_86 rfl ?_
      refine lv_goto (tgt := 91) hx hb dX6_compareWholes_87 (by decide) ?_
      exact xr_i G (x := 1) hret hlk (by unfold ir; omega) (zr (by omega)) dX6_compareWholes_91 ⟨rfl, (by omega)⟩
  refine xb_lsw (tgt := 92) hx hb (by unfold ir; omega) dX6_compareWholes_1 (by decide) (off := 91) (by simp only [Op.lookupswitch.offset]; rw [if_neg (fun h9 => c_1_60 h9.symm), if_neg (fun h9 => c_1_62 h9.symm), if_neg (fun h9 => c_1_131 h9.symm), if_neg (fun h9 => c_1_132 h9.symm)]) (by decide) ?_
  refine lv_iconst (v := iv 0) hx hb dX6_compareWholes_92 rfl ?_
  exact xr_i G (x := 0) hret hlk (by unfold ir; omega) (zr (by omega)) dX6_compareWholes_93 ⟨rfl, (by omega)⟩

set_option maxHeartbeats 4000000 in
set_option maxRecDepth 100000 in
theorem c_X6_compareReals (ω : Om) (l : Launch) (μ : M3) (x1 : Int) (x2 : Int) (x3 : Int) (hx1 : ir x1) : CtI ω l yX6_compareReals cX6_compareReals 5 .boolean 0 0 [.int (iv x1), .double (dv x2), .double (dv x3)] μ (fun (r : Int) (μ' : M3) => (μ' = μ) ∧ (r = 0 ∨ r = 1)) := by
  refine CtI.go (by decide) (Nat.le_of_ble_eq_true rfl) (fun ρ p e s m below meth c R ls G hR hret hlk hl => ?_)
  have hx := G.1.1
  have hb := G.1.2.1
  have hl : lv_has ls 5 [(0, .int (iv x1)), (1, .double (dv x2)), (3, .double (dv x3))] := hl
  generalize s.drawn = d0 at G ⊢
  have hr_x1 : -2147483648 ≤ x1 ∧ x1 ≤ 2147483647 := hx1
  refine lv_iload_n hx hb dX6_compareReals_0 rfl (lv_at hl 0 rfl) ?_
  by_cases c_1_60 : x1 = 60
  · refine xb_lsw (tgt := 44) hx hb (by unfold ir; omega) dX6_compareReals_1 (by decide) (off := 43) (by rw [c_1_60]; rfl) (by decide) ?_
    refine lv_dload_n hx hb dX6_compareReals_44 rfl (lv_at hl 1 rfl) ?_
    refine lv_dload_n hx hb dX6_compareReals_45 rfl (lv_at hl 2 rfl) ?_
    refine lv_dcmp hx hb dX6_compareReals_46 ?_
    refine xb_topi (fun y_1 hr_y_1 he_y_1 => ?_)
    have hr_y_1 : -2147483648 ≤ y_1 ∧ y_1 ≤ 2147483647 := hr_y_1
    refine xb_if_ge (tgt := 54) hx hb (by unfold ir; omega) dX6_compareReals_47 (by decide) (fun c_47 => ?_) (fun c_47 => ?_)
    · refine lv_iconst (v := iv 0) hx hb dX6_compareReals_54 rfl ?_
      exact xr_i G (x := 0) hret hlk (by unfold ir; omega) (zr (by omega)) dX6_compareReals_55 ⟨rfl, (by omega)⟩
    · refine lv_iconst (v := iv 1) hx hb dX6_compareReals_50 rfl ?_
      refine lv_goto (tgt := 55) hx hb dX6_compareReals_51 (by decide) ?_
      exact xr_i G (x := 1) hret hlk (by unfold ir; omega) (zr (by omega)) dX6_compareReals_55 ⟨rfl, (by omega)⟩
  by_cases c_1_62 : x1 = 62
  · refine xb_lsw (tgt := 56) hx hb (by unfold ir; omega) dX6_compareReals_1 (by decide) (off := 55) (by rw [c_1_62]; rfl) (by decide) ?_
    refine lv_dload_n hx hb dX6_compareReals_56 rfl (lv_at hl 1 rfl) ?_
    refine lv_dload_n hx hb dX6_compareReals_57 rfl (lv_at hl 2 rfl) ?_
    refine lv_dcmp hx hb dX6_compareReals_58 ?_
    refine xb_topi (fun y_2 hr_y_2 he_y_2 => ?_)
    have hr_y_2 : -2147483648 ≤ y_2 ∧ y_2 ≤ 2147483647 := hr_y_2
    refine xb_if_le (tgt := 66) hx hb (by unfold ir; omega) dX6_compareReals_59 (by decide) (fun c_59 => ?_) (fun c_59 => ?_)
    · refine lv_iconst (v := iv 0) hx hb dX6_compareReals_66 rfl ?_
      exact xr_i G (x := 0) hret hlk (by unfold ir; omega) (zr (by omega)) dX6_compareReals_67 ⟨rfl, (by omega)⟩
    · refine lv_iconst (v := iv 1) hx hb dX6_compareReals_62 rfl ?_
      refine lv_goto (tgt := 67) hx hb dX6_compareReals_63 (by decide) ?_
      exact xr_i G (x := 1) hret hlk (by unfold ir; omega) (zr (by omega)) dX6_compareReals_67 ⟨rfl, (by omega)⟩
  by_cases c_1_131 : x1 = 131
  · refine xb_lsw (tgt := 68) hx hb (by unfold ir; omega) dX6_compareReals_1 (by decide) (off := 67) (by rw [c_1_131]; rfl) (by decide) ?_
    refine lv_dload_n hx hb dX6_compareReals_68 rfl (lv_at hl 1 rfl) ?_
    refine lv_dload_n hx hb dX6_compareReals_69 rfl (lv_at hl 2 rfl) ?_
    refine lv_dcmp hx hb dX6_compareReals_70 ?_
    refine xb_topi (fun y_3 hr_y_3 he_y_3 => ?_)
    have hr_y_3 : -2147483648 ≤ y_3 ∧ y_3 ≤ 2147483647 := hr_y_3
    refine xb_if_gt (tgt := 78) hx hb (by unfold ir; omega) dX6_compareReals_71 (by decide) (fun c_71 => ?_) (fun c_71 => ?_)
    · refine lv_iconst (v := iv 0) hx hb dX6_compareReals_78 rfl ?_
      exact xr_i G (x := 0) hret hlk (by unfold ir; omega) (zr (by omega)) dX6_compareReals_79 ⟨rfl, (by omega)⟩
    · refine lv_iconst (v := iv 1) hx hb dX6_compareReals_74 rfl ?_
      refine lv_goto (tgt := 79) hx hb dX6_compareReals_75 (by decide) ?_
      exact xr_i G (x := 1) hret hlk (by unfold ir; omega) (zr (by omega)) dX6_compareReals_79 ⟨rfl, (by omega)⟩
  by_cases c_1_132 : x1 = 132
  · refine xb_lsw (tgt := 80) hx hb (by unfold ir; omega) dX6_compareReals_1 (by decide) (off := 79) (by rw [c_1_132]; rfl) (by decide) ?_
    refine lv_dload_n hx hb dX6_compareReals_80 rfl (lv_at hl 1 rfl) ?_
    refine lv_dload_n hx hb dX6_compareReals_81 rfl (lv_at hl 2 rfl) ?_
    refine lv_dcmp hx hb dX6_compareReals_82 ?_
    refine xb_topi (fun y_4 hr_y_4 he_y_4 => ?_)
    have hr_y_4 : -2147483648 ≤ y_4 ∧ y_4 ≤ 2147483647 := hr_y_4
    refine xb_if_lt (tgt := 90) hx hb (by unfold ir; omega) dX6_compareReals_83 (by decide) (fun c_83 => ?_) (fun c_83 => ?_)
    · refine lv_iconst (v := iv 0) hx hb dX6_compareReals_90 rfl ?_
      exact xr_i G (x := 0) hret hlk (by unfold ir; omega) (zr (by omega)) dX6_compareReals_91 ⟨rfl, (by omega)⟩
    · refine lv_iconst (v := iv 1) hx hb dX6_compareReals_86 rfl ?_
      refine lv_goto (tgt := 91) hx hb dX6_compareReals_87 (by decide) ?_
      exact xr_i G (x := 1) hret hlk (by unfold ir; omega) (zr (by omega)) dX6_compareReals_91 ⟨rfl, (by omega)⟩
  refine xb_lsw (tgt := 92) hx hb (by unfold ir; omega) dX6_compareReals_1 (by decide) (off := 91) (by simp only [Op.lookupswitch.offset]; rw [if_neg (fun h9 => c_1_60 h9.symm), if_neg (fun h9 => c_1_62 h9.symm), if_neg (fun h9 => c_1_131 h9.symm), if_neg (fun h9 => c_1_132 h9.symm)]) (by decide) ?_
  refine lv_iconst (v := iv 0) hx hb dX6_compareReals_92 rfl ?_
  exact xr_i G (x := 0) hret hlk (by unfold ir; omega) (zr (by omega)) dX6_compareReals_93 ⟨rfl, (by omega)⟩

set_option maxHeartbeats 4000000 in
set_option maxRecDepth 100000 in
theorem c_X6_rest (ω : Om) (l : Launch) (μ : M3) (x1 : Int) (x2 : Int) : CtD ω l yX6_rest cX6_rest 10 1 19 [.double (dv x1), .double (dv x2)] μ (fun (r : Int) (μ' : M3) => (μ' = μ)) := by
  refine CtD.go (by decide) (Nat.le_of_ble_eq_true rfl) (fun ρ p e s m below meth c R ls G hR hret hlk hl => ?_)
  have hx := G.1.1
  have hb := G.1.2.1
  have hl : lv_has ls 10 [(0, .double (dv x1)), (2, .double (dv x2))] := hl
  generalize s.drawn = d0 at G ⊢
  refine lv_dload_n hx hb dX6_rest_0 rfl (lv_at hl 0 rfl) ?_
  refine lv_dconst0 hx hb dX6_rest_1 ?_
  refine xb_topd (fun dd_1 he_dd_1 => ?_)
  refine lv_dcmp hx hb dX6_rest_2 ?_
  refine xb_topi (fun y_2 hr_y_2 he_y_2 => ?_)
  have hr_y_2 : -2147483648 ≤ y_2 ∧ y_2 ≤ 2147483647 := hr_y_2
  refine xb_if_ge (tgt := 11) hx hb (by unfold ir; omega) dX6_rest_3 (by decide) (fun c_3 => ?_) (fun c_3 => ?_)
  · refine lv_dload_n hx hb dX6_rest_11 rfl (lv_at hl 0 rfl) ?_
    refine lv_dstore (lv' := [(4, .double (dv x1)), (0, .double (dv x1)), (2, .double (dv x2))]) hx hb dX6_rest_12 hl (by decide) rfl (fun ls hl => ?_)
    refine lv_dload_n hx hb dX6_rest_14 rfl (lv_at hl 2 rfl) ?_
    refine lv_dconst0 hx hb dX6_rest_15 ?_
    refine xb_topd (fun dd_3 he_dd_3 => ?_)
    refine lv_dcmp hx hb dX6_rest_16 ?_
    refine xb_topi (fun y_4 hr_y_4 he_y_4 => ?_)
    have hr_y_4 : -2147483648 ≤ y_4 ∧ y_4 ≤ 2147483647 := hr_y_4
    refine xb_if_ge (tgt := 25) hx hb (by unfold ir; omega) dX6_rest_17 (by decide) (fun c_17 => ?_) (fun c_17 => ?_)
    · refine lv_dload_n hx hb dX6_rest_25 rfl (lv_at hl 2 rfl) ?_
      refine lv_dstore (lv' := [(6, .double (dv x2)), (4, .double (dv x1)), (0, .double (dv x1)), (2, .double (dv x2))]) hx hb dX6_rest_26 hl (by decide) rfl (fun ls hl => ?_)
      refine lv_dload hx hb dX6_rest_28 (lv_at hl 1 rfl) ?_
      refine lv_dload hx hb dX6_rest_30 (lv_at hl 0 rfl) ?_
      refine lv_dcmp hx hb dX6_rest_32 ?_
      refine xb_topi (fun y_5 hr_y_5 he_y_5 => ?_)
      have hr_y_5 : -2147483648 ≤ y_5 ∧ y_5 ≤ 2147483647 := hr_y_5
      refine xb_if_ge (tgt := 38) hx hb (by unfold ir; omega) dX6_rest_33 (by decide) (fun c_33 => ?_) (fun c_33 => ?_)
      · refine lv_iconst (v := iv 0) hx hb dX6_rest_38 rfl ?_
        refine lv_istore (lv' := [(8, .int (iv 0)), (6, .double (dv x2)), (4, .double (dv x1)), (0, .double (dv x1)), (2, .double (dv x2))]) hx hb dX6_rest_39 hl (by decide) rfl (fun ls hl => ?_)
        refine xl (fun n_9 μ' ls => ∃ (d9 : Int), ∃ (i9 : Int), (μ' = μ) ∧ (-2147483648 ≤ i9 ∧ i9 ≤ 2147483647) ∧ (0 ≤ i9) ∧ (i9 ≤ 2200) ∧ n_9 = Int.toNat (3000 - i9) ∧ lv_has ls 10 [(8, .int (iv i9)), (6, .double (dv d9)), (4, .double (dv x1)), (0, .double (dv x1)), (2, .double (dv x2))]) (fun n_9 ρ μL6 d0 H locs ls hI_l G ih => ?_) _ _ _ _ _ _ _ ⟨x2, 0, rfl, (by omega), (by omega), (by omega), rfl, lv_sub hl [0, 1, 2, 3, 4] rfl⟩ G
        obtain ⟨d9, i9, FL7, hi_9, hi_10, hi_11, hn8, hl⟩ := hI_l
        have FL7 := Eq.symm FL7
        subst FL7
        refine lv_iload hx hb dX6_rest_41 (lv_at hl 0 rfl) ?_
        refine lv_sipush (v := iv 2200) hx hb dX6_rest_43 rfl ?_
        refine xb_icmp_ge (tgt := 88) hx hb (by unfold ir; omega) (by unfold ir; omega) dX6_rest_46 (by decide) (fun c_46 => ?_) (fun c_46 => ?_)
        · refine lv_iconst (v := iv 0) hx hb dX6_rest_88 rfl ?_
          refine lv_istore (lv' := [(9, .int (iv 0)), (8, .int (iv i9)), (6, .double (dv d9)), (4, .double (dv x1)), (0, .double (dv x1)), (2, .double (dv x2))]) hx hb dX6_rest_89 hl (by decide) rfl (fun ls hl => ?_)
          refine xl (fun n_9 μ' ls => ∃ (e9 : Int), ∃ (d8 : Int), ∃ (j9 : Int), (μ' = μ) ∧ (-2147483648 ≤ j9 ∧ j9 ≤ 2147483647) ∧ (0 ≤ j9) ∧ (j9 ≤ 2300) ∧ n_9 = Int.toNat (3000 - j9) ∧ lv_has ls 10 [(9, .int (iv j9)), (8, .int (iv i9)), (6, .double (dv d8)), (4, .double (dv e9)), (0, .double (dv x1)), (2, .double (dv x2))]) (fun n_9 ρ μL12 d0 H locs ls hI_l G ih => ?_) _ _ _ _ _ _ _ ⟨x1, d9, 0, rfl, (by omega), (by omega), (by omega), rfl, lv_sub hl [0, 1, 2, 3, 4, 5] rfl⟩ G
          obtain ⟨e9, d8, j9, FL13, hi_15, hi_16, hi_17, hn14, hl⟩ := hI_l
          have FL13 := Eq.symm FL13
          subst FL13
          refine lv_iload hx hb dX6_rest_91 (lv_at hl 0 rfl) ?_
          refine lv_iload hx hb dX6_rest_93 (lv_at hl 1 rfl) ?_
          refine xb_icmp_gt (tgt := 127) hx hb (by unfold ir; omega) (by unfold ir; omega) dX6_rest_95 (by decide) (fun c_95 => ?_) (fun c_95 => ?_)
          · refine lv_dload_n hx hb dX6_rest_127 rfl (lv_at hl 4 rfl) ?_
            refine lv_dconst0 hx hb dX6_rest_128 ?_
            refine xb_topd (fun dd_18 he_dd_18 => ?_)
            refine lv_dcmp hx hb dX6_rest_129 ?_
            refine xb_topi (fun y_19 hr_y_19 he_y_19 => ?_)
            have hr_y_19 : -2147483648 ≤ y_19 ∧ y_19 ≤ 2147483647 := hr_y_19
            refine xb_if_ge (tgt := 139) hx hb (by unfold ir; omega) dX6_rest_130 (by decide) (fun c_130 => ?_) (fun c_130 => ?_)
            · refine lv_dload hx hb dX6_rest_139 (lv_at hl 3 rfl) ?_
              exact xr_d G (x := (dv e9)) hret hlk dX6_rest_141 rfl
            · refine lv_dload hx hb dX6_rest_133 (lv_at hl 3 rfl) ?_
              refine lv_dneg hx hb dX6_rest_135 ?_
              refine xb_topd (fun dd_20 he_dd_20 => ?_)
              refine lv_goto (tgt := 141) hx hb dX6_rest_136 (by decide) ?_
              exact xr_d G (x := (dv dd_20)) hret hlk dX6_rest_141 rfl
          · refine lv_dload hx hb dX6_rest_98 (lv_at hl 3 rfl) ?_
            refine lv_dload hx hb dX6_rest_100 (lv_at hl 2 rfl) ?_
            refine lv_dcmp hx hb dX6_rest_102 ?_
            refine xb_topi (fun y_21 hr_y_21 he_y_21 => ?_)
            have hr_y_21 : -2147483648 ≤ y_21 ∧ y_21 ≤ 2147483647 := hr_y_21
            refine xb_if_lt (tgt := 113) hx hb (by unfold ir; omega) dX6_rest_103 (by decide) (fun c_103 => ?_) (fun c_103 => ?_)
            · refine lv_dload hx hb dX6_rest_113 (lv_at hl 2 rfl) ?_
              refine lv_ldc2d (s := s.setDrawn d0) hx hb G.1.2.2.2.1 (dr_words G.1.2.2.2.2 d0 _ (wm 6 111 rfl rfl)) dX6_rest_115 ?_
              refine xb_topd (fun dd_22 he_dd_22 => ?_)
              refine xd_dmul G dX6_rest_118 (fun dd_23 d0 G => ?_)
              refine lv_dstore (lv' := [(6, .double (dv dd_23)), (9, .int (iv j9)), (8, .int (iv i9)), (4, .double (dv e9)), (0, .double (dv x1)), (2, .double (dv x2))]) hx hb dX6_rest_119 hl (by decide) rfl (fun ls hl => ?_)
              refine lv_iinc (v := iv (j9 + 1)) (lv' := [(9, .int (iv (j9 + 1))), (6, .double (dv dd_23)), (8, .int (iv i9)), (4, .double (dv e9)), (0, .double (dv x1)), (2, .double (dv x2))]) hx hb dX6_rest_121 hl (k := 1) rfl (by rw [show Int32.ofInt 1 = iv 1 from rfl, iv_add]) (by decide) rfl (fun ls hl => ?_)
              refine lv_goto (tgt := 91) hx hb dX6_rest_124 (by decide) ?_
              exact ih _ _ _ _ _ _ _ (by omega) ⟨e9, dd_23, j9 + 1, rfl, (by omega), (by omega), (by omega), rfl, lv_sub hl [0, 2, 1, 3, 4, 5] rfl⟩ G
            · refine lv_dload hx hb dX6_rest_106 (lv_at hl 3 rfl) ?_
              refine lv_dload hx hb dX6_rest_108 (lv_at hl 2 rfl) ?_
              refine xd_dsub G dX6_rest_110 (fun dd_24 d0 G => ?_)
              refine lv_dstore (lv' := [(4, .double (dv dd_24)), (9, .int (iv j9)), (8, .int (iv i9)), (6, .double (dv d8)), (0, .double (dv x1)), (2, .double (dv x2))]) hx hb dX6_rest_111 hl (by decide) rfl (fun ls hl => ?_)
              refine lv_dload hx hb dX6_rest_113 (lv_at hl 3 rfl) ?_
              refine lv_ldc2d (s := s.setDrawn d0) hx hb G.1.2.2.2.1 (dr_words G.1.2.2.2.2 d0 _ (wm 6 111 rfl rfl)) dX6_rest_115 ?_
              refine xb_topd (fun dd_25 he_dd_25 => ?_)
              refine xd_dmul G dX6_rest_118 (fun dd_26 d0 G => ?_)
              refine lv_dstore (lv' := [(6, .double (dv dd_26)), (4, .double (dv dd_24)), (9, .int (iv j9)), (8, .int (iv i9)), (0, .double (dv x1)), (2, .double (dv x2))]) hx hb dX6_rest_119 hl (by decide) rfl (fun ls hl => ?_)
              refine lv_iinc (v := iv (j9 + 1)) (lv' := [(9, .int (iv (j9 + 1))), (6, .double (dv dd_26)), (4, .double (dv dd_24)), (8, .int (iv i9)), (0, .double (dv x1)), (2, .double (dv x2))]) hx hb dX6_rest_121 hl (k := 2) rfl (by rw [show Int32.ofInt 1 = iv 1 from rfl, iv_add]) (by decide) rfl (fun ls hl => ?_)
              refine lv_goto (tgt := 91) hx hb dX6_rest_124 (by decide) ?_
              exact ih _ _ _ _ _ _ _ (by omega) ⟨dd_24, dd_26, j9 + 1, rfl, (by omega), (by omega), (by omega), rfl, lv_sub hl [0, 3, 1, 2, 4, 5] rfl⟩ G
        · refine lv_dload hx hb dX6_rest_49 (lv_at hl 1 rfl) ?_
          refine xc_dS G (rest := [.double (dv d9)]) (As := []) (c_X6_greatest ω l μ  ) (wm 6 171 rfl rfl) (wm 6 172 rfl rfl) (wm 1 20 rfl rfl) (wm 6 173 rfl rfl) (by decide) hR (by decide) (n := 0) rfl rfl (Nat.le_of_ble_eq_true rfl) hl.1 dX6_rest_51 (fun r_28 μ27 ρ d0 H locs hp G => ?_)
          have hsm_29 := hp
          have hsm_29 := Eq.symm hsm_29
          subst hsm_29
          refine lv_ldc2d (s := s.setDrawn d0) hx hb G.1.2.2.2.1 (dr_words G.1.2.2.2.2 d0 _ (wm 6 110 rfl rfl)) dX6_rest_54 ?_
          refine xb_topd (fun dd_30 he_dd_30 => ?_)
          refine xd_ddiv G dX6_rest_57 (fun dd_31 d0 G => ?_)
          refine lv_dcmp hx hb dX6_rest_58 ?_
          refine xb_topi (fun y_32 hr_y_32 he_y_32 => ?_)
          have hr_y_32 : -2147483648 ≤ y_32 ∧ y_32 ≤ 2147483647 := hr_y_32
          refine xb_if_gt (tgt := 88) hx hb (by unfold ir; omega) dX6_rest_59 (by decide) (fun c_59 => ?_) (fun c_59 => ?_)
          · refine lv_iconst (v := iv 0) hx hb dX6_rest_88 rfl ?_
            refine lv_istore (lv' := [(9, .int (iv 0)), (8, .int (iv i9)), (6, .double (dv d9)), (4, .double (dv x1)), (0, .double (dv x1)), (2, .double (dv x2))]) hx hb dX6_rest_89 hl (by decide) rfl (fun ls hl => ?_)
            refine xl (fun n_9 μ' ls => ∃ (e9 : Int), ∃ (d8 : Int), ∃ (j9 : Int), (μ' = μ) ∧ (-2147483648 ≤ j9 ∧ j9 ≤ 2147483647) ∧ (0 ≤ j9) ∧ (j9 ≤ 2300) ∧ n_9 = Int.toNat (3000 - j9) ∧ lv_has ls 10 [(9, .int (iv j9)), (8, .int (iv i9)), (6, .double (dv d8)), (4, .double (dv e9)), (0, .double (dv x1)), (2, .double (dv x2))]) (fun n_9 ρ μL33 d0 H locs ls hI_l G ih => ?_) _ _ _ _ _ _ _ ⟨x1, d9, 0, rfl, (by omega), (by omega), (by omega), rfl, lv_sub hl [0, 1, 2, 3, 4, 5] rfl⟩ G
            obtain ⟨e9, d8, j9, FL34, hi_36, hi_37, hi_38, hn35, hl⟩ := hI_l
            have FL34 := Eq.symm FL34
            subst FL34
            refine lv_iload hx hb dX6_rest_91 (lv_at hl 0 rfl) ?_
            refine lv_iload hx hb dX6_rest_93 (lv_at hl 1 rfl) ?_
            refine xb_icmp_gt (tgt := 127) hx hb (by unfold ir; omega) (by unfold ir; omega) dX6_rest_95 (by decide) (fun c_95 => ?_) (fun c_95 => ?_)
            · refine lv_dload_n hx hb dX6_rest_127 rfl (lv_at hl 4 rfl) ?_
              refine lv_dconst0 hx hb dX6_rest_128 ?_
              refine xb_topd (fun dd_39 he_dd_39 => ?_)
              refine lv_dcmp hx hb dX6_rest_129 ?_
              refine xb_topi (fun y_40 hr_y_40 he_y_40 => ?_)
              have hr_y_40 : -2147483648 ≤ y_40 ∧ y_40 ≤ 2147483647 := hr_y_40
              refine xb_if_ge (tgt := 139) hx hb (by unfold ir; omega) dX6_rest_130 (by decide) (fun c_130 => ?_) (fun c_130 => ?_)
              · refine lv_dload hx hb dX6_rest_139 (lv_at hl 3 rfl) ?_
                exact xr_d G (x := (dv e9)) hret hlk dX6_rest_141 rfl
              · refine lv_dload hx hb dX6_rest_133 (lv_at hl 3 rfl) ?_
                refine lv_dneg hx hb dX6_rest_135 ?_
                refine xb_topd (fun dd_41 he_dd_41 => ?_)
                refine lv_goto (tgt := 141) hx hb dX6_rest_136 (by decide) ?_
                exact xr_d G (x := (dv dd_41)) hret hlk dX6_rest_141 rfl
            · refine lv_dload hx hb dX6_rest_98 (lv_at hl 3 rfl) ?_
              refine lv_dload hx hb dX6_rest_100 (lv_at hl 2 rfl) ?_
              refine lv_dcmp hx hb dX6_rest_102 ?_
              refine xb_topi (fun y_42 hr_y_42 he_y_42 => ?_)
              have hr_y_42 : -2147483648 ≤ y_42 ∧ y_42 ≤ 2147483647 := hr_y_42
              refine xb_if_lt (tgt := 113) hx hb (by unfold ir; omega) dX6_rest_103 (by decide) (fun c_103 => ?_) (fun c_103 => ?_)
              · refine lv_dload hx hb dX6_rest_113 (lv_at hl 2 rfl) ?_
                refine lv_ldc2d (s := s.setDrawn d0) hx hb G.1.2.2.2.1 (dr_words G.1.2.2.2.2 d0 _ (wm 6 111 rfl rfl)) dX6_rest_115 ?_
                refine xb_topd (fun dd_43 he_dd_43 => ?_)
                refine xd_dmul G dX6_rest_118 (fun dd_44 d0 G => ?_)
                refine lv_dstore (lv' := [(6, .double (dv dd_44)), (9, .int (iv j9)), (8, .int (iv i9)), (4, .double (dv e9)), (0, .double (dv x1)), (2, .double (dv x2))]) hx hb dX6_rest_119 hl (by decide) rfl (fun ls hl => ?_)
                refine lv_iinc (v := iv (j9 + 1)) (lv' := [(9, .int (iv (j9 + 1))), (6, .double (dv dd_44)), (8, .int (iv i9)), (4, .double (dv e9)), (0, .double (dv x1)), (2, .double (dv x2))]) hx hb dX6_rest_121 hl (k := 1) rfl (by rw [show Int32.ofInt 1 = iv 1 from rfl, iv_add]) (by decide) rfl (fun ls hl => ?_)
                refine lv_goto (tgt := 91) hx hb dX6_rest_124 (by decide) ?_
                exact ih _ _ _ _ _ _ _ (by omega) ⟨e9, dd_44, j9 + 1, rfl, (by omega), (by omega), (by omega), rfl, lv_sub hl [0, 2, 1, 3, 4, 5] rfl⟩ G
              · refine lv_dload hx hb dX6_rest_106 (lv_at hl 3 rfl) ?_
                refine lv_dload hx hb dX6_rest_108 (lv_at hl 2 rfl) ?_
                refine xd_dsub G dX6_rest_110 (fun dd_45 d0 G => ?_)
                refine lv_dstore (lv' := [(4, .double (dv dd_45)), (9, .int (iv j9)), (8, .int (iv i9)), (6, .double (dv d8)), (0, .double (dv x1)), (2, .double (dv x2))]) hx hb dX6_rest_111 hl (by decide) rfl (fun ls hl => ?_)
                refine lv_dload hx hb dX6_rest_113 (lv_at hl 3 rfl) ?_
                refine lv_ldc2d (s := s.setDrawn d0) hx hb G.1.2.2.2.1 (dr_words G.1.2.2.2.2 d0 _ (wm 6 111 rfl rfl)) dX6_rest_115 ?_
                refine xb_topd (fun dd_46 he_dd_46 => ?_)
                refine xd_dmul G dX6_rest_118 (fun dd_47 d0 G => ?_)
                refine lv_dstore (lv' := [(6, .double (dv dd_47)), (4, .double (dv dd_45)), (9, .int (iv j9)), (8, .int (iv i9)), (0, .double (dv x1)), (2, .double (dv x2))]) hx hb dX6_rest_119 hl (by decide) rfl (fun ls hl => ?_)
                refine lv_iinc (v := iv (j9 + 1)) (lv' := [(9, .int (iv (j9 + 1))), (6, .double (dv dd_47)), (4, .double (dv dd_45)), (8, .int (iv i9)), (0, .double (dv x1)), (2, .double (dv x2))]) hx hb dX6_rest_121 hl (k := 2) rfl (by rw [show Int32.ofInt 1 = iv 1 from rfl, iv_add]) (by decide) rfl (fun ls hl => ?_)
                refine lv_goto (tgt := 91) hx hb dX6_rest_124 (by decide) ?_
                exact ih _ _ _ _ _ _ _ (by omega) ⟨dd_45, dd_47, j9 + 1, rfl, (by omega), (by omega), (by omega), rfl, lv_sub hl [0, 3, 1, 2, 4, 5] rfl⟩ G
          · refine lv_dload hx hb dX6_rest_62 (lv_at hl 1 rfl) ?_
            refine lv_ldc2d (s := s.setDrawn d0) hx hb G.1.2.2.2.1 (dr_words G.1.2.2.2.2 d0 _ (wm 6 110 rfl rfl)) dX6_rest_64 ?_
            refine xb_topd (fun dd_48 he_dd_48 => ?_)
            refine xd_dmul G dX6_rest_67 (fun dd_49 d0 G => ?_)
            refine lv_dload hx hb dX6_rest_68 (lv_at hl 2 rfl) ?_
            refine lv_dcmp hx hb dX6_rest_70 ?_
            refine xb_topi (fun y_50 hr_y_50 he_y_50 => ?_)
            have hr_y_50 : -2147483648 ≤ y_50 ∧ y_50 ≤ 2147483647 := hr_y_50
            refine xb_if_gt (tgt := 88) hx hb (by unfold ir; omega) dX6_rest_71 (by decide) (fun c_71 => ?_) (fun c_71 => ?_)
            · refine lv_iconst (v := iv 0) hx hb dX6_rest_88 rfl ?_
              refine lv_istore (lv' := [(9, .int (iv 0)), (8, .int (iv i9)), (6, .double (dv d9)), (4, .double (dv x1)), (0, .double (dv x1)), (2, .double (dv x2))]) hx hb dX6_rest_89 hl (by decide) rfl (fun ls hl => ?_)
              refine xl (fun n_9 μ' ls => ∃ (e9 : Int), ∃ (d8 : Int), ∃ (j9 : Int), (μ' = μ) ∧ (-2147483648 ≤ j9 ∧ j9 ≤ 2147483647) ∧ (0 ≤ j9) ∧ (j9 ≤ 2300) ∧ n_9 = Int.toNat (3000 - j9) ∧ lv_has ls 10 [(9, .int (iv j9)), (8, .int (iv i9)), (6, .double (dv d8)), (4, .double (dv e9)), (0, .double (dv x1)), (2, .double (dv x2))]) (fun n_9 ρ μL51 d0 H locs ls hI_l G ih => ?_) _ _ _ _ _ _ _ ⟨x1, d9, 0, rfl, (by omega), (by omega), (by omega), rfl, lv_sub hl [0, 1, 2, 3, 4, 5] rfl⟩ G
              obtain ⟨e9, d8, j9, FL52, hi_54, hi_55, hi_56, hn53, hl⟩ := hI_l
              have FL52 := Eq.symm FL52
              subst FL52
              refine lv_iload hx hb dX6_rest_91 (lv_at hl 0 rfl) ?_
              refine lv_iload hx hb dX6_rest_93 (lv_at hl 1 rfl) ?_
              refine xb_icmp_gt (tgt := 127) hx hb (by unfold ir; omega) (by unfold ir; omega) dX6_rest_95 (by decide) (fun c_95 => ?_) (fun c_95 => ?_)
              · refine lv_dload_n hx hb dX6_rest_127 rfl (lv_at hl 4 rfl) ?_
                refine lv_dconst0 hx hb dX6_rest_128 ?_
                refine xb_topd (fun dd_57 he_dd_57 => ?_)
                refine lv_dcmp hx hb dX6_rest_129 ?_
                refine xb_topi (fun y_58 hr_y_58 he_y_58 => ?_)
                have hr_y_58 : -2147483648 ≤ y_58 ∧ y_58 ≤ 2147483647 := hr_y_58
                refine xb_if_ge (tgt := 139) hx hb (by unfold ir; omega) dX6_rest_130 (by decide) (fun c_130 => ?_) (fun c_130 => ?_)
                · refine lv_dload hx hb dX6_rest_139 (lv_at hl 3 rfl) ?_
                  exact xr_d G (x := (dv e9)) hret hlk dX6_rest_141 rfl
                · refine lv_dload hx hb dX6_rest_133 (lv_at hl 3 rfl) ?_
                  refine lv_dneg hx hb dX6_rest_135 ?_
                  refine xb_topd (fun dd_59 he_dd_59 => ?_)
                  refine lv_goto (tgt := 141) hx hb dX6_rest_136 (by decide) ?_
                  exact xr_d G (x := (dv dd_59)) hret hlk dX6_rest_141 rfl
              · refine lv_dload hx hb dX6_rest_98 (lv_at hl 3 rfl) ?_
                refine lv_dload hx hb dX6_rest_100 (lv_at hl 2 rfl) ?_
                refine lv_dcmp hx hb dX6_rest_102 ?_
                refine xb_topi (fun y_60 hr_y_60 he_y_60 => ?_)
                have hr_y_60 : -2147483648 ≤ y_60 ∧ y_60 ≤ 2147483647 := hr_y_60
                refine xb_if_lt (tgt := 113) hx hb (by unfold ir; omega) dX6_rest_103 (by decide) (fun c_103 => ?_) (fun c_103 => ?_)
                · refine lv_dload hx hb dX6_rest_113 (lv_at hl 2 rfl) ?_
                  refine lv_ldc2d (s := s.setDrawn d0) hx hb G.1.2.2.2.1 (dr_words G.1.2.2.2.2 d0 _ (wm 6 111 rfl rfl)) dX6_rest_115 ?_
                  refine xb_topd (fun dd_61 he_dd_61 => ?_)
                  refine xd_dmul G dX6_rest_118 (fun dd_62 d0 G => ?_)
                  refine lv_dstore (lv' := [(6, .double (dv dd_62)), (9, .int (iv j9)), (8, .int (iv i9)), (4, .double (dv e9)), (0, .double (dv x1)), (2, .double (dv x2))]) hx hb dX6_rest_119 hl (by decide) rfl (fun ls hl => ?_)
                  refine lv_iinc (v := iv (j9 + 1)) (lv' := [(9, .int (iv (j9 + 1))), (6, .double (dv dd_62)), (8, .int (iv i9)), (4, .double (dv e9)), (0, .double (dv x1)), (2, .double (dv x2))]) hx hb dX6_rest_121 hl (k := 1) rfl (by rw [show Int32.ofInt 1 = iv 1 from rfl, iv_add]) (by decide) rfl (fun ls hl => ?_)
                  refine lv_goto (tgt := 91) hx hb dX6_rest_124 (by decide) ?_
                  exact ih _ _ _ _ _ _ _ (by omega) ⟨e9, dd_62, j9 + 1, rfl, (by omega), (by omega), (by omega), rfl, lv_sub hl [0, 2, 1, 3, 4, 5] rfl⟩ G
                · refine lv_dload hx hb dX6_rest_106 (lv_at hl 3 rfl) ?_
                  refine lv_dload hx hb dX6_rest_108 (lv_at hl 2 rfl) ?_
                  refine xd_dsub G dX6_rest_110 (fun dd_63 d0 G => ?_)
                  refine lv_dstore (lv' := [(4, .double (dv dd_63)), (9, .int (iv j9)), (8, .int (iv i9)), (6, .double (dv d8)), (0, .double (dv x1)), (2, .double (dv x2))]) hx hb dX6_rest_111 hl (by decide) rfl (fun ls hl => ?_)
                  refine lv_dload hx hb dX6_rest_113 (lv_at hl 3 rfl) ?_
                  refine lv_ldc2d (s := s.setDrawn d0) hx hb G.1.2.2.2.1 (dr_words G.1.2.2.2.2 d0 _ (wm 6 111 rfl rfl)) dX6_rest_115 ?_
                  refine xb_topd (fun dd_64 he_dd_64 => ?_)
                  refine xd_dmul G dX6_rest_118 (fun dd_65 d0 G => ?_)
                  refine lv_dstore (lv' := [(6, .double (dv dd_65)), (4, .double (dv dd_63)), (9, .int (iv j9)), (8, .int (iv i9)), (0, .double (dv x1)), (2, .double (dv x2))]) hx hb dX6_rest_119 hl (by decide) rfl (fun ls hl => ?_)
                  refine lv_iinc (v := iv (j9 + 1)) (lv' := [(9, .int (iv (j9 + 1))), (6, .double (dv dd_65)), (4, .double (dv dd_63)), (8, .int (iv i9)), (0, .double (dv x1)), (2, .double (dv x2))]) hx hb dX6_rest_121 hl (k := 2) rfl (by rw [show Int32.ofInt 1 = iv 1 from rfl, iv_add]) (by decide) rfl (fun ls hl => ?_)
                  refine lv_goto (tgt := 91) hx hb dX6_rest_124 (by decide) ?_
                  exact ih _ _ _ _ _ _ _ (by omega) ⟨dd_63, dd_65, j9 + 1, rfl, (by omega), (by omega), (by omega), rfl, lv_sub hl [0, 3, 1, 2, 4, 5] rfl⟩ G
            · refine lv_dload hx hb dX6_rest_74 (lv_at hl 1 rfl) ?_
              refine lv_ldc2d (s := s.setDrawn d0) hx hb G.1.2.2.2.1 (dr_words G.1.2.2.2.2 d0 _ (wm 6 110 rfl rfl)) dX6_rest_76 ?_
              refine xb_topd (fun dd_66 he_dd_66 => ?_)
              refine xd_dmul G dX6_rest_79 (fun dd_67 d0 G => ?_)
              refine lv_dstore (lv' := [(6, .double (dv dd_67)), (8, .int (iv i9)), (4, .double (dv x1)), (0, .double (dv x1)), (2, .double (dv x2))]) hx hb dX6_rest_80 hl (by decide) rfl (fun ls hl => ?_)
              refine lv_iinc (v := iv (i9 + 1)) (lv' := [(8, .int (iv (i9 + 1))), (6, .double (dv dd_67)), (4, .double (dv x1)), (0, .double (dv x1)), (2, .double (dv x2))]) hx hb dX6_rest_82 hl (k := 1) rfl (by rw [show Int32.ofInt 1 = iv 1 from rfl, iv_add]) (by decide) rfl (fun ls hl => ?_)
              refine lv_goto (tgt := 41) hx hb dX6_rest_85 (by decide) ?_
              exact ih _ _ _ _ _ _ _ (by omega) ⟨dd_67, i9 + 1, rfl, (by omega), (by omega), (by omega), rfl, lv_sub hl [0, 1, 2, 3, 4] rfl⟩ G
      · refine lv_dload_n hx hb dX6_rest_36 rfl (lv_at hl 2 rfl) ?_
        exact xr_d G (x := (dv x1)) hret hlk dX6_rest_37 rfl
    · refine lv_dload_n hx hb dX6_rest_20 rfl (lv_at hl 2 rfl) ?_
      refine lv_dneg hx hb dX6_rest_21 ?_
      refine xb_topd (fun dd_68 he_dd_68 => ?_)
      refine lv_goto (tgt := 26) hx hb dX6_rest_22 (by decide) ?_
      refine lv_dstore (lv' := [(6, .double (dv dd_68)), (4, .double (dv x1)), (0, .double (dv x1)), (2, .double (dv x2))]) hx hb dX6_rest_26 hl (by decide) rfl (fun ls hl => ?_)
      refine lv_dload hx hb dX6_rest_28 (lv_at hl 1 rfl) ?_
      refine lv_dload hx hb dX6_rest_30 (lv_at hl 0 rfl) ?_
      refine lv_dcmp hx hb dX6_rest_32 ?_
      refine xb_topi (fun y_69 hr_y_69 he_y_69 => ?_)
      have hr_y_69 : -2147483648 ≤ y_69 ∧ y_69 ≤ 2147483647 := hr_y_69
      refine xb_if_ge (tgt := 38) hx hb (by unfold ir; omega) dX6_rest_33 (by decide) (fun c_33 => ?_) (fun c_33 => ?_)
      · refine lv_iconst (v := iv 0) hx hb dX6_rest_38 rfl ?_
        refine lv_istore (lv' := [(8, .int (iv 0)), (6, .double (dv dd_68)), (4, .double (dv x1)), (0, .double (dv x1)), (2, .double (dv x2))]) hx hb dX6_rest_39 hl (by decide) rfl (fun ls hl => ?_)
        refine xl (fun n_9 μ' ls => ∃ (d9 : Int), ∃ (i9 : Int), (μ' = μ) ∧ (-2147483648 ≤ i9 ∧ i9 ≤ 2147483647) ∧ (0 ≤ i9) ∧ (i9 ≤ 2200) ∧ n_9 = Int.toNat (3000 - i9) ∧ lv_has ls 10 [(8, .int (iv i9)), (6, .double (dv d9)), (4, .double (dv x1)), (0, .double (dv x1)), (2, .double (dv x2))]) (fun n_9 ρ μL70 d0 H locs ls hI_l G ih => ?_) _ _ _ _ _ _ _ ⟨dd_68, 0, rfl, (by omega), (by omega), (by omega), rfl, lv_sub hl [0, 1, 2, 3, 4] rfl⟩ G
        obtain ⟨d9, i9, FL71, hi_73, hi_74, hi_75, hn72, hl⟩ := hI_l
        have FL71 := Eq.symm FL71
        subst FL71
        refine lv_iload hx hb dX6_rest_41 (lv_at hl 0 rfl) ?_
        refine lv_sipush (v := iv 2200) hx hb dX6_rest_43 rfl ?_
        refine xb_icmp_ge (tgt := 88) hx hb (by unfold ir; omega) (by unfold ir; omega) dX6_rest_46 (by decide) (fun c_46 => ?_) (fun c_46 => ?_)
        · refine lv_iconst (v := iv 0) hx hb dX6_rest_88 rfl ?_
          refine lv_istore (lv' := [(9, .int (iv 0)), (8, .int (iv i9)), (6, .double (dv d9)), (4, .double (dv x1)), (0, .double (dv x1)), (2, .double (dv x2))]) hx hb dX6_rest_89 hl (by decide) rfl (fun ls hl => ?_)
          refine xl (fun n_9 μ' ls => ∃ (e9 : Int), ∃ (d8 : Int), ∃ (j9 : Int), (μ' = μ) ∧ (-2147483648 ≤ j9 ∧ j9 ≤ 2147483647) ∧ (0 ≤ j9) ∧ (j9 ≤ 2300) ∧ n_9 = Int.toNat (3000 - j9) ∧ lv_has ls 10 [(9, .int (iv j9)), (8, .int (iv i9)), (6, .double (dv d8)), (4, .double (dv e9)), (0, .double (dv x1)), (2, .double (dv x2))]) (fun n_9 ρ μL76 d0 H locs ls hI_l G ih => ?_) _ _ _ _ _ _ _ ⟨x1, d9, 0, rfl, (by omega), (by omega), (by omega), rfl, lv_sub hl [0, 1, 2, 3, 4, 5] rfl⟩ G
          obtain ⟨e9, d8, j9, FL77, hi_79, hi_80, hi_81, hn78, hl⟩ := hI_l
          have FL77 := Eq.symm FL77
          subst FL77
          refine lv_iload hx hb dX6_rest_91 (lv_at hl 0 rfl) ?_
          refine lv_iload hx hb dX6_rest_93 (lv_at hl 1 rfl) ?_
          refine xb_icmp_gt (tgt := 127) hx hb (by unfold ir; omega) (by unfold ir; omega) dX6_rest_95 (by decide) (fun c_95 => ?_) (fun c_95 => ?_)
          · refine lv_dload_n hx hb dX6_rest_127 rfl (lv_at hl 4 rfl) ?_
            refine lv_dconst0 hx hb dX6_rest_128 ?_
            refine xb_topd (fun dd_82 he_dd_82 => ?_)
            refine lv_dcmp hx hb dX6_rest_129 ?_
            refine xb_topi (fun y_83 hr_y_83 he_y_83 => ?_)
            have hr_y_83 : -2147483648 ≤ y_83 ∧ y_83 ≤ 2147483647 := hr_y_83
            refine xb_if_ge (tgt := 139) hx hb (by unfold ir; omega) dX6_rest_130 (by decide) (fun c_130 => ?_) (fun c_130 => ?_)
            · refine lv_dload hx hb dX6_rest_139 (lv_at hl 3 rfl) ?_
              exact xr_d G (x := (dv e9)) hret hlk dX6_rest_141 rfl
            · refine lv_dload hx hb dX6_rest_133 (lv_at hl 3 rfl) ?_
              refine lv_dneg hx hb dX6_rest_135 ?_
              refine xb_topd (fun dd_84 he_dd_84 => ?_)
              refine lv_goto (tgt := 141) hx hb dX6_rest_136 (by decide) ?_
              exact xr_d G (x := (dv dd_84)) hret hlk dX6_rest_141 rfl
          · refine lv_dload hx hb dX6_rest_98 (lv_at hl 3 rfl) ?_
            refine lv_dload hx hb dX6_rest_100 (lv_at hl 2 rfl) ?_
            refine lv_dcmp hx hb dX6_rest_102 ?_
            refine xb_topi (fun y_85 hr_y_85 he_y_85 => ?_)
            have hr_y_85 : -2147483648 ≤ y_85 ∧ y_85 ≤ 2147483647 := hr_y_85
            refine xb_if_lt (tgt := 113) hx hb (by unfold ir; omega) dX6_rest_103 (by decide) (fun c_103 => ?_) (fun c_103 => ?_)
            · refine lv_dload hx hb dX6_rest_113 (lv_at hl 2 rfl) ?_
              refine lv_ldc2d (s := s.setDrawn d0) hx hb G.1.2.2.2.1 (dr_words G.1.2.2.2.2 d0 _ (wm 6 111 rfl rfl)) dX6_rest_115 ?_
              refine xb_topd (fun dd_86 he_dd_86 => ?_)
              refine xd_dmul G dX6_rest_118 (fun dd_87 d0 G => ?_)
              refine lv_dstore (lv' := [(6, .double (dv dd_87)), (9, .int (iv j9)), (8, .int (iv i9)), (4, .double (dv e9)), (0, .double (dv x1)), (2, .double (dv x2))]) hx hb dX6_rest_119 hl (by decide) rfl (fun ls hl => ?_)
              refine lv_iinc (v := iv (j9 + 1)) (lv' := [(9, .int (iv (j9 + 1))), (6, .double (dv dd_87)), (8, .int (iv i9)), (4, .double (dv e9)), (0, .double (dv x1)), (2, .double (dv x2))]) hx hb dX6_rest_121 hl (k := 1) rfl (by rw [show Int32.ofInt 1 = iv 1 from rfl, iv_add]) (by decide) rfl (fun ls hl => ?_)
              refine lv_goto (tgt := 91) hx hb dX6_rest_124 (by decide) ?_
              exact ih _ _ _ _ _ _ _ (by omega) ⟨e9, dd_87, j9 + 1, rfl, (by omega), (by omega), (by omega), rfl, lv_sub hl [0, 2, 1, 3, 4, 5] rfl⟩ G
            · refine lv_dload hx hb dX6_rest_106 (lv_at hl 3 rfl) ?_
              refine lv_dload hx hb dX6_rest_108 (lv_at hl 2 rfl) ?_
              refine xd_dsub G dX6_rest_110 (fun dd_88 d0 G => ?_)
              refine lv_dstore (lv' := [(4, .double (dv dd_88)), (9, .int (iv j9)), (8, .int (iv i9)), (6, .double (dv d8)), (0, .double (dv x1)), (2, .double (dv x2))]) hx hb dX6_rest_111 hl (by decide) rfl (fun ls hl => ?_)
              refine lv_dload hx hb dX6_rest_113 (lv_at hl 3 rfl) ?_
              refine lv_ldc2d (s := s.setDrawn d0) hx hb G.1.2.2.2.1 (dr_words G.1.2.2.2.2 d0 _ (wm 6 111 rfl rfl)) dX6_rest_115 ?_
              refine xb_topd (fun dd_89 he_dd_89 => ?_)
              refine xd_dmul G dX6_rest_118 (fun dd_90 d0 G => ?_)
              refine lv_dstore (lv' := [(6, .double (dv dd_90)), (4, .double (dv dd_88)), (9, .int (iv j9)), (8, .int (iv i9)), (0, .double (dv x1)), (2, .double (dv x2))]) hx hb dX6_rest_119 hl (by decide) rfl (fun ls hl => ?_)
              refine lv_iinc (v := iv (j9 + 1)) (lv' := [(9, .int (iv (j9 + 1))), (6, .double (dv dd_90)), (4, .double (dv dd_88)), (8, .int (iv i9)), (0, .double (dv x1)), (2, .double (dv x2))]) hx hb dX6_rest_121 hl (k := 2) rfl (by rw [show Int32.ofInt 1 = iv 1 from rfl, iv_add]) (by decide) rfl (fun ls hl => ?_)
              refine lv_goto (tgt := 91) hx hb dX6_rest_124 (by decide) ?_
              exact ih _ _ _ _ _ _ _ (by omega) ⟨dd_88, dd_90, j9 + 1, rfl, (by omega), (by omega), (by omega), rfl, lv_sub hl [0, 3, 1, 2, 4, 5] rfl⟩ G
        · refine lv_dload hx hb dX6_rest_49 (lv_at hl 1 rfl) ?_
          refine xc_dS G (rest := [.double (dv d9)]) (As := []) (c_X6_greatest ω l μ  ) (wm 6 171 rfl rfl) (wm 6 172 rfl rfl) (wm 1 20 rfl rfl) (wm 6 173 rfl rfl) (by decide) hR (by decide) (n := 0) rfl rfl (Nat.le_of_ble_eq_true rfl) hl.1 dX6_rest_51 (fun r_92 μ91 ρ d0 H locs hp G => ?_)
          have hsm_93 := hp
          have hsm_93 := Eq.symm hsm_93
          subst hsm_93
          refine lv_ldc2d (s := s.setDrawn d0) hx hb G.1.2.2.2.1 (dr_words G.1.2.2.2.2 d0 _ (wm 6 110 rfl rfl)) dX6_rest_54 ?_
          refine xb_topd (fun dd_94 he_dd_94 => ?_)
          refine xd_ddiv G dX6_rest_57 (fun dd_95 d0 G => ?_)
          refine lv_dcmp hx hb dX6_rest_58 ?_
          refine xb_topi (fun y_96 hr_y_96 he_y_96 => ?_)
          have hr_y_96 : -2147483648 ≤ y_96 ∧ y_96 ≤ 2147483647 := hr_y_96
          refine xb_if_gt (tgt := 88) hx hb (by unfold ir; omega) dX6_rest_59 (by decide) (fun c_59 => ?_) (fun c_59 => ?_)
          · refine lv_iconst (v := iv 0) hx hb dX6_rest_88 rfl ?_
            refine lv_istore (lv' := [(9, .int (iv 0)), (8, .int (iv i9)), (6, .double (dv d9)), (4, .double (dv x1)), (0, .double (dv x1)), (2, .double (dv x2))]) hx hb dX6_rest_89 hl (by decide) rfl (fun ls hl => ?_)
            refine xl (fun n_9 μ' ls => ∃ (e9 : Int), ∃ (d8 : Int), ∃ (j9 : Int), (μ' = μ) ∧ (-2147483648 ≤ j9 ∧ j9 ≤ 2147483647) ∧ (0 ≤ j9) ∧ (j9 ≤ 2300) ∧ n_9 = Int.toNat (3000 - j9) ∧ lv_has ls 10 [(9, .int (iv j9)), (8, .int (iv i9)), (6, .double (dv d8)), (4, .double (dv e9)), (0, .double (dv x1)), (2, .double (dv x2))]) (fun n_9 ρ μL97 d0 H locs ls hI_l G ih => ?_) _ _ _ _ _ _ _ ⟨x1, d9, 0, rfl, (by omega), (by omega), (by omega), rfl, lv_sub hl [0, 1, 2, 3, 4, 5] rfl⟩ G
            obtain ⟨e9, d8, j9, FL98, hi_100, hi_101, hi_102, hn99, hl⟩ := hI_l
            have FL98 := Eq.symm FL98
            subst FL98
            refine lv_iload hx hb dX6_rest_91 (lv_at hl 0 rfl) ?_
            refine lv_iload hx hb dX6_rest_93 (lv_at hl 1 rfl) ?_
            refine xb_icmp_gt (tgt := 127) hx hb (by unfold ir; omega) (by unfold ir; omega) dX6_rest_95 (by decide) (fun c_95 => ?_) (fun c_95 => ?_)
            · refine lv_dload_n hx hb dX6_rest_127 rfl (lv_at hl 4 rfl) ?_
              refine lv_dconst0 hx hb dX6_rest_128 ?_
              refine xb_topd (fun dd_103 he_dd_103 => ?_)
              refine lv_dcmp hx hb dX6_rest_129 ?_
              refine xb_topi (fun y_104 hr_y_104 he_y_104 => ?_)
              have hr_y_104 : -2147483648 ≤ y_104 ∧ y_104 ≤ 2147483647 := hr_y_104
              refine xb_if_ge (tgt := 139) hx hb (by unfold ir; omega) dX6_rest_130 (by decide) (fun c_130 => ?_) (fun c_130 => ?_)
              · refine lv_dload hx hb dX6_rest_139 (lv_at hl 3 rfl) ?_
                exact xr_d G (x := (dv e9)) hret hlk dX6_rest_141 rfl
              · refine lv_dload hx hb dX6_rest_133 (lv_at hl 3 rfl) ?_
                refine lv_dneg hx hb dX6_rest_135 ?_
                refine xb_topd (fun dd_105 he_dd_105 => ?_)
                refine lv_goto (tgt := 141) hx hb dX6_rest_136 (by decide) ?_
                exact xr_d G (x := (dv dd_105)) hret hlk dX6_rest_141 rfl
            · refine lv_dload hx hb dX6_rest_98 (lv_at hl 3 rfl) ?_
              refine lv_dload hx hb dX6_rest_100 (lv_at hl 2 rfl) ?_
              refine lv_dcmp hx hb dX6_rest_102 ?_
              refine xb_topi (fun y_106 hr_y_106 he_y_106 => ?_)
              have hr_y_106 : -2147483648 ≤ y_106 ∧ y_106 ≤ 2147483647 := hr_y_106
              refine xb_if_lt (tgt := 113) hx hb (by unfold ir; omega) dX6_rest_103 (by decide) (fun c_103 => ?_) (fun c_103 => ?_)
              · refine lv_dload hx hb dX6_rest_113 (lv_at hl 2 rfl) ?_
                refine lv_ldc2d (s := s.setDrawn d0) hx hb G.1.2.2.2.1 (dr_words G.1.2.2.2.2 d0 _ (wm 6 111 rfl rfl)) dX6_rest_115 ?_
                refine xb_topd (fun dd_107 he_dd_107 => ?_)
                refine xd_dmul G dX6_rest_118 (fun dd_108 d0 G => ?_)
                refine lv_dstore (lv' := [(6, .double (dv dd_108)), (9, .int (iv j9)), (8, .int (iv i9)), (4, .double (dv e9)), (0, .double (dv x1)), (2, .double (dv x2))]) hx hb dX6_rest_119 hl (by decide) rfl (fun ls hl => ?_)
                refine lv_iinc (v := iv (j9 + 1)) (lv' := [(9, .int (iv (j9 + 1))), (6, .double (dv dd_108)), (8, .int (iv i9)), (4, .double (dv e9)), (0, .double (dv x1)), (2, .double (dv x2))]) hx hb dX6_rest_121 hl (k := 1) rfl (by rw [show Int32.ofInt 1 = iv 1 from rfl, iv_add]) (by decide) rfl (fun ls hl => ?_)
                refine lv_goto (tgt := 91) hx hb dX6_rest_124 (by decide) ?_
                exact ih _ _ _ _ _ _ _ (by omega) ⟨e9, dd_108, j9 + 1, rfl, (by omega), (by omega), (by omega), rfl, lv_sub hl [0, 2, 1, 3, 4, 5] rfl⟩ G
              · refine lv_dload hx hb dX6_rest_106 (lv_at hl 3 rfl) ?_
                refine lv_dload hx hb dX6_rest_108 (lv_at hl 2 rfl) ?_
                refine xd_dsub G dX6_rest_110 (fun dd_109 d0 G => ?_)
                refine lv_dstore (lv' := [(4, .double (dv dd_109)), (9, .int (iv j9)), (8, .int (iv i9)), (6, .double (dv d8)), (0, .double (dv x1)), (2, .double (dv x2))]) hx hb dX6_rest_111 hl (by decide) rfl (fun ls hl => ?_)
                refine lv_dload hx hb dX6_rest_113 (lv_at hl 3 rfl) ?_
                refine lv_ldc2d (s := s.setDrawn d0) hx hb G.1.2.2.2.1 (dr_words G.1.2.2.2.2 d0 _ (wm 6 111 rfl rfl)) dX6_rest_115 ?_
                refine xb_topd (fun dd_110 he_dd_110 => ?_)
                refine xd_dmul G dX6_rest_118 (fun dd_111 d0 G => ?_)
                refine lv_dstore (lv' := [(6, .double (dv dd_111)), (4, .double (dv dd_109)), (9, .int (iv j9)), (8, .int (iv i9)), (0, .double (dv x1)), (2, .double (dv x2))]) hx hb dX6_rest_119 hl (by decide) rfl (fun ls hl => ?_)
                refine lv_iinc (v := iv (j9 + 1)) (lv' := [(9, .int (iv (j9 + 1))), (6, .double (dv dd_111)), (4, .double (dv dd_109)), (8, .int (iv i9)), (0, .double (dv x1)), (2, .double (dv x2))]) hx hb dX6_rest_121 hl (k := 2) rfl (by rw [show Int32.ofInt 1 = iv 1 from rfl, iv_add]) (by decide) rfl (fun ls hl => ?_)
                refine lv_goto (tgt := 91) hx hb dX6_rest_124 (by decide) ?_
                exact ih _ _ _ _ _ _ _ (by omega) ⟨dd_109, dd_111, j9 + 1, rfl, (by omega), (by omega), (by omega), rfl, lv_sub hl [0, 3, 1, 2, 4, 5] rfl⟩ G
          · refine lv_dload hx hb dX6_rest_62 (lv_at hl 1 rfl) ?_
            refine lv_ldc2d (s := s.setDrawn d0) hx hb G.1.2.2.2.1 (dr_words G.1.2.2.2.2 d0 _ (wm 6 110 rfl rfl)) dX6_rest_64 ?_
            refine xb_topd (fun dd_112 he_dd_112 => ?_)
            refine xd_dmul G dX6_rest_67 (fun dd_113 d0 G => ?_)
            refine lv_dload hx hb dX6_rest_68 (lv_at hl 2 rfl) ?_
            refine lv_dcmp hx hb dX6_rest_70 ?_
            refine xb_topi (fun y_114 hr_y_114 he_y_114 => ?_)
            have hr_y_114 : -2147483648 ≤ y_114 ∧ y_114 ≤ 2147483647 := hr_y_114
            refine xb_if_gt (tgt := 88) hx hb (by unfold ir; omega) dX6_rest_71 (by decide) (fun c_71 => ?_) (fun c_71 => ?_)
            · refine lv_iconst (v := iv 0) hx hb dX6_rest_88 rfl ?_
              refine lv_istore (lv' := [(9, .int (iv 0)), (8, .int (iv i9)), (6, .double (dv d9)), (4, .double (dv x1)), (0, .double (dv x1)), (2, .double (dv x2))]) hx hb dX6_rest_89 hl (by decide) rfl (fun ls hl => ?_)
              refine xl (fun n_9 μ' ls => ∃ (e9 : Int), ∃ (d8 : Int), ∃ (j9 : Int), (μ' = μ) ∧ (-2147483648 ≤ j9 ∧ j9 ≤ 2147483647) ∧ (0 ≤ j9) ∧ (j9 ≤ 2300) ∧ n_9 = Int.toNat (3000 - j9) ∧ lv_has ls 10 [(9, .int (iv j9)), (8, .int (iv i9)), (6, .double (dv d8)), (4, .double (dv e9)), (0, .double (dv x1)), (2, .double (dv x2))]) (fun n_9 ρ μL115 d0 H locs ls hI_l G ih => ?_) _ _ _ _ _ _ _ ⟨x1, d9, 0, rfl, (by omega), (by omega), (by omega), rfl, lv_sub hl [0, 1, 2, 3, 4, 5] rfl⟩ G
              obtain ⟨e9, d8, j9, FL116, hi_118, hi_119, hi_120, hn117, hl⟩ := hI_l
              have FL116 := Eq.symm FL116
              subst FL116
              refine lv_iload hx hb dX6_rest_91 (lv_at hl 0 rfl) ?_
              refine lv_iload hx hb dX6_rest_93 (lv_at hl 1 rfl) ?_
              refine xb_icmp_gt (tgt := 127) hx hb (by unfold ir; omega) (by unfold ir; omega) dX6_rest_95 (by decide) (fun c_95 => ?_) (fun c_95 => ?_)
              · refine lv_dload_n hx hb dX6_rest_127 rfl (lv_at hl 4 rfl) ?_
                refine lv_dconst0 hx hb dX6_rest_128 ?_
                refine xb_topd (fun dd_121 he_dd_121 => ?_)
                refine lv_dcmp hx hb dX6_rest_129 ?_
                refine xb_topi (fun y_122 hr_y_122 he_y_122 => ?_)
                have hr_y_122 : -2147483648 ≤ y_122 ∧ y_122 ≤ 2147483647 := hr_y_122
                refine xb_if_ge (tgt := 139) hx hb (by unfold ir; omega) dX6_rest_130 (by decide) (fun c_130 => ?_) (fun c_130 => ?_)
                · refine lv_dload hx hb dX6_rest_139 (lv_at hl 3 rfl) ?_
                  exact xr_d G (x := (dv e9)) hret hlk dX6_rest_141 rfl
                · refine lv_dload hx hb dX6_rest_133 (lv_at hl 3 rfl) ?_
                  refine lv_dneg hx hb dX6_rest_135 ?_
                  refine xb_topd (fun dd_123 he_dd_123 => ?_)
                  refine lv_goto (tgt := 141) hx hb dX6_rest_136 (by decide) ?_
                  exact xr_d G (x := (dv dd_123)) hret hlk dX6_rest_141 rfl
              · refine lv_dload hx hb dX6_rest_98 (lv_at hl 3 rfl) ?_
                refine lv_dload hx hb dX6_rest_100 (lv_at hl 2 rfl) ?_
                refine lv_dcmp hx hb dX6_rest_102 ?_
                refine xb_topi (fun y_124 hr_y_124 he_y_124 => ?_)
                have hr_y_124 : -2147483648 ≤ y_124 ∧ y_124 ≤ 2147483647 := hr_y_124
                refine xb_if_lt (tgt := 113) hx hb (by unfold ir; omega) dX6_rest_103 (by decide) (fun c_103 => ?_) (fun c_103 => ?_)
                · refine lv_dload hx hb dX6_rest_113 (lv_at hl 2 rfl) ?_
                  refine lv_ldc2d (s := s.setDrawn d0) hx hb G.1.2.2.2.1 (dr_words G.1.2.2.2.2 d0 _ (wm 6 111 rfl rfl)) dX6_rest_115 ?_
                  refine xb_topd (fun dd_125 he_dd_125 => ?_)
                  refine xd_dmul G dX6_rest_118 (fun dd_126 d0 G => ?_)
                  refine lv_dstore (lv' := [(6, .double (dv dd_126)), (9, .int (iv j9)), (8, .int (iv i9)), (4, .double (dv e9)), (0, .double (dv x1)), (2, .double (dv x2))]) hx hb dX6_rest_119 hl (by decide) rfl (fun ls hl => ?_)
                  refine lv_iinc (v := iv (j9 + 1)) (lv' := [(9, .int (iv (j9 + 1))), (6, .double (dv dd_126)), (8, .int (iv i9)), (4, .double (dv e9)), (0, .double (dv x1)), (2, .double (dv x2))]) hx hb dX6_rest_121 hl (k := 1) rfl (by rw [show Int32.ofInt 1 = iv 1 from rfl, iv_add]) (by decide) rfl (fun ls hl => ?_)
                  refine lv_goto (tgt := 91) hx hb dX6_rest_124 (by decide) ?_
                  exact ih _ _ _ _ _ _ _ (by omega) ⟨e9, dd_126, j9 + 1, rfl, (by omega), (by omega), (by omega), rfl, lv_sub hl [0, 2, 1, 3, 4, 5] rfl⟩ G
                · refine lv_dload hx hb dX6_rest_106 (lv_at hl 3 rfl) ?_
                  refine lv_dload hx hb dX6_rest_108 (lv_at hl 2 rfl) ?_
                  refine xd_dsub G dX6_rest_110 (fun dd_127 d0 G => ?_)
                  refine lv_dstore (lv' := [(4, .double (dv dd_127)), (9, .int (iv j9)), (8, .int (iv i9)), (6, .double (dv d8)), (0, .double (dv x1)), (2, .double (dv x2))]) hx hb dX6_rest_111 hl (by decide) rfl (fun ls hl => ?_)
                  refine lv_dload hx hb dX6_rest_113 (lv_at hl 3 rfl) ?_
                  refine lv_ldc2d (s := s.setDrawn d0) hx hb G.1.2.2.2.1 (dr_words G.1.2.2.2.2 d0 _ (wm 6 111 rfl rfl)) dX6_rest_115 ?_
                  refine xb_topd (fun dd_128 he_dd_128 => ?_)
                  refine xd_dmul G dX6_rest_118 (fun dd_129 d0 G => ?_)
                  refine lv_dstore (lv' := [(6, .double (dv dd_129)), (4, .double (dv dd_127)), (9, .int (iv j9)), (8, .int (iv i9)), (0, .double (dv x1)), (2, .double (dv x2))]) hx hb dX6_rest_119 hl (by decide) rfl (fun ls hl => ?_)
                  refine lv_iinc (v := iv (j9 + 1)) (lv' := [(9, .int (iv (j9 + 1))), (6, .double (dv dd_129)), (4, .double (dv dd_127)), (8, .int (iv i9)), (0, .double (dv x1)), (2, .double (dv x2))]) hx hb dX6_rest_121 hl (k := 2) rfl (by rw [show Int32.ofInt 1 = iv 1 from rfl, iv_add]) (by decide) rfl (fun ls hl => ?_)
                  refine lv_goto (tgt := 91) hx hb dX6_rest_124 (by decide) ?_
                  exact ih _ _ _ _ _ _ _ (by omega) ⟨dd_127, dd_129, j9 + 1, rfl, (by omega), (by omega), (by omega), rfl, lv_sub hl [0, 3, 1, 2, 4, 5] rfl⟩ G
            · refine lv_dload hx hb dX6_rest_74 (lv_at hl 1 rfl) ?_
              refine lv_ldc2d (s := s.setDrawn d0) hx hb G.1.2.2.2.1 (dr_words G.1.2.2.2.2 d0 _ (wm 6 110 rfl rfl)) dX6_rest_76 ?_
              refine xb_topd (fun dd_130 he_dd_130 => ?_)
              refine xd_dmul G dX6_rest_79 (fun dd_131 d0 G => ?_)
              refine lv_dstore (lv' := [(6, .double (dv dd_131)), (8, .int (iv i9)), (4, .double (dv x1)), (0, .double (dv x1)), (2, .double (dv x2))]) hx hb dX6_rest_80 hl (by decide) rfl (fun ls hl => ?_)
              refine lv_iinc (v := iv (i9 + 1)) (lv' := [(8, .int (iv (i9 + 1))), (6, .double (dv dd_131)), (4, .double (dv x1)), (0, .double (dv x1)), (2, .double (dv x2))]) hx hb dX6_rest_82 hl (k := 1) rfl (by rw [show Int32.ofInt 1 = iv 1 from rfl, iv_add]) (by decide) rfl (fun ls hl => ?_)
              refine lv_goto (tgt := 41) hx hb dX6_rest_85 (by decide) ?_
              exact ih _ _ _ _ _ _ _ (by omega) ⟨dd_131, i9 + 1, rfl, (by omega), (by omega), (by omega), rfl, lv_sub hl [0, 1, 2, 3, 4] rfl⟩ G
      · refine lv_dload_n hx hb dX6_rest_36 rfl (lv_at hl 2 rfl) ?_
        exact xr_d G (x := (dv x1)) hret hlk dX6_rest_37 rfl
  · refine lv_dload_n hx hb dX6_rest_6 rfl (lv_at hl 0 rfl) ?_
    refine lv_dneg hx hb dX6_rest_7 ?_
    refine xb_topd (fun dd_132 he_dd_132 => ?_)
    refine lv_goto (tgt := 12) hx hb dX6_rest_8 (by decide) ?_
    refine lv_dstore (lv' := [(4, .double (dv dd_132)), (0, .double (dv x1)), (2, .double (dv x2))]) hx hb dX6_rest_12 hl (by decide) rfl (fun ls hl => ?_)
    refine lv_dload_n hx hb dX6_rest_14 rfl (lv_at hl 2 rfl) ?_
    refine lv_dconst0 hx hb dX6_rest_15 ?_
    refine xb_topd (fun dd_133 he_dd_133 => ?_)
    refine lv_dcmp hx hb dX6_rest_16 ?_
    refine xb_topi (fun y_134 hr_y_134 he_y_134 => ?_)
    have hr_y_134 : -2147483648 ≤ y_134 ∧ y_134 ≤ 2147483647 := hr_y_134
    refine xb_if_ge (tgt := 25) hx hb (by unfold ir; omega) dX6_rest_17 (by decide) (fun c_17 => ?_) (fun c_17 => ?_)
    · refine lv_dload_n hx hb dX6_rest_25 rfl (lv_at hl 2 rfl) ?_
      refine lv_dstore (lv' := [(6, .double (dv x2)), (4, .double (dv dd_132)), (0, .double (dv x1)), (2, .double (dv x2))]) hx hb dX6_rest_26 hl (by decide) rfl (fun ls hl => ?_)
      refine lv_dload hx hb dX6_rest_28 (lv_at hl 1 rfl) ?_
      refine lv_dload hx hb dX6_rest_30 (lv_at hl 0 rfl) ?_
      refine lv_dcmp hx hb dX6_rest_32 ?_
      refine xb_topi (fun y_135 hr_y_135 he_y_135 => ?_)
      have hr_y_135 : -2147483648 ≤ y_135 ∧ y_135 ≤ 2147483647 := hr_y_135
      refine xb_if_ge (tgt := 38) hx hb (by unfold ir; omega) dX6_rest_33 (by decide) (fun c_33 => ?_) (fun c_33 => ?_)
      · refine lv_iconst (v := iv 0) hx hb dX6_rest_38 rfl ?_
        refine lv_istore (lv' := [(8, .int (iv 0)), (6, .double (dv x2)), (4, .double (dv dd_132)), (0, .double (dv x1)), (2, .double (dv x2))]) hx hb dX6_rest_39 hl (by decide) rfl (fun ls hl => ?_)
        refine xl (fun n_9 μ' ls => ∃ (d9 : Int), ∃ (i9 : Int), (μ' = μ) ∧ (-2147483648 ≤ i9 ∧ i9 ≤ 2147483647) ∧ (0 ≤ i9) ∧ (i9 ≤ 2200) ∧ n_9 = Int.toNat (3000 - i9) ∧ lv_has ls 10 [(8, .int (iv i9)), (6, .double (dv d9)), (4, .double (dv dd_132)), (0, .double (dv x1)), (2, .double (dv x2))]) (fun n_9 ρ μL136 d0 H locs ls hI_l G ih => ?_) _ _ _ _ _ _ _ ⟨x2, 0, rfl, (by omega), (by omega), (by omega), rfl, lv_sub hl [0, 1, 2, 3, 4] rfl⟩ G
        obtain ⟨d9, i9, FL137, hi_139, hi_140, hi_141, hn138, hl⟩ := hI_l
        have FL137 := Eq.symm FL137
        subst FL137
        refine lv_iload hx hb dX6_rest_41 (lv_at hl 0 rfl) ?_
        refine lv_sipush (v := iv 2200) hx hb dX6_rest_43 rfl ?_
        refine xb_icmp_ge (tgt := 88) hx hb (by unfold ir; omega) (by unfold ir; omega) dX6_rest_46 (by decide) (fun c_46 => ?_) (fun c_46 => ?_)
        · refine lv_iconst (v := iv 0) hx hb dX6_rest_88 rfl ?_
          refine lv_istore (lv' := [(9, .int (iv 0)), (8, .int (iv i9)), (6, .double (dv d9)), (4, .double (dv dd_132)), (0, .double (dv x1)), (2, .double (dv x2))]) hx hb dX6_rest_89 hl (by decide) rfl (fun ls hl => ?_)
          refine xl (fun n_9 μ' ls => ∃ (e9 : Int), ∃ (d8 : Int), ∃ (j9 : Int), (μ' = μ) ∧ (-2147483648 ≤ j9 ∧ j9 ≤ 2147483647) ∧ (0 ≤ j9) ∧ (j9 ≤ 2300) ∧ n_9 = Int.toNat (3000 - j9) ∧ lv_has ls 10 [(9, .int (iv j9)), (8, .int (iv i9)), (6, .double (dv d8)), (4, .double (dv e9)), (0, .double (dv x1)), (2, .double (dv x2))]) (fun n_9 ρ μL142 d0 H locs ls hI_l G ih => ?_) _ _ _ _ _ _ _ ⟨dd_132, d9, 0, rfl, (by omega), (by omega), (by omega), rfl, lv_sub hl [0, 1, 2, 3, 4, 5] rfl⟩ G
          obtain ⟨e9, d8, j9, FL143, hi_145, hi_146, hi_147, hn144, hl⟩ := hI_l
          have FL143 := Eq.symm FL143
          subst FL143
          refine lv_iload hx hb dX6_rest_91 (lv_at hl 0 rfl) ?_
          refine lv_iload hx hb dX6_rest_93 (lv_at hl 1 rfl) ?_
          refine xb_icmp_gt (tgt := 127) hx hb (by unfold ir; omega) (by unfold ir; omega) dX6_rest_95 (by decide) (fun c_95 => ?_) (fun c_95 => ?_)
          · refine lv_dload_n hx hb dX6_rest_127 rfl (lv_at hl 4 rfl) ?_
            refine lv_dconst0 hx hb dX6_rest_128 ?_
            refine xb_topd (fun dd_148 he_dd_148 => ?_)
            refine lv_dcmp hx hb dX6_rest_129 ?_
            refine xb_topi (fun y_149 hr_y_149 he_y_149 => ?_)
            have hr_y_149 : -2147483648 ≤ y_149 ∧ y_149 ≤ 2147483647 := hr_y_149
            refine xb_if_ge (tgt := 139) hx hb (by unfold ir; omega) dX6_rest_130 (by decide) (fun c_130 => ?_) (fun c_130 => ?_)
            · refine lv_dload hx hb dX6_rest_139 (lv_at hl 3 rfl) ?_
              exact xr_d G (x := (dv e9)) hret hlk dX6_rest_141 rfl
            · refine lv_dload hx hb dX6_rest_133 (lv_at hl 3 rfl) ?_
              refine lv_dneg hx hb dX6_rest_135 ?_
              refine xb_topd (fun dd_150 he_dd_150 => ?_)
              refine lv_goto (tgt := 141) hx hb dX6_rest_136 (by decide) ?_
              exact xr_d G (x := (dv dd_150)) hret hlk dX6_rest_141 rfl
          · refine lv_dload hx hb dX6_rest_98 (lv_at hl 3 rfl) ?_
            refine lv_dload hx hb dX6_rest_100 (lv_at hl 2 rfl) ?_
            refine lv_dcmp hx hb dX6_rest_102 ?_
            refine xb_topi (fun y_151 hr_y_151 he_y_151 => ?_)
            have hr_y_151 : -2147483648 ≤ y_151 ∧ y_151 ≤ 2147483647 := hr_y_151
            refine xb_if_lt (tgt := 113) hx hb (by unfold ir; omega) dX6_rest_103 (by decide) (fun c_103 => ?_) (fun c_103 => ?_)
            · refine lv_dload hx hb dX6_rest_113 (lv_at hl 2 rfl) ?_
              refine lv_ldc2d (s := s.setDrawn d0) hx hb G.1.2.2.2.1 (dr_words G.1.2.2.2.2 d0 _ (wm 6 111 rfl rfl)) dX6_rest_115 ?_
              refine xb_topd (fun dd_152 he_dd_152 => ?_)
              refine xd_dmul G dX6_rest_118 (fun dd_153 d0 G => ?_)
              refine lv_dstore (lv' := [(6, .double (dv dd_153)), (9, .int (iv j9)), (8, .int (iv i9)), (4, .double (dv e9)), (0, .double (dv x1)), (2, .double (dv x2))]) hx hb dX6_rest_119 hl (by decide) rfl (fun ls hl => ?_)
              refine lv_iinc (v := iv (j9 + 1)) (lv' := [(9, .int (iv (j9 + 1))), (6, .double (dv dd_153)), (8, .int (iv i9)), (4, .double (dv e9)), (0, .double (dv x1)), (2, .double (dv x2))]) hx hb dX6_rest_121 hl (k := 1) rfl (by rw [show Int32.ofInt 1 = iv 1 from rfl, iv_add]) (by decide) rfl (fun ls hl => ?_)
              refine lv_goto (tgt := 91) hx hb dX6_rest_124 (by decide) ?_
              exact ih _ _ _ _ _ _ _ (by omega) ⟨e9, dd_153, j9 + 1, rfl, (by omega), (by omega), (by omega), rfl, lv_sub hl [0, 2, 1, 3, 4, 5] rfl⟩ G
            · refine lv_dload hx hb dX6_rest_106 (lv_at hl 3 rfl) ?_
              refine lv_dload hx hb dX6_rest_108 (lv_at hl 2 rfl) ?_
              refine xd_dsub G dX6_rest_110 (fun dd_154 d0 G => ?_)
              refine lv_dstore (lv' := [(4, .double (dv dd_154)), (9, .int (iv j9)), (8, .int (iv i9)), (6, .double (dv d8)), (0, .double (dv x1)), (2, .double (dv x2))]) hx hb dX6_rest_111 hl (by decide) rfl (fun ls hl => ?_)
              refine lv_dload hx hb dX6_rest_113 (lv_at hl 3 rfl) ?_
              refine lv_ldc2d (s := s.setDrawn d0) hx hb G.1.2.2.2.1 (dr_words G.1.2.2.2.2 d0 _ (wm 6 111 rfl rfl)) dX6_rest_115 ?_
              refine xb_topd (fun dd_155 he_dd_155 => ?_)
              refine xd_dmul G dX6_rest_118 (fun dd_156 d0 G => ?_)
              refine lv_dstore (lv' := [(6, .double (dv dd_156)), (4, .double (dv dd_154)), (9, .int (iv j9)), (8, .int (iv i9)), (0, .double (dv x1)), (2, .double (dv x2))]) hx hb dX6_rest_119 hl (by decide) rfl (fun ls hl => ?_)
              refine lv_iinc (v := iv (j9 + 1)) (lv' := [(9, .int (iv (j9 + 1))), (6, .double (dv dd_156)), (4, .double (dv dd_154)), (8, .int (iv i9)), (0, .double (dv x1)), (2, .double (dv x2))]) hx hb dX6_rest_121 hl (k := 2) rfl (by rw [show Int32.ofInt 1 = iv 1 from rfl, iv_add]) (by decide) rfl (fun ls hl => ?_)
              refine lv_goto (tgt := 91) hx hb dX6_rest_124 (by decide) ?_
              exact ih _ _ _ _ _ _ _ (by omega) ⟨dd_154, dd_156, j9 + 1, rfl, (by omega), (by omega), (by omega), rfl, lv_sub hl [0, 3, 1, 2, 4, 5] rfl⟩ G
        · refine lv_dload hx hb dX6_rest_49 (lv_at hl 1 rfl) ?_
          refine xc_dS G (rest := [.double (dv d9)]) (As := []) (c_X6_greatest ω l μ  ) (wm 6 171 rfl rfl) (wm 6 172 rfl rfl) (wm 1 20 rfl rfl) (wm 6 173 rfl rfl) (by decide) hR (by decide) (n := 0) rfl rfl (Nat.le_of_ble_eq_true rfl) hl.1 dX6_rest_51 (fun r_158 μ157 ρ d0 H locs hp G => ?_)
          have hsm_159 := hp
          have hsm_159 := Eq.symm hsm_159
          subst hsm_159
          refine lv_ldc2d (s := s.setDrawn d0) hx hb G.1.2.2.2.1 (dr_words G.1.2.2.2.2 d0 _ (wm 6 110 rfl rfl)) dX6_rest_54 ?_
          refine xb_topd (fun dd_160 he_dd_160 => ?_)
          refine xd_ddiv G dX6_rest_57 (fun dd_161 d0 G => ?_)
          refine lv_dcmp hx hb dX6_rest_58 ?_
          refine xb_topi (fun y_162 hr_y_162 he_y_162 => ?_)
          have hr_y_162 : -2147483648 ≤ y_162 ∧ y_162 ≤ 2147483647 := hr_y_162
          refine xb_if_gt (tgt := 88) hx hb (by unfold ir; omega) dX6_rest_59 (by decide) (fun c_59 => ?_) (fun c_59 => ?_)
          · refine lv_iconst (v := iv 0) hx hb dX6_rest_88 rfl ?_
            refine lv_istore (lv' := [(9, .int (iv 0)), (8, .int (iv i9)), (6, .double (dv d9)), (4, .double (dv dd_132)), (0, .double (dv x1)), (2, .double (dv x2))]) hx hb dX6_rest_89 hl (by decide) rfl (fun ls hl => ?_)
            refine xl (fun n_9 μ' ls => ∃ (e9 : Int), ∃ (d8 : Int), ∃ (j9 : Int), (μ' = μ) ∧ (-2147483648 ≤ j9 ∧ j9 ≤ 2147483647) ∧ (0 ≤ j9) ∧ (j9 ≤ 2300) ∧ n_9 = Int.toNat (3000 - j9) ∧ lv_has ls 10 [(9, .int (iv j9)), (8, .int (iv i9)), (6, .double (dv d8)), (4, .double (dv e9)), (0, .double (dv x1)), (2, .double (dv x2))]) (fun n_9 ρ μL163 d0 H locs ls hI_l G ih => ?_) _ _ _ _ _ _ _ ⟨dd_132, d9, 0, rfl, (by omega), (by omega), (by omega), rfl, lv_sub hl [0, 1, 2, 3, 4, 5] rfl⟩ G
            obtain ⟨e9, d8, j9, FL164, hi_166, hi_167, hi_168, hn165, hl⟩ := hI_l
            have FL164 := Eq.symm FL164
            subst FL164
            refine lv_iload hx hb dX6_rest_91 (lv_at hl 0 rfl) ?_
            refine lv_iload hx hb dX6_rest_93 (lv_at hl 1 rfl) ?_
            refine xb_icmp_gt (tgt := 127) hx hb (by unfold ir; omega) (by unfold ir; omega) dX6_rest_95 (by decide) (fun c_95 => ?_) (fun c_95 => ?_)
            · refine lv_dload_n hx hb dX6_rest_127 rfl (lv_at hl 4 rfl) ?_
              refine lv_dconst0 hx hb dX6_rest_128 ?_
              refine xb_topd (fun dd_169 he_dd_169 => ?_)
              refine lv_dcmp hx hb dX6_rest_129 ?_
              refine xb_topi (fun y_170 hr_y_170 he_y_170 => ?_)
              have hr_y_170 : -2147483648 ≤ y_170 ∧ y_170 ≤ 2147483647 := hr_y_170
              refine xb_if_ge (tgt := 139) hx hb (by unfold ir; omega) dX6_rest_130 (by decide) (fun c_130 => ?_) (fun c_130 => ?_)
              · refine lv_dload hx hb dX6_rest_139 (lv_at hl 3 rfl) ?_
                exact xr_d G (x := (dv e9)) hret hlk dX6_rest_141 rfl
              · refine lv_dload hx hb dX6_rest_133 (lv_at hl 3 rfl) ?_
                refine lv_dneg hx hb dX6_rest_135 ?_
                refine xb_topd (fun dd_171 he_dd_171 => ?_)
                refine lv_goto (tgt := 141) hx hb dX6_rest_136 (by decide) ?_
                exact xr_d G (x := (dv dd_171)) hret hlk dX6_rest_141 rfl
            · refine lv_dload hx hb dX6_rest_98 (lv_at hl 3 rfl) ?_
              refine lv_dload hx hb dX6_rest_100 (lv_at hl 2 rfl) ?_
              refine lv_dcmp hx hb dX6_rest_102 ?_
              refine xb_topi (fun y_172 hr_y_172 he_y_172 => ?_)
              have hr_y_172 : -2147483648 ≤ y_172 ∧ y_172 ≤ 2147483647 := hr_y_172
              refine xb_if_lt (tgt := 113) hx hb (by unfold ir; omega) dX6_rest_103 (by decide) (fun c_103 => ?_) (fun c_103 => ?_)
              · refine lv_dload hx hb dX6_rest_113 (lv_at hl 2 rfl) ?_
                refine lv_ldc2d (s := s.setDrawn d0) hx hb G.1.2.2.2.1 (dr_words G.1.2.2.2.2 d0 _ (wm 6 111 rfl rfl)) dX6_rest_115 ?_
                refine xb_topd (fun dd_173 he_dd_173 => ?_)
                refine xd_dmul G dX6_rest_118 (fun dd_174 d0 G => ?_)
                refine lv_dstore (lv' := [(6, .double (dv dd_174)), (9, .int (iv j9)), (8, .int (iv i9)), (4, .double (dv e9)), (0, .double (dv x1)), (2, .double (dv x2))]) hx hb dX6_rest_119 hl (by decide) rfl (fun ls hl => ?_)
                refine lv_iinc (v := iv (j9 + 1)) (lv' := [(9, .int (iv (j9 + 1))), (6, .double (dv dd_174)), (8, .int (iv i9)), (4, .double (dv e9)), (0, .double (dv x1)), (2, .double (dv x2))]) hx hb dX6_rest_121 hl (k := 1) rfl (by rw [show Int32.ofInt 1 = iv 1 from rfl, iv_add]) (by decide) rfl (fun ls hl => ?_)
                refine lv_goto (tgt := 91) hx hb dX6_rest_124 (by decide) ?_
                exact ih _ _ _ _ _ _ _ (by omega) ⟨e9, dd_174, j9 + 1, rfl, (by omega), (by omega), (by omega), rfl, lv_sub hl [0, 2, 1, 3, 4, 5] rfl⟩ G
              · refine lv_dload hx hb dX6_rest_106 (lv_at hl 3 rfl) ?_
                refine lv_dload hx hb dX6_rest_108 (lv_at hl 2 rfl) ?_
                refine xd_dsub G dX6_rest_110 (fun dd_175 d0 G => ?_)
                refine lv_dstore (lv' := [(4, .double (dv dd_175)), (9, .int (iv j9)), (8, .int (iv i9)), (6, .double (dv d8)), (0, .double (dv x1)), (2, .double (dv x2))]) hx hb dX6_rest_111 hl (by decide) rfl (fun ls hl => ?_)
                refine lv_dload hx hb dX6_rest_113 (lv_at hl 3 rfl) ?_
                refine lv_ldc2d (s := s.setDrawn d0) hx hb G.1.2.2.2.1 (dr_words G.1.2.2.2.2 d0 _ (wm 6 111 rfl rfl)) dX6_rest_115 ?_
                refine xb_topd (fun dd_176 he_dd_176 => ?_)
                refine xd_dmul G dX6_rest_118 (fun dd_177 d0 G => ?_)
                refine lv_dstore (lv' := [(6, .double (dv dd_177)), (4, .double (dv dd_175)), (9, .int (iv j9)), (8, .int (iv i9)), (0, .double (dv x1)), (2, .double (dv x2))]) hx hb dX6_rest_119 hl (by decide) rfl (fun ls hl => ?_)
                refine lv_iinc (v := iv (j9 + 1)) (lv' := [(9, .int (iv (j9 + 1))), (6, .double (dv dd_177)), (4, .double (dv dd_175)), (8, .int (iv i9)), (0, .double (dv x1)), (2, .double (dv x2))]) hx hb dX6_rest_121 hl (k := 2) rfl (by rw [show Int32.ofInt 1 = iv 1 from rfl, iv_add]) (by decide) rfl (fun ls hl => ?_)
                refine lv_goto (tgt := 91) hx hb dX6_rest_124 (by decide) ?_
                exact ih _ _ _ _ _ _ _ (by omega) ⟨dd_175, dd_177, j9 + 1, rfl, (by omega), (by omega), (by omega), rfl, lv_sub hl [0, 3, 1, 2, 4, 5] rfl⟩ G
          · refine lv_dload hx hb dX6_rest_62 (lv_at hl 1 rfl) ?_
            refine lv_ldc2d (s := s.setDrawn d0) hx hb G.1.2.2.2.1 (dr_words G.1.2.2.2.2 d0 _ (wm 6 110 rfl rfl)) dX6_rest_64 ?_
            refine xb_topd (fun dd_178 he_dd_178 => ?_)
            refine xd_dmul G dX6_rest_67 (fun dd_179 d0 G => ?_)
            refine lv_dload hx hb dX6_rest_68 (lv_at hl 2 rfl) ?_
            refine lv_dcmp hx hb dX6_rest_70 ?_
            refine xb_topi (fun y_180 hr_y_180 he_y_180 => ?_)
            have hr_y_180 : -2147483648 ≤ y_180 ∧ y_180 ≤ 2147483647 := hr_y_180
            refine xb_if_gt (tgt := 88) hx hb (by unfold ir; omega) dX6_rest_71 (by decide) (fun c_71 => ?_) (fun c_71 => ?_)
            · refine lv_iconst (v := iv 0) hx hb dX6_rest_88 rfl ?_
              refine lv_istore (lv' := [(9, .int (iv 0)), (8, .int (iv i9)), (6, .double (dv d9)), (4, .double (dv dd_132)), (0, .double (dv x1)), (2, .double (dv x2))]) hx hb dX6_rest_89 hl (by decide) rfl (fun ls hl => ?_)
              refine xl (fun n_9 μ' ls => ∃ (e9 : Int), ∃ (d8 : Int), ∃ (j9 : Int), (μ' = μ) ∧ (-2147483648 ≤ j9 ∧ j9 ≤ 2147483647) ∧ (0 ≤ j9) ∧ (j9 ≤ 2300) ∧ n_9 = Int.toNat (3000 - j9) ∧ lv_has ls 10 [(9, .int (iv j9)), (8, .int (iv i9)), (6, .double (dv d8)), (4, .double (dv e9)), (0, .double (dv x1)), (2, .double (dv x2))]) (fun n_9 ρ μL181 d0 H locs ls hI_l G ih => ?_) _ _ _ _ _ _ _ ⟨dd_132, d9, 0, rfl, (by omega), (by omega), (by omega), rfl, lv_sub hl [0, 1, 2, 3, 4, 5] rfl⟩ G
              obtain ⟨e9, d8, j9, FL182, hi_184, hi_185, hi_186, hn183, hl⟩ := hI_l
              have FL182 := Eq.symm FL182
              subst FL182
              refine lv_iload hx hb dX6_rest_91 (lv_at hl 0 rfl) ?_
              refine lv_iload hx hb dX6_rest_93 (lv_at hl 1 rfl) ?_
              refine xb_icmp_gt (tgt := 127) hx hb (by unfold ir; omega) (by unfold ir; omega) dX6_rest_95 (by decide) (fun c_95 => ?_) (fun c_95 => ?_)
              · refine lv_dload_n hx hb dX6_rest_127 rfl (lv_at hl 4 rfl) ?_
                refine lv_dconst0 hx hb dX6_rest_128 ?_
                refine xb_topd (fun dd_187 he_dd_187 => ?_)
                refine lv_dcmp hx hb dX6_rest_129 ?_
                refine xb_topi (fun y_188 hr_y_188 he_y_188 => ?_)
                have hr_y_188 : -2147483648 ≤ y_188 ∧ y_188 ≤ 2147483647 := hr_y_188
                refine xb_if_ge (tgt := 139) hx hb (by unfold ir; omega) dX6_rest_130 (by decide) (fun c_130 => ?_) (fun c_130 => ?_)
                · refine lv_dload hx hb dX6_rest_139 (lv_at hl 3 rfl) ?_
                  exact xr_d G (x := (dv e9)) hret hlk dX6_rest_141 rfl
                · refine lv_dload hx hb dX6_rest_133 (lv_at hl 3 rfl) ?_
                  refine lv_dneg hx hb dX6_rest_135 ?_
                  refine xb_topd (fun dd_189 he_dd_189 => ?_)
                  refine lv_goto (tgt := 141) hx hb dX6_rest_136 (by decide) ?_
                  exact xr_d G (x := (dv dd_189)) hret hlk dX6_rest_141 rfl
              · refine lv_dload hx hb dX6_rest_98 (lv_at hl 3 rfl) ?_
                refine lv_dload hx hb dX6_rest_100 (lv_at hl 2 rfl) ?_
                refine lv_dcmp hx hb dX6_rest_102 ?_
                refine xb_topi (fun y_190 hr_y_190 he_y_190 => ?_)
                have hr_y_190 : -2147483648 ≤ y_190 ∧ y_190 ≤ 2147483647 := hr_y_190
                refine xb_if_lt (tgt := 113) hx hb (by unfold ir; omega) dX6_rest_103 (by decide) (fun c_103 => ?_) (fun c_103 => ?_)
                · refine lv_dload hx hb dX6_rest_113 (lv_at hl 2 rfl) ?_
                  refine lv_ldc2d (s := s.setDrawn d0) hx hb G.1.2.2.2.1 (dr_words G.1.2.2.2.2 d0 _ (wm 6 111 rfl rfl)) dX6_rest_115 ?_
                  refine xb_topd (fun dd_191 he_dd_191 => ?_)
                  refine xd_dmul G dX6_rest_118 (fun dd_192 d0 G => ?_)
                  refine lv_dstore (lv' := [(6, .double (dv dd_192)), (9, .int (iv j9)), (8, .int (iv i9)), (4, .double (dv e9)), (0, .double (dv x1)), (2, .double (dv x2))]) hx hb dX6_rest_119 hl (by decide) rfl (fun ls hl => ?_)
                  refine lv_iinc (v := iv (j9 + 1)) (lv' := [(9, .int (iv (j9 + 1))), (6, .double (dv dd_192)), (8, .int (iv i9)), (4, .double (dv e9)), (0, .double (dv x1)), (2, .double (dv x2))]) hx hb dX6_rest_121 hl (k := 1) rfl (by rw [show Int32.ofInt 1 = iv 1 from rfl, iv_add]) (by decide) rfl (fun ls hl => ?_)
                  refine lv_goto (tgt := 91) hx hb dX6_rest_124 (by decide) ?_
                  exact ih _ _ _ _ _ _ _ (by omega) ⟨e9, dd_192, j9 + 1, rfl, (by omega), (by omega), (by omega), rfl, lv_sub hl [0, 2, 1, 3, 4, 5] rfl⟩ G
                · refine lv_dload hx hb dX6_rest_106 (lv_at hl 3 rfl) ?_
                  refine lv_dload hx hb dX6_rest_108 (lv_at hl 2 rfl) ?_
                  refine xd_dsub G dX6_rest_110 (fun dd_193 d0 G => ?_)
                  refine lv_dstore (lv' := [(4, .double (dv dd_193)), (9, .int (iv j9)), (8, .int (iv i9)), (6, .double (dv d8)), (0, .double (dv x1)), (2, .double (dv x2))]) hx hb dX6_rest_111 hl (by decide) rfl (fun ls hl => ?_)
                  refine lv_dload hx hb dX6_rest_113 (lv_at hl 3 rfl) ?_
                  refine lv_ldc2d (s := s.setDrawn d0) hx hb G.1.2.2.2.1 (dr_words G.1.2.2.2.2 d0 _ (wm 6 111 rfl rfl)) dX6_rest_115 ?_
                  refine xb_topd (fun dd_194 he_dd_194 => ?_)
                  refine xd_dmul G dX6_rest_118 (fun dd_195 d0 G => ?_)
                  refine lv_dstore (lv' := [(6, .double (dv dd_195)), (4, .double (dv dd_193)), (9, .int (iv j9)), (8, .int (iv i9)), (0, .double (dv x1)), (2, .double (dv x2))]) hx hb dX6_rest_119 hl (by decide) rfl (fun ls hl => ?_)
                  refine lv_iinc (v := iv (j9 + 1)) (lv' := [(9, .int (iv (j9 + 1))), (6, .double (dv dd_195)), (4, .double (dv dd_193)), (8, .int (iv i9)), (0, .double (dv x1)), (2, .double (dv x2))]) hx hb dX6_rest_121 hl (k := 2) rfl (by rw [show Int32.ofInt 1 = iv 1 from rfl, iv_add]) (by decide) rfl (fun ls hl => ?_)
                  refine lv_goto (tgt := 91) hx hb dX6_rest_124 (by decide) ?_
                  exact ih _ _ _ _ _ _ _ (by omega) ⟨dd_193, dd_195, j9 + 1, rfl, (by omega), (by omega), (by omega), rfl, lv_sub hl [0, 3, 1, 2, 4, 5] rfl⟩ G
            · refine lv_dload hx hb dX6_rest_74 (lv_at hl 1 rfl) ?_
              refine lv_ldc2d (s := s.setDrawn d0) hx hb G.1.2.2.2.1 (dr_words G.1.2.2.2.2 d0 _ (wm 6 110 rfl rfl)) dX6_rest_76 ?_
              refine xb_topd (fun dd_196 he_dd_196 => ?_)
              refine xd_dmul G dX6_rest_79 (fun dd_197 d0 G => ?_)
              refine lv_dstore (lv' := [(6, .double (dv dd_197)), (8, .int (iv i9)), (4, .double (dv dd_132)), (0, .double (dv x1)), (2, .double (dv x2))]) hx hb dX6_rest_80 hl (by decide) rfl (fun ls hl => ?_)
              refine lv_iinc (v := iv (i9 + 1)) (lv' := [(8, .int (iv (i9 + 1))), (6, .double (dv dd_197)), (4, .double (dv dd_132)), (0, .double (dv x1)), (2, .double (dv x2))]) hx hb dX6_rest_82 hl (k := 1) rfl (by rw [show Int32.ofInt 1 = iv 1 from rfl, iv_add]) (by decide) rfl (fun ls hl => ?_)
              refine lv_goto (tgt := 41) hx hb dX6_rest_85 (by decide) ?_
              exact ih _ _ _ _ _ _ _ (by omega) ⟨dd_197, i9 + 1, rfl, (by omega), (by omega), (by omega), rfl, lv_sub hl [0, 1, 2, 3, 4] rfl⟩ G
      · refine lv_dload_n hx hb dX6_rest_36 rfl (lv_at hl 2 rfl) ?_
        exact xr_d G (x := (dv x1)) hret hlk dX6_rest_37 rfl
    · refine lv_dload_n hx hb dX6_rest_20 rfl (lv_at hl 2 rfl) ?_
      refine lv_dneg hx hb dX6_rest_21 ?_
      refine xb_topd (fun dd_198 he_dd_198 => ?_)
      refine lv_goto (tgt := 26) hx hb dX6_rest_22 (by decide) ?_
      refine lv_dstore (lv' := [(6, .double (dv dd_198)), (4, .double (dv dd_132)), (0, .double (dv x1)), (2, .double (dv x2))]) hx hb dX6_rest_26 hl (by decide) rfl (fun ls hl => ?_)
      refine lv_dload hx hb dX6_rest_28 (lv_at hl 1 rfl) ?_
      refine lv_dload hx hb dX6_rest_30 (lv_at hl 0 rfl) ?_
      refine lv_dcmp hx hb dX6_rest_32 ?_
      refine xb_topi (fun y_199 hr_y_199 he_y_199 => ?_)
      have hr_y_199 : -2147483648 ≤ y_199 ∧ y_199 ≤ 2147483647 := hr_y_199
      refine xb_if_ge (tgt := 38) hx hb (by unfold ir; omega) dX6_rest_33 (by decide) (fun c_33 => ?_) (fun c_33 => ?_)
      · refine lv_iconst (v := iv 0) hx hb dX6_rest_38 rfl ?_
        refine lv_istore (lv' := [(8, .int (iv 0)), (6, .double (dv dd_198)), (4, .double (dv dd_132)), (0, .double (dv x1)), (2, .double (dv x2))]) hx hb dX6_rest_39 hl (by decide) rfl (fun ls hl => ?_)
        refine xl (fun n_9 μ' ls => ∃ (d9 : Int), ∃ (i9 : Int), (μ' = μ) ∧ (-2147483648 ≤ i9 ∧ i9 ≤ 2147483647) ∧ (0 ≤ i9) ∧ (i9 ≤ 2200) ∧ n_9 = Int.toNat (3000 - i9) ∧ lv_has ls 10 [(8, .int (iv i9)), (6, .double (dv d9)), (4, .double (dv dd_132)), (0, .double (dv x1)), (2, .double (dv x2))]) (fun n_9 ρ μL200 d0 H locs ls hI_l G ih => ?_) _ _ _ _ _ _ _ ⟨dd_198, 0, rfl, (by omega), (by omega), (by omega), rfl, lv_sub hl [0, 1, 2, 3, 4] rfl⟩ G
        obtain ⟨d9, i9, FL201, hi_203, hi_204, hi_205, hn202, hl⟩ := hI_l
        have FL201 := Eq.symm FL201
        subst FL201
        refine lv_iload hx hb dX6_rest_41 (lv_at hl 0 rfl) ?_
        refine lv_sipush (v := iv 2200) hx hb dX6_rest_43 rfl ?_
        refine xb_icmp_ge (tgt := 88) hx hb (by unfold ir; omega) (by unfold ir; omega) dX6_rest_46 (by decide) (fun c_46 => ?_) (fun c_46 => ?_)
        · refine lv_iconst (v := iv 0) hx hb dX6_rest_88 rfl ?_
          refine lv_istore (lv' := [(9, .int (iv 0)), (8, .int (iv i9)), (6, .double (dv d9)), (4, .double (dv dd_132)), (0, .double (dv x1)), (2, .double (dv x2))]) hx hb dX6_rest_89 hl (by decide) rfl (fun ls hl => ?_)
          refine xl (fun n_9 μ' ls => ∃ (e9 : Int), ∃ (d8 : Int), ∃ (j9 : Int), (μ' = μ) ∧ (-2147483648 ≤ j9 ∧ j9 ≤ 2147483647) ∧ (0 ≤ j9) ∧ (j9 ≤ 2300) ∧ n_9 = Int.toNat (3000 - j9) ∧ lv_has ls 10 [(9, .int (iv j9)), (8, .int (iv i9)), (6, .double (dv d8)), (4, .double (dv e9)), (0, .double (dv x1)), (2, .double (dv x2))]) (fun n_9 ρ μL206 d0 H locs ls hI_l G ih => ?_) _ _ _ _ _ _ _ ⟨dd_132, d9, 0, rfl, (by omega), (by omega), (by omega), rfl, lv_sub hl [0, 1, 2, 3, 4, 5] rfl⟩ G
          obtain ⟨e9, d8, j9, FL207, hi_209, hi_210, hi_211, hn208, hl⟩ := hI_l
          have FL207 := Eq.symm FL207
          subst FL207
          refine lv_iload hx hb dX6_rest_91 (lv_at hl 0 rfl) ?_
          refine lv_iload hx hb dX6_rest_93 (lv_at hl 1 rfl) ?_
          refine xb_icmp_gt (tgt := 127) hx hb (by unfold ir; omega) (by unfold ir; omega) dX6_rest_95 (by decide) (fun c_95 => ?_) (fun c_95 => ?_)
          · refine lv_dload_n hx hb dX6_rest_127 rfl (lv_at hl 4 rfl) ?_
            refine lv_dconst0 hx hb dX6_rest_128 ?_
            refine xb_topd (fun dd_212 he_dd_212 => ?_)
            refine lv_dcmp hx hb dX6_rest_129 ?_
            refine xb_topi (fun y_213 hr_y_213 he_y_213 => ?_)
            have hr_y_213 : -2147483648 ≤ y_213 ∧ y_213 ≤ 2147483647 := hr_y_213
            refine xb_if_ge (tgt := 139) hx hb (by unfold ir; omega) dX6_rest_130 (by decide) (fun c_130 => ?_) (fun c_130 => ?_)
            · refine lv_dload hx hb dX6_rest_139 (lv_at hl 3 rfl) ?_
              exact xr_d G (x := (dv e9)) hret hlk dX6_rest_141 rfl
            · refine lv_dload hx hb dX6_rest_133 (lv_at hl 3 rfl) ?_
              refine lv_dneg hx hb dX6_rest_135 ?_
              refine xb_topd (fun dd_214 he_dd_214 => ?_)
              refine lv_goto (tgt := 141) hx hb dX6_rest_136 (by decide) ?_
              exact xr_d G (x := (dv dd_214)) hret hlk dX6_rest_141 rfl
          · refine lv_dload hx hb dX6_rest_98 (lv_at hl 3 rfl) ?_
            refine lv_dload hx hb dX6_rest_100 (lv_at hl 2 rfl) ?_
            refine lv_dcmp hx hb dX6_rest_102 ?_
            refine xb_topi (fun y_215 hr_y_215 he_y_215 => ?_)
            have hr_y_215 : -2147483648 ≤ y_215 ∧ y_215 ≤ 2147483647 := hr_y_215
            refine xb_if_lt (tgt := 113) hx hb (by unfold ir; omega) dX6_rest_103 (by decide) (fun c_103 => ?_) (fun c_103 => ?_)
            · refine lv_dload hx hb dX6_rest_113 (lv_at hl 2 rfl) ?_
              refine lv_ldc2d (s := s.setDrawn d0) hx hb G.1.2.2.2.1 (dr_words G.1.2.2.2.2 d0 _ (wm 6 111 rfl rfl)) dX6_rest_115 ?_
              refine xb_topd (fun dd_216 he_dd_216 => ?_)
              refine xd_dmul G dX6_rest_118 (fun dd_217 d0 G => ?_)
              refine lv_dstore (lv' := [(6, .double (dv dd_217)), (9, .int (iv j9)), (8, .int (iv i9)), (4, .double (dv e9)), (0, .double (dv x1)), (2, .double (dv x2))]) hx hb dX6_rest_119 hl (by decide) rfl (fun ls hl => ?_)
              refine lv_iinc (v := iv (j9 + 1)) (lv' := [(9, .int (iv (j9 + 1))), (6, .double (dv dd_217)), (8, .int (iv i9)), (4, .double (dv e9)), (0, .double (dv x1)), (2, .double (dv x2))]) hx hb dX6_rest_121 hl (k := 1) rfl (by rw [show Int32.ofInt 1 = iv 1 from rfl, iv_add]) (by decide) rfl (fun ls hl => ?_)
              refine lv_goto (tgt := 91) hx hb dX6_rest_124 (by decide) ?_
              exact ih _ _ _ _ _ _ _ (by omega) ⟨e9, dd_217, j9 + 1, rfl, (by omega), (by omega), (by omega), rfl, lv_sub hl [0, 2, 1, 3, 4, 5] rfl⟩ G
            · refine lv_dload hx hb dX6_rest_106 (lv_at hl 3 rfl) ?_
              refine lv_dload hx hb dX6_rest_108 (lv_at hl 2 rfl) ?_
              refine xd_dsub G dX6_rest_110 (fun dd_218 d0 G => ?_)
              refine lv_dstore (lv' := [(4, .double (dv dd_218)), (9, .int (iv j9)), (8, .int (iv i9)), (6, .double (dv d8)), (0, .double (dv x1)), (2, .double (dv x2))]) hx hb dX6_rest_111 hl (by decide) rfl (fun ls hl => ?_)
              refine lv_dload hx hb dX6_rest_113 (lv_at hl 3 rfl) ?_
              refine lv_ldc2d (s := s.setDrawn d0) hx hb G.1.2.2.2.1 (dr_words G.1.2.2.2.2 d0 _ (wm 6 111 rfl rfl)) dX6_rest_115 ?_
              refine xb_topd (fun dd_219 he_dd_219 => ?_)
              refine xd_dmul G dX6_rest_118 (fun dd_220 d0 G => ?_)
              refine lv_dstore (lv' := [(6, .double (dv dd_220)), (4, .double (dv dd_218)), (9, .int (iv j9)), (8, .int (iv i9)), (0, .double (dv x1)), (2, .double (dv x2))]) hx hb dX6_rest_119 hl (by decide) rfl (fun ls hl => ?_)
              refine lv_iinc (v := iv (j9 + 1)) (lv' := [(9, .int (iv (j9 + 1))), (6, .double (dv dd_220)), (4, .double (dv dd_218)), (8, .int (iv i9)), (0, .double (dv x1)), (2, .double (dv x2))]) hx hb dX6_rest_121 hl (k := 2) rfl (by rw [show Int32.ofInt 1 = iv 1 from rfl, iv_add]) (by decide) rfl (fun ls hl => ?_)
              refine lv_goto (tgt := 91) hx hb dX6_rest_124 (by decide) ?_
              exact ih _ _ _ _ _ _ _ (by omega) ⟨dd_218, dd_220, j9 + 1, rfl, (by omega), (by omega), (by omega), rfl, lv_sub hl [0, 3, 1, 2, 4, 5] rfl⟩ G
        · refine lv_dload hx hb dX6_rest_49 (lv_at hl 1 rfl) ?_
          refine xc_dS G (rest := [.double (dv d9)]) (As := []) (c_X6_greatest ω l μ  ) (wm 6 171 rfl rfl) (wm 6 172 rfl rfl) (wm 1 20 rfl rfl) (wm 6 173 rfl rfl) (by decide) hR (by decide) (n := 0) rfl rfl (Nat.le_of_ble_eq_true rfl) hl.1 dX6_rest_51 (fun r_222 μ221 ρ d0 H locs hp G => ?_)
          have hsm_223 := hp
          have hsm_223 := Eq.symm hsm_223
          subst hsm_223
          refine lv_ldc2d (s := s.setDrawn d0) hx hb G.1.2.2.2.1 (dr_words G.1.2.2.2.2 d0 _ (wm 6 110 rfl rfl)) dX6_rest_54 ?_
          refine xb_topd (fun dd_224 he_dd_224 => ?_)
          refine xd_ddiv G dX6_rest_57 (fun dd_225 d0 G => ?_)
          refine lv_dcmp hx hb dX6_rest_58 ?_
          refine xb_topi (fun y_226 hr_y_226 he_y_226 => ?_)
          have hr_y_226 : -2147483648 ≤ y_226 ∧ y_226 ≤ 2147483647 := hr_y_226
          refine xb_if_gt (tgt := 88) hx hb (by unfold ir; omega) dX6_rest_59 (by decide) (fun c_59 => ?_) (fun c_59 => ?_)
          · refine lv_iconst (v := iv 0) hx hb dX6_rest_88 rfl ?_
            refine lv_istore (lv' := [(9, .int (iv 0)), (8, .int (iv i9)), (6, .double (dv d9)), (4, .double (dv dd_132)), (0, .double (dv x1)), (2, .double (dv x2))]) hx hb dX6_rest_89 hl (by decide) rfl (fun ls hl => ?_)
            refine xl (fun n_9 μ' ls => ∃ (e9 : Int), ∃ (d8 : Int), ∃ (j9 : Int), (μ' = μ) ∧ (-2147483648 ≤ j9 ∧ j9 ≤ 2147483647) ∧ (0 ≤ j9) ∧ (j9 ≤ 2300) ∧ n_9 = Int.toNat (3000 - j9) ∧ lv_has ls 10 [(9, .int (iv j9)), (8, .int (iv i9)), (6, .double (dv d8)), (4, .double (dv e9)), (0, .double (dv x1)), (2, .double (dv x2))]) (fun n_9 ρ μL227 d0 H locs ls hI_l G ih => ?_) _ _ _ _ _ _ _ ⟨dd_132, d9, 0, rfl, (by omega), (by omega), (by omega), rfl, lv_sub hl [0, 1, 2, 3, 4, 5] rfl⟩ G
            obtain ⟨e9, d8, j9, FL228, hi_230, hi_231, hi_232, hn229, hl⟩ := hI_l
            have FL228 := Eq.symm FL228
            subst FL228
            refine lv_iload hx hb dX6_rest_91 (lv_at hl 0 rfl) ?_
            refine lv_iload hx hb dX6_rest_93 (lv_at hl 1 rfl) ?_
            refine xb_icmp_gt (tgt := 127) hx hb (by unfold ir; omega) (by unfold ir; omega) dX6_rest_95 (by decide) (fun c_95 => ?_) (fun c_95 => ?_)
            · refine lv_dload_n hx hb dX6_rest_127 rfl (lv_at hl 4 rfl) ?_
              refine lv_dconst0 hx hb dX6_rest_128 ?_
              refine xb_topd (fun dd_233 he_dd_233 => ?_)
              refine lv_dcmp hx hb dX6_rest_129 ?_
              refine xb_topi (fun y_234 hr_y_234 he_y_234 => ?_)
              have hr_y_234 : -2147483648 ≤ y_234 ∧ y_234 ≤ 2147483647 := hr_y_234
              refine xb_if_ge (tgt := 139) hx hb (by unfold ir; omega) dX6_rest_130 (by decide) (fun c_130 => ?_) (fun c_130 => ?_)
              · refine lv_dload hx hb dX6_rest_139 (lv_at hl 3 rfl) ?_
                exact xr_d G (x := (dv e9)) hret hlk dX6_rest_141 rfl
              · refine lv_dload hx hb dX6_rest_133 (lv_at hl 3 rfl) ?_
                refine lv_dneg hx hb dX6_rest_135 ?_
                refine xb_topd (fun dd_235 he_dd_235 => ?_)
                refine lv_goto (tgt := 141) hx hb dX6_rest_136 (by decide) ?_
                exact xr_d G (x := (dv dd_235)) hret hlk dX6_rest_141 rfl
            · refine lv_dload hx hb dX6_rest_98 (lv_at hl 3 rfl) ?_
              refine lv_dload hx hb dX6_rest_100 (lv_at hl 2 rfl) ?_
              refine lv_dcmp hx hb dX6_rest_102 ?_
              refine xb_topi (fun y_236 hr_y_236 he_y_236 => ?_)
              have hr_y_236 : -2147483648 ≤ y_236 ∧ y_236 ≤ 2147483647 := hr_y_236
              refine xb_if_lt (tgt := 113) hx hb (by unfold ir; omega) dX6_rest_103 (by decide) (fun c_103 => ?_) (fun c_103 => ?_)
              · refine lv_dload hx hb dX6_rest_113 (lv_at hl 2 rfl) ?_
                refine lv_ldc2d (s := s.setDrawn d0) hx hb G.1.2.2.2.1 (dr_words G.1.2.2.2.2 d0 _ (wm 6 111 rfl rfl)) dX6_rest_115 ?_
                refine xb_topd (fun dd_237 he_dd_237 => ?_)
                refine xd_dmul G dX6_rest_118 (fun dd_238 d0 G => ?_)
                refine lv_dstore (lv' := [(6, .double (dv dd_238)), (9, .int (iv j9)), (8, .int (iv i9)), (4, .double (dv e9)), (0, .double (dv x1)), (2, .double (dv x2))]) hx hb dX6_rest_119 hl (by decide) rfl (fun ls hl => ?_)
                refine lv_iinc (v := iv (j9 + 1)) (lv' := [(9, .int (iv (j9 + 1))), (6, .double (dv dd_238)), (8, .int (iv i9)), (4, .double (dv e9)), (0, .double (dv x1)), (2, .double (dv x2))]) hx hb dX6_rest_121 hl (k := 1) rfl (by rw [show Int32.ofInt 1 = iv 1 from rfl, iv_add]) (by decide) rfl (fun ls hl => ?_)
                refine lv_goto (tgt := 91) hx hb dX6_rest_124 (by decide) ?_
                exact ih _ _ _ _ _ _ _ (by omega) ⟨e9, dd_238, j9 + 1, rfl, (by omega), (by omega), (by omega), rfl, lv_sub hl [0, 2, 1, 3, 4, 5] rfl⟩ G
              · refine lv_dload hx hb dX6_rest_106 (lv_at hl 3 rfl) ?_
                refine lv_dload hx hb dX6_rest_108 (lv_at hl 2 rfl) ?_
                refine xd_dsub G dX6_rest_110 (fun dd_239 d0 G => ?_)
                refine lv_dstore (lv' := [(4, .double (dv dd_239)), (9, .int (iv j9)), (8, .int (iv i9)), (6, .double (dv d8)), (0, .double (dv x1)), (2, .double (dv x2))]) hx hb dX6_rest_111 hl (by decide) rfl (fun ls hl => ?_)
                refine lv_dload hx hb dX6_rest_113 (lv_at hl 3 rfl) ?_
                refine lv_ldc2d (s := s.setDrawn d0) hx hb G.1.2.2.2.1 (dr_words G.1.2.2.2.2 d0 _ (wm 6 111 rfl rfl)) dX6_rest_115 ?_
                refine xb_topd (fun dd_240 he_dd_240 => ?_)
                refine xd_dmul G dX6_rest_118 (fun dd_241 d0 G => ?_)
                refine lv_dstore (lv' := [(6, .double (dv dd_241)), (4, .double (dv dd_239)), (9, .int (iv j9)), (8, .int (iv i9)), (0, .double (dv x1)), (2, .double (dv x2))]) hx hb dX6_rest_119 hl (by decide) rfl (fun ls hl => ?_)
                refine lv_iinc (v := iv (j9 + 1)) (lv' := [(9, .int (iv (j9 + 1))), (6, .double (dv dd_241)), (4, .double (dv dd_239)), (8, .int (iv i9)), (0, .double (dv x1)), (2, .double (dv x2))]) hx hb dX6_rest_121 hl (k := 2) rfl (by rw [show Int32.ofInt 1 = iv 1 from rfl, iv_add]) (by decide) rfl (fun ls hl => ?_)
                refine lv_goto (tgt := 91) hx hb dX6_rest_124 (by decide) ?_
                exact ih _ _ _ _ _ _ _ (by omega) ⟨dd_239, dd_241, j9 + 1, rfl, (by omega), (by omega), (by omega), rfl, lv_sub hl [0, 3, 1, 2, 4, 5] rfl⟩ G
          · refine lv_dload hx hb dX6_rest_62 (lv_at hl 1 rfl) ?_
            refine lv_ldc2d (s := s.setDrawn d0) hx hb G.1.2.2.2.1 (dr_words G.1.2.2.2.2 d0 _ (wm 6 110 rfl rfl)) dX6_rest_64 ?_
            refine xb_topd (fun dd_242 he_dd_242 => ?_)
            refine xd_dmul G dX6_rest_67 (fun dd_243 d0 G => ?_)
            refine lv_dload hx hb dX6_rest_68 (lv_at hl 2 rfl) ?_
            refine lv_dcmp hx hb dX6_rest_70 ?_
            refine xb_topi (fun y_244 hr_y_244 he_y_244 => ?_)
            have hr_y_244 : -2147483648 ≤ y_244 ∧ y_244 ≤ 2147483647 := hr_y_244
            refine xb_if_gt (tgt := 88) hx hb (by unfold ir; omega) dX6_rest_71 (by decide) (fun c_71 => ?_) (fun c_71 => ?_)
            · refine lv_iconst (v := iv 0) hx hb dX6_rest_88 rfl ?_
              refine lv_istore (lv' := [(9, .int (iv 0)), (8, .int (iv i9)), (6, .double (dv d9)), (4, .double (dv dd_132)), (0, .double (dv x1)), (2, .double (dv x2))]) hx hb dX6_rest_89 hl (by decide) rfl (fun ls hl => ?_)
              refine xl (fun n_9 μ' ls => ∃ (e9 : Int), ∃ (d8 : Int), ∃ (j9 : Int), (μ' = μ) ∧ (-2147483648 ≤ j9 ∧ j9 ≤ 2147483647) ∧ (0 ≤ j9) ∧ (j9 ≤ 2300) ∧ n_9 = Int.toNat (3000 - j9) ∧ lv_has ls 10 [(9, .int (iv j9)), (8, .int (iv i9)), (6, .double (dv d8)), (4, .double (dv e9)), (0, .double (dv x1)), (2, .double (dv x2))]) (fun n_9 ρ μL245 d0 H locs ls hI_l G ih => ?_) _ _ _ _ _ _ _ ⟨dd_132, d9, 0, rfl, (by omega), (by omega), (by omega), rfl, lv_sub hl [0, 1, 2, 3, 4, 5] rfl⟩ G
              obtain ⟨e9, d8, j9, FL246, hi_248, hi_249, hi_250, hn247, hl⟩ := hI_l
              have FL246 := Eq.symm FL246
              subst FL246
              refine lv_iload hx hb dX6_rest_91 (lv_at hl 0 rfl) ?_
              refine lv_iload hx hb dX6_rest_93 (lv_at hl 1 rfl) ?_
              refine xb_icmp_gt (tgt := 127) hx hb (by unfold ir; omega) (by unfold ir; omega) dX6_rest_95 (by decide) (fun c_95 => ?_) (fun c_95 => ?_)
              · refine lv_dload_n hx hb dX6_rest_127 rfl (lv_at hl 4 rfl) ?_
                refine lv_dconst0 hx hb dX6_rest_128 ?_
                refine xb_topd (fun dd_251 he_dd_251 => ?_)
                refine lv_dcmp hx hb dX6_rest_129 ?_
                refine xb_topi (fun y_252 hr_y_252 he_y_252 => ?_)
                have hr_y_252 : -2147483648 ≤ y_252 ∧ y_252 ≤ 2147483647 := hr_y_252
                refine xb_if_ge (tgt := 139) hx hb (by unfold ir; omega) dX6_rest_130 (by decide) (fun c_130 => ?_) (fun c_130 => ?_)
                · refine lv_dload hx hb dX6_rest_139 (lv_at hl 3 rfl) ?_
                  exact xr_d G (x := (dv e9)) hret hlk dX6_rest_141 rfl
                · refine lv_dload hx hb dX6_rest_133 (lv_at hl 3 rfl) ?_
                  refine lv_dneg hx hb dX6_rest_135 ?_
                  refine xb_topd (fun dd_253 he_dd_253 => ?_)
                  refine lv_goto (tgt := 141) hx hb dX6_rest_136 (by decide) ?_
                  exact xr_d G (x := (dv dd_253)) hret hlk dX6_rest_141 rfl
              · refine lv_dload hx hb dX6_rest_98 (lv_at hl 3 rfl) ?_
                refine lv_dload hx hb dX6_rest_100 (lv_at hl 2 rfl) ?_
                refine lv_dcmp hx hb dX6_rest_102 ?_
                refine xb_topi (fun y_254 hr_y_254 he_y_254 => ?_)
                have hr_y_254 : -2147483648 ≤ y_254 ∧ y_254 ≤ 2147483647 := hr_y_254
                refine xb_if_lt (tgt := 113) hx hb (by unfold ir; omega) dX6_rest_103 (by decide) (fun c_103 => ?_) (fun c_103 => ?_)
                · refine lv_dload hx hb dX6_rest_113 (lv_at hl 2 rfl) ?_
                  refine lv_ldc2d (s := s.setDrawn d0) hx hb G.1.2.2.2.1 (dr_words G.1.2.2.2.2 d0 _ (wm 6 111 rfl rfl)) dX6_rest_115 ?_
                  refine xb_topd (fun dd_255 he_dd_255 => ?_)
                  refine xd_dmul G dX6_rest_118 (fun dd_256 d0 G => ?_)
                  refine lv_dstore (lv' := [(6, .double (dv dd_256)), (9, .int (iv j9)), (8, .int (iv i9)), (4, .double (dv e9)), (0, .double (dv x1)), (2, .double (dv x2))]) hx hb dX6_rest_119 hl (by decide) rfl (fun ls hl => ?_)
                  refine lv_iinc (v := iv (j9 + 1)) (lv' := [(9, .int (iv (j9 + 1))), (6, .double (dv dd_256)), (8, .int (iv i9)), (4, .double (dv e9)), (0, .double (dv x1)), (2, .double (dv x2))]) hx hb dX6_rest_121 hl (k := 1) rfl (by rw [show Int32.ofInt 1 = iv 1 from rfl, iv_add]) (by decide) rfl (fun ls hl => ?_)
                  refine lv_goto (tgt := 91) hx hb dX6_rest_124 (by decide) ?_
                  exact ih _ _ _ _ _ _ _ (by omega) ⟨e9, dd_256, j9 + 1, rfl, (by omega), (by omega), (by omega), rfl, lv_sub hl [0, 2, 1, 3, 4, 5] rfl⟩ G
                · refine lv_dload hx hb dX6_rest_106 (lv_at hl 3 rfl) ?_
                  refine lv_dload hx hb dX6_rest_108 (lv_at hl 2 rfl) ?_
                  refine xd_dsub G dX6_rest_110 (fun dd_257 d0 G => ?_)
                  refine lv_dstore (lv' := [(4, .double (dv dd_257)), (9, .int (iv j9)), (8, .int (iv i9)), (6, .double (dv d8)), (0, .double (dv x1)), (2, .double (dv x2))]) hx hb dX6_rest_111 hl (by decide) rfl (fun ls hl => ?_)
                  refine lv_dload hx hb dX6_rest_113 (lv_at hl 3 rfl) ?_
                  refine lv_ldc2d (s := s.setDrawn d0) hx hb G.1.2.2.2.1 (dr_words G.1.2.2.2.2 d0 _ (wm 6 111 rfl rfl)) dX6_rest_115 ?_
                  refine xb_topd (fun dd_258 he_dd_258 => ?_)
                  refine xd_dmul G dX6_rest_118 (fun dd_259 d0 G => ?_)
                  refine lv_dstore (lv' := [(6, .double (dv dd_259)), (4, .double (dv dd_257)), (9, .int (iv j9)), (8, .int (iv i9)), (0, .double (dv x1)), (2, .double (dv x2))]) hx hb dX6_rest_119 hl (by decide) rfl (fun ls hl => ?_)
                  refine lv_iinc (v := iv (j9 + 1)) (lv' := [(9, .int (iv (j9 + 1))), (6, .double (dv dd_259)), (4, .double (dv dd_257)), (8, .int (iv i9)), (0, .double (dv x1)), (2, .double (dv x2))]) hx hb dX6_rest_121 hl (k := 2) rfl (by rw [show Int32.ofInt 1 = iv 1 from rfl, iv_add]) (by decide) rfl (fun ls hl => ?_)
                  refine lv_goto (tgt := 91) hx hb dX6_rest_124 (by decide) ?_
                  exact ih _ _ _ _ _ _ _ (by omega) ⟨dd_257, dd_259, j9 + 1, rfl, (by omega), (by omega), (by omega), rfl, lv_sub hl [0, 3, 1, 2, 4, 5] rfl⟩ G
            · refine lv_dload hx hb dX6_rest_74 (lv_at hl 1 rfl) ?_
              refine lv_ldc2d (s := s.setDrawn d0) hx hb G.1.2.2.2.1 (dr_words G.1.2.2.2.2 d0 _ (wm 6 110 rfl rfl)) dX6_rest_76 ?_
              refine xb_topd (fun dd_260 he_dd_260 => ?_)
              refine xd_dmul G dX6_rest_79 (fun dd_261 d0 G => ?_)
              refine lv_dstore (lv' := [(6, .double (dv dd_261)), (8, .int (iv i9)), (4, .double (dv dd_132)), (0, .double (dv x1)), (2, .double (dv x2))]) hx hb dX6_rest_80 hl (by decide) rfl (fun ls hl => ?_)
              refine lv_iinc (v := iv (i9 + 1)) (lv' := [(8, .int (iv (i9 + 1))), (6, .double (dv dd_261)), (4, .double (dv dd_132)), (0, .double (dv x1)), (2, .double (dv x2))]) hx hb dX6_rest_82 hl (k := 1) rfl (by rw [show Int32.ofInt 1 = iv 1 from rfl, iv_add]) (by decide) rfl (fun ls hl => ?_)
              refine lv_goto (tgt := 41) hx hb dX6_rest_85 (by decide) ?_
              exact ih _ _ _ _ _ _ _ (by omega) ⟨dd_261, i9 + 1, rfl, (by omega), (by omega), (by omega), rfl, lv_sub hl [0, 1, 2, 3, 4] rfl⟩ G
      · refine lv_dload_n hx hb dX6_rest_36 rfl (lv_at hl 2 rfl) ?_
        exact xr_d G (x := (dv x1)) hret hlk dX6_rest_37 rfl

set_option maxHeartbeats 4000000 in
set_option maxRecDepth 100000 in
theorem c_X6_ofReals (ω : Om) (l : Launch) (μ : M3) (x1 : Int) (x2 : Int) (x3 : Int) (hx1 : ir x1) : CtD ω l yX6_ofReals cX6_ofReals 5 2 48 [.int (iv x1), .double (dv x2), .double (dv x3)] μ (fun (r : Int) (μ' : M3) => (μ' = μ)) := by
  refine CtD.go (by decide) (Nat.le_of_ble_eq_true rfl) (fun ρ p e s m below meth c R ls G hR hret hlk hl => ?_)
  have hx := G.1.1
  have hb := G.1.2.1
  have hl : lv_has ls 5 [(0, .int (iv x1)), (1, .double (dv x2)), (3, .double (dv x3))] := hl
  generalize s.drawn = d0 at G ⊢
  have hr_x1 : -2147483648 ≤ x1 ∧ x1 ≤ 2147483647 := hx1
  refine lv_iload_n hx hb dX6_ofReals_0 rfl (lv_at hl 0 rfl) ?_
  by_cases c_1_out : x1 < 37 ∨ 47 < x1
  · refine xb_tout (tgt := 102) hx hb (by unfold ir; omega) dX6_ofReals_1 c_1_out (by decide) ?_
    refine lv_dconst0 hx hb dX6_ofReals_102 ?_
    refine xb_topd (fun dd_1 he_dd_1 => ?_)
    exact xr_d G (x := (dv dd_1)) hret hlk dX6_ofReals_103 rfl
  by_cases c_1_37 : x1 = 37
  · refine xb_tin (tgt := 86) hx hb (by unfold ir; omega) dX6_ofReals_1 (by omega) (off := 85) (by rw [c_1_37]; rfl) (by decide) ?_
    refine lv_dload_n hx hb dX6_ofReals_86 rfl (lv_at hl 2 rfl) ?_
    refine lv_dconst0 hx hb dX6_ofReals_87 ?_
    refine xb_topd (fun dd_2 he_dd_2 => ?_)
    refine lv_dcmp hx hb dX6_ofReals_88 ?_
    refine xb_topi (fun y_3 hr_y_3 he_y_3 => ?_)
    have hr_y_3 : -2147483648 ≤ y_3 ∧ y_3 ≤ 2147483647 := hr_y_3
    refine xb_if_ne (tgt := 96) hx hb (by unfold ir; omega) dX6_ofReals_89 (by decide) (fun c_89 => ?_) (fun c_89 => ?_)
    · refine lv_dload_n hx hb dX6_ofReals_96 rfl (lv_at hl 1 rfl) ?_
      refine lv_dload_n hx hb dX6_ofReals_97 rfl (lv_at hl 2 rfl) ?_
      refine xc_dS G (rest := []) (As := [.double (dv x2), .double (dv x3)]) (c_X6_rest ω l μ x2 x3 ) (wm 6 168 rfl rfl) (wm 6 169 rfl rfl) (wm 1 20 rfl rfl) (wm 6 170 rfl rfl) (by decide) hR (by decide) (n := 2) rfl rfl (Nat.le_of_ble_eq_true rfl) hl.1 dX6_ofReals_98 (fun r_5 μ4 ρ d0 H locs hp G => ?_)
      have hsm_6 := hp
      have hsm_6 := Eq.symm hsm_6
      subst hsm_6
      exact xr_d G (x := (dv r_5)) hret hlk dX6_ofReals_101 rfl
    · refine lv_dconst0 hx hb dX6_ofReals_92 ?_
      refine xb_topd (fun dd_7 he_dd_7 => ?_)
      refine lv_goto (tgt := 101) hx hb dX6_ofReals_93 (by decide) ?_
      exact xr_d G (x := (dv dd_7)) hret hlk dX6_ofReals_101 rfl
  by_cases c_1_38 : x1 = 38 ∨ x1 = 39 ∨ x1 = 40 ∨ x1 = 41 ∨ x1 = 44 ∨ x1 = 46
  · refine xb_tin (tgt := 102) hx hb (by unfold ir; omega) dX6_ofReals_1 (by omega) (off := 101) (by rcases c_1_38 with h9 | h9 | h9 | h9 | h9 | h9 <;> (rw [h9]; rfl)) (by decide) ?_
    refine lv_dconst0 hx hb dX6_ofReals_102 ?_
    refine xb_topd (fun dd_8 he_dd_8 => ?_)
    exact xr_d G (x := (dv dd_8)) hret hlk dX6_ofReals_103 rfl
  by_cases c_1_42 : x1 = 42
  · refine xb_tin (tgt := 68) hx hb (by unfold ir; omega) dX6_ofReals_1 (by omega) (off := 67) (by rw [c_1_42]; rfl) (by decide) ?_
    refine lv_dload_n hx hb dX6_ofReals_68 rfl (lv_at hl 1 rfl) ?_
    refine lv_dload_n hx hb dX6_ofReals_69 rfl (lv_at hl 2 rfl) ?_
    refine xd_dmul G dX6_ofReals_70 (fun dd_9 d0 G => ?_)
    exact xr_d G (x := (dv dd_9)) hret hlk dX6_ofReals_71 rfl
  by_cases c_1_43 : x1 = 43
  · refine xb_tin (tgt := 60) hx hb (by unfold ir; omega) dX6_ofReals_1 (by omega) (off := 59) (by rw [c_1_43]; rfl) (by decide) ?_
    refine lv_dload_n hx hb dX6_ofReals_60 rfl (lv_at hl 1 rfl) ?_
    refine lv_dload_n hx hb dX6_ofReals_61 rfl (lv_at hl 2 rfl) ?_
    refine xd_dadd G dX6_ofReals_62 (fun dd_10 d0 G => ?_)
    exact xr_d G (x := (dv dd_10)) hret hlk dX6_ofReals_63 rfl
  by_cases c_1_45 : x1 = 45
  · refine xb_tin (tgt := 64) hx hb (by unfold ir; omega) dX6_ofReals_1 (by omega) (off := 63) (by rw [c_1_45]; rfl) (by decide) ?_
    refine lv_dload_n hx hb dX6_ofReals_64 rfl (lv_at hl 1 rfl) ?_
    refine lv_dload_n hx hb dX6_ofReals_65 rfl (lv_at hl 2 rfl) ?_
    refine xd_dsub G dX6_ofReals_66 (fun dd_11 d0 G => ?_)
    exact xr_d G (x := (dv dd_11)) hret hlk dX6_ofReals_67 rfl
  have c_1_47 : x1 = 47 := by omega
  refine xb_tin (tgt := 72) hx hb (by unfold ir; omega) dX6_ofReals_1 (by omega) (off := 71) (by rw [c_1_47]; rfl) (by decide) ?_
  refine lv_dload_n hx hb dX6_ofReals_72 rfl (lv_at hl 2 rfl) ?_
  refine lv_dconst0 hx hb dX6_ofReals_73 ?_
  refine xb_topd (fun dd_12 he_dd_12 => ?_)
  refine lv_dcmp hx hb dX6_ofReals_74 ?_
  refine xb_topi (fun y_13 hr_y_13 he_y_13 => ?_)
  have hr_y_13 : -2147483648 ≤ y_13 ∧ y_13 ≤ 2147483647 := hr_y_13
  refine xb_if_ne (tgt := 82) hx hb (by unfold ir; omega) dX6_ofReals_75 (by decide) (fun c_75 => ?_) (fun c_75 => ?_)
  · refine lv_dload_n hx hb dX6_ofReals_82 rfl (lv_at hl 1 rfl) ?_
    refine lv_dload_n hx hb dX6_ofReals_83 rfl (lv_at hl 2 rfl) ?_
    refine xd_ddiv G dX6_ofReals_84 (fun dd_14 d0 G => ?_)
    exact xr_d G (x := (dv dd_14)) hret hlk dX6_ofReals_85 rfl
  · refine lv_dconst0 hx hb dX6_ofReals_78 ?_
    refine xb_topd (fun dd_15 he_dd_15 => ?_)
    refine lv_goto (tgt := 85) hx hb dX6_ofReals_79 (by decide) ?_
    exact xr_d G (x := (dv dd_15)) hret hlk dX6_ofReals_85 rfl

set_option maxHeartbeats 4000000 in
set_option maxRecDepth 100000 in
theorem c_X6_bits (ω : Om) (l : Launch) (μ : M3) (x1 : Int) : CtL ω l yX6_bits cX6_bits 9 0 0 [.double (dv x1)] μ (fun (r : Int) (μ' : M3) => (μ' = μ)) := by
  refine CtL.go (by decide) (Nat.le_of_ble_eq_true rfl) (fun ρ p e s m below meth c R ls G hR hret hlk hl => ?_)
  have hx := G.1.1
  have hb := G.1.2.1
  have hl : lv_has ls 9 [(0, .double (dv x1))] := hl
  generalize s.drawn = d0 at G ⊢
  refine lv_dload_n hx hb dX6_bits_0 rfl (lv_at hl 0 rfl) ?_
  refine lv_dconst0 hx hb dX6_bits_1 ?_
  refine xb_topd (fun dd_1 he_dd_1 => ?_)
  refine lv_dcmp hx hb dX6_bits_2 ?_
  refine xb_topi (fun y_2 hr_y_2 he_y_2 => ?_)
  have hr_y_2 : -2147483648 ≤ y_2 ∧ y_2 ≤ 2147483647 := hr_y_2
  refine xb_if_ne (tgt := 22) hx hb (by unfold ir; omega) dX6_bits_3 (by decide) (fun c_3 => ?_) (fun c_3 => ?_)
  · refine lv_dload_n hx hb dX6_bits_22 rfl (lv_at hl 0 rfl) ?_
    refine lv_dconst0 hx hb dX6_bits_23 ?_
    refine xb_topd (fun dd_3 he_dd_3 => ?_)
    refine lv_dcmp hx hb dX6_bits_24 ?_
    refine xb_topi (fun y_4 hr_y_4 he_y_4 => ?_)
    have hr_y_4 : -2147483648 ≤ y_4 ∧ y_4 ≤ 2147483647 := hr_y_4
    refine xb_if_ge (tgt := 34) hx hb (by unfold ir; omega) dX6_bits_25 (by decide) (fun c_25 => ?_) (fun c_25 => ?_)
    · refine lv_lconst (v := jv 0) hx hb dX6_bits_34 rfl ?_
      refine lv_lstore_n (lv' := [(2, .long (jv 0)), (0, .double (dv x1))]) hx hb dX6_bits_35 rfl hl (by decide) rfl (fun ls hl => ?_)
      refine lv_dload_n hx hb dX6_bits_36 rfl (lv_at hl 1 rfl) ?_
      refine lv_dconst0 hx hb dX6_bits_37 ?_
      refine xb_topd (fun dd_5 he_dd_5 => ?_)
      refine lv_dcmp hx hb dX6_bits_38 ?_
      refine xb_topi (fun y_6 hr_y_6 he_y_6 => ?_)
      have hr_y_6 : -2147483648 ≤ y_6 ∧ y_6 ≤ 2147483647 := hr_y_6
      refine xb_if_ge (tgt := 47) hx hb (by unfold ir; omega) dX6_bits_39 (by decide) (fun c_39 => ?_) (fun c_39 => ?_)
      · refine lv_dload_n hx hb dX6_bits_47 rfl (lv_at hl 1 rfl) ?_
        refine lv_dstore (lv' := [(4, .double (dv x1)), (2, .long (jv 0)), (0, .double (dv x1))]) hx hb dX6_bits_48 hl (by decide) rfl (fun ls hl => ?_)
        refine lv_iconst (v := iv 0) hx hb dX6_bits_50 rfl ?_
        refine lv_istore (lv' := [(6, .int (iv 0)), (4, .double (dv x1)), (2, .long (jv 0)), (0, .double (dv x1))]) hx hb dX6_bits_51 hl (by decide) rfl (fun ls hl => ?_)
        refine lv_iconst (v := iv 0) hx hb dX6_bits_53 rfl ?_
        refine lv_istore (lv' := [(7, .int (iv 0)), (6, .int (iv 0)), (4, .double (dv x1)), (2, .long (jv 0)), (0, .double (dv x1))]) hx hb dX6_bits_54 hl (by decide) rfl (fun ls hl => ?_)
        refine xl (fun n_9 μ' ls => ∃ (d9 : Int), ∃ (p9 : Int), ∃ (i9 : Int), (μ' = μ) ∧ (-2147483648 ≤ p9 ∧ p9 ≤ 2147483647) ∧ (-2147483648 ≤ i9 ∧ i9 ≤ 2147483647) ∧ (0 ≤ i9) ∧ (i9 ≤ 1100) ∧ (0 ≤ p9) ∧ (p9 ≤ i9) ∧ n_9 = Int.toNat (3000 - i9) ∧ lv_has ls 9 [(7, .int (iv i9)), (6, .int (iv p9)), (4, .double (dv d9)), (2, .long (jv 0)), (0, .double (dv x1))]) (fun n_9 ρ μL7 d0 H locs ls hI_l G ih => ?_) _ _ _ _ _ _ _ ⟨x1, 0, 0, rfl, (by omega), (by omega), (by omega), (by omega), (by omega), (by omega), rfl, lv_sub hl [0, 1, 2, 3, 4] rfl⟩ G
        obtain ⟨d9, p9, i9, FL8, hi_10, hi_11, hi_12, hi_13, hi_14, hi_15, hn9, hl⟩ := hI_l
        have FL8 := Eq.symm FL8
        subst FL8
        refine lv_iload hx hb dX6_bits_56 (lv_at hl 0 rfl) ?_
        refine lv_sipush (v := iv 1100) hx hb dX6_bits_58 rfl ?_
        refine xb_icmp_ge (tgt := 90) hx hb (by unfold ir; omega) (by unfold ir; omega) dX6_bits_61 (by decide) (fun c_61 => ?_) (fun c_61 => ?_)
        · refine lv_iconst (v := iv 0) hx hb dX6_bits_90 rfl ?_
          refine lv_istore (lv' := [(7, .int (iv 0)), (6, .int (iv p9)), (4, .double (dv d9)), (2, .long (jv 0)), (0, .double (dv x1))]) hx hb dX6_bits_91 hl (by decide) rfl (fun ls hl => ?_)
          refine xl (fun n_9 μ' ls => ∃ (d8 : Int), ∃ (p8 : Int), ∃ (j9 : Int), (μ' = μ) ∧ (-2147483648 ≤ p8 ∧ p8 ≤ 2147483647) ∧ (-2147483648 ≤ j9 ∧ j9 ≤ 2147483647) ∧ (0 ≤ j9) ∧ (j9 ≤ 1100) ∧ (p8 ≤ 1100) ∧ (0 ≤ p8 + j9) ∧ n_9 = Int.toNat (3000 - j9) ∧ lv_has ls 9 [(7, .int (iv j9)), (6, .int (iv p8)), (4, .double (dv d8)), (2, .long (jv 0)), (0, .double (dv x1))]) (fun n_9 ρ μL16 d0 H locs ls hI_l G ih => ?_) _ _ _ _ _ _ _ ⟨d9, p9, 0, rfl, (by omega), (by omega), (by omega), (by omega), (by omega), (by omega), rfl, lv_sub hl [0, 1, 2, 3, 4] rfl⟩ G
          obtain ⟨d8, p8, j9, FL17, hi_19, hi_20, hi_21, hi_22, hi_23, hi_24, hn18, hl⟩ := hI_l
          have FL17 := Eq.symm FL17
          subst FL17
          refine lv_iload hx hb dX6_bits_93 (lv_at hl 0 rfl) ?_
          refine lv_sipush (v := iv 1100) hx hb dX6_bits_95 rfl ?_
          refine xb_icmp_ge (tgt := 125) hx hb (by unfold ir; omega) (by unfold ir; omega) dX6_bits_98 (by decide) (fun c_98 => ?_) (fun c_98 => ?_)
          · refine lv_dload hx hb dX6_bits_125 (lv_at hl 2 rfl) ?_
            refine lv_ldc2d (s := s.setDrawn d0) hx hb G.1.2.2.2.1 (dr_words G.1.2.2.2.2 d0 _ (wm 6 112 rfl rfl)) dX6_bits_127 ?_
            refine xb_topd (fun dd_25 he_dd_25 => ?_)
            refine xd_dmul G dX6_bits_130 (fun dd_26 d0 G => ?_)
            refine lv_d2l hx hb dX6_bits_131 ?_
            refine xb_topl (fun z_27 hr_z_27 he_z_27 => ?_)
            refine lv_lstore (lv' := [(7, .long (jv z_27)), (6, .int (iv p8)), (4, .double (dv d8)), (2, .long (jv 0)), (0, .double (dv x1))]) hx hb dX6_bits_132 hl (by decide) rfl (fun ls hl => ?_)
            refine lv_iload hx hb dX6_bits_134 (lv_at hl 1 rfl) ?_
            refine lv_sipush (v := iv (-1022)) hx hb dX6_bits_136 rfl ?_
            refine xb_icmp_ge (tgt := 154) hx hb (by unfold ir; omega) (by unfold ir; omega) dX6_bits_139 (by decide) (fun c_139 => ?_) (fun c_139 => ?_)
            · refine lv_lload_n hx hb dX6_bits_154 rfl (lv_at hl 3 rfl) ?_
              refine lv_iload hx hb dX6_bits_155 (lv_at hl 1 rfl) ?_
              refine lv_sipush (v := iv 1023) hx hb dX6_bits_157 rfl ?_
              refine xb_iadd hx hb dX6_bits_160 ?_
              refine xb_i2l hx hb (by unfold ir; omega) dX6_bits_161 ?_
              refine lv_bipush (v := iv 52) hx hb dX6_bits_162 rfl ?_
              refine lv_lshl hx hb dX6_bits_164 rfl ?_
              refine xb_topl (fun z_28 hr_z_28 he_z_28 => ?_)
              refine lv_lor hx hb dX6_bits_165 ?_
              refine xb_topl (fun z_29 hr_z_29 he_z_29 => ?_)
              refine lv_lload hx hb dX6_bits_166 (lv_at hl 0 rfl) ?_
              refine lv_ldc2 (s := s.setDrawn d0) hx hb G.1.2.2.2.1 (dr_words G.1.2.2.2.2 d0 _ (wm 6 113 rfl rfl)) dX6_bits_168 ?_
              refine xb_litl (x := 4503599627370496) (by decide) ?_
              refine xb_lsub hx hb dX6_bits_171 ?_
              refine xb_topl (fun z_30 hr_z_30 he_z_30 => ?_)
              refine lv_lor hx hb dX6_bits_172 ?_
              refine xb_topl (fun z_31 hr_z_31 he_z_31 => ?_)
              exact xr_l G (x := z_31) hret hlk hr_z_31 dX6_bits_173 rfl
            · refine lv_lload_n hx hb dX6_bits_142 rfl (lv_at hl 3 rfl) ?_
              refine lv_lload hx hb dX6_bits_143 (lv_at hl 0 rfl) ?_
              refine lv_sipush (v := iv (-1022)) hx hb dX6_bits_145 rfl ?_
              refine lv_iload hx hb dX6_bits_148 (lv_at hl 1 rfl) ?_
              refine xb_isub hx hb dX6_bits_150 ?_
              refine lv_lshr hx hb dX6_bits_151 rfl ?_
              refine xb_topl (fun z_32 hr_z_32 he_z_32 => ?_)
              refine lv_lor hx hb dX6_bits_152 ?_
              refine xb_topl (fun z_33 hr_z_33 he_z_33 => ?_)
              exact xr_l G (x := z_33) hret hlk hr_z_33 dX6_bits_153 rfl
          · refine lv_dload hx hb dX6_bits_101 (lv_at hl 2 rfl) ?_
            refine lv_dconst1 hx hb dX6_bits_103 ?_
            refine xb_topd (fun dd_34 he_dd_34 => ?_)
            refine lv_dcmp hx hb dX6_bits_104 ?_
            refine xb_topi (fun y_35 hr_y_35 he_y_35 => ?_)
            have hr_y_35 : -2147483648 ≤ y_35 ∧ y_35 ≤ 2147483647 := hr_y_35
            refine xb_if_ge (tgt := 125) hx hb (by unfold ir; omega) dX6_bits_105 (by decide) (fun c_105 => ?_) (fun c_105 => ?_)
            · refine lv_dload hx hb dX6_bits_125 (lv_at hl 2 rfl) ?_
              refine lv_ldc2d (s := s.setDrawn d0) hx hb G.1.2.2.2.1 (dr_words G.1.2.2.2.2 d0 _ (wm 6 112 rfl rfl)) dX6_bits_127 ?_
              refine xb_topd (fun dd_36 he_dd_36 => ?_)
              refine xd_dmul G dX6_bits_130 (fun dd_37 d0 G => ?_)
              refine lv_d2l hx hb dX6_bits_131 ?_
              refine xb_topl (fun z_38 hr_z_38 he_z_38 => ?_)
              refine lv_lstore (lv' := [(7, .long (jv z_38)), (6, .int (iv p8)), (4, .double (dv d8)), (2, .long (jv 0)), (0, .double (dv x1))]) hx hb dX6_bits_132 hl (by decide) rfl (fun ls hl => ?_)
              refine lv_iload hx hb dX6_bits_134 (lv_at hl 1 rfl) ?_
              refine lv_sipush (v := iv (-1022)) hx hb dX6_bits_136 rfl ?_
              refine xb_icmp_ge (tgt := 154) hx hb (by unfold ir; omega) (by unfold ir; omega) dX6_bits_139 (by decide) (fun c_139 => ?_) (fun c_139 => ?_)
              · refine lv_lload_n hx hb dX6_bits_154 rfl (lv_at hl 3 rfl) ?_
                refine lv_iload hx hb dX6_bits_155 (lv_at hl 1 rfl) ?_
                refine lv_sipush (v := iv 1023) hx hb dX6_bits_157 rfl ?_
                refine xb_iadd hx hb dX6_bits_160 ?_
                refine xb_i2l hx hb (by unfold ir; omega) dX6_bits_161 ?_
                refine lv_bipush (v := iv 52) hx hb dX6_bits_162 rfl ?_
                refine lv_lshl hx hb dX6_bits_164 rfl ?_
                refine xb_topl (fun z_39 hr_z_39 he_z_39 => ?_)
                refine lv_lor hx hb dX6_bits_165 ?_
                refine xb_topl (fun z_40 hr_z_40 he_z_40 => ?_)
                refine lv_lload hx hb dX6_bits_166 (lv_at hl 0 rfl) ?_
                refine lv_ldc2 (s := s.setDrawn d0) hx hb G.1.2.2.2.1 (dr_words G.1.2.2.2.2 d0 _ (wm 6 113 rfl rfl)) dX6_bits_168 ?_
                refine xb_litl (x := 4503599627370496) (by decide) ?_
                refine xb_lsub hx hb dX6_bits_171 ?_
                refine xb_topl (fun z_41 hr_z_41 he_z_41 => ?_)
                refine lv_lor hx hb dX6_bits_172 ?_
                refine xb_topl (fun z_42 hr_z_42 he_z_42 => ?_)
                exact xr_l G (x := z_42) hret hlk hr_z_42 dX6_bits_173 rfl
              · refine lv_lload_n hx hb dX6_bits_142 rfl (lv_at hl 3 rfl) ?_
                refine lv_lload hx hb dX6_bits_143 (lv_at hl 0 rfl) ?_
                refine lv_sipush (v := iv (-1022)) hx hb dX6_bits_145 rfl ?_
                refine lv_iload hx hb dX6_bits_148 (lv_at hl 1 rfl) ?_
                refine xb_isub hx hb dX6_bits_150 ?_
                refine lv_lshr hx hb dX6_bits_151 rfl ?_
                refine xb_topl (fun z_43 hr_z_43 he_z_43 => ?_)
                refine lv_lor hx hb dX6_bits_152 ?_
                refine xb_topl (fun z_44 hr_z_44 he_z_44 => ?_)
                exact xr_l G (x := z_44) hret hlk hr_z_44 dX6_bits_153 rfl
            · refine lv_dload hx hb dX6_bits_108 (lv_at hl 2 rfl) ?_
              refine lv_ldc2d (s := s.setDrawn d0) hx hb G.1.2.2.2.1 (dr_words G.1.2.2.2.2 d0 _ (wm 6 110 rfl rfl)) dX6_bits_110 ?_
              refine xb_topd (fun dd_45 he_dd_45 => ?_)
              refine xd_dmul G dX6_bits_113 (fun dd_46 d0 G => ?_)
              refine lv_dstore (lv' := [(4, .double (dv dd_46)), (7, .int (iv j9)), (6, .int (iv p8)), (2, .long (jv 0)), (0, .double (dv x1))]) hx hb dX6_bits_114 hl (by decide) rfl (fun ls hl => ?_)
              refine lv_iinc (v := iv (p8 - 1)) (lv' := [(6, .int (iv (p8 - 1))), (4, .double (dv dd_46)), (7, .int (iv j9)), (2, .long (jv 0)), (0, .double (dv x1))]) hx hb dX6_bits_116 hl (k := 2) rfl (by rw [show Int32.ofInt (-1) = iv (-1) from rfl, iv_add] <;> (congr 1 <;> omega)) (by decide) rfl (fun ls hl => ?_)
              refine lv_iinc (v := iv (j9 + 1)) (lv' := [(7, .int (iv (j9 + 1))), (6, .int (iv (p8 - 1))), (4, .double (dv dd_46)), (2, .long (jv 0)), (0, .double (dv x1))]) hx hb dX6_bits_119 hl (k := 2) rfl (by rw [show Int32.ofInt 1 = iv 1 from rfl, iv_add]) (by decide) rfl (fun ls hl => ?_)
              refine lv_goto (tgt := 93) hx hb dX6_bits_122 (by decide) ?_
              exact ih _ _ _ _ _ _ _ (by omega) ⟨dd_46, p8 - 1, j9 + 1, rfl, (by omega), (by omega), (by omega), (by omega), (by omega), (by omega), rfl, lv_sub hl [0, 1, 2, 3, 4] rfl⟩ G
        · refine lv_dload hx hb dX6_bits_64 (lv_at hl 2 rfl) ?_
          refine lv_ldc2d (s := s.setDrawn d0) hx hb G.1.2.2.2.1 (dr_words G.1.2.2.2.2 d0 _ (wm 6 110 rfl rfl)) dX6_bits_66 ?_
          refine xb_topd (fun dd_47 he_dd_47 => ?_)
          refine lv_dcmp hx hb dX6_bits_69 ?_
          refine xb_topi (fun y_48 hr_y_48 he_y_48 => ?_)
          have hr_y_48 : -2147483648 ≤ y_48 ∧ y_48 ≤ 2147483647 := hr_y_48
          refine xb_if_lt (tgt := 90) hx hb (by unfold ir; omega) dX6_bits_70 (by decide) (fun c_70 => ?_) (fun c_70 => ?_)
          · refine lv_iconst (v := iv 0) hx hb dX6_bits_90 rfl ?_
            refine lv_istore (lv' := [(7, .int (iv 0)), (6, .int (iv p9)), (4, .double (dv d9)), (2, .long (jv 0)), (0, .double (dv x1))]) hx hb dX6_bits_91 hl (by decide) rfl (fun ls hl => ?_)
            refine xl (fun n_9 μ' ls => ∃ (d8 : Int), ∃ (p8 : Int), ∃ (j9 : Int), (μ' = μ) ∧ (-2147483648 ≤ p8 ∧ p8 ≤ 2147483647) ∧ (-2147483648 ≤ j9 ∧ j9 ≤ 2147483647) ∧ (0 ≤ j9) ∧ (j9 ≤ 1100) ∧ (p8 ≤ 1100) ∧ (0 ≤ p8 + j9) ∧ n_9 = Int.toNat (3000 - j9) ∧ lv_has ls 9 [(7, .int (iv j9)), (6, .int (iv p8)), (4, .double (dv d8)), (2, .long (jv 0)), (0, .double (dv x1))]) (fun n_9 ρ μL49 d0 H locs ls hI_l G ih => ?_) _ _ _ _ _ _ _ ⟨d9, p9, 0, rfl, (by omega), (by omega), (by omega), (by omega), (by omega), (by omega), rfl, lv_sub hl [0, 1, 2, 3, 4] rfl⟩ G
            obtain ⟨d8, p8, j9, FL50, hi_52, hi_53, hi_54, hi_55, hi_56, hi_57, hn51, hl⟩ := hI_l
            have FL50 := Eq.symm FL50
            subst FL50
            refine lv_iload hx hb dX6_bits_93 (lv_at hl 0 rfl) ?_
            refine lv_sipush (v := iv 1100) hx hb dX6_bits_95 rfl ?_
            refine xb_icmp_ge (tgt := 125) hx hb (by unfold ir; omega) (by unfold ir; omega) dX6_bits_98 (by decide) (fun c_98 => ?_) (fun c_98 => ?_)
            · refine lv_dload hx hb dX6_bits_125 (lv_at hl 2 rfl) ?_
              refine lv_ldc2d (s := s.setDrawn d0) hx hb G.1.2.2.2.1 (dr_words G.1.2.2.2.2 d0 _ (wm 6 112 rfl rfl)) dX6_bits_127 ?_
              refine xb_topd (fun dd_58 he_dd_58 => ?_)
              refine xd_dmul G dX6_bits_130 (fun dd_59 d0 G => ?_)
              refine lv_d2l hx hb dX6_bits_131 ?_
              refine xb_topl (fun z_60 hr_z_60 he_z_60 => ?_)
              refine lv_lstore (lv' := [(7, .long (jv z_60)), (6, .int (iv p8)), (4, .double (dv d8)), (2, .long (jv 0)), (0, .double (dv x1))]) hx hb dX6_bits_132 hl (by decide) rfl (fun ls hl => ?_)
              refine lv_iload hx hb dX6_bits_134 (lv_at hl 1 rfl) ?_
              refine lv_sipush (v := iv (-1022)) hx hb dX6_bits_136 rfl ?_
              refine xb_icmp_ge (tgt := 154) hx hb (by unfold ir; omega) (by unfold ir; omega) dX6_bits_139 (by decide) (fun c_139 => ?_) (fun c_139 => ?_)
              · refine lv_lload_n hx hb dX6_bits_154 rfl (lv_at hl 3 rfl) ?_
                refine lv_iload hx hb dX6_bits_155 (lv_at hl 1 rfl) ?_
                refine lv_sipush (v := iv 1023) hx hb dX6_bits_157 rfl ?_
                refine xb_iadd hx hb dX6_bits_160 ?_
                refine xb_i2l hx hb (by unfold ir; omega) dX6_bits_161 ?_
                refine lv_bipush (v := iv 52) hx hb dX6_bits_162 rfl ?_
                refine lv_lshl hx hb dX6_bits_164 rfl ?_
                refine xb_topl (fun z_61 hr_z_61 he_z_61 => ?_)
                refine lv_lor hx hb dX6_bits_165 ?_
                refine xb_topl (fun z_62 hr_z_62 he_z_62 => ?_)
                refine lv_lload hx hb dX6_bits_166 (lv_at hl 0 rfl) ?_
                refine lv_ldc2 (s := s.setDrawn d0) hx hb G.1.2.2.2.1 (dr_words G.1.2.2.2.2 d0 _ (wm 6 113 rfl rfl)) dX6_bits_168 ?_
                refine xb_litl (x := 4503599627370496) (by decide) ?_
                refine xb_lsub hx hb dX6_bits_171 ?_
                refine xb_topl (fun z_63 hr_z_63 he_z_63 => ?_)
                refine lv_lor hx hb dX6_bits_172 ?_
                refine xb_topl (fun z_64 hr_z_64 he_z_64 => ?_)
                exact xr_l G (x := z_64) hret hlk hr_z_64 dX6_bits_173 rfl
              · refine lv_lload_n hx hb dX6_bits_142 rfl (lv_at hl 3 rfl) ?_
                refine lv_lload hx hb dX6_bits_143 (lv_at hl 0 rfl) ?_
                refine lv_sipush (v := iv (-1022)) hx hb dX6_bits_145 rfl ?_
                refine lv_iload hx hb dX6_bits_148 (lv_at hl 1 rfl) ?_
                refine xb_isub hx hb dX6_bits_150 ?_
                refine lv_lshr hx hb dX6_bits_151 rfl ?_
                refine xb_topl (fun z_65 hr_z_65 he_z_65 => ?_)
                refine lv_lor hx hb dX6_bits_152 ?_
                refine xb_topl (fun z_66 hr_z_66 he_z_66 => ?_)
                exact xr_l G (x := z_66) hret hlk hr_z_66 dX6_bits_153 rfl
            · refine lv_dload hx hb dX6_bits_101 (lv_at hl 2 rfl) ?_
              refine lv_dconst1 hx hb dX6_bits_103 ?_
              refine xb_topd (fun dd_67 he_dd_67 => ?_)
              refine lv_dcmp hx hb dX6_bits_104 ?_
              refine xb_topi (fun y_68 hr_y_68 he_y_68 => ?_)
              have hr_y_68 : -2147483648 ≤ y_68 ∧ y_68 ≤ 2147483647 := hr_y_68
              refine xb_if_ge (tgt := 125) hx hb (by unfold ir; omega) dX6_bits_105 (by decide) (fun c_105 => ?_) (fun c_105 => ?_)
              · refine lv_dload hx hb dX6_bits_125 (lv_at hl 2 rfl) ?_
                refine lv_ldc2d (s := s.setDrawn d0) hx hb G.1.2.2.2.1 (dr_words G.1.2.2.2.2 d0 _ (wm 6 112 rfl rfl)) dX6_bits_127 ?_
                refine xb_topd (fun dd_69 he_dd_69 => ?_)
                refine xd_dmul G dX6_bits_130 (fun dd_70 d0 G => ?_)
                refine lv_d2l hx hb dX6_bits_131 ?_
                refine xb_topl (fun z_71 hr_z_71 he_z_71 => ?_)
                refine lv_lstore (lv' := [(7, .long (jv z_71)), (6, .int (iv p8)), (4, .double (dv d8)), (2, .long (jv 0)), (0, .double (dv x1))]) hx hb dX6_bits_132 hl (by decide) rfl (fun ls hl => ?_)
                refine lv_iload hx hb dX6_bits_134 (lv_at hl 1 rfl) ?_
                refine lv_sipush (v := iv (-1022)) hx hb dX6_bits_136 rfl ?_
                refine xb_icmp_ge (tgt := 154) hx hb (by unfold ir; omega) (by unfold ir; omega) dX6_bits_139 (by decide) (fun c_139 => ?_) (fun c_139 => ?_)
                · refine lv_lload_n hx hb dX6_bits_154 rfl (lv_at hl 3 rfl) ?_
                  refine lv_iload hx hb dX6_bits_155 (lv_at hl 1 rfl) ?_
                  refine lv_sipush (v := iv 1023) hx hb dX6_bits_157 rfl ?_
                  refine xb_iadd hx hb dX6_bits_160 ?_
                  refine xb_i2l hx hb (by unfold ir; omega) dX6_bits_161 ?_
                  refine lv_bipush (v := iv 52) hx hb dX6_bits_162 rfl ?_
                  refine lv_lshl hx hb dX6_bits_164 rfl ?_
                  refine xb_topl (fun z_72 hr_z_72 he_z_72 => ?_)
                  refine lv_lor hx hb dX6_bits_165 ?_
                  refine xb_topl (fun z_73 hr_z_73 he_z_73 => ?_)
                  refine lv_lload hx hb dX6_bits_166 (lv_at hl 0 rfl) ?_
                  refine lv_ldc2 (s := s.setDrawn d0) hx hb G.1.2.2.2.1 (dr_words G.1.2.2.2.2 d0 _ (wm 6 113 rfl rfl)) dX6_bits_168 ?_
                  refine xb_litl (x := 4503599627370496) (by decide) ?_
                  refine xb_lsub hx hb dX6_bits_171 ?_
                  refine xb_topl (fun z_74 hr_z_74 he_z_74 => ?_)
                  refine lv_lor hx hb dX6_bits_172 ?_
                  refine xb_topl (fun z_75 hr_z_75 he_z_75 => ?_)
                  exact xr_l G (x := z_75) hret hlk hr_z_75 dX6_bits_173 rfl
                · refine lv_lload_n hx hb dX6_bits_142 rfl (lv_at hl 3 rfl) ?_
                  refine lv_lload hx hb dX6_bits_143 (lv_at hl 0 rfl) ?_
                  refine lv_sipush (v := iv (-1022)) hx hb dX6_bits_145 rfl ?_
                  refine lv_iload hx hb dX6_bits_148 (lv_at hl 1 rfl) ?_
                  refine xb_isub hx hb dX6_bits_150 ?_
                  refine lv_lshr hx hb dX6_bits_151 rfl ?_
                  refine xb_topl (fun z_76 hr_z_76 he_z_76 => ?_)
                  refine lv_lor hx hb dX6_bits_152 ?_
                  refine xb_topl (fun z_77 hr_z_77 he_z_77 => ?_)
                  exact xr_l G (x := z_77) hret hlk hr_z_77 dX6_bits_153 rfl
              · refine lv_dload hx hb dX6_bits_108 (lv_at hl 2 rfl) ?_
                refine lv_ldc2d (s := s.setDrawn d0) hx hb G.1.2.2.2.1 (dr_words G.1.2.2.2.2 d0 _ (wm 6 110 rfl rfl)) dX6_bits_110 ?_
                refine xb_topd (fun dd_78 he_dd_78 => ?_)
                refine xd_dmul G dX6_bits_113 (fun dd_79 d0 G => ?_)
                refine lv_dstore (lv' := [(4, .double (dv dd_79)), (7, .int (iv j9)), (6, .int (iv p8)), (2, .long (jv 0)), (0, .double (dv x1))]) hx hb dX6_bits_114 hl (by decide) rfl (fun ls hl => ?_)
                refine lv_iinc (v := iv (p8 - 1)) (lv' := [(6, .int (iv (p8 - 1))), (4, .double (dv dd_79)), (7, .int (iv j9)), (2, .long (jv 0)), (0, .double (dv x1))]) hx hb dX6_bits_116 hl (k := 2) rfl (by rw [show Int32.ofInt (-1) = iv (-1) from rfl, iv_add] <;> (congr 1 <;> omega)) (by decide) rfl (fun ls hl => ?_)
                refine lv_iinc (v := iv (j9 + 1)) (lv' := [(7, .int (iv (j9 + 1))), (6, .int (iv (p8 - 1))), (4, .double (dv dd_79)), (2, .long (jv 0)), (0, .double (dv x1))]) hx hb dX6_bits_119 hl (k := 2) rfl (by rw [show Int32.ofInt 1 = iv 1 from rfl, iv_add]) (by decide) rfl (fun ls hl => ?_)
                refine lv_goto (tgt := 93) hx hb dX6_bits_122 (by decide) ?_
                exact ih _ _ _ _ _ _ _ (by omega) ⟨dd_79, p8 - 1, j9 + 1, rfl, (by omega), (by omega), (by omega), (by omega), (by omega), (by omega), rfl, lv_sub hl [0, 1, 2, 3, 4] rfl⟩ G
          · refine lv_dload hx hb dX6_bits_73 (lv_at hl 2 rfl) ?_
            refine lv_ldc2d (s := s.setDrawn d0) hx hb G.1.2.2.2.1 (dr_words G.1.2.2.2.2 d0 _ (wm 6 111 rfl rfl)) dX6_bits_75 ?_
            refine xb_topd (fun dd_80 he_dd_80 => ?_)
            refine xd_dmul G dX6_bits_78 (fun dd_81 d0 G => ?_)
            refine lv_dstore (lv' := [(4, .double (dv dd_81)), (7, .int (iv i9)), (6, .int (iv p9)), (2, .long (jv 0)), (0, .double (dv x1))]) hx hb dX6_bits_79 hl (by decide) rfl (fun ls hl => ?_)
            refine lv_iinc (v := iv (p9 + 1)) (lv' := [(6, .int (iv (p9 + 1))), (4, .double (dv dd_81)), (7, .int (iv i9)), (2, .long (jv 0)), (0, .double (dv x1))]) hx hb dX6_bits_81 hl (k := 2) rfl (by rw [show Int32.ofInt 1 = iv 1 from rfl, iv_add]) (by decide) rfl (fun ls hl => ?_)
            refine lv_iinc (v := iv (i9 + 1)) (lv' := [(7, .int (iv (i9 + 1))), (6, .int (iv (p9 + 1))), (4, .double (dv dd_81)), (2, .long (jv 0)), (0, .double (dv x1))]) hx hb dX6_bits_84 hl (k := 2) rfl (by rw [show Int32.ofInt 1 = iv 1 from rfl, iv_add]) (by decide) rfl (fun ls hl => ?_)
            refine lv_goto (tgt := 56) hx hb dX6_bits_87 (by decide) ?_
            exact ih _ _ _ _ _ _ _ (by omega) ⟨dd_81, p9 + 1, i9 + 1, rfl, (by omega), (by omega), (by omega), (by omega), (by omega), (by omega), rfl, lv_sub hl [0, 1, 2, 3, 4] rfl⟩ G
      · refine lv_dload_n hx hb dX6_bits_42 rfl (lv_at hl 1 rfl) ?_
        refine lv_dneg hx hb dX6_bits_43 ?_
        refine xb_topd (fun dd_82 he_dd_82 => ?_)
        refine lv_goto (tgt := 48) hx hb dX6_bits_44 (by decide) ?_
        refine lv_dstore (lv' := [(4, .double (dv dd_82)), (2, .long (jv 0)), (0, .double (dv x1))]) hx hb dX6_bits_48 hl (by decide) rfl (fun ls hl => ?_)
        refine lv_iconst (v := iv 0) hx hb dX6_bits_50 rfl ?_
        refine lv_istore (lv' := [(6, .int (iv 0)), (4, .double (dv dd_82)), (2, .long (jv 0)), (0, .double (dv x1))]) hx hb dX6_bits_51 hl (by decide) rfl (fun ls hl => ?_)
        refine lv_iconst (v := iv 0) hx hb dX6_bits_53 rfl ?_
        refine lv_istore (lv' := [(7, .int (iv 0)), (6, .int (iv 0)), (4, .double (dv dd_82)), (2, .long (jv 0)), (0, .double (dv x1))]) hx hb dX6_bits_54 hl (by decide) rfl (fun ls hl => ?_)
        refine xl (fun n_9 μ' ls => ∃ (d9 : Int), ∃ (p9 : Int), ∃ (i9 : Int), (μ' = μ) ∧ (-2147483648 ≤ p9 ∧ p9 ≤ 2147483647) ∧ (-2147483648 ≤ i9 ∧ i9 ≤ 2147483647) ∧ (0 ≤ i9) ∧ (i9 ≤ 1100) ∧ (0 ≤ p9) ∧ (p9 ≤ i9) ∧ n_9 = Int.toNat (3000 - i9) ∧ lv_has ls 9 [(7, .int (iv i9)), (6, .int (iv p9)), (4, .double (dv d9)), (2, .long (jv 0)), (0, .double (dv x1))]) (fun n_9 ρ μL83 d0 H locs ls hI_l G ih => ?_) _ _ _ _ _ _ _ ⟨dd_82, 0, 0, rfl, (by omega), (by omega), (by omega), (by omega), (by omega), (by omega), rfl, lv_sub hl [0, 1, 2, 3, 4] rfl⟩ G
        obtain ⟨d9, p9, i9, FL84, hi_86, hi_87, hi_88, hi_89, hi_90, hi_91, hn85, hl⟩ := hI_l
        have FL84 := Eq.symm FL84
        subst FL84
        refine lv_iload hx hb dX6_bits_56 (lv_at hl 0 rfl) ?_
        refine lv_sipush (v := iv 1100) hx hb dX6_bits_58 rfl ?_
        refine xb_icmp_ge (tgt := 90) hx hb (by unfold ir; omega) (by unfold ir; omega) dX6_bits_61 (by decide) (fun c_61 => ?_) (fun c_61 => ?_)
        · refine lv_iconst (v := iv 0) hx hb dX6_bits_90 rfl ?_
          refine lv_istore (lv' := [(7, .int (iv 0)), (6, .int (iv p9)), (4, .double (dv d9)), (2, .long (jv 0)), (0, .double (dv x1))]) hx hb dX6_bits_91 hl (by decide) rfl (fun ls hl => ?_)
          refine xl (fun n_9 μ' ls => ∃ (d8 : Int), ∃ (p8 : Int), ∃ (j9 : Int), (μ' = μ) ∧ (-2147483648 ≤ p8 ∧ p8 ≤ 2147483647) ∧ (-2147483648 ≤ j9 ∧ j9 ≤ 2147483647) ∧ (0 ≤ j9) ∧ (j9 ≤ 1100) ∧ (p8 ≤ 1100) ∧ (0 ≤ p8 + j9) ∧ n_9 = Int.toNat (3000 - j9) ∧ lv_has ls 9 [(7, .int (iv j9)), (6, .int (iv p8)), (4, .double (dv d8)), (2, .long (jv 0)), (0, .double (dv x1))]) (fun n_9 ρ μL92 d0 H locs ls hI_l G ih => ?_) _ _ _ _ _ _ _ ⟨d9, p9, 0, rfl, (by omega), (by omega), (by omega), (by omega), (by omega), (by omega), rfl, lv_sub hl [0, 1, 2, 3, 4] rfl⟩ G
          obtain ⟨d8, p8, j9, FL93, hi_95, hi_96, hi_97, hi_98, hi_99, hi_100, hn94, hl⟩ := hI_l
          have FL93 := Eq.symm FL93
          subst FL93
          refine lv_iload hx hb dX6_bits_93 (lv_at hl 0 rfl) ?_
          refine lv_sipush (v := iv 1100) hx hb dX6_bits_95 rfl ?_
          refine xb_icmp_ge (tgt := 125) hx hb (by unfold ir; omega) (by unfold ir; omega) dX6_bits_98 (by decide) (fun c_98 => ?_) (fun c_98 => ?_)
          · refine lv_dload hx hb dX6_bits_125 (lv_at hl 2 rfl) ?_
            refine lv_ldc2d (s := s.setDrawn d0) hx hb G.1.2.2.2.1 (dr_words G.1.2.2.2.2 d0 _ (wm 6 112 rfl rfl)) dX6_bits_127 ?_
            refine xb_topd (fun dd_101 he_dd_101 => ?_)
            refine xd_dmul G dX6_bits_130 (fun dd_102 d0 G => ?_)
            refine lv_d2l hx hb dX6_bits_131 ?_
            refine xb_topl (fun z_103 hr_z_103 he_z_103 => ?_)
            refine lv_lstore (lv' := [(7, .long (jv z_103)), (6, .int (iv p8)), (4, .double (dv d8)), (2, .long (jv 0)), (0, .double (dv x1))]) hx hb dX6_bits_132 hl (by decide) rfl (fun ls hl => ?_)
            refine lv_iload hx hb dX6_bits_134 (lv_at hl 1 rfl) ?_
            refine lv_sipush (v := iv (-1022)) hx hb dX6_bits_136 rfl ?_
            refine xb_icmp_ge (tgt := 154) hx hb (by unfold ir; omega) (by unfold ir; omega) dX6_bits_139 (by decide) (fun c_139 => ?_) (fun c_139 => ?_)
            · refine lv_lload_n hx hb dX6_bits_154 rfl (lv_at hl 3 rfl) ?_
              refine lv_iload hx hb dX6_bits_155 (lv_at hl 1 rfl) ?_
              refine lv_sipush (v := iv 1023) hx hb dX6_bits_157 rfl ?_
              refine xb_iadd hx hb dX6_bits_160 ?_
              refine xb_i2l hx hb (by unfold ir; omega) dX6_bits_161 ?_
              refine lv_bipush (v := iv 52) hx hb dX6_bits_162 rfl ?_
              refine lv_lshl hx hb dX6_bits_164 rfl ?_
              refine xb_topl (fun z_104 hr_z_104 he_z_104 => ?_)
              refine lv_lor hx hb dX6_bits_165 ?_
              refine xb_topl (fun z_105 hr_z_105 he_z_105 => ?_)
              refine lv_lload hx hb dX6_bits_166 (lv_at hl 0 rfl) ?_
              refine lv_ldc2 (s := s.setDrawn d0) hx hb G.1.2.2.2.1 (dr_words G.1.2.2.2.2 d0 _ (wm 6 113 rfl rfl)) dX6_bits_168 ?_
              refine xb_litl (x := 4503599627370496) (by decide) ?_
              refine xb_lsub hx hb dX6_bits_171 ?_
              refine xb_topl (fun z_106 hr_z_106 he_z_106 => ?_)
              refine lv_lor hx hb dX6_bits_172 ?_
              refine xb_topl (fun z_107 hr_z_107 he_z_107 => ?_)
              exact xr_l G (x := z_107) hret hlk hr_z_107 dX6_bits_173 rfl
            · refine lv_lload_n hx hb dX6_bits_142 rfl (lv_at hl 3 rfl) ?_
              refine lv_lload hx hb dX6_bits_143 (lv_at hl 0 rfl) ?_
              refine lv_sipush (v := iv (-1022)) hx hb dX6_bits_145 rfl ?_
              refine lv_iload hx hb dX6_bits_148 (lv_at hl 1 rfl) ?_
              refine xb_isub hx hb dX6_bits_150 ?_
              refine lv_lshr hx hb dX6_bits_151 rfl ?_
              refine xb_topl (fun z_108 hr_z_108 he_z_108 => ?_)
              refine lv_lor hx hb dX6_bits_152 ?_
              refine xb_topl (fun z_109 hr_z_109 he_z_109 => ?_)
              exact xr_l G (x := z_109) hret hlk hr_z_109 dX6_bits_153 rfl
          · refine lv_dload hx hb dX6_bits_101 (lv_at hl 2 rfl) ?_
            refine lv_dconst1 hx hb dX6_bits_103 ?_
            refine xb_topd (fun dd_110 he_dd_110 => ?_)
            refine lv_dcmp hx hb dX6_bits_104 ?_
            refine xb_topi (fun y_111 hr_y_111 he_y_111 => ?_)
            have hr_y_111 : -2147483648 ≤ y_111 ∧ y_111 ≤ 2147483647 := hr_y_111
            refine xb_if_ge (tgt := 125) hx hb (by unfold ir; omega) dX6_bits_105 (by decide) (fun c_105 => ?_) (fun c_105 => ?_)
            · refine lv_dload hx hb dX6_bits_125 (lv_at hl 2 rfl) ?_
              refine lv_ldc2d (s := s.setDrawn d0) hx hb G.1.2.2.2.1 (dr_words G.1.2.2.2.2 d0 _ (wm 6 112 rfl rfl)) dX6_bits_127 ?_
              refine xb_topd (fun dd_112 he_dd_112 => ?_)
              refine xd_dmul G dX6_bits_130 (fun dd_113 d0 G => ?_)
              refine lv_d2l hx hb dX6_bits_131 ?_
              refine xb_topl (fun z_114 hr_z_114 he_z_114 => ?_)
              refine lv_lstore (lv' := [(7, .long (jv z_114)), (6, .int (iv p8)), (4, .double (dv d8)), (2, .long (jv 0)), (0, .double (dv x1))]) hx hb dX6_bits_132 hl (by decide) rfl (fun ls hl => ?_)
              refine lv_iload hx hb dX6_bits_134 (lv_at hl 1 rfl) ?_
              refine lv_sipush (v := iv (-1022)) hx hb dX6_bits_136 rfl ?_
              refine xb_icmp_ge (tgt := 154) hx hb (by unfold ir; omega) (by unfold ir; omega) dX6_bits_139 (by decide) (fun c_139 => ?_) (fun c_139 => ?_)
              · refine lv_lload_n hx hb dX6_bits_154 rfl (lv_at hl 3 rfl) ?_
                refine lv_iload hx hb dX6_bits_155 (lv_at hl 1 rfl) ?_
                refine lv_sipush (v := iv 1023) hx hb dX6_bits_157 rfl ?_
                refine xb_iadd hx hb dX6_bits_160 ?_
                refine xb_i2l hx hb (by unfold ir; omega) dX6_bits_161 ?_
                refine lv_bipush (v := iv 52) hx hb dX6_bits_162 rfl ?_
                refine lv_lshl hx hb dX6_bits_164 rfl ?_
                refine xb_topl (fun z_115 hr_z_115 he_z_115 => ?_)
                refine lv_lor hx hb dX6_bits_165 ?_
                refine xb_topl (fun z_116 hr_z_116 he_z_116 => ?_)
                refine lv_lload hx hb dX6_bits_166 (lv_at hl 0 rfl) ?_
                refine lv_ldc2 (s := s.setDrawn d0) hx hb G.1.2.2.2.1 (dr_words G.1.2.2.2.2 d0 _ (wm 6 113 rfl rfl)) dX6_bits_168 ?_
                refine xb_litl (x := 4503599627370496) (by decide) ?_
                refine xb_lsub hx hb dX6_bits_171 ?_
                refine xb_topl (fun z_117 hr_z_117 he_z_117 => ?_)
                refine lv_lor hx hb dX6_bits_172 ?_
                refine xb_topl (fun z_118 hr_z_118 he_z_118 => ?_)
                exact xr_l G (x := z_118) hret hlk hr_z_118 dX6_bits_173 rfl
              · refine lv_lload_n hx hb dX6_bits_142 rfl (lv_at hl 3 rfl) ?_
                refine lv_lload hx hb dX6_bits_143 (lv_at hl 0 rfl) ?_
                refine lv_sipush (v := iv (-1022)) hx hb dX6_bits_145 rfl ?_
                refine lv_iload hx hb dX6_bits_148 (lv_at hl 1 rfl) ?_
                refine xb_isub hx hb dX6_bits_150 ?_
                refine lv_lshr hx hb dX6_bits_151 rfl ?_
                refine xb_topl (fun z_119 hr_z_119 he_z_119 => ?_)
                refine lv_lor hx hb dX6_bits_152 ?_
                refine xb_topl (fun z_120 hr_z_120 he_z_120 => ?_)
                exact xr_l G (x := z_120) hret hlk hr_z_120 dX6_bits_153 rfl
            · refine lv_dload hx hb dX6_bits_108 (lv_at hl 2 rfl) ?_
              refine lv_ldc2d (s := s.setDrawn d0) hx hb G.1.2.2.2.1 (dr_words G.1.2.2.2.2 d0 _ (wm 6 110 rfl rfl)) dX6_bits_110 ?_
              refine xb_topd (fun dd_121 he_dd_121 => ?_)
              refine xd_dmul G dX6_bits_113 (fun dd_122 d0 G => ?_)
              refine lv_dstore (lv' := [(4, .double (dv dd_122)), (7, .int (iv j9)), (6, .int (iv p8)), (2, .long (jv 0)), (0, .double (dv x1))]) hx hb dX6_bits_114 hl (by decide) rfl (fun ls hl => ?_)
              refine lv_iinc (v := iv (p8 - 1)) (lv' := [(6, .int (iv (p8 - 1))), (4, .double (dv dd_122)), (7, .int (iv j9)), (2, .long (jv 0)), (0, .double (dv x1))]) hx hb dX6_bits_116 hl (k := 2) rfl (by rw [show Int32.ofInt (-1) = iv (-1) from rfl, iv_add] <;> (congr 1 <;> omega)) (by decide) rfl (fun ls hl => ?_)
              refine lv_iinc (v := iv (j9 + 1)) (lv' := [(7, .int (iv (j9 + 1))), (6, .int (iv (p8 - 1))), (4, .double (dv dd_122)), (2, .long (jv 0)), (0, .double (dv x1))]) hx hb dX6_bits_119 hl (k := 2) rfl (by rw [show Int32.ofInt 1 = iv 1 from rfl, iv_add]) (by decide) rfl (fun ls hl => ?_)
              refine lv_goto (tgt := 93) hx hb dX6_bits_122 (by decide) ?_
              exact ih _ _ _ _ _ _ _ (by omega) ⟨dd_122, p8 - 1, j9 + 1, rfl, (by omega), (by omega), (by omega), (by omega), (by omega), (by omega), rfl, lv_sub hl [0, 1, 2, 3, 4] rfl⟩ G
        · refine lv_dload hx hb dX6_bits_64 (lv_at hl 2 rfl) ?_
          refine lv_ldc2d (s := s.setDrawn d0) hx hb G.1.2.2.2.1 (dr_words G.1.2.2.2.2 d0 _ (wm 6 110 rfl rfl)) dX6_bits_66 ?_
          refine xb_topd (fun dd_123 he_dd_123 => ?_)
          refine lv_dcmp hx hb dX6_bits_69 ?_
          refine xb_topi (fun y_124 hr_y_124 he_y_124 => ?_)
          have hr_y_124 : -2147483648 ≤ y_124 ∧ y_124 ≤ 2147483647 := hr_y_124
          refine xb_if_lt (tgt := 90) hx hb (by unfold ir; omega) dX6_bits_70 (by decide) (fun c_70 => ?_) (fun c_70 => ?_)
          · refine lv_iconst (v := iv 0) hx hb dX6_bits_90 rfl ?_
            refine lv_istore (lv' := [(7, .int (iv 0)), (6, .int (iv p9)), (4, .double (dv d9)), (2, .long (jv 0)), (0, .double (dv x1))]) hx hb dX6_bits_91 hl (by decide) rfl (fun ls hl => ?_)
            refine xl (fun n_9 μ' ls => ∃ (d8 : Int), ∃ (p8 : Int), ∃ (j9 : Int), (μ' = μ) ∧ (-2147483648 ≤ p8 ∧ p8 ≤ 2147483647) ∧ (-2147483648 ≤ j9 ∧ j9 ≤ 2147483647) ∧ (0 ≤ j9) ∧ (j9 ≤ 1100) ∧ (p8 ≤ 1100) ∧ (0 ≤ p8 + j9) ∧ n_9 = Int.toNat (3000 - j9) ∧ lv_has ls 9 [(7, .int (iv j9)), (6, .int (iv p8)), (4, .double (dv d8)), (2, .long (jv 0)), (0, .double (dv x1))]) (fun n_9 ρ μL125 d0 H locs ls hI_l G ih => ?_) _ _ _ _ _ _ _ ⟨d9, p9, 0, rfl, (by omega), (by omega), (by omega), (by omega), (by omega), (by omega), rfl, lv_sub hl [0, 1, 2, 3, 4] rfl⟩ G
            obtain ⟨d8, p8, j9, FL126, hi_128, hi_129, hi_130, hi_131, hi_132, hi_133, hn127, hl⟩ := hI_l
            have FL126 := Eq.symm FL126
            subst FL126
            refine lv_iload hx hb dX6_bits_93 (lv_at hl 0 rfl) ?_
            refine lv_sipush (v := iv 1100) hx hb dX6_bits_95 rfl ?_
            refine xb_icmp_ge (tgt := 125) hx hb (by unfold ir; omega) (by unfold ir; omega) dX6_bits_98 (by decide) (fun c_98 => ?_) (fun c_98 => ?_)
            · refine lv_dload hx hb dX6_bits_125 (lv_at hl 2 rfl) ?_
              refine lv_ldc2d (s := s.setDrawn d0) hx hb G.1.2.2.2.1 (dr_words G.1.2.2.2.2 d0 _ (wm 6 112 rfl rfl)) dX6_bits_127 ?_
              refine xb_topd (fun dd_134 he_dd_134 => ?_)
              refine xd_dmul G dX6_bits_130 (fun dd_135 d0 G => ?_)
              refine lv_d2l hx hb dX6_bits_131 ?_
              refine xb_topl (fun z_136 hr_z_136 he_z_136 => ?_)
              refine lv_lstore (lv' := [(7, .long (jv z_136)), (6, .int (iv p8)), (4, .double (dv d8)), (2, .long (jv 0)), (0, .double (dv x1))]) hx hb dX6_bits_132 hl (by decide) rfl (fun ls hl => ?_)
              refine lv_iload hx hb dX6_bits_134 (lv_at hl 1 rfl) ?_
              refine lv_sipush (v := iv (-1022)) hx hb dX6_bits_136 rfl ?_
              refine xb_icmp_ge (tgt := 154) hx hb (by unfold ir; omega) (by unfold ir; omega) dX6_bits_139 (by decide) (fun c_139 => ?_) (fun c_139 => ?_)
              · refine lv_lload_n hx hb dX6_bits_154 rfl (lv_at hl 3 rfl) ?_
                refine lv_iload hx hb dX6_bits_155 (lv_at hl 1 rfl) ?_
                refine lv_sipush (v := iv 1023) hx hb dX6_bits_157 rfl ?_
                refine xb_iadd hx hb dX6_bits_160 ?_
                refine xb_i2l hx hb (by unfold ir; omega) dX6_bits_161 ?_
                refine lv_bipush (v := iv 52) hx hb dX6_bits_162 rfl ?_
                refine lv_lshl hx hb dX6_bits_164 rfl ?_
                refine xb_topl (fun z_137 hr_z_137 he_z_137 => ?_)
                refine lv_lor hx hb dX6_bits_165 ?_
                refine xb_topl (fun z_138 hr_z_138 he_z_138 => ?_)
                refine lv_lload hx hb dX6_bits_166 (lv_at hl 0 rfl) ?_
                refine lv_ldc2 (s := s.setDrawn d0) hx hb G.1.2.2.2.1 (dr_words G.1.2.2.2.2 d0 _ (wm 6 113 rfl rfl)) dX6_bits_168 ?_
                refine xb_litl (x := 4503599627370496) (by decide) ?_
                refine xb_lsub hx hb dX6_bits_171 ?_
                refine xb_topl (fun z_139 hr_z_139 he_z_139 => ?_)
                refine lv_lor hx hb dX6_bits_172 ?_
                refine xb_topl (fun z_140 hr_z_140 he_z_140 => ?_)
                exact xr_l G (x := z_140) hret hlk hr_z_140 dX6_bits_173 rfl
              · refine lv_lload_n hx hb dX6_bits_142 rfl (lv_at hl 3 rfl) ?_
                refine lv_lload hx hb dX6_bits_143 (lv_at hl 0 rfl) ?_
                refine lv_sipush (v := iv (-1022)) hx hb dX6_bits_145 rfl ?_
                refine lv_iload hx hb dX6_bits_148 (lv_at hl 1 rfl) ?_
                refine xb_isub hx hb dX6_bits_150 ?_
                refine lv_lshr hx hb dX6_bits_151 rfl ?_
                refine xb_topl (fun z_141 hr_z_141 he_z_141 => ?_)
                refine lv_lor hx hb dX6_bits_152 ?_
                refine xb_topl (fun z_142 hr_z_142 he_z_142 => ?_)
                exact xr_l G (x := z_142) hret hlk hr_z_142 dX6_bits_153 rfl
            · refine lv_dload hx hb dX6_bits_101 (lv_at hl 2 rfl) ?_
              refine lv_dconst1 hx hb dX6_bits_103 ?_
              refine xb_topd (fun dd_143 he_dd_143 => ?_)
              refine lv_dcmp hx hb dX6_bits_104 ?_
              refine xb_topi (fun y_144 hr_y_144 he_y_144 => ?_)
              have hr_y_144 : -2147483648 ≤ y_144 ∧ y_144 ≤ 2147483647 := hr_y_144
              refine xb_if_ge (tgt := 125) hx hb (by unfold ir; omega) dX6_bits_105 (by decide) (fun c_105 => ?_) (fun c_105 => ?_)
              · refine lv_dload hx hb dX6_bits_125 (lv_at hl 2 rfl) ?_
                refine lv_ldc2d (s := s.setDrawn d0) hx hb G.1.2.2.2.1 (dr_words G.1.2.2.2.2 d0 _ (wm 6 112 rfl rfl)) dX6_bits_127 ?_
                refine xb_topd (fun dd_145 he_dd_145 => ?_)
                refine xd_dmul G dX6_bits_130 (fun dd_146 d0 G => ?_)
                refine lv_d2l hx hb dX6_bits_131 ?_
                refine xb_topl (fun z_147 hr_z_147 he_z_147 => ?_)
                refine lv_lstore (lv' := [(7, .long (jv z_147)), (6, .int (iv p8)), (4, .double (dv d8)), (2, .long (jv 0)), (0, .double (dv x1))]) hx hb dX6_bits_132 hl (by decide) rfl (fun ls hl => ?_)
                refine lv_iload hx hb dX6_bits_134 (lv_at hl 1 rfl) ?_
                refine lv_sipush (v := iv (-1022)) hx hb dX6_bits_136 rfl ?_
                refine xb_icmp_ge (tgt := 154) hx hb (by unfold ir; omega) (by unfold ir; omega) dX6_bits_139 (by decide) (fun c_139 => ?_) (fun c_139 => ?_)
                · refine lv_lload_n hx hb dX6_bits_154 rfl (lv_at hl 3 rfl) ?_
                  refine lv_iload hx hb dX6_bits_155 (lv_at hl 1 rfl) ?_
                  refine lv_sipush (v := iv 1023) hx hb dX6_bits_157 rfl ?_
                  refine xb_iadd hx hb dX6_bits_160 ?_
                  refine xb_i2l hx hb (by unfold ir; omega) dX6_bits_161 ?_
                  refine lv_bipush (v := iv 52) hx hb dX6_bits_162 rfl ?_
                  refine lv_lshl hx hb dX6_bits_164 rfl ?_
                  refine xb_topl (fun z_148 hr_z_148 he_z_148 => ?_)
                  refine lv_lor hx hb dX6_bits_165 ?_
                  refine xb_topl (fun z_149 hr_z_149 he_z_149 => ?_)
                  refine lv_lload hx hb dX6_bits_166 (lv_at hl 0 rfl) ?_
                  refine lv_ldc2 (s := s.setDrawn d0) hx hb G.1.2.2.2.1 (dr_words G.1.2.2.2.2 d0 _ (wm 6 113 rfl rfl)) dX6_bits_168 ?_
                  refine xb_litl (x := 4503599627370496) (by decide) ?_
                  refine xb_lsub hx hb dX6_bits_171 ?_
                  refine xb_topl (fun z_150 hr_z_150 he_z_150 => ?_)
                  refine lv_lor hx hb dX6_bits_172 ?_
                  refine xb_topl (fun z_151 hr_z_151 he_z_151 => ?_)
                  exact xr_l G (x := z_151) hret hlk hr_z_151 dX6_bits_173 rfl
                · refine lv_lload_n hx hb dX6_bits_142 rfl (lv_at hl 3 rfl) ?_
                  refine lv_lload hx hb dX6_bits_143 (lv_at hl 0 rfl) ?_
                  refine lv_sipush (v := iv (-1022)) hx hb dX6_bits_145 rfl ?_
                  refine lv_iload hx hb dX6_bits_148 (lv_at hl 1 rfl) ?_
                  refine xb_isub hx hb dX6_bits_150 ?_
                  refine lv_lshr hx hb dX6_bits_151 rfl ?_
                  refine xb_topl (fun z_152 hr_z_152 he_z_152 => ?_)
                  refine lv_lor hx hb dX6_bits_152 ?_
                  refine xb_topl (fun z_153 hr_z_153 he_z_153 => ?_)
                  exact xr_l G (x := z_153) hret hlk hr_z_153 dX6_bits_153 rfl
              · refine lv_dload hx hb dX6_bits_108 (lv_at hl 2 rfl) ?_
                refine lv_ldc2d (s := s.setDrawn d0) hx hb G.1.2.2.2.1 (dr_words G.1.2.2.2.2 d0 _ (wm 6 110 rfl rfl)) dX6_bits_110 ?_
                refine xb_topd (fun dd_154 he_dd_154 => ?_)
                refine xd_dmul G dX6_bits_113 (fun dd_155 d0 G => ?_)
                refine lv_dstore (lv' := [(4, .double (dv dd_155)), (7, .int (iv j9)), (6, .int (iv p8)), (2, .long (jv 0)), (0, .double (dv x1))]) hx hb dX6_bits_114 hl (by decide) rfl (fun ls hl => ?_)
                refine lv_iinc (v := iv (p8 - 1)) (lv' := [(6, .int (iv (p8 - 1))), (4, .double (dv dd_155)), (7, .int (iv j9)), (2, .long (jv 0)), (0, .double (dv x1))]) hx hb dX6_bits_116 hl (k := 2) rfl (by rw [show Int32.ofInt (-1) = iv (-1) from rfl, iv_add] <;> (congr 1 <;> omega)) (by decide) rfl (fun ls hl => ?_)
                refine lv_iinc (v := iv (j9 + 1)) (lv' := [(7, .int (iv (j9 + 1))), (6, .int (iv (p8 - 1))), (4, .double (dv dd_155)), (2, .long (jv 0)), (0, .double (dv x1))]) hx hb dX6_bits_119 hl (k := 2) rfl (by rw [show Int32.ofInt 1 = iv 1 from rfl, iv_add]) (by decide) rfl (fun ls hl => ?_)
                refine lv_goto (tgt := 93) hx hb dX6_bits_122 (by decide) ?_
                exact ih _ _ _ _ _ _ _ (by omega) ⟨dd_155, p8 - 1, j9 + 1, rfl, (by omega), (by omega), (by omega), (by omega), (by omega), (by omega), rfl, lv_sub hl [0, 1, 2, 3, 4] rfl⟩ G
          · refine lv_dload hx hb dX6_bits_73 (lv_at hl 2 rfl) ?_
            refine lv_ldc2d (s := s.setDrawn d0) hx hb G.1.2.2.2.1 (dr_words G.1.2.2.2.2 d0 _ (wm 6 111 rfl rfl)) dX6_bits_75 ?_
            refine xb_topd (fun dd_156 he_dd_156 => ?_)
            refine xd_dmul G dX6_bits_78 (fun dd_157 d0 G => ?_)
            refine lv_dstore (lv' := [(4, .double (dv dd_157)), (7, .int (iv i9)), (6, .int (iv p9)), (2, .long (jv 0)), (0, .double (dv x1))]) hx hb dX6_bits_79 hl (by decide) rfl (fun ls hl => ?_)
            refine lv_iinc (v := iv (p9 + 1)) (lv' := [(6, .int (iv (p9 + 1))), (4, .double (dv dd_157)), (7, .int (iv i9)), (2, .long (jv 0)), (0, .double (dv x1))]) hx hb dX6_bits_81 hl (k := 2) rfl (by rw [show Int32.ofInt 1 = iv 1 from rfl, iv_add]) (by decide) rfl (fun ls hl => ?_)
            refine lv_iinc (v := iv (i9 + 1)) (lv' := [(7, .int (iv (i9 + 1))), (6, .int (iv (p9 + 1))), (4, .double (dv dd_157)), (2, .long (jv 0)), (0, .double (dv x1))]) hx hb dX6_bits_84 hl (k := 2) rfl (by rw [show Int32.ofInt 1 = iv 1 from rfl, iv_add]) (by decide) rfl (fun ls hl => ?_)
            refine lv_goto (tgt := 56) hx hb dX6_bits_87 (by decide) ?_
            exact ih _ _ _ _ _ _ _ (by omega) ⟨dd_157, p9 + 1, i9 + 1, rfl, (by omega), (by omega), (by omega), (by omega), (by omega), (by omega), rfl, lv_sub hl [0, 1, 2, 3, 4] rfl⟩ G
    · refine lv_ldc2 (s := s.setDrawn d0) hx hb G.1.2.2.2.1 (dr_words G.1.2.2.2.2 d0 _ (wm 5 45 rfl rfl)) dX6_bits_28 ?_
      refine xb_litl (x := (-9223372036854775808)) (by decide) ?_
      refine lv_goto (tgt := 35) hx hb dX6_bits_31 (by decide) ?_
      refine lv_lstore_n (lv' := [(2, .long (jv (-9223372036854775808))), (0, .double (dv x1))]) hx hb dX6_bits_35 rfl hl (by decide) rfl (fun ls hl => ?_)
      refine lv_dload_n hx hb dX6_bits_36 rfl (lv_at hl 1 rfl) ?_
      refine lv_dconst0 hx hb dX6_bits_37 ?_
      refine xb_topd (fun dd_158 he_dd_158 => ?_)
      refine lv_dcmp hx hb dX6_bits_38 ?_
      refine xb_topi (fun y_159 hr_y_159 he_y_159 => ?_)
      have hr_y_159 : -2147483648 ≤ y_159 ∧ y_159 ≤ 2147483647 := hr_y_159
      refine xb_if_ge (tgt := 47) hx hb (by unfold ir; omega) dX6_bits_39 (by decide) (fun c_39 => ?_) (fun c_39 => ?_)
      · refine lv_dload_n hx hb dX6_bits_47 rfl (lv_at hl 1 rfl) ?_
        refine lv_dstore (lv' := [(4, .double (dv x1)), (2, .long (jv (-9223372036854775808))), (0, .double (dv x1))]) hx hb dX6_bits_48 hl (by decide) rfl (fun ls hl => ?_)
        refine lv_iconst (v := iv 0) hx hb dX6_bits_50 rfl ?_
        refine lv_istore (lv' := [(6, .int (iv 0)), (4, .double (dv x1)), (2, .long (jv (-9223372036854775808))), (0, .double (dv x1))]) hx hb dX6_bits_51 hl (by decide) rfl (fun ls hl => ?_)
        refine lv_iconst (v := iv 0) hx hb dX6_bits_53 rfl ?_
        refine lv_istore (lv' := [(7, .int (iv 0)), (6, .int (iv 0)), (4, .double (dv x1)), (2, .long (jv (-9223372036854775808))), (0, .double (dv x1))]) hx hb dX6_bits_54 hl (by decide) rfl (fun ls hl => ?_)
        refine xl (fun n_9 μ' ls => ∃ (d9 : Int), ∃ (p9 : Int), ∃ (i9 : Int), (μ' = μ) ∧ (-2147483648 ≤ p9 ∧ p9 ≤ 2147483647) ∧ (-2147483648 ≤ i9 ∧ i9 ≤ 2147483647) ∧ (0 ≤ i9) ∧ (i9 ≤ 1100) ∧ (0 ≤ p9) ∧ (p9 ≤ i9) ∧ n_9 = Int.toNat (3000 - i9) ∧ lv_has ls 9 [(7, .int (iv i9)), (6, .int (iv p9)), (4, .double (dv d9)), (2, .long (jv (-9223372036854775808))), (0, .double (dv x1))]) (fun n_9 ρ μL160 d0 H locs ls hI_l G ih => ?_) _ _ _ _ _ _ _ ⟨x1, 0, 0, rfl, (by omega), (by omega), (by omega), (by omega), (by omega), (by omega), rfl, lv_sub hl [0, 1, 2, 3, 4] rfl⟩ G
        obtain ⟨d9, p9, i9, FL161, hi_163, hi_164, hi_165, hi_166, hi_167, hi_168, hn162, hl⟩ := hI_l
        have FL161 := Eq.symm FL161
        subst FL161
        refine lv_iload hx hb dX6_bits_56 (lv_at hl 0 rfl) ?_
        refine lv_sipush (v := iv 1100) hx hb dX6_bits_58 rfl ?_
        refine xb_icmp_ge (tgt := 90) hx hb (by unfold ir; omega) (by unfold ir; omega) dX6_bits_61 (by decide) (fun c_61 => ?_) (fun c_61 => ?_)
        · refine lv_iconst (v := iv 0) hx hb dX6_bits_90 rfl ?_
          refine lv_istore (lv' := [(7, .int (iv 0)), (6, .int (iv p9)), (4, .double (dv d9)), (2, .long (jv (-9223372036854775808))), (0, .double (dv x1))]) hx hb dX6_bits_91 hl (by decide) rfl (fun ls hl => ?_)
          refine xl (fun n_9 μ' ls => ∃ (d8 : Int), ∃ (p8 : Int), ∃ (j9 : Int), (μ' = μ) ∧ (-2147483648 ≤ p8 ∧ p8 ≤ 2147483647) ∧ (-2147483648 ≤ j9 ∧ j9 ≤ 2147483647) ∧ (0 ≤ j9) ∧ (j9 ≤ 1100) ∧ (p8 ≤ 1100) ∧ (0 ≤ p8 + j9) ∧ n_9 = Int.toNat (3000 - j9) ∧ lv_has ls 9 [(7, .int (iv j9)), (6, .int (iv p8)), (4, .double (dv d8)), (2, .long (jv (-9223372036854775808))), (0, .double (dv x1))]) (fun n_9 ρ μL169 d0 H locs ls hI_l G ih => ?_) _ _ _ _ _ _ _ ⟨d9, p9, 0, rfl, (by omega), (by omega), (by omega), (by omega), (by omega), (by omega), rfl, lv_sub hl [0, 1, 2, 3, 4] rfl⟩ G
          obtain ⟨d8, p8, j9, FL170, hi_172, hi_173, hi_174, hi_175, hi_176, hi_177, hn171, hl⟩ := hI_l
          have FL170 := Eq.symm FL170
          subst FL170
          refine lv_iload hx hb dX6_bits_93 (lv_at hl 0 rfl) ?_
          refine lv_sipush (v := iv 1100) hx hb dX6_bits_95 rfl ?_
          refine xb_icmp_ge (tgt := 125) hx hb (by unfold ir; omega) (by unfold ir; omega) dX6_bits_98 (by decide) (fun c_98 => ?_) (fun c_98 => ?_)
          · refine lv_dload hx hb dX6_bits_125 (lv_at hl 2 rfl) ?_
            refine lv_ldc2d (s := s.setDrawn d0) hx hb G.1.2.2.2.1 (dr_words G.1.2.2.2.2 d0 _ (wm 6 112 rfl rfl)) dX6_bits_127 ?_
            refine xb_topd (fun dd_178 he_dd_178 => ?_)
            refine xd_dmul G dX6_bits_130 (fun dd_179 d0 G => ?_)
            refine lv_d2l hx hb dX6_bits_131 ?_
            refine xb_topl (fun z_180 hr_z_180 he_z_180 => ?_)
            refine lv_lstore (lv' := [(7, .long (jv z_180)), (6, .int (iv p8)), (4, .double (dv d8)), (2, .long (jv (-9223372036854775808))), (0, .double (dv x1))]) hx hb dX6_bits_132 hl (by decide) rfl (fun ls hl => ?_)
            refine lv_iload hx hb dX6_bits_134 (lv_at hl 1 rfl) ?_
            refine lv_sipush (v := iv (-1022)) hx hb dX6_bits_136 rfl ?_
            refine xb_icmp_ge (tgt := 154) hx hb (by unfold ir; omega) (by unfold ir; omega) dX6_bits_139 (by decide) (fun c_139 => ?_) (fun c_139 => ?_)
            · refine lv_lload_n hx hb dX6_bits_154 rfl (lv_at hl 3 rfl) ?_
              refine lv_iload hx hb dX6_bits_155 (lv_at hl 1 rfl) ?_
              refine lv_sipush (v := iv 1023) hx hb dX6_bits_157 rfl ?_
              refine xb_iadd hx hb dX6_bits_160 ?_
              refine xb_i2l hx hb (by unfold ir; omega) dX6_bits_161 ?_
              refine lv_bipush (v := iv 52) hx hb dX6_bits_162 rfl ?_
              refine lv_lshl hx hb dX6_bits_164 rfl ?_
              refine xb_topl (fun z_181 hr_z_181 he_z_181 => ?_)
              refine lv_lor hx hb dX6_bits_165 ?_
              refine xb_topl (fun z_182 hr_z_182 he_z_182 => ?_)
              refine lv_lload hx hb dX6_bits_166 (lv_at hl 0 rfl) ?_
              refine lv_ldc2 (s := s.setDrawn d0) hx hb G.1.2.2.2.1 (dr_words G.1.2.2.2.2 d0 _ (wm 6 113 rfl rfl)) dX6_bits_168 ?_
              refine xb_litl (x := 4503599627370496) (by decide) ?_
              refine xb_lsub hx hb dX6_bits_171 ?_
              refine xb_topl (fun z_183 hr_z_183 he_z_183 => ?_)
              refine lv_lor hx hb dX6_bits_172 ?_
              refine xb_topl (fun z_184 hr_z_184 he_z_184 => ?_)
              exact xr_l G (x := z_184) hret hlk hr_z_184 dX6_bits_173 rfl
            · refine lv_lload_n hx hb dX6_bits_142 rfl (lv_at hl 3 rfl) ?_
              refine lv_lload hx hb dX6_bits_143 (lv_at hl 0 rfl) ?_
              refine lv_sipush (v := iv (-1022)) hx hb dX6_bits_145 rfl ?_
              refine lv_iload hx hb dX6_bits_148 (lv_at hl 1 rfl) ?_
              refine xb_isub hx hb dX6_bits_150 ?_
              refine lv_lshr hx hb dX6_bits_151 rfl ?_
              refine xb_topl (fun z_185 hr_z_185 he_z_185 => ?_)
              refine lv_lor hx hb dX6_bits_152 ?_
              refine xb_topl (fun z_186 hr_z_186 he_z_186 => ?_)
              exact xr_l G (x := z_186) hret hlk hr_z_186 dX6_bits_153 rfl
          · refine lv_dload hx hb dX6_bits_101 (lv_at hl 2 rfl) ?_
            refine lv_dconst1 hx hb dX6_bits_103 ?_
            refine xb_topd (fun dd_187 he_dd_187 => ?_)
            refine lv_dcmp hx hb dX6_bits_104 ?_
            refine xb_topi (fun y_188 hr_y_188 he_y_188 => ?_)
            have hr_y_188 : -2147483648 ≤ y_188 ∧ y_188 ≤ 2147483647 := hr_y_188
            refine xb_if_ge (tgt := 125) hx hb (by unfold ir; omega) dX6_bits_105 (by decide) (fun c_105 => ?_) (fun c_105 => ?_)
            · refine lv_dload hx hb dX6_bits_125 (lv_at hl 2 rfl) ?_
              refine lv_ldc2d (s := s.setDrawn d0) hx hb G.1.2.2.2.1 (dr_words G.1.2.2.2.2 d0 _ (wm 6 112 rfl rfl)) dX6_bits_127 ?_
              refine xb_topd (fun dd_189 he_dd_189 => ?_)
              refine xd_dmul G dX6_bits_130 (fun dd_190 d0 G => ?_)
              refine lv_d2l hx hb dX6_bits_131 ?_
              refine xb_topl (fun z_191 hr_z_191 he_z_191 => ?_)
              refine lv_lstore (lv' := [(7, .long (jv z_191)), (6, .int (iv p8)), (4, .double (dv d8)), (2, .long (jv (-9223372036854775808))), (0, .double (dv x1))]) hx hb dX6_bits_132 hl (by decide) rfl (fun ls hl => ?_)
              refine lv_iload hx hb dX6_bits_134 (lv_at hl 1 rfl) ?_
              refine lv_sipush (v := iv (-1022)) hx hb dX6_bits_136 rfl ?_
              refine xb_icmp_ge (tgt := 154) hx hb (by unfold ir; omega) (by unfold ir; omega) dX6_bits_139 (by decide) (fun c_139 => ?_) (fun c_139 => ?_)
              · refine lv_lload_n hx hb dX6_bits_154 rfl (lv_at hl 3 rfl) ?_
                refine lv_iload hx hb dX6_bits_155 (lv_at hl 1 rfl) ?_
                refine lv_sipush (v := iv 1023) hx hb dX6_bits_157 rfl ?_
                refine xb_iadd hx hb dX6_bits_160 ?_
                refine xb_i2l hx hb (by unfold ir; omega) dX6_bits_161 ?_
                refine lv_bipush (v := iv 52) hx hb dX6_bits_162 rfl ?_
                refine lv_lshl hx hb dX6_bits_164 rfl ?_
                refine xb_topl (fun z_192 hr_z_192 he_z_192 => ?_)
                refine lv_lor hx hb dX6_bits_165 ?_
                refine xb_topl (fun z_193 hr_z_193 he_z_193 => ?_)
                refine lv_lload hx hb dX6_bits_166 (lv_at hl 0 rfl) ?_
                refine lv_ldc2 (s := s.setDrawn d0) hx hb G.1.2.2.2.1 (dr_words G.1.2.2.2.2 d0 _ (wm 6 113 rfl rfl)) dX6_bits_168 ?_
                refine xb_litl (x := 4503599627370496) (by decide) ?_
                refine xb_lsub hx hb dX6_bits_171 ?_
                refine xb_topl (fun z_194 hr_z_194 he_z_194 => ?_)
                refine lv_lor hx hb dX6_bits_172 ?_
                refine xb_topl (fun z_195 hr_z_195 he_z_195 => ?_)
                exact xr_l G (x := z_195) hret hlk hr_z_195 dX6_bits_173 rfl
              · refine lv_lload_n hx hb dX6_bits_142 rfl (lv_at hl 3 rfl) ?_
                refine lv_lload hx hb dX6_bits_143 (lv_at hl 0 rfl) ?_
                refine lv_sipush (v := iv (-1022)) hx hb dX6_bits_145 rfl ?_
                refine lv_iload hx hb dX6_bits_148 (lv_at hl 1 rfl) ?_
                refine xb_isub hx hb dX6_bits_150 ?_
                refine lv_lshr hx hb dX6_bits_151 rfl ?_
                refine xb_topl (fun z_196 hr_z_196 he_z_196 => ?_)
                refine lv_lor hx hb dX6_bits_152 ?_
                refine xb_topl (fun z_197 hr_z_197 he_z_197 => ?_)
                exact xr_l G (x := z_197) hret hlk hr_z_197 dX6_bits_153 rfl
            · refine lv_dload hx hb dX6_bits_108 (lv_at hl 2 rfl) ?_
              refine lv_ldc2d (s := s.setDrawn d0) hx hb G.1.2.2.2.1 (dr_words G.1.2.2.2.2 d0 _ (wm 6 110 rfl rfl)) dX6_bits_110 ?_
              refine xb_topd (fun dd_198 he_dd_198 => ?_)
              refine xd_dmul G dX6_bits_113 (fun dd_199 d0 G => ?_)
              refine lv_dstore (lv' := [(4, .double (dv dd_199)), (7, .int (iv j9)), (6, .int (iv p8)), (2, .long (jv (-9223372036854775808))), (0, .double (dv x1))]) hx hb dX6_bits_114 hl (by decide) rfl (fun ls hl => ?_)
              refine lv_iinc (v := iv (p8 - 1)) (lv' := [(6, .int (iv (p8 - 1))), (4, .double (dv dd_199)), (7, .int (iv j9)), (2, .long (jv (-9223372036854775808))), (0, .double (dv x1))]) hx hb dX6_bits_116 hl (k := 2) rfl (by rw [show Int32.ofInt (-1) = iv (-1) from rfl, iv_add] <;> (congr 1 <;> omega)) (by decide) rfl (fun ls hl => ?_)
              refine lv_iinc (v := iv (j9 + 1)) (lv' := [(7, .int (iv (j9 + 1))), (6, .int (iv (p8 - 1))), (4, .double (dv dd_199)), (2, .long (jv (-9223372036854775808))), (0, .double (dv x1))]) hx hb dX6_bits_119 hl (k := 2) rfl (by rw [show Int32.ofInt 1 = iv 1 from rfl, iv_add]) (by decide) rfl (fun ls hl => ?_)
              refine lv_goto (tgt := 93) hx hb dX6_bits_122 (by decide) ?_
              exact ih _ _ _ _ _ _ _ (by omega) ⟨dd_199, p8 - 1, j9 + 1, rfl, (by omega), (by omega), (by omega), (by omega), (by omega), (by omega), rfl, lv_sub hl [0, 1, 2, 3, 4] rfl⟩ G
        · refine lv_dload hx hb dX6_bits_64 (lv_at hl 2 rfl) ?_
          refine lv_ldc2d (s := s.setDrawn d0) hx hb G.1.2.2.2.1 (dr_words G.1.2.2.2.2 d0 _ (wm 6 110 rfl rfl)) dX6_bits_66 ?_
          refine xb_topd (fun dd_200 he_dd_200 => ?_)
          refine lv_dcmp hx hb dX6_bits_69 ?_
          refine xb_topi (fun y_201 hr_y_201 he_y_201 => ?_)
          have hr_y_201 : -2147483648 ≤ y_201 ∧ y_201 ≤ 2147483647 := hr_y_201
          refine xb_if_lt (tgt := 90) hx hb (by unfold ir; omega) dX6_bits_70 (by decide) (fun c_70 => ?_) (fun c_70 => ?_)
          · refine lv_iconst (v := iv 0) hx hb dX6_bits_90 rfl ?_
            refine lv_istore (lv' := [(7, .int (iv 0)), (6, .int (iv p9)), (4, .double (dv d9)), (2, .long (jv (-9223372036854775808))), (0, .double (dv x1))]) hx hb dX6_bits_91 hl (by decide) rfl (fun ls hl => ?_)
            refine xl (fun n_9 μ' ls => ∃ (d8 : Int), ∃ (p8 : Int), ∃ (j9 : Int), (μ' = μ) ∧ (-2147483648 ≤ p8 ∧ p8 ≤ 2147483647) ∧ (-2147483648 ≤ j9 ∧ j9 ≤ 2147483647) ∧ (0 ≤ j9) ∧ (j9 ≤ 1100) ∧ (p8 ≤ 1100) ∧ (0 ≤ p8 + j9) ∧ n_9 = Int.toNat (3000 - j9) ∧ lv_has ls 9 [(7, .int (iv j9)), (6, .int (iv p8)), (4, .double (dv d8)), (2, .long (jv (-9223372036854775808))), (0, .double (dv x1))]) (fun n_9 ρ μL202 d0 H locs ls hI_l G ih => ?_) _ _ _ _ _ _ _ ⟨d9, p9, 0, rfl, (by omega), (by omega), (by omega), (by omega), (by omega), (by omega), rfl, lv_sub hl [0, 1, 2, 3, 4] rfl⟩ G
            obtain ⟨d8, p8, j9, FL203, hi_205, hi_206, hi_207, hi_208, hi_209, hi_210, hn204, hl⟩ := hI_l
            have FL203 := Eq.symm FL203
            subst FL203
            refine lv_iload hx hb dX6_bits_93 (lv_at hl 0 rfl) ?_
            refine lv_sipush (v := iv 1100) hx hb dX6_bits_95 rfl ?_
            refine xb_icmp_ge (tgt := 125) hx hb (by unfold ir; omega) (by unfold ir; omega) dX6_bits_98 (by decide) (fun c_98 => ?_) (fun c_98 => ?_)
            · refine lv_dload hx hb dX6_bits_125 (lv_at hl 2 rfl) ?_
              refine lv_ldc2d (s := s.setDrawn d0) hx hb G.1.2.2.2.1 (dr_words G.1.2.2.2.2 d0 _ (wm 6 112 rfl rfl)) dX6_bits_127 ?_
              refine xb_topd (fun dd_211 he_dd_211 => ?_)
              refine xd_dmul G dX6_bits_130 (fun dd_212 d0 G => ?_)
              refine lv_d2l hx hb dX6_bits_131 ?_
              refine xb_topl (fun z_213 hr_z_213 he_z_213 => ?_)
              refine lv_lstore (lv' := [(7, .long (jv z_213)), (6, .int (iv p8)), (4, .double (dv d8)), (2, .long (jv (-9223372036854775808))), (0, .double (dv x1))]) hx hb dX6_bits_132 hl (by decide) rfl (fun ls hl => ?_)
              refine lv_iload hx hb dX6_bits_134 (lv_at hl 1 rfl) ?_
              refine lv_sipush (v := iv (-1022)) hx hb dX6_bits_136 rfl ?_
              refine xb_icmp_ge (tgt := 154) hx hb (by unfold ir; omega) (by unfold ir; omega) dX6_bits_139 (by decide) (fun c_139 => ?_) (fun c_139 => ?_)
              · refine lv_lload_n hx hb dX6_bits_154 rfl (lv_at hl 3 rfl) ?_
                refine lv_iload hx hb dX6_bits_155 (lv_at hl 1 rfl) ?_
                refine lv_sipush (v := iv 1023) hx hb dX6_bits_157 rfl ?_
                refine xb_iadd hx hb dX6_bits_160 ?_
                refine xb_i2l hx hb (by unfold ir; omega) dX6_bits_161 ?_
                refine lv_bipush (v := iv 52) hx hb dX6_bits_162 rfl ?_
                refine lv_lshl hx hb dX6_bits_164 rfl ?_
                refine xb_topl (fun z_214 hr_z_214 he_z_214 => ?_)
                refine lv_lor hx hb dX6_bits_165 ?_
                refine xb_topl (fun z_215 hr_z_215 he_z_215 => ?_)
                refine lv_lload hx hb dX6_bits_166 (lv_at hl 0 rfl) ?_
                refine lv_ldc2 (s := s.setDrawn d0) hx hb G.1.2.2.2.1 (dr_words G.1.2.2.2.2 d0 _ (wm 6 113 rfl rfl)) dX6_bits_168 ?_
                refine xb_litl (x := 4503599627370496) (by decide) ?_
                refine xb_lsub hx hb dX6_bits_171 ?_
                refine xb_topl (fun z_216 hr_z_216 he_z_216 => ?_)
                refine lv_lor hx hb dX6_bits_172 ?_
                refine xb_topl (fun z_217 hr_z_217 he_z_217 => ?_)
                exact xr_l G (x := z_217) hret hlk hr_z_217 dX6_bits_173 rfl
              · refine lv_lload_n hx hb dX6_bits_142 rfl (lv_at hl 3 rfl) ?_
                refine lv_lload hx hb dX6_bits_143 (lv_at hl 0 rfl) ?_
                refine lv_sipush (v := iv (-1022)) hx hb dX6_bits_145 rfl ?_
                refine lv_iload hx hb dX6_bits_148 (lv_at hl 1 rfl) ?_
                refine xb_isub hx hb dX6_bits_150 ?_
                refine lv_lshr hx hb dX6_bits_151 rfl ?_
                refine xb_topl (fun z_218 hr_z_218 he_z_218 => ?_)
                refine lv_lor hx hb dX6_bits_152 ?_
                refine xb_topl (fun z_219 hr_z_219 he_z_219 => ?_)
                exact xr_l G (x := z_219) hret hlk hr_z_219 dX6_bits_153 rfl
            · refine lv_dload hx hb dX6_bits_101 (lv_at hl 2 rfl) ?_
              refine lv_dconst1 hx hb dX6_bits_103 ?_
              refine xb_topd (fun dd_220 he_dd_220 => ?_)
              refine lv_dcmp hx hb dX6_bits_104 ?_
              refine xb_topi (fun y_221 hr_y_221 he_y_221 => ?_)
              have hr_y_221 : -2147483648 ≤ y_221 ∧ y_221 ≤ 2147483647 := hr_y_221
              refine xb_if_ge (tgt := 125) hx hb (by unfold ir; omega) dX6_bits_105 (by decide) (fun c_105 => ?_) (fun c_105 => ?_)
              · refine lv_dload hx hb dX6_bits_125 (lv_at hl 2 rfl) ?_
                refine lv_ldc2d (s := s.setDrawn d0) hx hb G.1.2.2.2.1 (dr_words G.1.2.2.2.2 d0 _ (wm 6 112 rfl rfl)) dX6_bits_127 ?_
                refine xb_topd (fun dd_222 he_dd_222 => ?_)
                refine xd_dmul G dX6_bits_130 (fun dd_223 d0 G => ?_)
                refine lv_d2l hx hb dX6_bits_131 ?_
                refine xb_topl (fun z_224 hr_z_224 he_z_224 => ?_)
                refine lv_lstore (lv' := [(7, .long (jv z_224)), (6, .int (iv p8)), (4, .double (dv d8)), (2, .long (jv (-9223372036854775808))), (0, .double (dv x1))]) hx hb dX6_bits_132 hl (by decide) rfl (fun ls hl => ?_)
                refine lv_iload hx hb dX6_bits_134 (lv_at hl 1 rfl) ?_
                refine lv_sipush (v := iv (-1022)) hx hb dX6_bits_136 rfl ?_
                refine xb_icmp_ge (tgt := 154) hx hb (by unfold ir; omega) (by unfold ir; omega) dX6_bits_139 (by decide) (fun c_139 => ?_) (fun c_139 => ?_)
                · refine lv_lload_n hx hb dX6_bits_154 rfl (lv_at hl 3 rfl) ?_
                  refine lv_iload hx hb dX6_bits_155 (lv_at hl 1 rfl) ?_
                  refine lv_sipush (v := iv 1023) hx hb dX6_bits_157 rfl ?_
                  refine xb_iadd hx hb dX6_bits_160 ?_
                  refine xb_i2l hx hb (by unfold ir; omega) dX6_bits_161 ?_
                  refine lv_bipush (v := iv 52) hx hb dX6_bits_162 rfl ?_
                  refine lv_lshl hx hb dX6_bits_164 rfl ?_
                  refine xb_topl (fun z_225 hr_z_225 he_z_225 => ?_)
                  refine lv_lor hx hb dX6_bits_165 ?_
                  refine xb_topl (fun z_226 hr_z_226 he_z_226 => ?_)
                  refine lv_lload hx hb dX6_bits_166 (lv_at hl 0 rfl) ?_
                  refine lv_ldc2 (s := s.setDrawn d0) hx hb G.1.2.2.2.1 (dr_words G.1.2.2.2.2 d0 _ (wm 6 113 rfl rfl)) dX6_bits_168 ?_
                  refine xb_litl (x := 4503599627370496) (by decide) ?_
                  refine xb_lsub hx hb dX6_bits_171 ?_
                  refine xb_topl (fun z_227 hr_z_227 he_z_227 => ?_)
                  refine lv_lor hx hb dX6_bits_172 ?_
                  refine xb_topl (fun z_228 hr_z_228 he_z_228 => ?_)
                  exact xr_l G (x := z_228) hret hlk hr_z_228 dX6_bits_173 rfl
                · refine lv_lload_n hx hb dX6_bits_142 rfl (lv_at hl 3 rfl) ?_
                  refine lv_lload hx hb dX6_bits_143 (lv_at hl 0 rfl) ?_
                  refine lv_sipush (v := iv (-1022)) hx hb dX6_bits_145 rfl ?_
                  refine lv_iload hx hb dX6_bits_148 (lv_at hl 1 rfl) ?_
                  refine xb_isub hx hb dX6_bits_150 ?_
                  refine lv_lshr hx hb dX6_bits_151 rfl ?_
                  refine xb_topl (fun z_229 hr_z_229 he_z_229 => ?_)
                  refine lv_lor hx hb dX6_bits_152 ?_
                  refine xb_topl (fun z_230 hr_z_230 he_z_230 => ?_)
                  exact xr_l G (x := z_230) hret hlk hr_z_230 dX6_bits_153 rfl
              · refine lv_dload hx hb dX6_bits_108 (lv_at hl 2 rfl) ?_
                refine lv_ldc2d (s := s.setDrawn d0) hx hb G.1.2.2.2.1 (dr_words G.1.2.2.2.2 d0 _ (wm 6 110 rfl rfl)) dX6_bits_110 ?_
                refine xb_topd (fun dd_231 he_dd_231 => ?_)
                refine xd_dmul G dX6_bits_113 (fun dd_232 d0 G => ?_)
                refine lv_dstore (lv' := [(4, .double (dv dd_232)), (7, .int (iv j9)), (6, .int (iv p8)), (2, .long (jv (-9223372036854775808))), (0, .double (dv x1))]) hx hb dX6_bits_114 hl (by decide) rfl (fun ls hl => ?_)
                refine lv_iinc (v := iv (p8 - 1)) (lv' := [(6, .int (iv (p8 - 1))), (4, .double (dv dd_232)), (7, .int (iv j9)), (2, .long (jv (-9223372036854775808))), (0, .double (dv x1))]) hx hb dX6_bits_116 hl (k := 2) rfl (by rw [show Int32.ofInt (-1) = iv (-1) from rfl, iv_add] <;> (congr 1 <;> omega)) (by decide) rfl (fun ls hl => ?_)
                refine lv_iinc (v := iv (j9 + 1)) (lv' := [(7, .int (iv (j9 + 1))), (6, .int (iv (p8 - 1))), (4, .double (dv dd_232)), (2, .long (jv (-9223372036854775808))), (0, .double (dv x1))]) hx hb dX6_bits_119 hl (k := 2) rfl (by rw [show Int32.ofInt 1 = iv 1 from rfl, iv_add]) (by decide) rfl (fun ls hl => ?_)
                refine lv_goto (tgt := 93) hx hb dX6_bits_122 (by decide) ?_
                exact ih _ _ _ _ _ _ _ (by omega) ⟨dd_232, p8 - 1, j9 + 1, rfl, (by omega), (by omega), (by omega), (by omega), (by omega), (by omega), rfl, lv_sub hl [0, 1, 2, 3, 4] rfl⟩ G
          · refine lv_dload hx hb dX6_bits_73 (lv_at hl 2 rfl) ?_
            refine lv_ldc2d (s := s.setDrawn d0) hx hb G.1.2.2.2.1 (dr_words G.1.2.2.2.2 d0 _ (wm 6 111 rfl rfl)) dX6_bits_75 ?_
            refine xb_topd (fun dd_233 he_dd_233 => ?_)
            refine xd_dmul G dX6_bits_78 (fun dd_234 d0 G => ?_)
            refine lv_dstore (lv' := [(4, .double (dv dd_234)), (7, .int (iv i9)), (6, .int (iv p9)), (2, .long (jv (-9223372036854775808))), (0, .double (dv x1))]) hx hb dX6_bits_79 hl (by decide) rfl (fun ls hl => ?_)
            refine lv_iinc (v := iv (p9 + 1)) (lv' := [(6, .int (iv (p9 + 1))), (4, .double (dv dd_234)), (7, .int (iv i9)), (2, .long (jv (-9223372036854775808))), (0, .double (dv x1))]) hx hb dX6_bits_81 hl (k := 2) rfl (by rw [show Int32.ofInt 1 = iv 1 from rfl, iv_add]) (by decide) rfl (fun ls hl => ?_)
            refine lv_iinc (v := iv (i9 + 1)) (lv' := [(7, .int (iv (i9 + 1))), (6, .int (iv (p9 + 1))), (4, .double (dv dd_234)), (2, .long (jv (-9223372036854775808))), (0, .double (dv x1))]) hx hb dX6_bits_84 hl (k := 2) rfl (by rw [show Int32.ofInt 1 = iv 1 from rfl, iv_add]) (by decide) rfl (fun ls hl => ?_)
            refine lv_goto (tgt := 56) hx hb dX6_bits_87 (by decide) ?_
            exact ih _ _ _ _ _ _ _ (by omega) ⟨dd_234, p9 + 1, i9 + 1, rfl, (by omega), (by omega), (by omega), (by omega), (by omega), (by omega), rfl, lv_sub hl [0, 1, 2, 3, 4] rfl⟩ G
      · refine lv_dload_n hx hb dX6_bits_42 rfl (lv_at hl 1 rfl) ?_
        refine lv_dneg hx hb dX6_bits_43 ?_
        refine xb_topd (fun dd_235 he_dd_235 => ?_)
        refine lv_goto (tgt := 48) hx hb dX6_bits_44 (by decide) ?_
        refine lv_dstore (lv' := [(4, .double (dv dd_235)), (2, .long (jv (-9223372036854775808))), (0, .double (dv x1))]) hx hb dX6_bits_48 hl (by decide) rfl (fun ls hl => ?_)
        refine lv_iconst (v := iv 0) hx hb dX6_bits_50 rfl ?_
        refine lv_istore (lv' := [(6, .int (iv 0)), (4, .double (dv dd_235)), (2, .long (jv (-9223372036854775808))), (0, .double (dv x1))]) hx hb dX6_bits_51 hl (by decide) rfl (fun ls hl => ?_)
        refine lv_iconst (v := iv 0) hx hb dX6_bits_53 rfl ?_
        refine lv_istore (lv' := [(7, .int (iv 0)), (6, .int (iv 0)), (4, .double (dv dd_235)), (2, .long (jv (-9223372036854775808))), (0, .double (dv x1))]) hx hb dX6_bits_54 hl (by decide) rfl (fun ls hl => ?_)
        refine xl (fun n_9 μ' ls => ∃ (d9 : Int), ∃ (p9 : Int), ∃ (i9 : Int), (μ' = μ) ∧ (-2147483648 ≤ p9 ∧ p9 ≤ 2147483647) ∧ (-2147483648 ≤ i9 ∧ i9 ≤ 2147483647) ∧ (0 ≤ i9) ∧ (i9 ≤ 1100) ∧ (0 ≤ p9) ∧ (p9 ≤ i9) ∧ n_9 = Int.toNat (3000 - i9) ∧ lv_has ls 9 [(7, .int (iv i9)), (6, .int (iv p9)), (4, .double (dv d9)), (2, .long (jv (-9223372036854775808))), (0, .double (dv x1))]) (fun n_9 ρ μL236 d0 H locs ls hI_l G ih => ?_) _ _ _ _ _ _ _ ⟨dd_235, 0, 0, rfl, (by omega), (by omega), (by omega), (by omega), (by omega), (by omega), rfl, lv_sub hl [0, 1, 2, 3, 4] rfl⟩ G
        obtain ⟨d9, p9, i9, FL237, hi_239, hi_240, hi_241, hi_242, hi_243, hi_244, hn238, hl⟩ := hI_l
        have FL237 := Eq.symm FL237
        subst FL237
        refine lv_iload hx hb dX6_bits_56 (lv_at hl 0 rfl) ?_
        refine lv_sipush (v := iv 1100) hx hb dX6_bits_58 rfl ?_
        refine xb_icmp_ge (tgt := 90) hx hb (by unfold ir; omega) (by unfold ir; omega) dX6_bits_61 (by decide) (fun c_61 => ?_) (fun c_61 => ?_)
        · refine lv_iconst (v := iv 0) hx hb dX6_bits_90 rfl ?_
          refine lv_istore (lv' := [(7, .int (iv 0)), (6, .int (iv p9)), (4, .double (dv d9)), (2, .long (jv (-9223372036854775808))), (0, .double (dv x1))]) hx hb dX6_bits_91 hl (by decide) rfl (fun ls hl => ?_)
          refine xl (fun n_9 μ' ls => ∃ (d8 : Int), ∃ (p8 : Int), ∃ (j9 : Int), (μ' = μ) ∧ (-2147483648 ≤ p8 ∧ p8 ≤ 2147483647) ∧ (-2147483648 ≤ j9 ∧ j9 ≤ 2147483647) ∧ (0 ≤ j9) ∧ (j9 ≤ 1100) ∧ (p8 ≤ 1100) ∧ (0 ≤ p8 + j9) ∧ n_9 = Int.toNat (3000 - j9) ∧ lv_has ls 9 [(7, .int (iv j9)), (6, .int (iv p8)), (4, .double (dv d8)), (2, .long (jv (-9223372036854775808))), (0, .double (dv x1))]) (fun n_9 ρ μL245 d0 H locs ls hI_l G ih => ?_) _ _ _ _ _ _ _ ⟨d9, p9, 0, rfl, (by omega), (by omega), (by omega), (by omega), (by omega), (by omega), rfl, lv_sub hl [0, 1, 2, 3, 4] rfl⟩ G
          obtain ⟨d8, p8, j9, FL246, hi_248, hi_249, hi_250, hi_251, hi_252, hi_253, hn247, hl⟩ := hI_l
          have FL246 := Eq.symm FL246
          subst FL246
          refine lv_iload hx hb dX6_bits_93 (lv_at hl 0 rfl) ?_
          refine lv_sipush (v := iv 1100) hx hb dX6_bits_95 rfl ?_
          refine xb_icmp_ge (tgt := 125) hx hb (by unfold ir; omega) (by unfold ir; omega) dX6_bits_98 (by decide) (fun c_98 => ?_) (fun c_98 => ?_)
          · refine lv_dload hx hb dX6_bits_125 (lv_at hl 2 rfl) ?_
            refine lv_ldc2d (s := s.setDrawn d0) hx hb G.1.2.2.2.1 (dr_words G.1.2.2.2.2 d0 _ (wm 6 112 rfl rfl)) dX6_bits_127 ?_
            refine xb_topd (fun dd_254 he_dd_254 => ?_)
            refine xd_dmul G dX6_bits_130 (fun dd_255 d0 G => ?_)
            refine lv_d2l hx hb dX6_bits_131 ?_
            refine xb_topl (fun z_256 hr_z_256 he_z_256 => ?_)
            refine lv_lstore (lv' := [(7, .long (jv z_256)), (6, .int (iv p8)), (4, .double (dv d8)), (2, .long (jv (-9223372036854775808))), (0, .double (dv x1))]) hx hb dX6_bits_132 hl (by decide) rfl (fun ls hl => ?_)
            refine lv_iload hx hb dX6_bits_134 (lv_at hl 1 rfl) ?_
            refine lv_sipush (v := iv (-1022)) hx hb dX6_bits_136 rfl ?_
            refine xb_icmp_ge (tgt := 154) hx hb (by unfold ir; omega) (by unfold ir; omega) dX6_bits_139 (by decide) (fun c_139 => ?_) (fun c_139 => ?_)
            · refine lv_lload_n hx hb dX6_bits_154 rfl (lv_at hl 3 rfl) ?_
              refine lv_iload hx hb dX6_bits_155 (lv_at hl 1 rfl) ?_
              refine lv_sipush (v := iv 1023) hx hb dX6_bits_157 rfl ?_
              refine xb_iadd hx hb dX6_bits_160 ?_
              refine xb_i2l hx hb (by unfold ir; omega) dX6_bits_161 ?_
              refine lv_bipush (v := iv 52) hx hb dX6_bits_162 rfl ?_
              refine lv_lshl hx hb dX6_bits_164 rfl ?_
              refine xb_topl (fun z_257 hr_z_257 he_z_257 => ?_)
              refine lv_lor hx hb dX6_bits_165 ?_
              refine xb_topl (fun z_258 hr_z_258 he_z_258 => ?_)
              refine lv_lload hx hb dX6_bits_166 (lv_at hl 0 rfl) ?_
              refine lv_ldc2 (s := s.setDrawn d0) hx hb G.1.2.2.2.1 (dr_words G.1.2.2.2.2 d0 _ (wm 6 113 rfl rfl)) dX6_bits_168 ?_
              refine xb_litl (x := 4503599627370496) (by decide) ?_
              refine xb_lsub hx hb dX6_bits_171 ?_
              refine xb_topl (fun z_259 hr_z_259 he_z_259 => ?_)
              refine lv_lor hx hb dX6_bits_172 ?_
              refine xb_topl (fun z_260 hr_z_260 he_z_260 => ?_)
              exact xr_l G (x := z_260) hret hlk hr_z_260 dX6_bits_173 rfl
            · refine lv_lload_n hx hb dX6_bits_142 rfl (lv_at hl 3 rfl) ?_
              refine lv_lload hx hb dX6_bits_143 (lv_at hl 0 rfl) ?_
              refine lv_sipush (v := iv (-1022)) hx hb dX6_bits_145 rfl ?_
              refine lv_iload hx hb dX6_bits_148 (lv_at hl 1 rfl) ?_
              refine xb_isub hx hb dX6_bits_150 ?_
              refine lv_lshr hx hb dX6_bits_151 rfl ?_
              refine xb_topl (fun z_261 hr_z_261 he_z_261 => ?_)
              refine lv_lor hx hb dX6_bits_152 ?_
              refine xb_topl (fun z_262 hr_z_262 he_z_262 => ?_)
              exact xr_l G (x := z_262) hret hlk hr_z_262 dX6_bits_153 rfl
          · refine lv_dload hx hb dX6_bits_101 (lv_at hl 2 rfl) ?_
            refine lv_dconst1 hx hb dX6_bits_103 ?_
            refine xb_topd (fun dd_263 he_dd_263 => ?_)
            refine lv_dcmp hx hb dX6_bits_104 ?_
            refine xb_topi (fun y_264 hr_y_264 he_y_264 => ?_)
            have hr_y_264 : -2147483648 ≤ y_264 ∧ y_264 ≤ 2147483647 := hr_y_264
            refine xb_if_ge (tgt := 125) hx hb (by unfold ir; omega) dX6_bits_105 (by decide) (fun c_105 => ?_) (fun c_105 => ?_)
            · refine lv_dload hx hb dX6_bits_125 (lv_at hl 2 rfl) ?_
              refine lv_ldc2d (s := s.setDrawn d0) hx hb G.1.2.2.2.1 (dr_words G.1.2.2.2.2 d0 _ (wm 6 112 rfl rfl)) dX6_bits_127 ?_
              refine xb_topd (fun dd_265 he_dd_265 => ?_)
              refine xd_dmul G dX6_bits_130 (fun dd_266 d0 G => ?_)
              refine lv_d2l hx hb dX6_bits_131 ?_
              refine xb_topl (fun z_267 hr_z_267 he_z_267 => ?_)
              refine lv_lstore (lv' := [(7, .long (jv z_267)), (6, .int (iv p8)), (4, .double (dv d8)), (2, .long (jv (-9223372036854775808))), (0, .double (dv x1))]) hx hb dX6_bits_132 hl (by decide) rfl (fun ls hl => ?_)
              refine lv_iload hx hb dX6_bits_134 (lv_at hl 1 rfl) ?_
              refine lv_sipush (v := iv (-1022)) hx hb dX6_bits_136 rfl ?_
              refine xb_icmp_ge (tgt := 154) hx hb (by unfold ir; omega) (by unfold ir; omega) dX6_bits_139 (by decide) (fun c_139 => ?_) (fun c_139 => ?_)
              · refine lv_lload_n hx hb dX6_bits_154 rfl (lv_at hl 3 rfl) ?_
                refine lv_iload hx hb dX6_bits_155 (lv_at hl 1 rfl) ?_
                refine lv_sipush (v := iv 1023) hx hb dX6_bits_157 rfl ?_
                refine xb_iadd hx hb dX6_bits_160 ?_
                refine xb_i2l hx hb (by unfold ir; omega) dX6_bits_161 ?_
                refine lv_bipush (v := iv 52) hx hb dX6_bits_162 rfl ?_
                refine lv_lshl hx hb dX6_bits_164 rfl ?_
                refine xb_topl (fun z_268 hr_z_268 he_z_268 => ?_)
                refine lv_lor hx hb dX6_bits_165 ?_
                refine xb_topl (fun z_269 hr_z_269 he_z_269 => ?_)
                refine lv_lload hx hb dX6_bits_166 (lv_at hl 0 rfl) ?_
                refine lv_ldc2 (s := s.setDrawn d0) hx hb G.1.2.2.2.1 (dr_words G.1.2.2.2.2 d0 _ (wm 6 113 rfl rfl)) dX6_bits_168 ?_
                refine xb_litl (x := 4503599627370496) (by decide) ?_
                refine xb_lsub hx hb dX6_bits_171 ?_
                refine xb_topl (fun z_270 hr_z_270 he_z_270 => ?_)
                refine lv_lor hx hb dX6_bits_172 ?_
                refine xb_topl (fun z_271 hr_z_271 he_z_271 => ?_)
                exact xr_l G (x := z_271) hret hlk hr_z_271 dX6_bits_173 rfl
              · refine lv_lload_n hx hb dX6_bits_142 rfl (lv_at hl 3 rfl) ?_
                refine lv_lload hx hb dX6_bits_143 (lv_at hl 0 rfl) ?_
                refine lv_sipush (v := iv (-1022)) hx hb dX6_bits_145 rfl ?_
                refine lv_iload hx hb dX6_bits_148 (lv_at hl 1 rfl) ?_
                refine xb_isub hx hb dX6_bits_150 ?_
                refine lv_lshr hx hb dX6_bits_151 rfl ?_
                refine xb_topl (fun z_272 hr_z_272 he_z_272 => ?_)
                refine lv_lor hx hb dX6_bits_152 ?_
                refine xb_topl (fun z_273 hr_z_273 he_z_273 => ?_)
                exact xr_l G (x := z_273) hret hlk hr_z_273 dX6_bits_153 rfl
            · refine lv_dload hx hb dX6_bits_108 (lv_at hl 2 rfl) ?_
              refine lv_ldc2d (s := s.setDrawn d0) hx hb G.1.2.2.2.1 (dr_words G.1.2.2.2.2 d0 _ (wm 6 110 rfl rfl)) dX6_bits_110 ?_
              refine xb_topd (fun dd_274 he_dd_274 => ?_)
              refine xd_dmul G dX6_bits_113 (fun dd_275 d0 G => ?_)
              refine lv_dstore (lv' := [(4, .double (dv dd_275)), (7, .int (iv j9)), (6, .int (iv p8)), (2, .long (jv (-9223372036854775808))), (0, .double (dv x1))]) hx hb dX6_bits_114 hl (by decide) rfl (fun ls hl => ?_)
              refine lv_iinc (v := iv (p8 - 1)) (lv' := [(6, .int (iv (p8 - 1))), (4, .double (dv dd_275)), (7, .int (iv j9)), (2, .long (jv (-9223372036854775808))), (0, .double (dv x1))]) hx hb dX6_bits_116 hl (k := 2) rfl (by rw [show Int32.ofInt (-1) = iv (-1) from rfl, iv_add] <;> (congr 1 <;> omega)) (by decide) rfl (fun ls hl => ?_)
              refine lv_iinc (v := iv (j9 + 1)) (lv' := [(7, .int (iv (j9 + 1))), (6, .int (iv (p8 - 1))), (4, .double (dv dd_275)), (2, .long (jv (-9223372036854775808))), (0, .double (dv x1))]) hx hb dX6_bits_119 hl (k := 2) rfl (by rw [show Int32.ofInt 1 = iv 1 from rfl, iv_add]) (by decide) rfl (fun ls hl => ?_)
              refine lv_goto (tgt := 93) hx hb dX6_bits_122 (by decide) ?_
              exact ih _ _ _ _ _ _ _ (by omega) ⟨dd_275, p8 - 1, j9 + 1, rfl, (by omega), (by omega), (by omega), (by omega), (by omega), (by omega), rfl, lv_sub hl [0, 1, 2, 3, 4] rfl⟩ G
        · refine lv_dload hx hb dX6_bits_64 (lv_at hl 2 rfl) ?_
          refine lv_ldc2d (s := s.setDrawn d0) hx hb G.1.2.2.2.1 (dr_words G.1.2.2.2.2 d0 _ (wm 6 110 rfl rfl)) dX6_bits_66 ?_
          refine xb_topd (fun dd_276 he_dd_276 => ?_)
          refine lv_dcmp hx hb dX6_bits_69 ?_
          refine xb_topi (fun y_277 hr_y_277 he_y_277 => ?_)
          have hr_y_277 : -2147483648 ≤ y_277 ∧ y_277 ≤ 2147483647 := hr_y_277
          refine xb_if_lt (tgt := 90) hx hb (by unfold ir; omega) dX6_bits_70 (by decide) (fun c_70 => ?_) (fun c_70 => ?_)
          · refine lv_iconst (v := iv 0) hx hb dX6_bits_90 rfl ?_
            refine lv_istore (lv' := [(7, .int (iv 0)), (6, .int (iv p9)), (4, .double (dv d9)), (2, .long (jv (-9223372036854775808))), (0, .double (dv x1))]) hx hb dX6_bits_91 hl (by decide) rfl (fun ls hl => ?_)
            refine xl (fun n_9 μ' ls => ∃ (d8 : Int), ∃ (p8 : Int), ∃ (j9 : Int), (μ' = μ) ∧ (-2147483648 ≤ p8 ∧ p8 ≤ 2147483647) ∧ (-2147483648 ≤ j9 ∧ j9 ≤ 2147483647) ∧ (0 ≤ j9) ∧ (j9 ≤ 1100) ∧ (p8 ≤ 1100) ∧ (0 ≤ p8 + j9) ∧ n_9 = Int.toNat (3000 - j9) ∧ lv_has ls 9 [(7, .int (iv j9)), (6, .int (iv p8)), (4, .double (dv d8)), (2, .long (jv (-9223372036854775808))), (0, .double (dv x1))]) (fun n_9 ρ μL278 d0 H locs ls hI_l G ih => ?_) _ _ _ _ _ _ _ ⟨d9, p9, 0, rfl, (by omega), (by omega), (by omega), (by omega), (by omega), (by omega), rfl, lv_sub hl [0, 1, 2, 3, 4] rfl⟩ G
            obtain ⟨d8, p8, j9, FL279, hi_281, hi_282, hi_283, hi_284, hi_285, hi_286, hn280, hl⟩ := hI_l
            have FL279 := Eq.symm FL279
            subst FL279
            refine lv_iload hx hb dX6_bits_93 (lv_at hl 0 rfl) ?_
            refine lv_sipush (v := iv 1100) hx hb dX6_bits_95 rfl ?_
            refine xb_icmp_ge (tgt := 125) hx hb (by unfold ir; omega) (by unfold ir; omega) dX6_bits_98 (by decide) (fun c_98 => ?_) (fun c_98 => ?_)
            · refine lv_dload hx hb dX6_bits_125 (lv_at hl 2 rfl) ?_
              refine lv_ldc2d (s := s.setDrawn d0) hx hb G.1.2.2.2.1 (dr_words G.1.2.2.2.2 d0 _ (wm 6 112 rfl rfl)) dX6_bits_127 ?_
              refine xb_topd (fun dd_287 he_dd_287 => ?_)
              refine xd_dmul G dX6_bits_130 (fun dd_288 d0 G => ?_)
              refine lv_d2l hx hb dX6_bits_131 ?_
              refine xb_topl (fun z_289 hr_z_289 he_z_289 => ?_)
              refine lv_lstore (lv' := [(7, .long (jv z_289)), (6, .int (iv p8)), (4, .double (dv d8)), (2, .long (jv (-9223372036854775808))), (0, .double (dv x1))]) hx hb dX6_bits_132 hl (by decide) rfl (fun ls hl => ?_)
              refine lv_iload hx hb dX6_bits_134 (lv_at hl 1 rfl) ?_
              refine lv_sipush (v := iv (-1022)) hx hb dX6_bits_136 rfl ?_
              refine xb_icmp_ge (tgt := 154) hx hb (by unfold ir; omega) (by unfold ir; omega) dX6_bits_139 (by decide) (fun c_139 => ?_) (fun c_139 => ?_)
              · refine lv_lload_n hx hb dX6_bits_154 rfl (lv_at hl 3 rfl) ?_
                refine lv_iload hx hb dX6_bits_155 (lv_at hl 1 rfl) ?_
                refine lv_sipush (v := iv 1023) hx hb dX6_bits_157 rfl ?_
                refine xb_iadd hx hb dX6_bits_160 ?_
                refine xb_i2l hx hb (by unfold ir; omega) dX6_bits_161 ?_
                refine lv_bipush (v := iv 52) hx hb dX6_bits_162 rfl ?_
                refine lv_lshl hx hb dX6_bits_164 rfl ?_
                refine xb_topl (fun z_290 hr_z_290 he_z_290 => ?_)
                refine lv_lor hx hb dX6_bits_165 ?_
                refine xb_topl (fun z_291 hr_z_291 he_z_291 => ?_)
                refine lv_lload hx hb dX6_bits_166 (lv_at hl 0 rfl) ?_
                refine lv_ldc2 (s := s.setDrawn d0) hx hb G.1.2.2.2.1 (dr_words G.1.2.2.2.2 d0 _ (wm 6 113 rfl rfl)) dX6_bits_168 ?_
                refine xb_litl (x := 4503599627370496) (by decide) ?_
                refine xb_lsub hx hb dX6_bits_171 ?_
                refine xb_topl (fun z_292 hr_z_292 he_z_292 => ?_)
                refine lv_lor hx hb dX6_bits_172 ?_
                refine xb_topl (fun z_293 hr_z_293 he_z_293 => ?_)
                exact xr_l G (x := z_293) hret hlk hr_z_293 dX6_bits_173 rfl
              · refine lv_lload_n hx hb dX6_bits_142 rfl (lv_at hl 3 rfl) ?_
                refine lv_lload hx hb dX6_bits_143 (lv_at hl 0 rfl) ?_
                refine lv_sipush (v := iv (-1022)) hx hb dX6_bits_145 rfl ?_
                refine lv_iload hx hb dX6_bits_148 (lv_at hl 1 rfl) ?_
                refine xb_isub hx hb dX6_bits_150 ?_
                refine lv_lshr hx hb dX6_bits_151 rfl ?_
                refine xb_topl (fun z_294 hr_z_294 he_z_294 => ?_)
                refine lv_lor hx hb dX6_bits_152 ?_
                refine xb_topl (fun z_295 hr_z_295 he_z_295 => ?_)
                exact xr_l G (x := z_295) hret hlk hr_z_295 dX6_bits_153 rfl
            · refine lv_dload hx hb dX6_bits_101 (lv_at hl 2 rfl) ?_
              refine lv_dconst1 hx hb dX6_bits_103 ?_
              refine xb_topd (fun dd_296 he_dd_296 => ?_)
              refine lv_dcmp hx hb dX6_bits_104 ?_
              refine xb_topi (fun y_297 hr_y_297 he_y_297 => ?_)
              have hr_y_297 : -2147483648 ≤ y_297 ∧ y_297 ≤ 2147483647 := hr_y_297
              refine xb_if_ge (tgt := 125) hx hb (by unfold ir; omega) dX6_bits_105 (by decide) (fun c_105 => ?_) (fun c_105 => ?_)
              · refine lv_dload hx hb dX6_bits_125 (lv_at hl 2 rfl) ?_
                refine lv_ldc2d (s := s.setDrawn d0) hx hb G.1.2.2.2.1 (dr_words G.1.2.2.2.2 d0 _ (wm 6 112 rfl rfl)) dX6_bits_127 ?_
                refine xb_topd (fun dd_298 he_dd_298 => ?_)
                refine xd_dmul G dX6_bits_130 (fun dd_299 d0 G => ?_)
                refine lv_d2l hx hb dX6_bits_131 ?_
                refine xb_topl (fun z_300 hr_z_300 he_z_300 => ?_)
                refine lv_lstore (lv' := [(7, .long (jv z_300)), (6, .int (iv p8)), (4, .double (dv d8)), (2, .long (jv (-9223372036854775808))), (0, .double (dv x1))]) hx hb dX6_bits_132 hl (by decide) rfl (fun ls hl => ?_)
                refine lv_iload hx hb dX6_bits_134 (lv_at hl 1 rfl) ?_
                refine lv_sipush (v := iv (-1022)) hx hb dX6_bits_136 rfl ?_
                refine xb_icmp_ge (tgt := 154) hx hb (by unfold ir; omega) (by unfold ir; omega) dX6_bits_139 (by decide) (fun c_139 => ?_) (fun c_139 => ?_)
                · refine lv_lload_n hx hb dX6_bits_154 rfl (lv_at hl 3 rfl) ?_
                  refine lv_iload hx hb dX6_bits_155 (lv_at hl 1 rfl) ?_
                  refine lv_sipush (v := iv 1023) hx hb dX6_bits_157 rfl ?_
                  refine xb_iadd hx hb dX6_bits_160 ?_
                  refine xb_i2l hx hb (by unfold ir; omega) dX6_bits_161 ?_
                  refine lv_bipush (v := iv 52) hx hb dX6_bits_162 rfl ?_
                  refine lv_lshl hx hb dX6_bits_164 rfl ?_
                  refine xb_topl (fun z_301 hr_z_301 he_z_301 => ?_)
                  refine lv_lor hx hb dX6_bits_165 ?_
                  refine xb_topl (fun z_302 hr_z_302 he_z_302 => ?_)
                  refine lv_lload hx hb dX6_bits_166 (lv_at hl 0 rfl) ?_
                  refine lv_ldc2 (s := s.setDrawn d0) hx hb G.1.2.2.2.1 (dr_words G.1.2.2.2.2 d0 _ (wm 6 113 rfl rfl)) dX6_bits_168 ?_
                  refine xb_litl (x := 4503599627370496) (by decide) ?_
                  refine xb_lsub hx hb dX6_bits_171 ?_
                  refine xb_topl (fun z_303 hr_z_303 he_z_303 => ?_)
                  refine lv_lor hx hb dX6_bits_172 ?_
                  refine xb_topl (fun z_304 hr_z_304 he_z_304 => ?_)
                  exact xr_l G (x := z_304) hret hlk hr_z_304 dX6_bits_173 rfl
                · refine lv_lload_n hx hb dX6_bits_142 rfl (lv_at hl 3 rfl) ?_
                  refine lv_lload hx hb dX6_bits_143 (lv_at hl 0 rfl) ?_
                  refine lv_sipush (v := iv (-1022)) hx hb dX6_bits_145 rfl ?_
                  refine lv_iload hx hb dX6_bits_148 (lv_at hl 1 rfl) ?_
                  refine xb_isub hx hb dX6_bits_150 ?_
                  refine lv_lshr hx hb dX6_bits_151 rfl ?_
                  refine xb_topl (fun z_305 hr_z_305 he_z_305 => ?_)
                  refine lv_lor hx hb dX6_bits_152 ?_
                  refine xb_topl (fun z_306 hr_z_306 he_z_306 => ?_)
                  exact xr_l G (x := z_306) hret hlk hr_z_306 dX6_bits_153 rfl
              · refine lv_dload hx hb dX6_bits_108 (lv_at hl 2 rfl) ?_
                refine lv_ldc2d (s := s.setDrawn d0) hx hb G.1.2.2.2.1 (dr_words G.1.2.2.2.2 d0 _ (wm 6 110 rfl rfl)) dX6_bits_110 ?_
                refine xb_topd (fun dd_307 he_dd_307 => ?_)
                refine xd_dmul G dX6_bits_113 (fun dd_308 d0 G => ?_)
                refine lv_dstore (lv' := [(4, .double (dv dd_308)), (7, .int (iv j9)), (6, .int (iv p8)), (2, .long (jv (-9223372036854775808))), (0, .double (dv x1))]) hx hb dX6_bits_114 hl (by decide) rfl (fun ls hl => ?_)
                refine lv_iinc (v := iv (p8 - 1)) (lv' := [(6, .int (iv (p8 - 1))), (4, .double (dv dd_308)), (7, .int (iv j9)), (2, .long (jv (-9223372036854775808))), (0, .double (dv x1))]) hx hb dX6_bits_116 hl (k := 2) rfl (by rw [show Int32.ofInt (-1) = iv (-1) from rfl, iv_add] <;> (congr 1 <;> omega)) (by decide) rfl (fun ls hl => ?_)
                refine lv_iinc (v := iv (j9 + 1)) (lv' := [(7, .int (iv (j9 + 1))), (6, .int (iv (p8 - 1))), (4, .double (dv dd_308)), (2, .long (jv (-9223372036854775808))), (0, .double (dv x1))]) hx hb dX6_bits_119 hl (k := 2) rfl (by rw [show Int32.ofInt 1 = iv 1 from rfl, iv_add]) (by decide) rfl (fun ls hl => ?_)
                refine lv_goto (tgt := 93) hx hb dX6_bits_122 (by decide) ?_
                exact ih _ _ _ _ _ _ _ (by omega) ⟨dd_308, p8 - 1, j9 + 1, rfl, (by omega), (by omega), (by omega), (by omega), (by omega), (by omega), rfl, lv_sub hl [0, 1, 2, 3, 4] rfl⟩ G
          · refine lv_dload hx hb dX6_bits_73 (lv_at hl 2 rfl) ?_
            refine lv_ldc2d (s := s.setDrawn d0) hx hb G.1.2.2.2.1 (dr_words G.1.2.2.2.2 d0 _ (wm 6 111 rfl rfl)) dX6_bits_75 ?_
            refine xb_topd (fun dd_309 he_dd_309 => ?_)
            refine xd_dmul G dX6_bits_78 (fun dd_310 d0 G => ?_)
            refine lv_dstore (lv' := [(4, .double (dv dd_310)), (7, .int (iv i9)), (6, .int (iv p9)), (2, .long (jv (-9223372036854775808))), (0, .double (dv x1))]) hx hb dX6_bits_79 hl (by decide) rfl (fun ls hl => ?_)
            refine lv_iinc (v := iv (p9 + 1)) (lv' := [(6, .int (iv (p9 + 1))), (4, .double (dv dd_310)), (7, .int (iv i9)), (2, .long (jv (-9223372036854775808))), (0, .double (dv x1))]) hx hb dX6_bits_81 hl (k := 2) rfl (by rw [show Int32.ofInt 1 = iv 1 from rfl, iv_add]) (by decide) rfl (fun ls hl => ?_)
            refine lv_iinc (v := iv (i9 + 1)) (lv' := [(7, .int (iv (i9 + 1))), (6, .int (iv (p9 + 1))), (4, .double (dv dd_310)), (2, .long (jv (-9223372036854775808))), (0, .double (dv x1))]) hx hb dX6_bits_84 hl (k := 2) rfl (by rw [show Int32.ofInt 1 = iv 1 from rfl, iv_add]) (by decide) rfl (fun ls hl => ?_)
            refine lv_goto (tgt := 56) hx hb dX6_bits_87 (by decide) ?_
            exact ih _ _ _ _ _ _ _ (by omega) ⟨dd_310, p9 + 1, i9 + 1, rfl, (by omega), (by omega), (by omega), (by omega), (by omega), (by omega), rfl, lv_sub hl [0, 1, 2, 3, 4] rfl⟩ G
  · refine lv_dconst1 hx hb dX6_bits_6 ?_
    refine xb_topd (fun dd_311 he_dd_311 => ?_)
    refine lv_dload_n hx hb dX6_bits_7 rfl (lv_at hl 0 rfl) ?_
    refine xd_ddiv G dX6_bits_8 (fun dd_312 d0 G => ?_)
    refine lv_dconst0 hx hb dX6_bits_9 ?_
    refine xb_topd (fun dd_313 he_dd_313 => ?_)
    refine lv_dcmp hx hb dX6_bits_10 ?_
    refine xb_topi (fun y_314 hr_y_314 he_y_314 => ?_)
    have hr_y_314 : -2147483648 ≤ y_314 ∧ y_314 ≤ 2147483647 := hr_y_314
    refine xb_if_ge (tgt := 20) hx hb (by unfold ir; omega) dX6_bits_11 (by decide) (fun c_11 => ?_) (fun c_11 => ?_)
    · refine lv_lconst (v := jv 0) hx hb dX6_bits_20 rfl ?_
      exact xr_l G (x := 0) hret hlk (by unfold jr; omega) dX6_bits_21 rfl
    · refine lv_ldc2 (s := s.setDrawn d0) hx hb G.1.2.2.2.1 (dr_words G.1.2.2.2.2 d0 _ (wm 5 45 rfl rfl)) dX6_bits_14 ?_
      refine xb_litl (x := (-9223372036854775808)) (by decide) ?_
      refine lv_goto (tgt := 21) hx hb dX6_bits_17 (by decide) ?_
      exact xr_l G (x := (-9223372036854775808)) hret hlk (by unfold jr; omega) dX6_bits_21 rfl
