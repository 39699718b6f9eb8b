abbrev cX10_byteAt : ByteArray := prog_12_method_6_code
def yX10_byteAt : MethodName := ⟨RX10, "byteAt", "(I)I"⟩
abbrev cX10_readName : ByteArray := prog_12_method_9_code
def yX10_readName : MethodName := ⟨RX10, "readName", "()V"⟩
abbrev cX10_readNumber : ByteArray := prog_12_method_11_code
def yX10_readNumber : MethodName := ⟨RX10, "readNumber", "()V"⟩
abbrev cX10_readReal : ByteArray := prog_12_method_12_code
def yX10_readReal : MethodName := ⟨RX10, "readReal", "()V"⟩
abbrev cX10_readDigits : ByteArray := prog_12_method_13_code
def yX10_readDigits : MethodName := ⟨RX10, "readDigits", "(I)I"⟩
abbrev cX10_readSign : ByteArray := prog_12_method_14_code
def yX10_readSign : MethodName := ⟨RX10, "readSign", "(I)V"⟩
theorem dX10_byteAt_0 : decode cX10_byteAt 0 = .ok (.iload_n 1, 1) := by decide +kernel
theorem dX10_byteAt_1 : decode cX10_byteAt 1 = .ok (.ifCond .lt 24, 3) := by decide +kernel
theorem dX10_byteAt_4 : decode cX10_byteAt 4 = .ok (.iload_n 1, 1) := by decide +kernel
theorem dX10_byteAt_5 : decode cX10_byteAt 5 = .ok (.aload_n 0, 1) := by decide +kernel
theorem dX10_byteAt_6 : decode cX10_byteAt 6 = .ok (.getfield 33, 3) := by decide +kernel
theorem dX10_byteAt_9 : decode cX10_byteAt 9 = .ok (.if_icmp .ge 16, 3) := by decide +kernel
theorem dX10_byteAt_12 : decode cX10_byteAt 12 = .ok (.aload_n 0, 1) := by decide +kernel
theorem dX10_byteAt_13 : decode cX10_byteAt 13 = .ok (.getfield 63, 3) := by decide +kernel
theorem dX10_byteAt_16 : decode cX10_byteAt 16 = .ok (.iload_n 1, 1) := by decide +kernel
theorem dX10_byteAt_17 : decode cX10_byteAt 17 = .ok (.baload, 1) := by decide +kernel
theorem dX10_byteAt_18 : decode cX10_byteAt 18 = .ok (.sipush 255, 3) := by decide +kernel
theorem dX10_byteAt_21 : decode cX10_byteAt 21 = .ok (.iand, 1) := by decide +kernel
theorem dX10_byteAt_22 : decode cX10_byteAt 22 = .ok (.goto 4, 3) := by decide +kernel
theorem dX10_byteAt_25 : decode cX10_byteAt 25 = .ok (.iconst (-1), 1) := by decide +kernel
theorem dX10_byteAt_26 : decode cX10_byteAt 26 = .ok (.ireturn, 1) := by decide +kernel
theorem dX10_readName_0 : decode cX10_readName 0 = .ok (.iconst 0, 1) := by decide +kernel
theorem dX10_readName_1 : decode cX10_readName 1 = .ok (.istore_n 1, 1) := by decide +kernel
theorem dX10_readName_2 : decode cX10_readName 2 = .ok (.aload_n 0, 1) := by decide +kernel
theorem dX10_readName_3 : decode cX10_readName 3 = .ok (.getfield 39, 3) := by decide +kernel
theorem dX10_readName_6 : decode cX10_readName 6 = .ok (.aload_n 0, 1) := by decide +kernel
theorem dX10_readName_7 : decode cX10_readName 7 = .ok (.getfield 33, 3) := by decide +kernel
theorem dX10_readName_10 : decode cX10_readName 10 = .ok (.if_icmp .ge 68, 3) := by decide +kernel
theorem dX10_readName_13 : decode cX10_readName 13 = .ok (.aload_n 0, 1) := by decide +kernel
theorem dX10_readName_14 : decode cX10_readName 14 = .ok (.aload_n 0, 1) := by decide +kernel
theorem dX10_readName_15 : decode cX10_readName 15 = .ok (.getfield 39, 3) := by decide +kernel
theorem dX10_readName_18 : decode cX10_readName 18 = .ok (.invokevirtual 90, 3) := by decide +kernel
theorem dX10_readName_21 : decode cX10_readName 21 = .ok (.invokestatic 94, 3) := by decide +kernel
theorem dX10_readName_24 : decode cX10_readName 24 = .ok (.ifCond .ne 17, 3) := by decide +kernel
theorem dX10_readName_27 : decode cX10_readName 27 = .ok (.aload_n 0, 1) := by decide +kernel
theorem dX10_readName_28 : decode cX10_readName 28 = .ok (.aload_n 0, 1) := by decide +kernel
theorem dX10_readName_29 : decode cX10_readName 29 = .ok (.getfield 39, 3) := by decide +kernel
theorem dX10_readName_32 : decode cX10_readName 32 = .ok (.invokevirtual 90, 3) := by decide +kernel
theorem dX10_readName_35 : decode cX10_readName 35 = .ok (.invokestatic 101, 3) := by decide +kernel
theorem dX10_readName_38 : decode cX10_readName 38 = .ok (.ifCond .eq 40, 3) := by decide +kernel
theorem dX10_readName_41 : decode cX10_readName 41 = .ok (.aload_n 0, 1) := by decide +kernel
theorem dX10_readName_42 : decode cX10_readName 42 = .ok (.aload_n 0, 1) := by decide +kernel
theorem dX10_readName_43 : decode cX10_readName 43 = .ok (.getfield 55, 3) := by decide +kernel
theorem dX10_readName_46 : decode cX10_readName 46 = .ok (.bipush 8, 2) := by decide +kernel
theorem dX10_readName_48 : decode cX10_readName 48 = .ok (.lshl, 1) := by decide +kernel
theorem dX10_readName_49 : decode cX10_readName 49 = .ok (.aload_n 0, 1) := by decide +kernel
theorem dX10_readName_50 : decode cX10_readName 50 = .ok (.aload_n 0, 1) := by decide +kernel
theorem dX10_readName_51 : decode cX10_readName 51 = .ok (.getfield 39, 3) := by decide +kernel
theorem dX10_readName_54 : decode cX10_readName 54 = .ok (.invokevirtual 90, 3) := by decide +kernel
theorem dX10_readName_57 : decode cX10_readName 57 = .ok (.i2l, 1) := by decide +kernel
theorem dX10_readName_58 : decode cX10_readName 58 = .ok (.lor, 1) := by decide +kernel
theorem dX10_readName_59 : decode cX10_readName 59 = .ok (.putfield 55, 3) := by decide +kernel
theorem dX10_readName_62 : decode cX10_readName 62 = .ok (.iinc 1 1, 3) := by decide +kernel
theorem dX10_readName_65 : decode cX10_readName 65 = .ok (.aload_n 0, 1) := by decide +kernel
theorem dX10_readName_66 : decode cX10_readName 66 = .ok (.dup, 1) := by decide +kernel
theorem dX10_readName_67 : decode cX10_readName 67 = .ok (.getfield 39, 3) := by decide +kernel
theorem dX10_readName_70 : decode cX10_readName 70 = .ok (.iconst 1, 1) := by decide +kernel
theorem dX10_readName_71 : decode cX10_readName 71 = .ok (.iadd, 1) := by decide +kernel
theorem dX10_readName_72 : decode cX10_readName 72 = .ok (.putfield 39, 3) := by decide +kernel
theorem dX10_readName_75 : decode cX10_readName 75 = .ok (.goto (-73), 3) := by decide +kernel
theorem dX10_readName_78 : decode cX10_readName 78 = .ok (.aload_n 0, 1) := by decide +kernel
theorem dX10_readName_79 : decode cX10_readName 79 = .ok (.iload_n 1, 1) := by decide +kernel
theorem dX10_readName_80 : decode cX10_readName 80 = .ok (.bipush 8, 2) := by decide +kernel
theorem dX10_readName_82 : decode cX10_readName 82 = .ok (.if_icmp .le 7, 3) := by decide +kernel
theorem dX10_readName_85 : decode cX10_readName 85 = .ok (.iconst 3, 1) := by decide +kernel
theorem dX10_readName_86 : decode cX10_readName 86 = .ok (.goto 7, 3) := by decide +kernel
theorem dX10_readName_89 : decode cX10_readName 89 = .ok (.aload_n 0, 1) := by decide +kernel
theorem dX10_readName_90 : decode cX10_readName 90 = .ok (.invokevirtual 111, 3) := by decide +kernel
theorem dX10_readName_93 : decode cX10_readName 93 = .ok (.putfield 49, 3) := by decide +kernel
theorem dX10_readName_96 : decode cX10_readName 96 = .ok (.return_, 1) := by decide +kernel
theorem dX10_readNumber_0 : decode cX10_readNumber 0 = .ok (.aload_n 0, 1) := by decide +kernel
theorem dX10_readNumber_1 : decode cX10_readNumber 1 = .ok (.iconst 2, 1) := by decide +kernel
theorem dX10_readNumber_2 : decode cX10_readNumber 2 = .ok (.putfield 49, 3) := by decide +kernel
theorem dX10_readNumber_5 : decode cX10_readNumber 5 = .ok (.aload_n 0, 1) := by decide +kernel
theorem dX10_readNumber_6 : decode cX10_readNumber 6 = .ok (.getfield 36, 3) := by decide +kernel
theorem dX10_readNumber_9 : decode cX10_readNumber 9 = .ok (.iconst 3, 1) := by decide +kernel
theorem dX10_readNumber_10 : decode cX10_readNumber 10 = .ok (.if_icmp .ne 8, 3) := by decide +kernel
theorem dX10_readNumber_13 : decode cX10_readNumber 13 = .ok (.aload_n 0, 1) := by decide +kernel
theorem dX10_readNumber_14 : decode cX10_readNumber 14 = .ok (.invokevirtual 114, 3) := by decide +kernel
theorem dX10_readNumber_17 : decode cX10_readNumber 17 = .ok (.return_, 1) := by decide +kernel
theorem dX10_readNumber_18 : decode cX10_readNumber 18 = .ok (.aload_n 0, 1) := by decide +kernel
theorem dX10_readNumber_19 : decode cX10_readNumber 19 = .ok (.getfield 36, 3) := by decide +kernel
theorem dX10_readNumber_22 : decode cX10_readNumber 22 = .ok (.invokestatic 117, 3) := by decide +kernel
theorem dX10_readNumber_25 : decode cX10_readNumber 25 = .ok (.lstore_n 1, 1) := by decide +kernel
theorem dX10_readNumber_26 : decode cX10_readNumber 26 = .ok (.aload_n 0, 1) := by decide +kernel
theorem dX10_readNumber_27 : decode cX10_readNumber 27 = .ok (.getfield 39, 3) := by decide +kernel
theorem dX10_readNumber_30 : decode cX10_readNumber 30 = .ok (.aload_n 0, 1) := by decide +kernel
theorem dX10_readNumber_31 : decode cX10_readNumber 31 = .ok (.getfield 33, 3) := by decide +kernel
theorem dX10_readNumber_34 : decode cX10_readNumber 34 = .ok (.if_icmp .ge 79, 3) := by decide +kernel
theorem dX10_readNumber_37 : decode cX10_readNumber 37 = .ok (.aload_n 0, 1) := by decide +kernel
theorem dX10_readNumber_38 : decode cX10_readNumber 38 = .ok (.aload_n 0, 1) := by decide +kernel
theorem dX10_readNumber_39 : decode cX10_readNumber 39 = .ok (.getfield 39, 3) := by decide +kernel
theorem dX10_readNumber_42 : decode cX10_readNumber 42 = .ok (.invokevirtual 90, 3) := by decide +kernel
theorem dX10_readNumber_45 : decode cX10_readNumber 45 = .ok (.invokestatic 101, 3) := by decide +kernel
theorem dX10_readNumber_48 : decode cX10_readNumber 48 = .ok (.ifCond .eq 65, 3) := by decide +kernel
theorem dX10_readNumber_51 : decode cX10_readNumber 51 = .ok (.aload_n 0, 1) := by decide +kernel
theorem dX10_readNumber_52 : decode cX10_readNumber 52 = .ok (.aload_n 0, 1) := by decide +kernel
theorem dX10_readNumber_53 : decode cX10_readNumber 53 = .ok (.getfield 39, 3) := by decide +kernel
theorem dX10_readNumber_56 : decode cX10_readNumber 56 = .ok (.invokevirtual 90, 3) := by decide +kernel
theorem dX10_readNumber_59 : decode cX10_readNumber 59 = .ok (.bipush 48, 2) := by decide +kernel
theorem dX10_readNumber_61 : decode cX10_readNumber 61 = .ok (.isub, 1) := by decide +kernel
theorem dX10_readNumber_62 : decode cX10_readNumber 62 = .ok (.istore_n 3, 1) := by decide +kernel
theorem dX10_readNumber_63 : decode cX10_readNumber 63 = .ok (.aload_n 0, 1) := by decide +kernel
theorem dX10_readNumber_64 : decode cX10_readNumber 64 = .ok (.getfield 55, 3) := by decide +kernel
theorem dX10_readNumber_67 : decode cX10_readNumber 67 = .ok (.lload_n 1, 1) := by decide +kernel
theorem dX10_readNumber_68 : decode cX10_readNumber 68 = .ok (.iload_n 3, 1) := by decide +kernel
theorem dX10_readNumber_69 : decode cX10_readNumber 69 = .ok (.i2l, 1) := by decide +kernel
theorem dX10_readNumber_70 : decode cX10_readNumber 70 = .ok (.lsub, 1) := by decide +kernel
theorem dX10_readNumber_71 : decode cX10_readNumber 71 = .ok (.ldc2_w 123, 3) := by decide +kernel
theorem dX10_readNumber_74 : decode cX10_readNumber 74 = .ok (.ldiv, 1) := by decide +kernel
theorem dX10_readNumber_75 : decode cX10_readNumber 75 = .ok (.lcmp, 1) := by decide +kernel
theorem dX10_readNumber_76 : decode cX10_readNumber 76 = .ok (.ifCond .le 9, 3) := by decide +kernel
theorem dX10_readNumber_79 : decode cX10_readNumber 79 = .ok (.aload_n 0, 1) := by decide +kernel
theorem dX10_readNumber_80 : decode cX10_readNumber 80 = .ok (.iconst 3, 1) := by decide +kernel
theorem dX10_readNumber_81 : decode cX10_readNumber 81 = .ok (.putfield 49, 3) := by decide +kernel
theorem dX10_readNumber_84 : decode cX10_readNumber 84 = .ok (.return_, 1) := by decide +kernel
theorem dX10_readNumber_85 : decode cX10_readNumber 85 = .ok (.aload_n 0, 1) := by decide +kernel
theorem dX10_readNumber_86 : decode cX10_readNumber 86 = .ok (.aload_n 0, 1) := by decide +kernel
theorem dX10_readNumber_87 : decode cX10_readNumber 87 = .ok (.getfield 55, 3) := by decide +kernel
theorem dX10_readNumber_90 : decode cX10_readNumber 90 = .ok (.ldc2_w 123, 3) := by decide +kernel
theorem dX10_readNumber_93 : decode cX10_readNumber 93 = .ok (.lmul, 1) := by decide +kernel
theorem dX10_readNumber_94 : decode cX10_readNumber 94 = .ok (.iload_n 3, 1) := by decide +kernel
theorem dX10_readNumber_95 : decode cX10_readNumber 95 = .ok (.i2l, 1) := by decide +kernel
theorem dX10_readNumber_96 : decode cX10_readNumber 96 = .ok (.ladd, 1) := by decide +kernel
theorem dX10_readNumber_97 : decode cX10_readNumber 97 = .ok (.putfield 55, 3) := by decide +kernel
theorem dX10_readNumber_100 : decode cX10_readNumber 100 = .ok (.aload_n 0, 1) := by decide +kernel
theorem dX10_readNumber_101 : decode cX10_readNumber 101 = .ok (.dup, 1) := by decide +kernel
theorem dX10_readNumber_102 : decode cX10_readNumber 102 = .ok (.getfield 39, 3) := by decide +kernel
theorem dX10_readNumber_105 : decode cX10_readNumber 105 = .ok (.iconst 1, 1) := by decide +kernel
theorem dX10_readNumber_106 : decode cX10_readNumber 106 = .ok (.iadd, 1) := by decide +kernel
theorem dX10_readNumber_107 : decode cX10_readNumber 107 = .ok (.putfield 39, 3) := by decide +kernel
theorem dX10_readNumber_110 : decode cX10_readNumber 110 = .ok (.goto (-84), 3) := by decide +kernel
theorem dX10_readNumber_113 : decode cX10_readNumber 113 = .ok (.return_, 1) := by decide +kernel
theorem dX10_readReal_0 : decode cX10_readReal 0 = .ok (.aload_n 0, 1) := by decide +kernel
theorem dX10_readReal_1 : decode cX10_readReal 1 = .ok (.iconst 0, 1) := by decide +kernel
theorem dX10_readReal_2 : decode cX10_readReal 2 = .ok (.invokevirtual 125, 3) := by decide +kernel
theorem dX10_readReal_5 : decode cX10_readReal 5 = .ok (.istore_n 1, 1) := by decide +kernel
theorem dX10_readReal_6 : decode cX10_readReal 6 = .ok (.dconst 1, 1) := by decide +kernel
theorem dX10_readReal_7 : decode cX10_readReal 7 = .ok (.dstore_n 2, 1) := by decide +kernel
theorem dX10_readReal_8 : decode cX10_readReal 8 = .ok (.aload_n 0, 1) := by decide +kernel
theorem dX10_readReal_9 : decode cX10_readReal 9 = .ok (.aload_n 0, 1) := by decide +kernel
theorem dX10_readReal_10 : decode cX10_readReal 10 = .ok (.getfield 39, 3) := by decide +kernel
theorem dX10_readReal_13 : decode cX10_readReal 13 = .ok (.invokevirtual 90, 3) := by decide +kernel
theorem dX10_readReal_16 : decode cX10_readReal 16 = .ok (.bipush 46, 2) := by decide +kernel
theorem dX10_readReal_18 : decode cX10_readReal 18 = .ok (.if_icmp .ne 68, 3) := by decide +kernel
theorem dX10_readReal_21 : decode cX10_readReal 21 = .ok (.aload_n 0, 1) := by decide +kernel
theorem dX10_readReal_22 : decode cX10_readReal 22 = .ok (.aload_n 0, 1) := by decide +kernel
theorem dX10_readReal_23 : decode cX10_readReal 23 = .ok (.getfield 39, 3) := by decide +kernel
theorem dX10_readReal_26 : decode cX10_readReal 26 = .ok (.iconst 1, 1) := by decide +kernel
theorem dX10_readReal_27 : decode cX10_readReal 27 = .ok (.iadd, 1) := by decide +kernel
theorem dX10_readReal_28 : decode cX10_readReal 28 = .ok (.invokevirtual 90, 3) := by decide +kernel
theorem dX10_readReal_31 : decode cX10_readReal 31 = .ok (.invokestatic 101, 3) := by decide +kernel
theorem dX10_readReal_34 : decode cX10_readReal 34 = .ok (.ifCond .eq 52, 3) := by decide +kernel
theorem dX10_readReal_37 : decode cX10_readReal 37 = .ok (.aload_n 0, 1) := by decide +kernel
theorem dX10_readReal_38 : decode cX10_readReal 38 = .ok (.dup, 1) := by decide +kernel
theorem dX10_readReal_39 : decode cX10_readReal 39 = .ok (.getfield 39, 3) := by decide +kernel
theorem dX10_readReal_42 : decode cX10_readReal 42 = .ok (.iconst 1, 1) := by decide +kernel
theorem dX10_readReal_43 : decode cX10_readReal 43 = .ok (.iadd, 1) := by decide +kernel
theorem dX10_readReal_44 : decode cX10_readReal 44 = .ok (.putfield 39, 3) := by decide +kernel
theorem dX10_readReal_47 : decode cX10_readReal 47 = .ok (.aload_n 0, 1) := by decide +kernel
theorem dX10_readReal_48 : decode cX10_readReal 48 = .ok (.iload_n 1, 1) := by decide +kernel
theorem dX10_readReal_49 : decode cX10_readReal 49 = .ok (.invokevirtual 125, 3) := by decide +kernel
theorem dX10_readReal_52 : decode cX10_readReal 52 = .ok (.istore 4, 2) := by decide +kernel
theorem dX10_readReal_54 : decode cX10_readReal 54 = .ok (.iload_n 1, 1) := by decide +kernel
theorem dX10_readReal_55 : decode cX10_readReal 55 = .ok (.istore 5, 2) := by decide +kernel
theorem dX10_readReal_57 : decode cX10_readReal 57 = .ok (.iload 5, 2) := by decide +kernel
theorem dX10_readReal_59 : decode cX10_readReal 59 = .ok (.iload 4, 2) := by decide +kernel
theorem dX10_readReal_61 : decode cX10_readReal 61 = .ok (.if_icmp .ge 22, 3) := by decide +kernel
theorem dX10_readReal_64 : decode cX10_readReal 64 = .ok (.iload 5, 2) := by decide +kernel
theorem dX10_readReal_66 : decode cX10_readReal 66 = .ok (.bipush 16, 2) := by decide +kernel
theorem dX10_readReal_68 : decode cX10_readReal 68 = .ok (.if_icmp .ge 15, 3) := by decide +kernel
theorem dX10_readReal_71 : decode cX10_readReal 71 = .ok (.dload_n 2, 1) := by decide +kernel
theorem dX10_readReal_72 : decode cX10_readReal 72 = .ok (.ldc2_w 128, 3) := by decide +kernel
theorem dX10_readReal_75 : decode cX10_readReal 75 = .ok (.dmul, 1) := by decide +kernel
theorem dX10_readReal_76 : decode cX10_readReal 76 = .ok (.dstore_n 2, 1) := by decide +kernel
theorem dX10_readReal_77 : decode cX10_readReal 77 = .ok (.iinc 5 1, 3) := by decide +kernel
theorem dX10_readReal_80 : decode cX10_readReal 80 = .ok (.goto (-23), 3) := by decide +kernel
theorem dX10_readReal_83 : decode cX10_readReal 83 = .ok (.iload 4, 2) := by decide +kernel
theorem dX10_readReal_85 : decode cX10_readReal 85 = .ok (.istore_n 1, 1) := by decide +kernel
theorem dX10_readReal_86 : decode cX10_readReal 86 = .ok (.iload_n 1, 1) := by decide +kernel
theorem dX10_readReal_87 : decode cX10_readReal 87 = .ok (.bipush 15, 2) := by decide +kernel
theorem dX10_readReal_89 : decode cX10_readReal 89 = .ok (.if_icmp .le 8, 3) := by decide +kernel
theorem dX10_readReal_92 : decode cX10_readReal 92 = .ok (.aload_n 0, 1) := by decide +kernel
theorem dX10_readReal_93 : decode cX10_readReal 93 = .ok (.iconst 3, 1) := by decide +kernel
theorem dX10_readReal_94 : decode cX10_readReal 94 = .ok (.putfield 49, 3) := by decide +kernel
theorem dX10_readReal_97 : decode cX10_readReal 97 = .ok (.aload_n 0, 1) := by decide +kernel
theorem dX10_readReal_98 : decode cX10_readReal 98 = .ok (.aload_n 0, 1) := by decide +kernel
theorem dX10_readReal_99 : decode cX10_readReal 99 = .ok (.getfield 55, 3) := by decide +kernel
theorem dX10_readReal_102 : decode cX10_readReal 102 = .ok (.l2d, 1) := by decide +kernel
theorem dX10_readReal_103 : decode cX10_readReal 103 = .ok (.dload_n 2, 1) := by decide +kernel
theorem dX10_readReal_104 : decode cX10_readReal 104 = .ok (.ddiv, 1) := by decide +kernel
theorem dX10_readReal_105 : decode cX10_readReal 105 = .ok (.putfield 59, 3) := by decide +kernel
theorem dX10_readReal_108 : decode cX10_readReal 108 = .ok (.return_, 1) := by decide +kernel
theorem dX10_readDigits_0 : decode cX10_readDigits 0 = .ok (.iload_n 1, 1) := by decide +kernel
theorem dX10_readDigits_1 : decode cX10_readDigits 1 = .ok (.istore_n 2, 1) := by decide +kernel
theorem dX10_readDigits_2 : decode cX10_readDigits 2 = .ok (.aload_n 0, 1) := by decide +kernel
theorem dX10_readDigits_3 : decode cX10_readDigits 3 = .ok (.getfield 39, 3) := by decide +kernel
theorem dX10_readDigits_6 : decode cX10_readDigits 6 = .ok (.aload_n 0, 1) := by decide +kernel
theorem dX10_readDigits_7 : decode cX10_readDigits 7 = .ok (.getfield 33, 3) := by decide +kernel
theorem dX10_readDigits_10 : decode cX10_readDigits 10 = .ok (.if_icmp .ge 58, 3) := by decide +kernel
theorem dX10_readDigits_13 : decode cX10_readDigits 13 = .ok (.aload_n 0, 1) := by decide +kernel
theorem dX10_readDigits_14 : decode cX10_readDigits 14 = .ok (.aload_n 0, 1) := by decide +kernel
theorem dX10_readDigits_15 : decode cX10_readDigits 15 = .ok (.getfield 39, 3) := by decide +kernel
theorem dX10_readDigits_18 : decode cX10_readDigits 18 = .ok (.invokevirtual 90, 3) := by decide +kernel
theorem dX10_readDigits_21 : decode cX10_readDigits 21 = .ok (.invokestatic 101, 3) := by decide +kernel
theorem dX10_readDigits_24 : decode cX10_readDigits 24 = .ok (.ifCond .eq 44, 3) := by decide +kernel
theorem dX10_readDigits_27 : decode cX10_readDigits 27 = .ok (.aload_n 0, 1) := by decide +kernel
theorem dX10_readDigits_28 : decode cX10_readDigits 28 = .ok (.aload_n 0, 1) := by decide +kernel
theorem dX10_readDigits_29 : decode cX10_readDigits 29 = .ok (.getfield 55, 3) := by decide +kernel
theorem dX10_readDigits_32 : decode cX10_readDigits 32 = .ok (.ldc2_w 123, 3) := by decide +kernel
theorem dX10_readDigits_35 : decode cX10_readDigits 35 = .ok (.lmul, 1) := by decide +kernel
theorem dX10_readDigits_36 : decode cX10_readDigits 36 = .ok (.aload_n 0, 1) := by decide +kernel
theorem dX10_readDigits_37 : decode cX10_readDigits 37 = .ok (.aload_n 0, 1) := by decide +kernel
theorem dX10_readDigits_38 : decode cX10_readDigits 38 = .ok (.getfield 39, 3) := by decide +kernel
theorem dX10_readDigits_41 : decode cX10_readDigits 41 = .ok (.invokevirtual 90, 3) := by decide +kernel
theorem dX10_readDigits_44 : decode cX10_readDigits 44 = .ok (.bipush 48, 2) := by decide +kernel
theorem dX10_readDigits_46 : decode cX10_readDigits 46 = .ok (.isub, 1) := by decide +kernel
theorem dX10_readDigits_47 : decode cX10_readDigits 47 = .ok (.i2l, 1) := by decide +kernel
theorem dX10_readDigits_48 : decode cX10_readDigits 48 = .ok (.ladd, 1) := by decide +kernel
theorem dX10_readDigits_49 : decode cX10_readDigits 49 = .ok (.putfield 55, 3) := by decide +kernel
theorem dX10_readDigits_52 : decode cX10_readDigits 52 = .ok (.iinc 2 1, 3) := by decide +kernel
theorem dX10_readDigits_55 : decode cX10_readDigits 55 = .ok (.aload_n 0, 1) := by decide +kernel
theorem dX10_readDigits_56 : decode cX10_readDigits 56 = .ok (.dup, 1) := by decide +kernel
theorem dX10_readDigits_57 : decode cX10_readDigits 57 = .ok (.getfield 39, 3) := by decide +kernel
theorem dX10_readDigits_60 : decode cX10_readDigits 60 = .ok (.iconst 1, 1) := by decide +kernel
theorem dX10_readDigits_61 : decode cX10_readDigits 61 = .ok (.iadd, 1) := by decide +kernel
theorem dX10_readDigits_62 : decode cX10_readDigits 62 = .ok (.putfield 39, 3) := by decide +kernel
theorem dX10_readDigits_65 : decode cX10_readDigits 65 = .ok (.goto (-63), 3) := by decide +kernel
theorem dX10_readDigits_68 : decode cX10_readDigits 68 = .ok (.iload_n 2, 1) := by decide +kernel
theorem dX10_readDigits_69 : decode cX10_readDigits 69 = .ok (.ireturn, 1) := by decide +kernel
theorem dX10_readSign_0 : decode cX10_readSign 0 = .ok (.ldc 130, 2) := by decide +kernel
theorem dX10_readSign_2 : decode cX10_readSign 2 = .ok (.iload_n 1, 1) := by decide +kernel
theorem dX10_readSign_3 : decode cX10_readSign 3 = .ok (.i2c, 1) := by decide +kernel
theorem dX10_readSign_4 : decode cX10_readSign 4 = .ok (.invokevirtual 132, 3) := by decide +kernel
theorem dX10_readSign_7 : decode cX10_readSign 7 = .ok (.ifCond .ge 9, 3) := by decide +kernel
theorem dX10_readSign_10 : decode cX10_readSign 10 = .ok (.aload_n 0, 1) := by decide +kernel
theorem dX10_readSign_11 : decode cX10_readSign 11 = .ok (.iconst 3, 1) := by decide +kernel
theorem dX10_readSign_12 : decode cX10_readSign 12 = .ok (.putfield 49, 3) := by decide +kernel
theorem dX10_readSign_15 : decode cX10_readSign 15 = .ok (.return_, 1) := by decide +kernel
theorem dX10_readSign_16 : decode cX10_readSign 16 = .ok (.aload_n 0, 1) := by decide +kernel
theorem dX10_readSign_17 : decode cX10_readSign 17 = .ok (.iload_n 1, 1) := by decide +kernel
theorem dX10_readSign_18 : decode cX10_readSign 18 = .ok (.putfield 49, 3) := by decide +kernel
theorem dX10_readSign_21 : decode cX10_readSign 21 = .ok (.aload_n 0, 1) := by decide +kernel
theorem dX10_readSign_22 : decode cX10_readSign 22 = .ok (.dup, 1) := by decide +kernel
theorem dX10_readSign_23 : decode cX10_readSign 23 = .ok (.getfield 39, 3) := by decide +kernel
theorem dX10_readSign_26 : decode cX10_readSign 26 = .ok (.iconst 1, 1) := by decide +kernel
theorem dX10_readSign_27 : decode cX10_readSign 27 = .ok (.iadd, 1) := by decide +kernel
theorem dX10_readSign_28 : decode cX10_readSign 28 = .ok (.putfield 39, 3) := by decide +kernel
theorem dX10_readSign_31 : decode cX10_readSign 31 = .ok (.aload_n 0, 1) := by decide +kernel
theorem dX10_readSign_32 : decode cX10_readSign 32 = .ok (.aload_n 0, 1) := by decide +kernel
theorem dX10_readSign_33 : decode cX10_readSign 33 = .ok (.getfield 39, 3) := by decide +kernel
theorem dX10_readSign_36 : decode cX10_readSign 36 = .ok (.invokevirtual 90, 3) := by decide +kernel
theorem dX10_readSign_39 : decode cX10_readSign 39 = .ok (.bipush 61, 2) := by decide +kernel
theorem dX10_readSign_41 : decode cX10_readSign 41 = .ok (.if_icmp .eq 4, 3) := by decide +kernel
theorem dX10_readSign_44 : decode cX10_readSign 44 = .ok (.return_, 1) := by decide +kernel
theorem dX10_readSign_45 : decode cX10_readSign 45 = .ok (.iload_n 1, 1) := by decide +kernel
theorem dX10_readSign_46 : decode cX10_readSign 46 = .ok (.bipush 61, 2) := by decide +kernel
theorem dX10_readSign_48 : decode cX10_readSign 48 = .ok (.if_icmp .ne 9, 3) := by decide +kernel
theorem dX10_readSign_51 : decode cX10_readSign 51 = .ok (.sipush 129, 3) := by decide +kernel
theorem dX10_readSign_54 : decode cX10_readSign 54 = .ok (.goto 40, 3) := by decide +kernel
theorem dX10_readSign_57 : decode cX10_readSign 57 = .ok (.iload_n 1, 1) := by decide +kernel
theorem dX10_readSign_58 : decode cX10_readSign 58 = .ok (.bipush 33, 2) := by decide +kernel
theorem dX10_readSign_60 : decode cX10_readSign 60 = .ok (.if_icmp .ne 9, 3) := by decide +kernel
theorem dX10_readSign_63 : decode cX10_readSign 63 = .ok (.sipush 130, 3) := by decide +kernel
theorem dX10_readSign_66 : decode cX10_readSign 66 = .ok (.goto 28, 3) := by decide +kernel
theorem dX10_readSign_69 : decode cX10_readSign 69 = .ok (.iload_n 1, 1) := by decide +kernel
theorem dX10_readSign_70 : decode cX10_readSign 70 = .ok (.bipush 60, 2) := by decide +kernel
theorem dX10_readSign_72 : decode cX10_readSign 72 = .ok (.if_icmp .ne 9, 3) := by decide +kernel
theorem dX10_readSign_75 : decode cX10_readSign 75 = .ok (.sipush 131, 3) := by decide +kernel
theorem dX10_readSign_78 : decode cX10_readSign 78 = .ok (.goto 16, 3) := by decide +kernel
theorem dX10_readSign_81 : decode cX10_readSign 81 = .ok (.iload_n 1, 1) := by decide +kernel
theorem dX10_readSign_82 : decode cX10_readSign 82 = .ok (.bipush 62, 2) := by decide +kernel
theorem dX10_readSign_84 : decode cX10_readSign 84 = .ok (.if_icmp .ne 9, 3) := by decide +kernel
theorem dX10_readSign_87 : decode cX10_readSign 87 = .ok (.sipush 132, 3) := by decide +kernel
theorem dX10_readSign_90 : decode cX10_readSign 90 = .ok (.goto 4, 3) := by decide +kernel
theorem dX10_readSign_93 : decode cX10_readSign 93 = .ok (.iconst 0, 1) := by decide +kernel
theorem dX10_readSign_94 : decode cX10_readSign 94 = .ok (.istore_n 2, 1) := by decide +kernel
theorem dX10_readSign_95 : decode cX10_readSign 95 = .ok (.iload_n 2, 1) := by decide +kernel
theorem dX10_readSign_96 : decode cX10_readSign 96 = .ok (.ifCond .eq 18, 3) := by decide +kernel
theorem dX10_readSign_99 : decode cX10_readSign 99 = .ok (.aload_n 0, 1) := by decide +kernel
theorem dX10_readSign_100 : decode cX10_readSign 100 = .ok (.iload_n 2, 1) := by decide +kernel
theorem dX10_readSign_101 : decode cX10_readSign 101 = .ok (.putfield 49, 3) := by decide +kernel
theorem dX10_readSign_104 : decode cX10_readSign 104 = .ok (.aload_n 0, 1) := by decide +kernel
theorem dX10_readSign_105 : decode cX10_readSign 105 = .ok (.dup, 1) := by decide +kernel
theorem dX10_readSign_106 : decode cX10_readSign 106 = .ok (.getfield 39, 3) := by decide +kernel
theorem dX10_readSign_109 : decode cX10_readSign 109 = .ok (.iconst 1, 1) := by decide +kernel
theorem dX10_readSign_110 : decode cX10_readSign 110 = .ok (.iadd, 1) := by decide +kernel
theorem dX10_readSign_111 : decode cX10_readSign 111 = .ok (.putfield 39, 3) := by decide +kernel
theorem dX10_readSign_114 : decode cX10_readSign 114 = .ok (.return_, 1) := by decide +kernel
/-! the byte at a place -/
def bta (μ : M3) (i : Int) : Int := if 0 ≤ i ∧ i < μ.1 26 7 then (iv (μ.1 1 i) &&& iv 255).toInt else -1
theorem bta_eq {μ ν : M3} (h7 : ν.1 26 7 = μ.1 26 7) (h1 : ∀ j, ν.1 1 j = μ.1 1 j) (i : Int) : bta ν i = bta μ i := by
  unfold bta; rw [h7, h1]
theorem bta_in {μ : M3} {i y : Int} (h : 0 ≤ i ∧ i < μ.1 26 7) (he : iv y = iv (μ.1 1 i) &&& iv 255) (hy : ir y) : y = bta μ i := by
  unfold bta; rw [if_pos h, ← he, iv_toInt hy]
theorem bta_out {μ : M3} {i : Int} (h : ¬ (0 ≤ i ∧ i < μ.1 26 7)) : -1 = bta μ i := by
  unfold bta; rw [if_neg h]
/-- the TOKENS at hand -/
def TK (μ : M3) : Prop := (1 ≤ μ.1 26 6 ∧ μ.1 26 6 ≤ 3001 ∧ 0 ≤ μ.1 26 10 ∧ μ.1 26 10 < μ.1 26 6) ∧ (μ.1 28 (μ.1 26 6 - 1) = 0 ∨ μ.1 28 (μ.1 26 6 - 1) = 3) ∧ ((μ.1 26 11 = 0 ∧ μ.1 26 12 = μ.1 28 (μ.1 26 10)) ∨ (μ.1 26 11 = 1 ∧ μ.1 26 12 = 3)) ∧ (0 ≤ μ.1 26 13 ∧ ∀ j, 0 ≤ j → j < μ.1 26 6 → 0 ≤ μ.1 29 j)
set_option maxHeartbeats 4000000 in
set_option maxRecDepth 100000 in
theorem c_X10_byteAt (ω : Om) (l : Launch) (μ : M3) (x1 : Int) (hx1 : ir x1) (hI : IC μ) : CtI ω l yX10_byteAt cX10_byteAt 2 .int 0 0 [.ref (oP ω 26), .int (iv x1)] μ (fun (r : Int) (μ' : M3) => (μ' = μ) ∧ (r = bta μ x1) ∧ (r = -1 ∨ (0 ≤ r ∧ r ≤ 255 ∧ 0 ≤ x1 ∧ x1 < μ.1 26 7))) := by
  refine CtI.go (by decide) (Nat.le_of_ble_eq_true rfl) (fun ρ p e s m below meth c R ls G hR hret hlk hl => ?_)
  have hx := G.1.1
  have hb := G.1.2.1
  have hl : lv_has ls 2 [(0, .ref (oP ω 26)), (1, .int (iv x1))] := hl
  generalize s.drawn = d0 at G ⊢
  have hr_x1 : -2147483648 ≤ x1 ∧ x1 ≤ 2147483647 := hx1
  have hn_1 : 0 ≤ μ.1 26 7 ∧ μ.1 26 7 ≤ 3000 := hI.nm.2.2.2.2.2.2.2.2.2.2.1
  refine lv_iload_n hx hb dX10_byteAt_0 rfl (lv_at hl 1 rfl) ?_
  refine xb_if_lt (tgt := 25) hx hb (by unfold ir; omega) dX10_byteAt_1 (by decide) (fun c_1 => ?_) (fun c_1 => ?_)
  · refine lv_iconst (v := iv (-1)) hx hb dX10_byteAt_25 rfl ?_
    exact xr_i G (x := (-1)) hret hlk (by unfold ir; omega) rfl dX10_byteAt_26 ⟨rfl, (bta_out (by omega)), (by omega)⟩
  · refine lv_iload_n hx hb dX10_byteAt_4 rfl (lv_at hl 1 rfl) ?_
    refine lv_aload_n hx hb dX10_byteAt_5 rfl (lv_at hl 0 rfl) ?_
    refine xa_geti G fd_X10 (a := 26) (x := μ.1 26 7) 7 rfl (by decide) rfl (wm 1 211 rfl rfl) ⟨rfl, rfl, rfl⟩ dX10_byteAt_6 rfl rfl ?_
    have hr_2 : -2147483648 ≤ μ.1 26 7 ∧ μ.1 26 7 ≤ 2147483647 := by have h9 := G.hr (a := 26) (k := 7) rfl; exact h9
    refine xb_icmp_ge (tgt := 25) hx hb (by unfold ir; omega) (by unfold ir; omega) dX10_byteAt_9 (by decide) (fun c_9 => ?_) (fun c_9 => ?_)
    · refine lv_iconst (v := iv (-1)) hx hb dX10_byteAt_25 rfl ?_
      exact xr_i G (x := (-1)) hret hlk (by unfold ir; omega) rfl dX10_byteAt_26 ⟨rfl, (bta_out (by omega)), (by omega)⟩
    · refine lv_aload_n hx hb dX10_byteAt_12 rfl (lv_at hl 0 rfl) ?_
      refine xa_getr G fd_X10 (a := 26) (x := 1) 0 rfl (by decide) rfl (wm 1 204 rfl rfl) ⟨rfl, rfl, rfl⟩ dX10_byteAt_13 rfl (G.sk 27 rfl) (by decide) rfl ?_
      refine lv_iload_n hx hb dX10_byteAt_16 rfl (lv_at hl 1 rfl) ?_
      refine xa_bald G (a := 1) (i := x1) rfl (by have h9 := G.lc (a := 1) (n := 3000) 0 rfl; omega) dX10_byteAt_17 rfl ?_
      have hr_3 : -2147483648 ≤ μ.1 1 x1 ∧ μ.1 1 x1 ≤ 2147483647 := by have h9 := G.hr3 (a := 1) (k := x1) rfl; exact h9
      refine lv_sipush (v := iv 255) hx hb dX10_byteAt_18 rfl ?_
      refine lv_iand hx hb dX10_byteAt_21 ?_
      refine xb_topi (fun y_4 hr_y_4 he_y_4 => ?_)
      have hr_y_4 : -2147483648 ≤ y_4 ∧ y_4 ≤ 2147483647 := hr_y_4
      have hm_y_4 := and_mask (μ.1 1 x1) (k := 255) (by omega) he_y_4 hr_y_4
      refine lv_goto (tgt := 26) hx hb dX10_byteAt_22 (by decide) ?_
      exact xr_i G (x := y_4) hret hlk (by unfold ir; omega) rfl dX10_byteAt_26 ⟨rfl, (bta_in (by omega) he_y_4 hr_y_4), (by omega)⟩

set_option maxHeartbeats 4000000 in
set_option maxRecDepth 100000 in
theorem c_X10_readDigits (ω : Om) (l : Launch) (μ : M3) (x1 : Int) (hx1 : ir x1) (hI : IC μ) (hd : 0 ≤ x1 ∧ x1 ≤ 10000) : CtI ω l yX10_readDigits cX10_readDigits 3 .int 1 21 [.ref (oP ω 26), .int (iv x1)] μ (fun (r : Int) (μ' : M3) => (Fr [26] μ μ') ∧ (IC μ') ∧ (bta μ (μ.1 26 9) < 48 ∨ 57 < bta μ (μ.1 26 9) ∨ μ.1 26 9 < μ'.1 26 9) ∧ (x1 ≤ r ∧ r ≤ x1 + 3000) ∧ (μ.1 26 9 ≤ μ'.1 26 9) ∧ (μ'.1 26 6 = μ.1 26 6) ∧ (μ'.1 26 7 = μ.1 26 7) ∧ (μ'.1 26 8 = μ.1 26 8) ∧ (μ'.1 26 10 = μ.1 26 10) ∧ (μ'.1 26 11 = μ.1 26 11) ∧ (μ'.1 26 12 = μ.1 26 12) ∧ (μ'.1 26 13 = μ.1 26 13)) := by
  refine CtI.go (by decide) (Nat.le_of_ble_eq_true rfl) (fun ρ p e s m below meth c R ls G hR hret hlk hl => ?_)
  have hx := G.1.1
  have hb := G.1.2.1
  have hl : lv_has ls 3 [(0, .ref (oP ω 26)), (1, .int (iv x1))] := hl
  generalize s.drawn = d0 at G ⊢
  have hr_x1 : -2147483648 ≤ x1 ∧ x1 ≤ 2147483647 := hx1
  have hn_1 : 0 ≤ μ.1 26 7 ∧ μ.1 26 7 ≤ 3000 := hI.nm.2.2.2.2.2.2.2.2.2.2.1
  have hn_2 : 0 ≤ μ.1 26 9 ∧ μ.1 26 9 ≤ 3000 := hI.nm.2.2.2.2.2.2.2.2.2.2.2.1
  have hb0 : bta μ (μ.1 26 9) = -1 ∨ (0 ≤ μ.1 26 9 ∧ μ.1 26 9 < μ.1 26 7) := by unfold bta; split; (rename_i h; exact Or.inr h); exact Or.inl rfl
  refine lv_iload_n hx hb dX10_readDigits_0 rfl (lv_at hl 1 rfl) ?_
  refine lv_istore_n (lv' := [(2, .int (iv x1)), (0, .ref (oP ω 26)), (1, .int (iv x1))]) hx hb dX10_readDigits_1 rfl hl (by decide) rfl (fun ls hl => ?_)
  refine xl (fun n_9 μ' ls => ∃ (d9 : Int), (Fr [26] μ μ') ∧ (-2147483648 ≤ d9 ∧ d9 ≤ 2147483647) ∧ (μ.1 26 9 ≤ μ'.1 26 9) ∧ (d9 = x1 + (μ'.1 26 9 - μ.1 26 9)) ∧ (μ'.1 26 6 = μ.1 26 6) ∧ (μ'.1 26 7 = μ.1 26 7) ∧ (μ'.1 26 8 = μ.1 26 8) ∧ (μ'.1 26 10 = μ.1 26 10) ∧ (μ'.1 26 11 = μ.1 26 11) ∧ (μ'.1 26 12 = μ.1 26 12) ∧ (μ'.1 26 13 = μ.1 26 13) ∧ (IC μ') ∧ n_9 = Int.toNat (3000 - μ'.1 26 9) ∧ lv_has ls 3 [(2, .int (iv d9)), (0, .ref (oP ω 26)), (1, .int (iv x1))]) (fun n_9 ρ μL3 d0 H locs ls hI_l G ih => ?_) _ _ _ _ _ _ _ ⟨x1, Fr.rf, (by omega), (by omega), (by omega), rfl, rfl, rfl, rfl, rfl, rfl, rfl, hI, rfl, lv_sub hl [0, 1, 2] rfl⟩ G
  obtain ⟨d9, FL4, hi_6, hi_7, hi_8, hi_9, hi_10, hi_11, hi_12, hi_13, hi_14, hi_15, hi_16, hn5, hl⟩ := hI_l
  have hn_17 : 0 ≤ μL3.1 26 9 ∧ μL3.1 26 9 ≤ 3000 := hi_16.nm.2.2.2.2.2.2.2.2.2.2.2.1
  have hbta : ∀ i, bta μL3 i = bta μ i := (fun i => bta_eq hi_10 (fun j => (FL4.1 1 (by decide) j)) i)
  refine lv_aload_n hx hb dX10_readDigits_2 rfl (lv_at hl 1 rfl) ?_
  refine xa_geti G fd_X10 (a := 26) (x := μL3.1 26 9) 9 rfl (by decide) rfl (wm 1 213 rfl rfl) ⟨rfl, rfl, rfl⟩ dX10_readDigits_3 rfl rfl ?_
  have hr_18 : -2147483648 ≤ μL3.1 26 9 ∧ μL3.1 26 9 ≤ 2147483647 := by have h9 := G.hr (a := 26) (k := 9) rfl; exact h9
  refine lv_aload_n hx hb dX10_readDigits_6 rfl (lv_at hl 1 rfl) ?_
  refine xa_geti G fd_X10 (a := 26) (x := μ.1 26 7) 7 rfl (by decide) rfl (wm 1 211 rfl rfl) ⟨rfl, rfl, rfl⟩ dX10_readDigits_7 rfl hi_10 ?_
  have hr_19 : -2147483648 ≤ μ.1 26 7 ∧ μ.1 26 7 ≤ 2147483647 := by have h9 := G.hr (a := 26) (k := 7) rfl; rw [show μL3.1 26 7 = μ.1 26 7 from hi_10] at h9; exact h9
  refine xb_icmp_ge (tgt := 68) hx hb (by unfold ir; omega) (by unfold ir; omega) dX10_readDigits_10 (by decide) (fun c_10 => ?_) (fun c_10 => ?_)
  · refine lv_iload_n hx hb dX10_readDigits_68 rfl (lv_at hl 0 rfl) ?_
    have e_20 : μL3.1 26 6 = μ.1 26 6 := hi_9
    have e_21 : μL3.1 26 7 = μ.1 26 7 := hi_10
    have e_22 : μL3.1 26 8 = μ.1 26 8 := hi_11
    have e_23 : μL3.1 26 10 = μ.1 26 10 := hi_12
    have e_24 : μL3.1 26 11 = μ.1 26 11 := hi_13
    have e_25 : μL3.1 26 12 = μ.1 26 12 := hi_14
    have e_26 : μL3.1 26 13 = μ.1 26 13 := hi_15
    exact xr_i G (x := d9) hret hlk (by unfold ir; omega) rfl dX10_readDigits_69 ⟨(Fr.tr Fr.rf FL4 (by decide)), hi_16, (by by_cases h9 : μL3.1 26 9 = μ.1 26 9; (omega); exact Or.inr (Or.inr (by omega))), (by omega), (by omega), (by omega), (by omega), (by omega), (by omega), (by omega), (by omega), (by omega)⟩
  · refine lv_aload_n hx hb dX10_readDigits_13 rfl (lv_at hl 1 rfl) ?_
    refine lv_aload_n hx hb dX10_readDigits_14 rfl (lv_at hl 1 rfl) ?_
    refine xa_geti G fd_X10 (a := 26) (x := μL3.1 26 9) 9 rfl (by decide) rfl (wm 1 213 rfl rfl) ⟨rfl, rfl, rfl⟩ dX10_readDigits_15 rfl rfl ?_
    have e_27 : μL3.1 26 7 = μ.1 26 7 := hi_10
    refine xc_iV G (b := 26) (rest := []) (As := [.int (iv (μL3.1 26 9))]) (c_X10_byteAt ω l μL3 (μL3.1 26 9) (by unfold ir; omega) hi_16) (wm 3 58 rfl rfl) (wm 3 60 rfl rfl) (wm 0 2 rfl rfl) rfl rfl (by decide) rfl (wm 1 13 rfl rfl) (wm 3 61 rfl rfl) (by decide) hR (by decide) (n := 1) rfl rfl (Nat.le_of_ble_eq_true rfl) hl.1 dX10_readDigits_18 (fun r_29 μ28 ρ d0 H locs hr_r_29 hp G => ?_)
    have hr_r_29 : -2147483648 ≤ r_29 ∧ r_29 ≤ 2147483647 := hr_r_29
    obtain ⟨hsm_30, hp_31, hp_32⟩ := hp
    have hsm_30 := Eq.symm hsm_30
    subst hsm_30
    refine xc_iS G (rest := []) (As := [.int (iv r_29)]) (c_X10_isDigit ω l μL3 r_29 (by unfold ir; omega)) (wm 3 69 rfl rfl) (wm 3 70 rfl rfl) (wm 1 13 rfl rfl) (wm 3 71 rfl rfl) (by decide) hR (by decide) (n := 1) rfl rfl (Nat.le_of_ble_eq_true rfl) hl.1 dX10_readDigits_21 (fun r_34 μ33 ρ d0 H locs hr_r_34 hp G => ?_)
    have hr_r_34 : -2147483648 ≤ r_34 ∧ r_34 ≤ 2147483647 := hr_r_34
    obtain ⟨hsm_35, hp_36⟩ := hp
    have hsm_35 := Eq.symm hsm_35
    subst hsm_35
    refine xb_if_eq (tgt := 68) hx hb (by unfold ir; omega) dX10_readDigits_24 (by decide) (fun c_24 => ?_) (fun c_24 => ?_)
    · refine lv_iload_n hx hb dX10_readDigits_68 rfl (lv_at hl 0 rfl) ?_
      have e_37 : μL3.1 26 6 = μ.1 26 6 := hi_9
      have e_38 : μL3.1 26 7 = μ.1 26 7 := hi_10
      have e_39 : μL3.1 26 8 = μ.1 26 8 := hi_11
      have e_40 : μL3.1 26 10 = μ.1 26 10 := hi_12
      have e_41 : μL3.1 26 11 = μ.1 26 11 := hi_13
      have e_42 : μL3.1 26 12 = μ.1 26 12 := hi_14
      have e_43 : μL3.1 26 13 = μ.1 26 13 := hi_15
      exact xr_i G (x := d9) hret hlk (by unfold ir; omega) rfl dX10_readDigits_69 ⟨(Fr.tr Fr.rf FL4 (by decide)), hi_16, (by by_cases h9 : μL3.1 26 9 = μ.1 26 9; (rw [h9, hbta] at hp_31; omega); exact Or.inr (Or.inr (by omega))), (by omega), (by omega), (by omega), (by omega), (by omega), (by omega), (by omega), (by omega), (by omega)⟩
    · refine lv_aload_n hx hb dX10_readDigits_27 rfl (lv_at hl 1 rfl) ?_
      refine lv_aload_n hx hb dX10_readDigits_28 rfl (lv_at hl 1 rfl) ?_
      refine xa_getl G fd_X10 (a := 26) (x := μL3.1 26 14) 14 rfl (by decide) rfl (wm 1 220 rfl rfl) ⟨rfl, rfl, rfl⟩ dX10_readDigits_29 rfl rfl ?_
      have hj_44 : jr (μL3.1 26 14) := by have h9 := G.hj (a := 26) (k := 14) rfl; exact h9
      refine lv_ldc2 (s := s.setDrawn d0) hx hb G.1.2.2.2.1 (dr_words G.1.2.2.2.2 d0 _ (wm 3 88 rfl rfl)) dX10_readDigits_32 ?_
      refine xb_litl (x := 10) (by decide) ?_
      refine xb_lmul hx hb dX10_readDigits_35 ?_
      refine xb_topl (fun z_45 hr_z_45 he_z_45 => ?_)
      refine lv_aload_n hx hb dX10_readDigits_36 rfl (lv_at hl 1 rfl) ?_
      refine lv_aload_n hx hb dX10_readDigits_37 rfl (lv_at hl 1 rfl) ?_
      refine xa_geti G fd_X10 (a := 26) (x := μL3.1 26 9) 9 rfl (by decide) rfl (wm 1 213 rfl rfl) ⟨rfl, rfl, rfl⟩ dX10_readDigits_38 rfl rfl ?_
      have e_46 : μL3.1 26 7 = μ.1 26 7 := hi_10
      refine xc_iV G (b := 26) (rest := [.long (jv z_45), .ref (oP ω 26)]) (As := [.int (iv (μL3.1 26 9))]) (c_X10_byteAt ω l μL3 (μL3.1 26 9) (by unfold ir; omega) hi_16) (wm 3 58 rfl rfl) (wm 3 60 rfl rfl) (wm 0 2 rfl rfl) rfl rfl (by decide) rfl (wm 1 13 rfl rfl) (wm 3 61 rfl rfl) (by decide) hR (by decide) (n := 1) rfl rfl (Nat.le_of_ble_eq_true rfl) hl.1 dX10_readDigits_41 (fun r_48 μ47 ρ d0 H locs hr_r_48 hp G => ?_)
      have hr_r_48 : -2147483648 ≤ r_48 ∧ r_48 ≤ 2147483647 := hr_r_48
      obtain ⟨hsm_49, hp_50, hp_51⟩ := hp
      have hsm_49 := Eq.symm hsm_49
      subst hsm_49
      refine lv_bipush (v := iv 48) hx hb dX10_readDigits_44 rfl ?_
      refine xb_isub hx hb dX10_readDigits_46 ?_
      refine xb_i2l hx hb (by unfold ir; omega) dX10_readDigits_47 ?_
      refine xb_ladd hx hb dX10_readDigits_48 ?_
      refine xb_topl (fun z_52 hr_z_52 he_z_52 => ?_)
      refine xa_putl G fd_X10 (a := 26) (x := z_52) 14 (kz := 14) rfl rfl (by decide) rfl hr_z_52 (wm 1 220 rfl rfl) ⟨rfl, rfl, rfl, rfl⟩ rfl dX10_readDigits_49 rfl (fun H locs G => ?_)
      refine lv_iinc (v := iv (d9 + 1)) (lv' := [(2, .int (iv (d9 + 1))), (0, .ref (oP ω 26)), (1, .int (iv x1))]) hx hb dX10_readDigits_52 hl (k := 0) rfl (by rw [show Int32.ofInt 1 = iv 1 from rfl, iv_add]) (by decide) rfl (fun ls hl => ?_)
      refine lv_aload_n hx hb dX10_readDigits_55 rfl (lv_at hl 1 rfl) ?_
      refine lv_dup hx hb dX10_readDigits_56 rfl ?_
      refine xa_geti G fd_X10 (a := 26) (x := μL3.1 26 9) 9 rfl (by decide) rfl (wm 1 213 rfl rfl) ⟨rfl, rfl, rfl⟩ dX10_readDigits_57 rfl (sv_n _ (by decide)) ?_
      refine lv_iconst (v := iv 1) hx hb dX10_readDigits_60 rfl ?_
      refine xb_iadd hx hb dX10_readDigits_61 ?_
      refine xa_puti G fd_X10 (a := 26) (x := (μL3.1 26 9) + 1) 9 (kz := 9) rfl rfl (by decide) rfl (by unfold ir; omega) (wm 1 213 rfl rfl) ⟨rfl, rfl, rfl, rfl⟩ rfl dX10_readDigits_62 rfl (fun H locs G => ?_)
      refine lv_goto (tgt := 2) hx hb dX10_readDigits_65 (by decide) ?_
      have e_53 : (sv (sv μL3 26 14 z_52) 26 9 ((μL3.1 26 9) + 1)).1 26 9 = (μL3.1 26 9) + 1 := (sv_s _ _ _ _)
      have e_54 : (sv (sv μL3 26 14 z_52) 26 9 ((μL3.1 26 9) + 1)).1 26 9 = (μL3.1 26 9) + 1 := (sv_s _ _ _ _)
      have hI_55 : IC (sv (sv μL3 26 14 z_52) 26 9 ((μL3.1 26 9) + 1)) := (IC.n_26_9 (IC.put hi_16 (by decide +kernel)) (by omega))
      exact ih _ _ _ _ _ _ _ (by omega) ⟨d9 + 1, (Fr.put (Fr.put FL4 (by decide)) (by decide)), (by omega), (by omega), (by omega), ((sv_n _ (by decide)).trans ((sv_n _ (by decide)).trans hi_9)), ((sv_n _ (by decide)).trans ((sv_n _ (by decide)).trans hi_10)), ((sv_n _ (by decide)).trans ((sv_n _ (by decide)).trans hi_11)), ((sv_n _ (by decide)).trans ((sv_n _ (by decide)).trans hi_12)), ((sv_n _ (by decide)).trans ((sv_n _ (by decide)).trans hi_13)), ((sv_n _ (by decide)).trans ((sv_n _ (by decide)).trans hi_14)), ((sv_n _ (by decide)).trans ((sv_n _ (by decide)).trans hi_15)), hI_55, rfl, lv_sub hl [0, 1, 2] rfl⟩ G

set_option maxHeartbeats 4000000 in
set_option maxRecDepth 100000 in
theorem c_X10_readReal (ω : Om) (l : Launch) (μ : M3) (hI : IC μ) : CtV ω l yX10_readReal cX10_readReal 6 2 43 [.ref (oP ω 26)] μ (fun (μ' : M3) => (Fr [26] μ μ') ∧ (IC μ') ∧ (bta μ (μ.1 26 9) < 48 ∨ 57 < bta μ (μ.1 26 9) ∨ μ.1 26 9 < μ'.1 26 9) ∧ (μ.1 26 9 ≤ μ'.1 26 9) ∧ (μ'.1 26 6 = μ.1 26 6) ∧ (μ'.1 26 7 = μ.1 26 7) ∧ (μ'.1 26 8 = μ.1 26 8) ∧ (μ'.1 26 10 = μ.1 26 10) ∧ (μ'.1 26 11 = μ.1 26 11) ∧ (μ'.1 26 13 = μ.1 26 13)) := by
  refine CtV.go (by decide) (Nat.le_of_ble_eq_true rfl) (fun ρ p e s m below meth c R ls G hR hret hlk hl => ?_)
  have hx := G.1.1
  have hb := G.1.2.1
  have hl : lv_has ls 6 [(0, .ref (oP ω 26))] := hl
  generalize s.drawn = d0 at G ⊢
  have hn_1 : 0 ≤ μ.1 26 7 ∧ μ.1 26 7 ≤ 3000 := hI.nm.2.2.2.2.2.2.2.2.2.2.1
  have hn_2 : 0 ≤ μ.1 26 9 ∧ μ.1 26 9 ≤ 3000 := hI.nm.2.2.2.2.2.2.2.2.2.2.2.1
  have hb0 : bta μ (μ.1 26 9) = -1 ∨ (0 ≤ μ.1 26 9 ∧ μ.1 26 9 < μ.1 26 7) := by unfold bta; split; (rename_i h; exact Or.inr h); exact Or.inl rfl
  refine lv_aload_n hx hb dX10_readReal_0 rfl (lv_at hl 0 rfl) ?_
  refine lv_iconst (v := iv 0) hx hb dX10_readReal_1 rfl ?_
  have hn_3 : 0 ≤ μ.1 26 6 ∧ μ.1 26 6 ≤ 3001 := hI.nm.2.2.2.2.2.2.2.2.2.1
  have hn_4 : -1 ≤ μ.1 26 10 ∧ μ.1 26 10 ≤ 3000 := hI.nm.2.2.2.2.2.2.2.2.2.2.2.2
  refine xc_iV G (b := 26) (rest := []) (As := [.int (iv 0)]) (c_X10_readDigits ω l μ 0 (by unfold ir; omega) hI (by omega)) (wm 3 84 rfl rfl) (wm 3 86 rfl rfl) (wm 0 7 rfl rfl) rfl rfl (by decide) rfl (wm 1 13 rfl rfl) (wm 3 87 rfl rfl) (by decide) hR (by decide) (n := 1) rfl rfl (Nat.le_of_ble_eq_true rfl) hl.1 dX10_readReal_2 (fun r_6 μ5 ρ d0 H locs hr_r_6 hp G => ?_)
  have hr_r_6 : -2147483648 ≤ r_6 ∧ r_6 ≤ 2147483647 := hr_r_6
  obtain ⟨F_7, hI_8, hp_9, hp_10, hp_11, hs_12, hs_13, hs_14, hs_15, hs_16, hs_17, hs_18⟩ := hp
  have hn_19 : 0 ≤ μ5.1 26 9 ∧ μ5.1 26 9 ≤ 3000 := hI_8.nm.2.2.2.2.2.2.2.2.2.2.2.1
  refine lv_istore_n (lv' := [(1, .int (iv r_6)), (0, .ref (oP ω 26))]) hx hb dX10_readReal_5 rfl hl (by decide) rfl (fun ls hl => ?_)
  refine lv_dconst1 hx hb dX10_readReal_6 ?_
  refine xb_topd (fun dd_20 he_dd_20 => ?_)
  refine lv_dstore_n (lv' := [(2, .double (dv dd_20)), (1, .int (iv r_6)), (0, .ref (oP ω 26))]) hx hb dX10_readReal_7 rfl hl (by decide) rfl (fun ls hl => ?_)
  refine lv_aload_n hx hb dX10_readReal_8 rfl (lv_at hl 2 rfl) ?_
  refine lv_aload_n hx hb dX10_readReal_9 rfl (lv_at hl 2 rfl) ?_
  refine xa_geti G fd_X10 (a := 26) (x := μ5.1 26 9) 9 rfl (by decide) rfl (wm 1 213 rfl rfl) ⟨rfl, rfl, rfl⟩ dX10_readReal_10 rfl rfl ?_
  have hr_21 : -2147483648 ≤ μ5.1 26 9 ∧ μ5.1 26 9 ≤ 2147483647 := by have h9 := G.hr (a := 26) (k := 9) rfl; exact h9
  have e_22 : μ5.1 26 7 = μ.1 26 7 := hs_13
  refine xc_iV G (b := 26) (rest := []) (As := [.int (iv (μ5.1 26 9))]) (c_X10_byteAt ω l μ5 (μ5.1 26 9) (by unfold ir; omega) hI_8) (wm 3 58 rfl rfl) (wm 3 60 rfl rfl) (wm 0 2 rfl rfl) rfl rfl (by decide) rfl (wm 1 13 rfl rfl) (wm 3 61 rfl rfl) (by decide) hR (by decide) (n := 1) rfl rfl (Nat.le_of_ble_eq_true rfl) hl.1 dX10_readReal_13 (fun r_24 μ23 ρ d0 H locs hr_r_24 hp G => ?_)
  have hr_r_24 : -2147483648 ≤ r_24 ∧ r_24 ≤ 2147483647 := hr_r_24
  obtain ⟨hsm_25, hp_26, hp_27⟩ := hp
  have hsm_25 := Eq.symm hsm_25
  subst hsm_25
  refine lv_bipush (v := iv 46) hx hb dX10_readReal_16 rfl ?_
  refine xb_icmp_ne (tgt := 86) hx hb (by unfold ir; omega) (by unfold ir; omega) dX10_readReal_18 (by decide) (fun c_18 => ?_) (fun c_18 => ?_)
  · refine lv_iload_n hx hb dX10_readReal_86 rfl (lv_at hl 1 rfl) ?_
    refine lv_bipush (v := iv 15) hx hb dX10_readReal_87 rfl ?_
    refine xb_icmp_le (tgt := 97) hx hb (by unfold ir; omega) (by unfold ir; omega) dX10_readReal_89 (by decide) (fun c_89 => ?_) (fun c_89 => ?_)
    · refine lv_aload_n hx hb dX10_readReal_97 rfl (lv_at hl 2 rfl) ?_
      refine lv_aload_n hx hb dX10_readReal_98 rfl (lv_at hl 2 rfl) ?_
      refine xa_getl G fd_X10 (a := 26) (x := μ5.1 26 14) 14 rfl (by decide) rfl (wm 1 220 rfl rfl) ⟨rfl, rfl, rfl⟩ dX10_readReal_99 rfl rfl ?_
      have hj_28 : jr (μ5.1 26 14) := by have h9 := G.hj (a := 26) (k := 14) rfl; exact h9
      refine lv_l2d hx hb dX10_readReal_102 ?_
      refine xb_topd (fun dd_29 he_dd_29 => ?_)
      refine lv_dload_n hx hb dX10_readReal_103 rfl (lv_at hl 0 rfl) ?_
      refine xd_ddiv G dX10_readReal_104 (fun dd_30 d0 G => ?_)
      refine xa_putd G fd_X10 (a := 26) (x := dd_30) 15 (kz := 15) rfl rfl (by decide) rfl  (wm 1 222 rfl rfl) ⟨rfl, rfl, rfl, rfl⟩ rfl dX10_readReal_105 rfl (fun H locs G => ?_)
      have hI_31 : IC (sv μ5 26 15 dd_30) := (IC.put hI_8 (by decide +kernel))
      have e_32 : (sv μ5 26 15 dd_30).1 26 9 = μ5.1 26 9 := (sv_n _ (by decide))
      have e_33 : (sv μ5 26 15 dd_30).1 26 9 = μ5.1 26 9 := (sv_n _ (by decide))
      have e_34 : (sv μ5 26 15 dd_30).1 26 6 = μ.1 26 6 := ((sv_n _ (by decide)).trans hs_12)
      have e_35 : (sv μ5 26 15 dd_30).1 26 7 = μ.1 26 7 := ((sv_n _ (by decide)).trans hs_13)
      have e_36 : (sv μ5 26 15 dd_30).1 26 8 = μ.1 26 8 := ((sv_n _ (by decide)).trans hs_14)
      have e_37 : (sv μ5 26 15 dd_30).1 26 10 = μ.1 26 10 := ((sv_n _ (by decide)).trans hs_15)
      have e_38 : (sv μ5 26 15 dd_30).1 26 11 = μ.1 26 11 := ((sv_n _ (by decide)).trans hs_16)
      have e_39 : (sv μ5 26 15 dd_30).1 26 13 = μ.1 26 13 := ((sv_n _ (by decide)).trans hs_18)
      exact xr_v G hret hlk dX10_readReal_108 ⟨(Fr.put (Fr.tr Fr.rf F_7 (by decide)) (by decide)), hI_31, (by omega), (by omega), (by omega), (by omega), (by omega), (by omega), (by omega), (by omega)⟩
    · refine lv_aload_n hx hb dX10_readReal_92 rfl (lv_at hl 2 rfl) ?_
      refine lv_iconst (v := iv 3) hx hb dX10_readReal_93 rfl ?_
      refine xa_puti G fd_X10 (a := 26) (x := 3) 12 (kz := 12) rfl rfl (by decide) rfl (by unfold ir; omega) (wm 1 216 rfl rfl) ⟨rfl, rfl, rfl, rfl⟩ rfl dX10_readReal_94 rfl (fun H locs G => ?_)
      refine lv_aload_n hx hb dX10_readReal_97 rfl (lv_at hl 2 rfl) ?_
      refine lv_aload_n hx hb dX10_readReal_98 rfl (lv_at hl 2 rfl) ?_
      refine xa_getl G fd_X10 (a := 26) (x := μ5.1 26 14) 14 rfl (by decide) rfl (wm 1 220 rfl rfl) ⟨rfl, rfl, rfl⟩ dX10_readReal_99 rfl (sv_n _ (by decide)) ?_
      have hj_40 : jr (μ5.1 26 14) := by have h9 := G.hj (a := 26) (k := 14) rfl; rw [show (sv μ5 26 12 3).1 26 14 = μ5.1 26 14 from (sv_n _ (by decide))] at h9; exact h9
      refine lv_l2d hx hb dX10_readReal_102 ?_
      refine xb_topd (fun dd_41 he_dd_41 => ?_)
      refine lv_dload_n hx hb dX10_readReal_103 rfl (lv_at hl 0 rfl) ?_
      refine xd_ddiv G dX10_readReal_104 (fun dd_42 d0 G => ?_)
      refine xa_putd G fd_X10 (a := 26) (x := dd_42) 15 (kz := 15) rfl rfl (by decide) rfl  (wm 1 222 rfl rfl) ⟨rfl, rfl, rfl, rfl⟩ rfl dX10_readReal_105 rfl (fun H locs G => ?_)
      have hI_43 : IC (sv (sv μ5 26 12 3) 26 15 dd_42) := (IC.put (IC.put hI_8 (by decide +kernel)) (by decide +kernel))
      have e_44 : (sv (sv μ5 26 12 3) 26 15 dd_42).1 26 9 = μ5.1 26 9 := ((sv_n _ (by decide)).trans (sv_n _ (by decide)))
      have e_45 : (sv (sv μ5 26 12 3) 26 15 dd_42).1 26 9 = μ5.1 26 9 := ((sv_n _ (by decide)).trans (sv_n _ (by decide)))
      have e_46 : (sv (sv μ5 26 12 3) 26 15 dd_42).1 26 6 = μ.1 26 6 := ((sv_n _ (by decide)).trans ((sv_n _ (by decide)).trans hs_12))
      have e_47 : (sv (sv μ5 26 12 3) 26 15 dd_42).1 26 7 = μ.1 26 7 := ((sv_n _ (by decide)).trans ((sv_n _ (by decide)).trans hs_13))
      have e_48 : (sv (sv μ5 26 12 3) 26 15 dd_42).1 26 8 = μ.1 26 8 := ((sv_n _ (by decide)).trans ((sv_n _ (by decide)).trans hs_14))
      have e_49 : (sv (sv μ5 26 12 3) 26 15 dd_42).1 26 10 = μ.1 26 10 := ((sv_n _ (by decide)).trans ((sv_n _ (by decide)).trans hs_15))
      have e_50 : (sv (sv μ5 26 12 3) 26 15 dd_42).1 26 11 = μ.1 26 11 := ((sv_n _ (by decide)).trans ((sv_n _ (by decide)).trans hs_16))
      have e_51 : (sv (sv μ5 26 12 3) 26 15 dd_42).1 26 13 = μ.1 26 13 := ((sv_n _ (by decide)).trans ((sv_n _ (by decide)).trans hs_18))
      exact xr_v G hret hlk dX10_readReal_108 ⟨(Fr.put (Fr.put (Fr.tr Fr.rf F_7 (by decide)) (by decide)) (by decide)), hI_43, (by omega), (by omega), (by omega), (by omega), (by omega), (by omega), (by omega), (by omega)⟩
  · refine lv_aload_n hx hb dX10_readReal_21 rfl (lv_at hl 2 rfl) ?_
    refine lv_aload_n hx hb dX10_readReal_22 rfl (lv_at hl 2 rfl) ?_
    refine xa_geti G fd_X10 (a := 26) (x := μ5.1 26 9) 9 rfl (by decide) rfl (wm 1 213 rfl rfl) ⟨rfl, rfl, rfl⟩ dX10_readReal_23 rfl rfl ?_
    refine lv_iconst (v := iv 1) hx hb dX10_readReal_26 rfl ?_
    refine xb_iadd hx hb dX10_readReal_27 ?_
    have e_52 : μ5.1 26 7 = μ.1 26 7 := hs_13
    refine xc_iV G (b := 26) (rest := []) (As := [.int (iv ((μ5.1 26 9) + 1))]) (c_X10_byteAt ω l μ5 ((μ5.1 26 9) + 1) (by unfold ir; omega) hI_8) (wm 3 58 rfl rfl) (wm 3 60 rfl rfl) (wm 0 2 rfl rfl) rfl rfl (by decide) rfl (wm 1 13 rfl rfl) (wm 3 61 rfl rfl) (by decide) hR (by decide) (n := 1) rfl rfl (Nat.le_of_ble_eq_true rfl) hl.1 dX10_readReal_28 (fun r_54 μ53 ρ d0 H locs hr_r_54 hp G => ?_)
    have hr_r_54 : -2147483648 ≤ r_54 ∧ r_54 ≤ 2147483647 := hr_r_54
    obtain ⟨hsm_55, hp_56, hp_57⟩ := hp
    have hsm_55 := Eq.symm hsm_55
    subst hsm_55
    refine xc_iS G (rest := []) (As := [.int (iv r_54)]) (c_X10_isDigit ω l μ5 r_54 (by unfold ir; omega)) (wm 3 69 rfl rfl) (wm 3 70 rfl rfl) (wm 1 13 rfl rfl) (wm 3 71 rfl rfl) (by decide) hR (by decide) (n := 1) rfl rfl (Nat.le_of_ble_eq_true rfl) hl.1 dX10_readReal_31 (fun r_59 μ58 ρ d0 H locs hr_r_59 hp G => ?_)
    have hr_r_59 : -2147483648 ≤ r_59 ∧ r_59 ≤ 2147483647 := hr_r_59
    obtain ⟨hsm_60, hp_61⟩ := hp
    have hsm_60 := Eq.symm hsm_60
    subst hsm_60
    refine xb_if_eq (tgt := 86) hx hb (by unfold ir; omega) dX10_readReal_34 (by decide) (fun c_34 => ?_) (fun c_34 => ?_)
    · refine lv_iload_n hx hb dX10_readReal_86 rfl (lv_at hl 1 rfl) ?_
      refine lv_bipush (v := iv 15) hx hb dX10_readReal_87 rfl ?_
      refine xb_icmp_le (tgt := 97) hx hb (by unfold ir; omega) (by unfold ir; omega) dX10_readReal_89 (by decide) (fun c_89 => ?_) (fun c_89 => ?_)
      · refine lv_aload_n hx hb dX10_readReal_97 rfl (lv_at hl 2 rfl) ?_
        refine lv_aload_n hx hb dX10_readReal_98 rfl (lv_at hl 2 rfl) ?_
        refine xa_getl G fd_X10 (a := 26) (x := μ5.1 26 14) 14 rfl (by decide) rfl (wm 1 220 rfl rfl) ⟨rfl, rfl, rfl⟩ dX10_readReal_99 rfl rfl ?_
        have hj_62 : jr (μ5.1 26 14) := by have h9 := G.hj (a := 26) (k := 14) rfl; exact h9
        refine lv_l2d hx hb dX10_readReal_102 ?_
        refine xb_topd (fun dd_63 he_dd_63 => ?_)
        refine lv_dload_n hx hb dX10_readReal_103 rfl (lv_at hl 0 rfl) ?_
        refine xd_ddiv G dX10_readReal_104 (fun dd_64 d0 G => ?_)
        refine xa_putd G fd_X10 (a := 26) (x := dd_64) 15 (kz := 15) rfl rfl (by decide) rfl  (wm 1 222 rfl rfl) ⟨rfl, rfl, rfl, rfl⟩ rfl dX10_readReal_105 rfl (fun H locs G => ?_)
        have hI_65 : IC (sv μ5 26 15 dd_64) := (IC.put hI_8 (by decide +kernel))
        have e_66 : (sv μ5 26 15 dd_64).1 26 9 = μ5.1 26 9 := (sv_n _ (by decide))
        have e_67 : (sv μ5 26 15 dd_64).1 26 9 = μ5.1 26 9 := (sv_n _ (by decide))
        have e_68 : (sv μ5 26 15 dd_64).1 26 6 = μ.1 26 6 := ((sv_n _ (by decide)).trans hs_12)
        have e_69 : (sv μ5 26 15 dd_64).1 26 7 = μ.1 26 7 := ((sv_n _ (by decide)).trans hs_13)
        have e_70 : (sv μ5 26 15 dd_64).1 26 8 = μ.1 26 8 := ((sv_n _ (by decide)).trans hs_14)
        have e_71 : (sv μ5 26 15 dd_64).1 26 10 = μ.1 26 10 := ((sv_n _ (by decide)).trans hs_15)
        have e_72 : (sv μ5 26 15 dd_64).1 26 11 = μ.1 26 11 := ((sv_n _ (by decide)).trans hs_16)
        have e_73 : (sv μ5 26 15 dd_64).1 26 13 = μ.1 26 13 := ((sv_n _ (by decide)).trans hs_18)
        exact xr_v G hret hlk dX10_readReal_108 ⟨(Fr.put (Fr.tr Fr.rf F_7 (by decide)) (by decide)), hI_65, (by omega), (by omega), (by omega), (by omega), (by omega), (by omega), (by omega), (by omega)⟩
      · refine lv_aload_n hx hb dX10_readReal_92 rfl (lv_at hl 2 rfl) ?_
        refine lv_iconst (v := iv 3) hx hb dX10_readReal_93 rfl ?_
        refine xa_puti G fd_X10 (a := 26) (x := 3) 12 (kz := 12) rfl rfl (by decide) rfl (by unfold ir; omega) (wm 1 216 rfl rfl) ⟨rfl, rfl, rfl, rfl⟩ rfl dX10_readReal_94 rfl (fun H locs G => ?_)
        refine lv_aload_n hx hb dX10_readReal_97 rfl (lv_at hl 2 rfl) ?_
        refine lv_aload_n hx hb dX10_readReal_98 rfl (lv_at hl 2 rfl) ?_
        refine xa_getl G fd_X10 (a := 26) (x := μ5.1 26 14) 14 rfl (by decide) rfl (wm 1 220 rfl rfl) ⟨rfl, rfl, rfl⟩ dX10_readReal_99 rfl (sv_n _ (by decide)) ?_
        have hj_74 : jr (μ5.1 26 14) := by have h9 := G.hj (a := 26) (k := 14) rfl; rw [show (sv μ5 26 12 3).1 26 14 = μ5.1 26 14 from (sv_n _ (by decide))] at h9; exact h9
        refine lv_l2d hx hb dX10_readReal_102 ?_
        refine xb_topd (fun dd_75 he_dd_75 => ?_)
        refine lv_dload_n hx hb dX10_readReal_103 rfl (lv_at hl 0 rfl) ?_
        refine xd_ddiv G dX10_readReal_104 (fun dd_76 d0 G => ?_)
        refine xa_putd G fd_X10 (a := 26) (x := dd_76) 15 (kz := 15) rfl rfl (by decide) rfl  (wm 1 222 rfl rfl) ⟨rfl, rfl, rfl, rfl⟩ rfl dX10_readReal_105 rfl (fun H locs G => ?_)
        have hI_77 : IC (sv (sv μ5 26 12 3) 26 15 dd_76) := (IC.put (IC.put hI_8 (by decide +kernel)) (by decide +kernel))
        have e_78 : (sv (sv μ5 26 12 3) 26 15 dd_76).1 26 9 = μ5.1 26 9 := ((sv_n _ (by decide)).trans (sv_n _ (by decide)))
        have e_79 : (sv (sv μ5 26 12 3) 26 15 dd_76).1 26 9 = μ5.1 26 9 := ((sv_n _ (by decide)).trans (sv_n _ (by decide)))
        have e_80 : (sv (sv μ5 26 12 3) 26 15 dd_76).1 26 6 = μ.1 26 6 := ((sv_n _ (by decide)).trans ((sv_n _ (by decide)).trans hs_12))
        have e_81 : (sv (sv μ5 26 12 3) 26 15 dd_76).1 26 7 = μ.1 26 7 := ((sv_n _ (by decide)).trans ((sv_n _ (by decide)).trans hs_13))
        have e_82 : (sv (sv μ5 26 12 3) 26 15 dd_76).1 26 8 = μ.1 26 8 := ((sv_n _ (by decide)).trans ((sv_n _ (by decide)).trans hs_14))
        have e_83 : (sv (sv μ5 26 12 3) 26 15 dd_76).1 26 10 = μ.1 26 10 := ((sv_n _ (by decide)).trans ((sv_n _ (by decide)).trans hs_15))
        have e_84 : (sv (sv μ5 26 12 3) 26 15 dd_76).1 26 11 = μ.1 26 11 := ((sv_n _ (by decide)).trans ((sv_n _ (by decide)).trans hs_16))
        have e_85 : (sv (sv μ5 26 12 3) 26 15 dd_76).1 26 13 = μ.1 26 13 := ((sv_n _ (by decide)).trans ((sv_n _ (by decide)).trans hs_18))
        exact xr_v G hret hlk dX10_readReal_108 ⟨(Fr.put (Fr.put (Fr.tr Fr.rf F_7 (by decide)) (by decide)) (by decide)), hI_77, (by omega), (by omega), (by omega), (by omega), (by omega), (by omega), (by omega), (by omega)⟩
    · refine lv_aload_n hx hb dX10_readReal_37 rfl (lv_at hl 2 rfl) ?_
      refine lv_dup hx hb dX10_readReal_38 rfl ?_
      refine xa_geti G fd_X10 (a := 26) (x := μ5.1 26 9) 9 rfl (by decide) rfl (wm 1 213 rfl rfl) ⟨rfl, rfl, rfl⟩ dX10_readReal_39 rfl rfl ?_
      refine lv_iconst (v := iv 1) hx hb dX10_readReal_42 rfl ?_
      refine xb_iadd hx hb dX10_readReal_43 ?_
      refine xa_puti G fd_X10 (a := 26) (x := (μ5.1 26 9) + 1) 9 (kz := 9) rfl rfl (by decide) rfl (by unfold ir; omega) (wm 1 213 rfl rfl) ⟨rfl, rfl, rfl, rfl⟩ rfl dX10_readReal_44 rfl (fun H locs G => ?_)
      refine lv_aload_n hx hb dX10_readReal_47 rfl (lv_at hl 2 rfl) ?_
      refine lv_iload_n hx hb dX10_readReal_48 rfl (lv_at hl 1 rfl) ?_
      have hI_86 : IC (sv μ5 26 9 ((μ5.1 26 9) + 1)) := (IC.n_26_9 hI_8 (by omega))
      have e_87 : (sv μ5 26 9 ((μ5.1 26 9) + 1)).1 26 9 = (μ5.1 26 9) + 1 := (sv_s _ _ _ _)
      have e_88 : (sv μ5 26 9 ((μ5.1 26 9) + 1)).1 26 9 = (μ5.1 26 9) + 1 := (sv_s _ _ _ _)
      have e_89 : (sv μ5 26 9 ((μ5.1 26 9) + 1)).1 26 9 = (μ5.1 26 9) + 1 := (sv_s _ _ _ _)
      have e_90 : (sv μ5 26 9 ((μ5.1 26 9) + 1)).1 26 9 = (μ5.1 26 9) + 1 := (sv_s _ _ _ _)
      have e_91 : (sv μ5 26 9 ((μ5.1 26 9) + 1)).1 26 6 = μ.1 26 6 := ((sv_n _ (by decide)).trans hs_12)
      have e_92 : (sv μ5 26 9 ((μ5.1 26 9) + 1)).1 26 7 = μ.1 26 7 := ((sv_n _ (by decide)).trans hs_13)
      have e_93 : (sv μ5 26 9 ((μ5.1 26 9) + 1)).1 26 8 = μ.1 26 8 := ((sv_n _ (by decide)).trans hs_14)
      have e_94 : (sv μ5 26 9 ((μ5.1 26 9) + 1)).1 26 10 = μ.1 26 10 := ((sv_n _ (by decide)).trans hs_15)
      have e_95 : (sv μ5 26 9 ((μ5.1 26 9) + 1)).1 26 11 = μ.1 26 11 := ((sv_n _ (by decide)).trans hs_16)
      have e_96 : (sv μ5 26 9 ((μ5.1 26 9) + 1)).1 26 12 = μ.1 26 12 := ((sv_n _ (by decide)).trans hs_17)
      have e_97 : (sv μ5 26 9 ((μ5.1 26 9) + 1)).1 26 13 = μ.1 26 13 := ((sv_n _ (by decide)).trans hs_18)
      refine xc_iV G (b := 26) (rest := []) (As := [.int (iv r_6)]) (c_X10_readDigits ω l (sv μ5 26 9 ((μ5.1 26 9) + 1)) r_6 (by unfold ir; omega) hI_86 (by omega)) (wm 3 84 rfl rfl) (wm 3 86 rfl rfl) (wm 0 7 rfl rfl) rfl rfl (by decide) rfl (wm 1 13 rfl rfl) (wm 3 87 rfl rfl) (by decide) hR (by decide) (n := 1) rfl rfl (Nat.le_of_ble_eq_true rfl) hl.1 dX10_readReal_49 (fun r_99 μ98 ρ d0 H locs hr_r_99 hp G => ?_)
      have hr_r_99 : -2147483648 ≤ r_99 ∧ r_99 ≤ 2147483647 := hr_r_99
      obtain ⟨F_100, hI_101, hp_102, hp_103, hp_104, hs_105, hs_106, hs_107, hs_108, hs_109, hs_110, hs_111⟩ := hp
      have hn_112 : 0 ≤ μ98.1 26 9 ∧ μ98.1 26 9 ≤ 3000 := hI_101.nm.2.2.2.2.2.2.2.2.2.2.2.1
      refine lv_istore (lv' := [(4, .int (iv r_99)), (2, .double (dv dd_20)), (1, .int (iv r_6)), (0, .ref (oP ω 26))]) hx hb dX10_readReal_52 hl (by decide) rfl (fun ls hl => ?_)
      refine lv_iload_n hx hb dX10_readReal_54 rfl (lv_at hl 2 rfl) ?_
      refine lv_istore (lv' := [(5, .int (iv r_6)), (4, .int (iv r_99)), (2, .double (dv dd_20)), (1, .int (iv r_6)), (0, .ref (oP ω 26))]) hx hb dX10_readReal_55 hl (by decide) rfl (fun ls hl => ?_)
      refine xl (fun n_9 μ' ls => ∃ (i9 : Int), ∃ (dv9 : Int), (μ' = μ98) ∧ (-2147483648 ≤ i9 ∧ i9 ≤ 2147483647) ∧ (0 ≤ i9) ∧ n_9 = Int.toNat (16 - i9) ∧ lv_has ls 6 [(5, .int (iv i9)), (4, .int (iv r_99)), (2, .double (dv dv9)), (1, .int (iv r_6)), (0, .ref (oP ω 26))]) (fun n_9 ρ μL113 d0 H locs ls hI_l G ih => ?_) _ _ _ _ _ _ _ ⟨r_6, dd_20, rfl, (by omega), (by omega), rfl, lv_sub hl [0, 1, 2, 3, 4] rfl⟩ G
      obtain ⟨i9, dv9, FL114, hi_116, hi_117, hn115, hl⟩ := hI_l
      have FL114 := Eq.symm FL114
      subst FL114
      refine lv_iload hx hb dX10_readReal_57 (lv_at hl 0 rfl) ?_
      refine lv_iload hx hb dX10_readReal_59 (lv_at hl 1 rfl) ?_
      refine xb_icmp_ge (tgt := 83) hx hb (by unfold ir; omega) (by unfold ir; omega) dX10_readReal_61 (by decide) (fun c_61 => ?_) (fun c_61 => ?_)
      · refine lv_iload hx hb dX10_readReal_83 (lv_at hl 1 rfl) ?_
        refine lv_istore_n (lv' := [(1, .int (iv r_99)), (5, .int (iv i9)), (4, .int (iv r_99)), (2, .double (dv dv9)), (0, .ref (oP ω 26))]) hx hb dX10_readReal_85 rfl hl (by decide) rfl (fun ls hl => ?_)
        refine lv_iload_n hx hb dX10_readReal_86 rfl (lv_at hl 0 rfl) ?_
        refine lv_bipush (v := iv 15) hx hb dX10_readReal_87 rfl ?_
        refine xb_icmp_le (tgt := 97) hx hb (by unfold ir; omega) (by unfold ir; omega) dX10_readReal_89 (by decide) (fun c_89 => ?_) (fun c_89 => ?_)
        · refine lv_aload_n hx hb dX10_readReal_97 rfl (lv_at hl 4 rfl) ?_
          refine lv_aload_n hx hb dX10_readReal_98 rfl (lv_at hl 4 rfl) ?_
          refine xa_getl G fd_X10 (a := 26) (x := μ98.1 26 14) 14 rfl (by decide) rfl (wm 1 220 rfl rfl) ⟨rfl, rfl, rfl⟩ dX10_readReal_99 rfl rfl ?_
          have hj_118 : jr (μ98.1 26 14) := by have h9 := G.hj (a := 26) (k := 14) rfl; exact h9
          refine lv_l2d hx hb dX10_readReal_102 ?_
          refine xb_topd (fun dd_119 he_dd_119 => ?_)
          refine lv_dload_n hx hb dX10_readReal_103 rfl (lv_at hl 3 rfl) ?_
          refine xd_ddiv G dX10_readReal_104 (fun dd_120 d0 G => ?_)
          refine xa_putd G fd_X10 (a := 26) (x := dd_120) 15 (kz := 15) rfl rfl (by decide) rfl  (wm 1 222 rfl rfl) ⟨rfl, rfl, rfl, rfl⟩ rfl dX10_readReal_105 rfl (fun H locs G => ?_)
          have hI_121 : IC (sv μ98 26 15 dd_120) := (IC.put hI_101 (by decide +kernel))
          have e_122 : (sv μ98 26 15 dd_120).1 26 9 = μ98.1 26 9 := (sv_n _ (by decide))
          have e_123 : (sv μ98 26 15 dd_120).1 26 9 = μ98.1 26 9 := (sv_n _ (by decide))
          have e_124 : (sv μ98 26 15 dd_120).1 26 6 = μ.1 26 6 := ((sv_n _ (by decide)).trans (hs_105.trans ((sv_n _ (by decide)).trans hs_12)))
          have e_125 : (sv μ98 26 15 dd_120).1 26 7 = μ.1 26 7 := ((sv_n _ (by decide)).trans (hs_106.trans ((sv_n _ (by decide)).trans hs_13)))
          have e_126 : (sv μ98 26 15 dd_120).1 26 8 = μ.1 26 8 := ((sv_n _ (by decide)).trans (hs_107.trans ((sv_n _ (by decide)).trans hs_14)))
          have e_127 : (sv μ98 26 15 dd_120).1 26 10 = μ.1 26 10 := ((sv_n _ (by decide)).trans (hs_108.trans ((sv_n _ (by decide)).trans hs_15)))
          have e_128 : (sv μ98 26 15 dd_120).1 26 11 = μ.1 26 11 := ((sv_n _ (by decide)).trans (hs_109.trans ((sv_n _ (by decide)).trans hs_16)))
          have e_129 : (sv μ98 26 15 dd_120).1 26 13 = μ.1 26 13 := ((sv_n _ (by decide)).trans (hs_111.trans ((sv_n _ (by decide)).trans hs_18)))
          exact xr_v G hret hlk dX10_readReal_108 ⟨(Fr.put (Fr.tr (Fr.put (Fr.tr Fr.rf F_7 (by decide)) (by decide)) F_100 (by decide)) (by decide)), hI_121, (by omega), (by omega), (by omega), (by omega), (by omega), (by omega), (by omega), (by omega)⟩
        · refine lv_aload_n hx hb dX10_readReal_92 rfl (lv_at hl 4 rfl) ?_
          refine lv_iconst (v := iv 3) hx hb dX10_readReal_93 rfl ?_
          refine xa_puti G fd_X10 (a := 26) (x := 3) 12 (kz := 12) rfl rfl (by decide) rfl (by unfold ir; omega) (wm 1 216 rfl rfl) ⟨rfl, rfl, rfl, rfl⟩ rfl dX10_readReal_94 rfl (fun H locs G => ?_)
          refine lv_aload_n hx hb dX10_readReal_97 rfl (lv_at hl 4 rfl) ?_
          refine lv_aload_n hx hb dX10_readReal_98 rfl (lv_at hl 4 rfl) ?_
          refine xa_getl G fd_X10 (a := 26) (x := μ98.1 26 14) 14 rfl (by decide) rfl (wm 1 220 rfl rfl) ⟨rfl, rfl, rfl⟩ dX10_readReal_99 rfl (sv_n _ (by decide)) ?_
          have hj_130 : jr (μ98.1 26 14) := by have h9 := G.hj (a := 26) (k := 14) rfl; rw [show (sv μ98 26 12 3).1 26 14 = μ98.1 26 14 from (sv_n _ (by decide))] at h9; exact h9
          refine lv_l2d hx hb dX10_readReal_102 ?_
          refine xb_topd (fun dd_131 he_dd_131 => ?_)
          refine lv_dload_n hx hb dX10_readReal_103 rfl (lv_at hl 3 rfl) ?_
          refine xd_ddiv G dX10_readReal_104 (fun dd_132 d0 G => ?_)
          refine xa_putd G fd_X10 (a := 26) (x := dd_132) 15 (kz := 15) rfl rfl (by decide) rfl  (wm 1 222 rfl rfl) ⟨rfl, rfl, rfl, rfl⟩ rfl dX10_readReal_105 rfl (fun H locs G => ?_)
          have hI_133 : IC (sv (sv μ98 26 12 3) 26 15 dd_132) := (IC.put (IC.put hI_101 (by decide +kernel)) (by decide +kernel))
          have e_134 : (sv (sv μ98 26 12 3) 26 15 dd_132).1 26 9 = μ98.1 26 9 := ((sv_n _ (by decide)).trans (sv_n _ (by decide)))
          have e_135 : (sv (sv μ98 26 12 3) 26 15 dd_132).1 26 9 = μ98.1 26 9 := ((sv_n _ (by decide)).trans (sv_n _ (by decide)))
          have e_136 : (sv (sv μ98 26 12 3) 26 15 dd_132).1 26 6 = μ.1 26 6 := ((sv_n _ (by decide)).trans ((sv_n _ (by decide)).trans (hs_105.trans ((sv_n _ (by decide)).trans hs_12))))
          have e_137 : (sv (sv μ98 26 12 3) 26 15 dd_132).1 26 7 = μ.1 26 7 := ((sv_n _ (by decide)).trans ((sv_n _ (by decide)).trans (hs_106.trans ((sv_n _ (by decide)).trans hs_13))))
          have e_138 : (sv (sv μ98 26 12 3) 26 15 dd_132).1 26 8 = μ.1 26 8 := ((sv_n _ (by decide)).trans ((sv_n _ (by decide)).trans (hs_107.trans ((sv_n _ (by decide)).trans hs_14))))
          have e_139 : (sv (sv μ98 26 12 3) 26 15 dd_132).1 26 10 = μ.1 26 10 := ((sv_n _ (by decide)).trans ((sv_n _ (by decide)).trans (hs_108.trans ((sv_n _ (by decide)).trans hs_15))))
          have e_140 : (sv (sv μ98 26 12 3) 26 15 dd_132).1 26 11 = μ.1 26 11 := ((sv_n _ (by decide)).trans ((sv_n _ (by decide)).trans (hs_109.trans ((sv_n _ (by decide)).trans hs_16))))
          have e_141 : (sv (sv μ98 26 12 3) 26 15 dd_132).1 26 13 = μ.1 26 13 := ((sv_n _ (by decide)).trans ((sv_n _ (by decide)).trans (hs_111.trans ((sv_n _ (by decide)).trans hs_18))))
          exact xr_v G hret hlk dX10_readReal_108 ⟨(Fr.put (Fr.put (Fr.tr (Fr.put (Fr.tr Fr.rf F_7 (by decide)) (by decide)) F_100 (by decide)) (by decide)) (by decide)), hI_133, (by omega), (by omega), (by omega), (by omega), (by omega), (by omega), (by omega), (by omega)⟩
      · refine lv_iload hx hb dX10_readReal_64 (lv_at hl 0 rfl) ?_
        refine lv_bipush (v := iv 16) hx hb dX10_readReal_66 rfl ?_
        refine xb_icmp_ge (tgt := 83) hx hb (by unfold ir; omega) (by unfold ir; omega) dX10_readReal_68 (by decide) (fun c_68 => ?_) (fun c_68 => ?_)
        · refine lv_iload hx hb dX10_readReal_83 (lv_at hl 1 rfl) ?_
          refine lv_istore_n (lv' := [(1, .int (iv r_99)), (5, .int (iv i9)), (4, .int (iv r_99)), (2, .double (dv dv9)), (0, .ref (oP ω 26))]) hx hb dX10_readReal_85 rfl hl (by decide) rfl (fun ls hl => ?_)
          refine lv_iload_n hx hb dX10_readReal_86 rfl (lv_at hl 0 rfl) ?_
          refine lv_bipush (v := iv 15) hx hb dX10_readReal_87 rfl ?_
          refine xb_icmp_le (tgt := 97) hx hb (by unfold ir; omega) (by unfold ir; omega) dX10_readReal_89 (by decide) (fun c_89 => ?_) (fun c_89 => ?_)
          · refine lv_aload_n hx hb dX10_readReal_97 rfl (lv_at hl 4 rfl) ?_
            refine lv_aload_n hx hb dX10_readReal_98 rfl (lv_at hl 4 rfl) ?_
            refine xa_getl G fd_X10 (a := 26) (x := μ98.1 26 14) 14 rfl (by decide) rfl (wm 1 220 rfl rfl) ⟨rfl, rfl, rfl⟩ dX10_readReal_99 rfl rfl ?_
            have hj_142 : jr (μ98.1 26 14) := by have h9 := G.hj (a := 26) (k := 14) rfl; exact h9
            refine lv_l2d hx hb dX10_readReal_102 ?_
            refine xb_topd (fun dd_143 he_dd_143 => ?_)
            refine lv_dload_n hx hb dX10_readReal_103 rfl (lv_at hl 3 rfl) ?_
            refine xd_ddiv G dX10_readReal_104 (fun dd_144 d0 G => ?_)
            refine xa_putd G fd_X10 (a := 26) (x := dd_144) 15 (kz := 15) rfl rfl (by decide) rfl  (wm 1 222 rfl rfl) ⟨rfl, rfl, rfl, rfl⟩ rfl dX10_readReal_105 rfl (fun H locs G => ?_)
            have hI_145 : IC (sv μ98 26 15 dd_144) := (IC.put hI_101 (by decide +kernel))
            have e_146 : (sv μ98 26 15 dd_144).1 26 9 = μ98.1 26 9 := (sv_n _ (by decide))
            have e_147 : (sv μ98 26 15 dd_144).1 26 9 = μ98.1 26 9 := (sv_n _ (by decide))
            have e_148 : (sv μ98 26 15 dd_144).1 26 6 = μ.1 26 6 := ((sv_n _ (by decide)).trans (hs_105.trans ((sv_n _ (by decide)).trans hs_12)))
            have e_149 : (sv μ98 26 15 dd_144).1 26 7 = μ.1 26 7 := ((sv_n _ (by decide)).trans (hs_106.trans ((sv_n _ (by decide)).trans hs_13)))
            have e_150 : (sv μ98 26 15 dd_144).1 26 8 = μ.1 26 8 := ((sv_n _ (by decide)).trans (hs_107.trans ((sv_n _ (by decide)).trans hs_14)))
            have e_151 : (sv μ98 26 15 dd_144).1 26 10 = μ.1 26 10 := ((sv_n _ (by decide)).trans (hs_108.trans ((sv_n _ (by decide)).trans hs_15)))
            have e_152 : (sv μ98 26 15 dd_144).1 26 11 = μ.1 26 11 := ((sv_n _ (by decide)).trans (hs_109.trans ((sv_n _ (by decide)).trans hs_16)))
            have e_153 : (sv μ98 26 15 dd_144).1 26 13 = μ.1 26 13 := ((sv_n _ (by decide)).trans (hs_111.trans ((sv_n _ (by decide)).trans hs_18)))
            exact xr_v G hret hlk dX10_readReal_108 ⟨(Fr.put (Fr.tr (Fr.put (Fr.tr Fr.rf F_7 (by decide)) (by decide)) F_100 (by decide)) (by decide)), hI_145, (by omega), (by omega), (by omega), (by omega), (by omega), (by omega), (by omega), (by omega)⟩
          · refine lv_aload_n hx hb dX10_readReal_92 rfl (lv_at hl 4 rfl) ?_
            refine lv_iconst (v := iv 3) hx hb dX10_readReal_93 rfl ?_
            refine xa_puti G fd_X10 (a := 26) (x := 3) 12 (kz := 12) rfl rfl (by decide) rfl (by unfold ir; omega) (wm 1 216 rfl rfl) ⟨rfl, rfl, rfl, rfl⟩ rfl dX10_readReal_94 rfl (fun H locs G => ?_)
            refine lv_aload_n hx hb dX10_readReal_97 rfl (lv_at hl 4 rfl) ?_
            refine lv_aload_n hx hb dX10_readReal_98 rfl (lv_at hl 4 rfl) ?_
            refine xa_getl G fd_X10 (a := 26) (x := μ98.1 26 14) 14 rfl (by decide) rfl (wm 1 220 rfl rfl) ⟨rfl, rfl, rfl⟩ dX10_readReal_99 rfl (sv_n _ (by decide)) ?_
            have hj_154 : jr (μ98.1 26 14) := by have h9 := G.hj (a := 26) (k := 14) rfl; rw [show (sv μ98 26 12 3).1 26 14 = μ98.1 26 14 from (sv_n _ (by decide))] at h9; exact h9
            refine lv_l2d hx hb dX10_readReal_102 ?_
            refine xb_topd (fun dd_155 he_dd_155 => ?_)
            refine lv_dload_n hx hb dX10_readReal_103 rfl (lv_at hl 3 rfl) ?_
            refine xd_ddiv G dX10_readReal_104 (fun dd_156 d0 G => ?_)
            refine xa_putd G fd_X10 (a := 26) (x := dd_156) 15 (kz := 15) rfl rfl (by decide) rfl  (wm 1 222 rfl rfl) ⟨rfl, rfl, rfl, rfl⟩ rfl dX10_readReal_105 rfl (fun H locs G => ?_)
            have hI_157 : IC (sv (sv μ98 26 12 3) 26 15 dd_156) := (IC.put (IC.put hI_101 (by decide +kernel)) (by decide +kernel))
            have e_158 : (sv (sv μ98 26 12 3) 26 15 dd_156).1 26 9 = μ98.1 26 9 := ((sv_n _ (by decide)).trans (sv_n _ (by decide)))
            have e_159 : (sv (sv μ98 26 12 3) 26 15 dd_156).1 26 9 = μ98.1 26 9 := ((sv_n _ (by decide)).trans (sv_n _ (by decide)))
            have e_160 : (sv (sv μ98 26 12 3) 26 15 dd_156).1 26 6 = μ.1 26 6 := ((sv_n _ (by decide)).trans ((sv_n _ (by decide)).trans (hs_105.trans ((sv_n _ (by decide)).trans hs_12))))
            have e_161 : (sv (sv μ98 26 12 3) 26 15 dd_156).1 26 7 = μ.1 26 7 := ((sv_n _ (by decide)).trans ((sv_n _ (by decide)).trans (hs_106.trans ((sv_n _ (by decide)).trans hs_13))))
            have e_162 : (sv (sv μ98 26 12 3) 26 15 dd_156).1 26 8 = μ.1 26 8 := ((sv_n _ (by decide)).trans ((sv_n _ (by decide)).trans (hs_107.trans ((sv_n _ (by decide)).trans hs_14))))
            have e_163 : (sv (sv μ98 26 12 3) 26 15 dd_156).1 26 10 = μ.1 26 10 := ((sv_n _ (by decide)).trans ((sv_n _ (by decide)).trans (hs_108.trans ((sv_n _ (by decide)).trans hs_15))))
            have e_164 : (sv (sv μ98 26 12 3) 26 15 dd_156).1 26 11 = μ.1 26 11 := ((sv_n _ (by decide)).trans ((sv_n _ (by decide)).trans (hs_109.trans ((sv_n _ (by decide)).trans hs_16))))
            have e_165 : (sv (sv μ98 26 12 3) 26 15 dd_156).1 26 13 = μ.1 26 13 := ((sv_n _ (by decide)).trans ((sv_n _ (by decide)).trans (hs_111.trans ((sv_n _ (by decide)).trans hs_18))))
            exact xr_v G hret hlk dX10_readReal_108 ⟨(Fr.put (Fr.put (Fr.tr (Fr.put (Fr.tr Fr.rf F_7 (by decide)) (by decide)) F_100 (by decide)) (by decide)) (by decide)), hI_157, (by omega), (by omega), (by omega), (by omega), (by omega), (by omega), (by omega), (by omega)⟩
        · refine lv_dload_n hx hb dX10_readReal_71 rfl (lv_at hl 2 rfl) ?_
          refine lv_ldc2d (s := s.setDrawn d0) hx hb G.1.2.2.2.1 (dr_words G.1.2.2.2.2 d0 _ (wm 3 89 rfl rfl)) dX10_readReal_72 ?_
          refine xb_topd (fun dd_166 he_dd_166 => ?_)
          refine xd_dmul G dX10_readReal_75 (fun dd_167 d0 G => ?_)
          refine lv_dstore_n (lv' := [(2, .double (dv dd_167)), (5, .int (iv i9)), (4, .int (iv r_99)), (1, .int (iv r_6)), (0, .ref (oP ω 26))]) hx hb dX10_readReal_76 rfl hl (by decide) rfl (fun ls hl => ?_)
          refine lv_iinc (v := iv (i9 + 1)) (lv' := [(5, .int (iv (i9 + 1))), (2, .double (dv dd_167)), (4, .int (iv r_99)), (1, .int (iv r_6)), (0, .ref (oP ω 26))]) hx hb dX10_readReal_77 hl (k := 1) rfl (by rw [show Int32.ofInt 1 = iv 1 from rfl, iv_add]) (by decide) rfl (fun ls hl => ?_)
          refine lv_goto (tgt := 57) hx hb dX10_readReal_80 (by decide) ?_
          exact ih _ _ _ _ _ _ _ (by omega) ⟨i9 + 1, dd_167, rfl, (by omega), (by omega), rfl, lv_sub hl [0, 2, 1, 3, 4] rfl⟩ G

set_option maxHeartbeats 4000000 in
set_option maxRecDepth 100000 in
theorem c_X10_readNumber (ω : Om) (l : Launch) (μ : M3) (hI : IC μ) (hdg : 48 ≤ bta μ (μ.1 26 9) ∧ bta μ (μ.1 26 9) ≤ 57) : CtV ω l yX10_readNumber cX10_readNumber 4 3 68 [.ref (oP ω 26)] μ (fun (μ' : M3) => (Fr [26] μ μ') ∧ (IC μ') ∧ (μ'.1 26 12 = 3 ∨ μ.1 26 9 < μ'.1 26 9) ∧ (μ.1 26 9 ≤ μ'.1 26 9) ∧ (μ'.1 26 6 = μ.1 26 6) ∧ (μ'.1 26 7 = μ.1 26 7) ∧ (μ'.1 26 8 = μ.1 26 8) ∧ (μ'.1 26 10 = μ.1 26 10) ∧ (μ'.1 26 11 = μ.1 26 11) ∧ (μ'.1 26 13 = μ.1 26 13)) := by
  refine CtV.go (by decide) (Nat.le_of_ble_eq_true rfl) (fun ρ p e s m below meth c R ls G hR hret hlk hl => ?_)
  have hx := G.1.1
  have hb := G.1.2.1
  have hl : lv_has ls 4 [(0, .ref (oP ω 26))] := hl
  generalize s.drawn = d0 at G ⊢
  have hn_1 : 0 ≤ μ.1 26 7 ∧ μ.1 26 7 ≤ 3000 := hI.nm.2.2.2.2.2.2.2.2.2.2.1
  have hn_2 : 0 ≤ μ.1 26 9 ∧ μ.1 26 9 ≤ 3000 := hI.nm.2.2.2.2.2.2.2.2.2.2.2.1
  have hb0 : bta μ (μ.1 26 9) = -1 ∨ (0 ≤ μ.1 26 9 ∧ μ.1 26 9 < μ.1 26 7) := by unfold bta; split; (rename_i h; exact Or.inr h); exact Or.inl rfl
  refine lv_aload_n hx hb dX10_readNumber_0 rfl (lv_at hl 0 rfl) ?_
  refine lv_iconst (v := iv 2) hx hb dX10_readNumber_1 rfl ?_
  refine xa_puti G fd_X10 (a := 26) (x := 2) 12 (kz := 12) rfl rfl (by decide) rfl (by unfold ir; omega) (wm 1 216 rfl rfl) ⟨rfl, rfl, rfl, rfl⟩ rfl dX10_readNumber_2 rfl (fun H locs G => ?_)
  refine lv_aload_n hx hb dX10_readNumber_5 rfl (lv_at hl 0 rfl) ?_
  refine xa_geti G fd_X10 (a := 26) (x := μ.1 26 8) 8 rfl (by decide) rfl (wm 1 212 rfl rfl) ⟨rfl, rfl, rfl⟩ dX10_readNumber_6 rfl (sv_n _ (by decide)) ?_
  have hr_3 : -2147483648 ≤ μ.1 26 8 ∧ μ.1 26 8 ≤ 2147483647 := by have h9 := G.hr (a := 26) (k := 8) rfl; rw [show (sv μ 26 12 2).1 26 8 = μ.1 26 8 from (sv_n _ (by decide))] at h9; exact h9
  refine lv_iconst (v := iv 3) hx hb dX10_readNumber_9 rfl ?_
  refine xb_icmp_ne (tgt := 18) hx hb (by unfold ir; omega) (by unfold ir; omega) dX10_readNumber_10 (by decide) (fun c_10 => ?_) (fun c_10 => ?_)
  · refine lv_aload_n hx hb dX10_readNumber_18 rfl (lv_at hl 0 rfl) ?_
    refine xa_geti G fd_X10 (a := 26) (x := μ.1 26 8) 8 rfl (by decide) rfl (wm 1 212 rfl rfl) ⟨rfl, rfl, rfl⟩ dX10_readNumber_19 rfl (sv_n _ (by decide)) ?_
    refine xc_lS G (rest := []) (As := [.int (iv (μ.1 26 8))]) (c_X6_most ω l (sv μ 26 12 2) (μ.1 26 8) (by unfold ir; omega)) (wm 3 90 rfl rfl) (wm 3 91 rfl rfl) (wm 1 20 rfl rfl) (wm 3 92 rfl rfl) (by decide) hR (by decide) (n := 1) rfl rfl (Nat.le_of_ble_eq_true rfl) hl.1 dX10_readNumber_22 (fun r_5 μ4 ρ d0 H locs hr_r_5 hp G => ?_)
    have hsm_6 := hp
    have hsm_6 := Eq.symm hsm_6
    subst hsm_6
    refine lv_lstore_n (lv' := [(1, .long (jv r_5)), (0, .ref (oP ω 26))]) hx hb dX10_readNumber_25 rfl hl (by decide) rfl (fun ls hl => ?_)
    have e_7 : (sv μ 26 12 2).1 26 9 = μ.1 26 9 := (sv_n _ (by decide))
    have hI_8 : IC (sv μ 26 12 2) := (IC.put hI (by decide +kernel))
    refine xl (fun n_9 μ' ls => (Fr [26] (sv μ 26 12 2) μ') ∧ (μ.1 26 9 ≤ μ'.1 26 9) ∧ (μ'.1 26 6 = μ.1 26 6) ∧ (μ'.1 26 7 = μ.1 26 7) ∧ (μ'.1 26 8 = μ.1 26 8) ∧ (μ'.1 26 10 = μ.1 26 10) ∧ (μ'.1 26 11 = μ.1 26 11) ∧ (μ'.1 26 13 = μ.1 26 13) ∧ (IC μ') ∧ n_9 = Int.toNat (3000 - μ'.1 26 9) ∧ lv_has ls 4 [(1, .long (jv r_5)), (0, .ref (oP ω 26))]) (fun n_9 ρ μL9 d0 H locs ls hI_l G ih => ?_) _ _ _ _ _ _ _ ⟨Fr.rf, (by omega), (sv_n _ (by decide)), (sv_n _ (by decide)), (sv_n _ (by decide)), (sv_n _ (by decide)), (sv_n _ (by decide)), (sv_n _ (by decide)), hI_8, rfl, lv_sub hl [0, 1] rfl⟩ G
    obtain ⟨FL10, hi_12, hi_13, hi_14, hi_15, hi_16, hi_17, hi_18, hi_19, hn11, hl⟩ := hI_l
    have hn_20 : 0 ≤ μL9.1 26 9 ∧ μL9.1 26 9 ≤ 3000 := hi_19.nm.2.2.2.2.2.2.2.2.2.2.2.1
    have hbta : ∀ i, bta μL9 i = bta μ i := (fun i => bta_eq hi_14 (fun j => ((FL10.1 1 (by decide) j).trans (sv_n _ (by omega)))) i)
    refine lv_aload_n hx hb dX10_readNumber_26 rfl (lv_at hl 1 rfl) ?_
    refine xa_geti G fd_X10 (a := 26) (x := μL9.1 26 9) 9 rfl (by decide) rfl (wm 1 213 rfl rfl) ⟨rfl, rfl, rfl⟩ dX10_readNumber_27 rfl rfl ?_
    have hr_21 : -2147483648 ≤ μL9.1 26 9 ∧ μL9.1 26 9 ≤ 2147483647 := by have h9 := G.hr (a := 26) (k := 9) rfl; exact h9
    refine lv_aload_n hx hb dX10_readNumber_30 rfl (lv_at hl 1 rfl) ?_
    refine xa_geti G fd_X10 (a := 26) (x := μ.1 26 7) 7 rfl (by decide) rfl (wm 1 211 rfl rfl) ⟨rfl, rfl, rfl⟩ dX10_readNumber_31 rfl hi_14 ?_
    have hr_22 : -2147483648 ≤ μ.1 26 7 ∧ μ.1 26 7 ≤ 2147483647 := by have h9 := G.hr (a := 26) (k := 7) rfl; rw [show μL9.1 26 7 = μ.1 26 7 from hi_14] at h9; exact h9
    refine xb_icmp_ge (tgt := 113) hx hb (by unfold ir; omega) (by unfold ir; omega) dX10_readNumber_34 (by decide) (fun c_34 => ?_) (fun c_34 => ?_)
    · have e_23 : μL9.1 26 6 = μ.1 26 6 := hi_13
      have e_24 : μL9.1 26 7 = μ.1 26 7 := hi_14
      have e_25 : μL9.1 26 8 = μ.1 26 8 := hi_15
      have e_26 : μL9.1 26 10 = μ.1 26 10 := hi_16
      have e_27 : μL9.1 26 11 = μ.1 26 11 := hi_17
      have e_28 : μL9.1 26 13 = μ.1 26 13 := hi_18
      exact xr_v G hret hlk dX10_readNumber_113 ⟨(Fr.tr (Fr.put Fr.rf (by decide)) FL10 (by decide)), hi_19, (Or.inr (by by_cases h9 : μL9.1 26 9 = μ.1 26 9; (exfalso; omega); omega)), (by omega), (by omega), (by omega), (by omega), (by omega), (by omega), (by omega)⟩
    · refine lv_aload_n hx hb dX10_readNumber_37 rfl (lv_at hl 1 rfl) ?_
      refine lv_aload_n hx hb dX10_readNumber_38 rfl (lv_at hl 1 rfl) ?_
      refine xa_geti G fd_X10 (a := 26) (x := μL9.1 26 9) 9 rfl (by decide) rfl (wm 1 213 rfl rfl) ⟨rfl, rfl, rfl⟩ dX10_readNumber_39 rfl rfl ?_
      have e_29 : μL9.1 26 7 = μ.1 26 7 := hi_14
      refine xc_iV G (b := 26) (rest := []) (As := [.int (iv (μL9.1 26 9))]) (c_X10_byteAt ω l μL9 (μL9.1 26 9) (by unfold ir; omega) hi_19) (wm 3 58 rfl rfl) (wm 3 60 rfl rfl) (wm 0 2 rfl rfl) rfl rfl (by decide) rfl (wm 1 13 rfl rfl) (wm 3 61 rfl rfl) (by decide) hR (by decide) (n := 1) rfl rfl (Nat.le_of_ble_eq_true rfl) hl.1 dX10_readNumber_42 (fun r_31 μ30 ρ d0 H locs hr_r_31 hp G => ?_)
      have hr_r_31 : -2147483648 ≤ r_31 ∧ r_31 ≤ 2147483647 := hr_r_31
      obtain ⟨hsm_32, hp_33, hp_34⟩ := hp
      have hsm_32 := Eq.symm hsm_32
      subst hsm_32
      refine xc_iS G (rest := []) (As := [.int (iv r_31)]) (c_X10_isDigit ω l μL9 r_31 (by unfold ir; omega)) (wm 3 69 rfl rfl) (wm 3 70 rfl rfl) (wm 1 13 rfl rfl) (wm 3 71 rfl rfl) (by decide) hR (by decide) (n := 1) rfl rfl (Nat.le_of_ble_eq_true rfl) hl.1 dX10_readNumber_45 (fun r_36 μ35 ρ d0 H locs hr_r_36 hp G => ?_)
      have hr_r_36 : -2147483648 ≤ r_36 ∧ r_36 ≤ 2147483647 := hr_r_36
      obtain ⟨hsm_37, hp_38⟩ := hp
      have hsm_37 := Eq.symm hsm_37
      subst hsm_37
      refine xb_if_eq (tgt := 113) hx hb (by unfold ir; omega) dX10_readNumber_48 (by decide) (fun c_48 => ?_) (fun c_48 => ?_)
      · have e_39 : μL9.1 26 6 = μ.1 26 6 := hi_13
        have e_40 : μL9.1 26 7 = μ.1 26 7 := hi_14
        have e_41 : μL9.1 26 8 = μ.1 26 8 := hi_15
        have e_42 : μL9.1 26 10 = μ.1 26 10 := hi_16
        have e_43 : μL9.1 26 11 = μ.1 26 11 := hi_17
        have e_44 : μL9.1 26 13 = μ.1 26 13 := hi_18
        exact xr_v G hret hlk dX10_readNumber_113 ⟨(Fr.tr (Fr.put Fr.rf (by decide)) FL10 (by decide)), hi_19, (Or.inr (by by_cases h9 : μL9.1 26 9 = μ.1 26 9; (exfalso; rw [h9, hbta] at hp_33; omega); omega)), (by omega), (by omega), (by omega), (by omega), (by omega), (by omega), (by omega)⟩
      · refine lv_aload_n hx hb dX10_readNumber_51 rfl (lv_at hl 1 rfl) ?_
        refine lv_aload_n hx hb dX10_readNumber_52 rfl (lv_at hl 1 rfl) ?_
        refine xa_geti G fd_X10 (a := 26) (x := μL9.1 26 9) 9 rfl (by decide) rfl (wm 1 213 rfl rfl) ⟨rfl, rfl, rfl⟩ dX10_readNumber_53 rfl rfl ?_
        have e_45 : μL9.1 26 7 = μ.1 26 7 := hi_14
        refine xc_iV G (b := 26) (rest := []) (As := [.int (iv (μL9.1 26 9))]) (c_X10_byteAt ω l μL9 (μL9.1 26 9) (by unfold ir; omega) hi_19) (wm 3 58 rfl rfl) (wm 3 60 rfl rfl) (wm 0 2 rfl rfl) rfl rfl (by decide) rfl (wm 1 13 rfl rfl) (wm 3 61 rfl rfl) (by decide) hR (by decide) (n := 1) rfl rfl (Nat.le_of_ble_eq_true rfl) hl.1 dX10_readNumber_56 (fun r_47 μ46 ρ d0 H locs hr_r_47 hp G => ?_)
        have hr_r_47 : -2147483648 ≤ r_47 ∧ r_47 ≤ 2147483647 := hr_r_47
        obtain ⟨hsm_48, hp_49, hp_50⟩ := hp
        have hsm_48 := Eq.symm hsm_48
        subst hsm_48
        refine lv_bipush (v := iv 48) hx hb dX10_readNumber_59 rfl ?_
        refine xb_isub hx hb dX10_readNumber_61 ?_
        refine lv_istore_n (lv' := [(3, .int (iv (r_47 - 48))), (1, .long (jv r_5)), (0, .ref (oP ω 26))]) hx hb dX10_readNumber_62 rfl hl (by decide) rfl (fun ls hl => ?_)
        refine lv_aload_n hx hb dX10_readNumber_63 rfl (lv_at hl 2 rfl) ?_
        refine xa_getl G fd_X10 (a := 26) (x := μL9.1 26 14) 14 rfl (by decide) rfl (wm 1 220 rfl rfl) ⟨rfl, rfl, rfl⟩ dX10_readNumber_64 rfl rfl ?_
        have hj_51 : jr (μL9.1 26 14) := by have h9 := G.hj (a := 26) (k := 14) rfl; exact h9
        refine lv_lload_n hx hb dX10_readNumber_67 rfl (lv_at hl 1 rfl) ?_
        refine lv_iload_n hx hb dX10_readNumber_68 rfl (lv_at hl 0 rfl) ?_
        refine xb_i2l hx hb (by unfold ir; omega) dX10_readNumber_69 ?_
        refine xb_lsub hx hb dX10_readNumber_70 ?_
        refine xb_topl (fun z_52 hr_z_52 he_z_52 => ?_)
        refine lv_ldc2 (s := s.setDrawn d0) hx hb G.1.2.2.2.1 (dr_words G.1.2.2.2.2 d0 _ (wm 3 88 rfl rfl)) dX10_readNumber_71 ?_
        refine xb_litl (x := 10) (by decide) ?_
        refine lv_ldiv hx hb dX10_readNumber_74 (by decide) ?_
        refine xb_topl (fun z_53 hr_z_53 he_z_53 => ?_)
        refine xb_lcmp hx hb hj_51 hr_z_53 dX10_readNumber_75 ?_
        have hr_54 : -2147483648 ≤ lcm (μL9.1 26 14) z_53 ∧ lcm (μL9.1 26 14) z_53 ≤ 2147483647 := lcm_ir _ _
        refine xb_if_le (tgt := 85) hx hb (by unfold ir; omega) dX10_readNumber_76 (by decide) (fun c_76 => ?_) (fun c_76 => ?_)
        · refine lv_aload_n hx hb dX10_readNumber_85 rfl (lv_at hl 2 rfl) ?_
          refine lv_aload_n hx hb dX10_readNumber_86 rfl (lv_at hl 2 rfl) ?_
          refine xa_getl G fd_X10 (a := 26) (x := μL9.1 26 14) 14 rfl (by decide) rfl (wm 1 220 rfl rfl) ⟨rfl, rfl, rfl⟩ dX10_readNumber_87 rfl rfl ?_
          refine lv_ldc2 (s := s.setDrawn d0) hx hb G.1.2.2.2.1 (dr_words G.1.2.2.2.2 d0 _ (wm 3 88 rfl rfl)) dX10_readNumber_90 ?_
          refine xb_litl (x := 10) (by decide) ?_
          refine xb_lmul hx hb dX10_readNumber_93 ?_
          refine xb_topl (fun z_55 hr_z_55 he_z_55 => ?_)
          refine lv_iload_n hx hb dX10_readNumber_94 rfl (lv_at hl 0 rfl) ?_
          refine xb_i2l hx hb (by unfold ir; omega) dX10_readNumber_95 ?_
          refine xb_ladd hx hb dX10_readNumber_96 ?_
          refine xb_topl (fun z_56 hr_z_56 he_z_56 => ?_)
          refine xa_putl G fd_X10 (a := 26) (x := z_56) 14 (kz := 14) rfl rfl (by decide) rfl hr_z_56 (wm 1 220 rfl rfl) ⟨rfl, rfl, rfl, rfl⟩ rfl dX10_readNumber_97 rfl (fun H locs G => ?_)
          refine lv_aload_n hx hb dX10_readNumber_100 rfl (lv_at hl 2 rfl) ?_
          refine lv_dup hx hb dX10_readNumber_101 rfl ?_
          refine xa_geti G fd_X10 (a := 26) (x := μL9.1 26 9) 9 rfl (by decide) rfl (wm 1 213 rfl rfl) ⟨rfl, rfl, rfl⟩ dX10_readNumber_102 rfl (sv_n _ (by decide)) ?_
          refine lv_iconst (v := iv 1) hx hb dX10_readNumber_105 rfl ?_
          refine xb_iadd hx hb dX10_readNumber_106 ?_
          refine xa_puti G fd_X10 (a := 26) (x := (μL9.1 26 9) + 1) 9 (kz := 9) rfl rfl (by decide) rfl (by unfold ir; omega) (wm 1 213 rfl rfl) ⟨rfl, rfl, rfl, rfl⟩ rfl dX10_readNumber_107 rfl (fun H locs G => ?_)
          refine lv_goto (tgt := 26) hx hb dX10_readNumber_110 (by decide) ?_
          have e_57 : (sv (sv μL9 26 14 z_56) 26 9 ((μL9.1 26 9) + 1)).1 26 9 = (μL9.1 26 9) + 1 := (sv_s _ _ _ _)
          have hI_58 : IC (sv (sv μL9 26 14 z_56) 26 9 ((μL9.1 26 9) + 1)) := (IC.n_26_9 (IC.put hi_19 (by decide +kernel)) (by omega))
          exact ih _ _ _ _ _ _ _ (by omega) ⟨(Fr.put (Fr.put FL10 (by decide)) (by decide)), (by omega), ((sv_n _ (by decide)).trans ((sv_n _ (by decide)).trans hi_13)), ((sv_n _ (by decide)).trans ((sv_n _ (by decide)).trans hi_14)), ((sv_n _ (by decide)).trans ((sv_n _ (by decide)).trans hi_15)), ((sv_n _ (by decide)).trans ((sv_n _ (by decide)).trans hi_16)), ((sv_n _ (by decide)).trans ((sv_n _ (by decide)).trans hi_17)), ((sv_n _ (by decide)).trans ((sv_n _ (by decide)).trans hi_18)), hI_58, rfl, lv_sub hl [1, 2] rfl⟩ G
        · refine lv_aload_n hx hb dX10_readNumber_79 rfl (lv_at hl 2 rfl) ?_
          refine lv_iconst (v := iv 3) hx hb dX10_readNumber_80 rfl ?_
          refine xa_puti G fd_X10 (a := 26) (x := 3) 12 (kz := 12) rfl rfl (by decide) rfl (by unfold ir; omega) (wm 1 216 rfl rfl) ⟨rfl, rfl, rfl, rfl⟩ rfl dX10_readNumber_81 rfl (fun H locs G => ?_)
          have e_59 : (sv μL9 26 12 3).1 26 9 = μL9.1 26 9 := (sv_n _ (by decide))
          have e_60 : (sv μL9 26 12 3).1 26 12 = 3 := (sv_s _ _ _ _)
          have hI_61 : IC (sv μL9 26 12 3) := (IC.put hi_19 (by decide +kernel))
          have e_62 : (sv μL9 26 12 3).1 26 9 = μL9.1 26 9 := (sv_n _ (by decide))
          have e_63 : (sv μL9 26 12 3).1 26 6 = μ.1 26 6 := ((sv_n _ (by decide)).trans hi_13)
          have e_64 : (sv μL9 26 12 3).1 26 7 = μ.1 26 7 := ((sv_n _ (by decide)).trans hi_14)
          have e_65 : (sv μL9 26 12 3).1 26 8 = μ.1 26 8 := ((sv_n _ (by decide)).trans hi_15)
          have e_66 : (sv μL9 26 12 3).1 26 10 = μ.1 26 10 := ((sv_n _ (by decide)).trans hi_16)
          have e_67 : (sv μL9 26 12 3).1 26 11 = μ.1 26 11 := ((sv_n _ (by decide)).trans hi_17)
          have e_68 : (sv μL9 26 12 3).1 26 13 = μ.1 26 13 := ((sv_n _ (by decide)).trans hi_18)
          exact xr_v G hret hlk dX10_readNumber_84 ⟨(Fr.put (Fr.tr (Fr.put Fr.rf (by decide)) FL10 (by decide)) (by decide)), hI_61, (Or.inl ((sv_s _ _ _ _))), (by omega), (by omega), (by omega), (by omega), (by omega), (by omega), (by omega)⟩
  · have hbtm : bta (sv μ 26 12 2) (μ.1 26 9) = bta μ (μ.1 26 9) := (fun i => bta_eq (sv_n _ (by decide)) (fun j => (sv_n _ (by omega))) i) (μ.1 26 9)
    refine lv_aload_n hx hb dX10_readNumber_13 rfl (lv_at hl 0 rfl) ?_
    have hI_69 : IC (sv μ 26 12 2) := (IC.put hI (by decide +kernel))
    have e_70 : (sv μ 26 12 2).1 26 9 = μ.1 26 9 := (sv_n _ (by decide))
    have e_71 : (sv μ 26 12 2).1 26 9 = μ.1 26 9 := (sv_n _ (by decide))
    have e_72 : (sv μ 26 12 2).1 26 9 = μ.1 26 9 := (sv_n _ (by decide))
    have e_73 : (sv μ 26 12 2).1 26 9 = μ.1 26 9 := (sv_n _ (by decide))
    have hn_74 : 0 ≤ μ.1 26 6 ∧ μ.1 26 6 ≤ 3001 := hI.nm.2.2.2.2.2.2.2.2.2.1
    have e_75 : (sv μ 26 12 2).1 26 6 = μ.1 26 6 := (sv_n _ (by decide))
    have e_76 : (sv μ 26 12 2).1 26 7 = μ.1 26 7 := (sv_n _ (by decide))
    have e_77 : (sv μ 26 12 2).1 26 8 = μ.1 26 8 := (sv_n _ (by decide))
    have hn_78 : -1 ≤ μ.1 26 10 ∧ μ.1 26 10 ≤ 3000 := hI.nm.2.2.2.2.2.2.2.2.2.2.2.2
    have e_79 : (sv μ 26 12 2).1 26 10 = μ.1 26 10 := (sv_n _ (by decide))
    have e_80 : (sv μ 26 12 2).1 26 11 = μ.1 26 11 := (sv_n _ (by decide))
    have e_81 : (sv μ 26 12 2).1 26 13 = μ.1 26 13 := (sv_n _ (by decide))
    refine xc_vV G (b := 26) (rest := []) (As := []) (c_X10_readReal ω l (sv μ 26 12 2)  hI_69) (wm 3 80 rfl rfl) (wm 3 82 rfl rfl) (wm 0 6 rfl rfl) rfl rfl (by decide) rfl (wm 1 13 rfl rfl) (wm 3 83 rfl rfl) (by decide) hR (by decide) (n := 0) rfl rfl (Nat.le_of_ble_eq_true rfl) hl.1 dX10_readNumber_14 (fun μ82 ρ d0 H locs hp G => ?_)
    obtain ⟨F_83, hI_84, hp_85, hp_86, hs_87, hs_88, hs_89, hs_90, hs_91, hs_92⟩ := hp
    have hn_93 : 0 ≤ μ82.1 26 9 ∧ μ82.1 26 9 ≤ 3000 := hI_84.nm.2.2.2.2.2.2.2.2.2.2.2.1
    rw [show (sv μ 26 12 2).1 26 9 = μ.1 26 9 from (sv_n _ (by decide)), hbtm] at hp_85
    have e_94 : μ82.1 26 6 = μ.1 26 6 := (hs_87.trans (sv_n _ (by decide)))
    have e_95 : μ82.1 26 7 = μ.1 26 7 := (hs_88.trans (sv_n _ (by decide)))
    have e_96 : μ82.1 26 8 = μ.1 26 8 := (hs_89.trans (sv_n _ (by decide)))
    have e_97 : μ82.1 26 10 = μ.1 26 10 := (hs_90.trans (sv_n _ (by decide)))
    have e_98 : μ82.1 26 11 = μ.1 26 11 := (hs_91.trans (sv_n _ (by decide)))
    have e_99 : μ82.1 26 13 = μ.1 26 13 := (hs_92.trans (sv_n _ (by decide)))
    exact xr_v G hret hlk dX10_readNumber_17 ⟨(Fr.tr (Fr.put Fr.rf (by decide)) F_83 (by decide)), hI_84, (by rcases hp_85 with h9 | h9 | h9; exact absurd hdg.1 (by omega); exact absurd hdg.2 (by omega); exact Or.inr (by omega)), (by omega), (by omega), (by omega), (by omega), (by omega), (by omega), (by omega)⟩

set_option maxHeartbeats 4000000 in
set_option maxRecDepth 100000 in
theorem c_X10_readName (ω : Om) (l : Launch) (μ : M3) (hI : IC μ) (hlt : 97 ≤ bta μ (μ.1 26 9) ∧ bta μ (μ.1 26 9) ≤ 122) : CtV ω l yX10_readName cX10_readName 2 1 21 [.ref (oP ω 26)] μ (fun (μ' : M3) => (Fr [26] μ μ') ∧ (IC μ') ∧ (μ'.1 26 12 = 3 ∨ μ.1 26 9 < μ'.1 26 9) ∧ (μ.1 26 9 ≤ μ'.1 26 9) ∧ (μ'.1 26 6 = μ.1 26 6) ∧ (μ'.1 26 7 = μ.1 26 7) ∧ (μ'.1 26 8 = μ.1 26 8) ∧ (μ'.1 26 10 = μ.1 26 10) ∧ (μ'.1 26 11 = μ.1 26 11) ∧ (μ'.1 26 13 = μ.1 26 13)) := by
  refine CtV.go (by decide) (Nat.le_of_ble_eq_true rfl) (fun ρ p e s m below meth c R ls G hR hret hlk hl => ?_)
  have hx := G.1.1
  have hb := G.1.2.1
  have hl : lv_has ls 2 [(0, .ref (oP ω 26))] := hl
  generalize s.drawn = d0 at G ⊢
  have hn_1 : 0 ≤ μ.1 26 7 ∧ μ.1 26 7 ≤ 3000 := hI.nm.2.2.2.2.2.2.2.2.2.2.1
  have hn_2 : 0 ≤ μ.1 26 9 ∧ μ.1 26 9 ≤ 3000 := hI.nm.2.2.2.2.2.2.2.2.2.2.2.1
  have hb0 : bta μ (μ.1 26 9) = -1 ∨ (0 ≤ μ.1 26 9 ∧ μ.1 26 9 < μ.1 26 7) := by unfold bta; split; (rename_i h; exact Or.inr h); exact Or.inl rfl
  refine lv_iconst (v := iv 0) hx hb dX10_readName_0 rfl ?_
  refine lv_istore_n (lv' := [(1, .int (iv 0)), (0, .ref (oP ω 26))]) hx hb dX10_readName_1 rfl hl (by decide) rfl (fun ls hl => ?_)
  refine xl (fun n_9 μ' ls => ∃ (l9 : Int), (Fr [26] μ μ') ∧ (-2147483648 ≤ l9 ∧ l9 ≤ 2147483647) ∧ (μ.1 26 9 ≤ μ'.1 26 9) ∧ (l9 = μ'.1 26 9 - μ.1 26 9) ∧ (μ'.1 26 6 = μ.1 26 6) ∧ (μ'.1 26 7 = μ.1 26 7) ∧ (μ'.1 26 8 = μ.1 26 8) ∧ (μ'.1 26 10 = μ.1 26 10) ∧ (μ'.1 26 11 = μ.1 26 11) ∧ (μ'.1 26 13 = μ.1 26 13) ∧ (IC μ') ∧ n_9 = Int.toNat (3000 - μ'.1 26 9) ∧ lv_has ls 2 [(1, .int (iv l9)), (0, .ref (oP ω 26))]) (fun n_9 ρ μL3 d0 H locs ls hI_l G ih => ?_) _ _ _ _ _ _ _ ⟨0, Fr.rf, (by omega), (by omega), (by omega), rfl, rfl, rfl, rfl, rfl, rfl, hI, rfl, lv_sub hl [0, 1] rfl⟩ G
  obtain ⟨l9, FL4, hi_6, hi_7, hi_8, hi_9, hi_10, hi_11, hi_12, hi_13, hi_14, hi_15, hn5, hl⟩ := hI_l
  have hn_16 : 0 ≤ μL3.1 26 9 ∧ μL3.1 26 9 ≤ 3000 := hi_15.nm.2.2.2.2.2.2.2.2.2.2.2.1
  have hbta : ∀ i, bta μL3 i = bta μ i := (fun i => bta_eq hi_10 (fun j => (FL4.1 1 (by decide) j)) i)
  refine lv_aload_n hx hb dX10_readName_2 rfl (lv_at hl 1 rfl) ?_
  refine xa_geti G fd_X10 (a := 26) (x := μL3.1 26 9) 9 rfl (by decide) rfl (wm 1 213 rfl rfl) ⟨rfl, rfl, rfl⟩ dX10_readName_3 rfl rfl ?_
  have hr_17 : -2147483648 ≤ μL3.1 26 9 ∧ μL3.1 26 9 ≤ 2147483647 := by have h9 := G.hr (a := 26) (k := 9) rfl; exact h9
  refine lv_aload_n hx hb dX10_readName_6 rfl (lv_at hl 1 rfl) ?_
  refine xa_geti G fd_X10 (a := 26) (x := μ.1 26 7) 7 rfl (by decide) rfl (wm 1 211 rfl rfl) ⟨rfl, rfl, rfl⟩ dX10_readName_7 rfl hi_10 ?_
  have hr_18 : -2147483648 ≤ μ.1 26 7 ∧ μ.1 26 7 ≤ 2147483647 := by have h9 := G.hr (a := 26) (k := 7) rfl; rw [show μL3.1 26 7 = μ.1 26 7 from hi_10] at h9; exact h9
  refine xb_icmp_ge (tgt := 78) hx hb (by unfold ir; omega) (by unfold ir; omega) dX10_readName_10 (by decide) (fun c_10 => ?_) (fun c_10 => ?_)
  · refine lv_aload_n hx hb dX10_readName_78 rfl (lv_at hl 1 rfl) ?_
    refine lv_iload_n hx hb dX10_readName_79 rfl (lv_at hl 0 rfl) ?_
    refine lv_bipush (v := iv 8) hx hb dX10_readName_80 rfl ?_
    refine xb_icmp_le (tgt := 89) hx hb (by unfold ir; omega) (by unfold ir; omega) dX10_readName_82 (by decide) (fun c_82 => ?_) (fun c_82 => ?_)
    · refine lv_aload_n hx hb dX10_readName_89 rfl (lv_at hl 1 rfl) ?_
      refine xc_iV G (b := 26) (rest := [.ref (oP ω 26)]) (As := []) (c_X10_wordOrName ω l μL3  hi_15) (wm 3 72 rfl rfl) (wm 3 74 rfl rfl) (wm 0 4 rfl rfl) rfl rfl (by decide) rfl (wm 1 13 rfl rfl) (wm 3 75 rfl rfl) (by decide) hR (by decide) (n := 0) rfl rfl (Nat.le_of_ble_eq_true rfl) hl.1 dX10_readName_90 (fun r_20 μ19 ρ d0 H locs hr_r_20 hp G => ?_)
      have hr_r_20 : -2147483648 ≤ r_20 ∧ r_20 ≤ 2147483647 := hr_r_20
      obtain ⟨hsm_21, hp_22⟩ := hp
      have hsm_21 := Eq.symm hsm_21
      subst hsm_21
      refine xa_puti G fd_X10 (a := 26) (x := r_20) 12 (kz := 12) rfl rfl (by decide) rfl (by unfold ir; omega) (wm 1 216 rfl rfl) ⟨rfl, rfl, rfl, rfl⟩ rfl dX10_readName_93 rfl (fun H locs G => ?_)
      have e_23 : (sv μL3 26 12 r_20).1 26 9 = μL3.1 26 9 := (sv_n _ (by decide))
      have e_24 : (sv μL3 26 12 r_20).1 26 12 = r_20 := (sv_s _ _ _ _)
      have hI_25 : IC (sv μL3 26 12 r_20) := (IC.put hi_15 (by decide +kernel))
      have e_26 : (sv μL3 26 12 r_20).1 26 9 = μL3.1 26 9 := (sv_n _ (by decide))
      have e_27 : (sv μL3 26 12 r_20).1 26 6 = μ.1 26 6 := ((sv_n _ (by decide)).trans hi_9)
      have e_28 : (sv μL3 26 12 r_20).1 26 7 = μ.1 26 7 := ((sv_n _ (by decide)).trans hi_10)
      have e_29 : (sv μL3 26 12 r_20).1 26 8 = μ.1 26 8 := ((sv_n _ (by decide)).trans hi_11)
      have e_30 : (sv μL3 26 12 r_20).1 26 10 = μ.1 26 10 := ((sv_n _ (by decide)).trans hi_12)
      have e_31 : (sv μL3 26 12 r_20).1 26 11 = μ.1 26 11 := ((sv_n _ (by decide)).trans hi_13)
      have e_32 : (sv μL3 26 12 r_20).1 26 13 = μ.1 26 13 := ((sv_n _ (by decide)).trans hi_14)
      exact xr_v G hret hlk dX10_readName_96 ⟨(Fr.put (Fr.tr Fr.rf FL4 (by decide)) (by decide)), hI_25, (Or.inr (by by_cases h9 : μL3.1 26 9 = μ.1 26 9; (exfalso; omega); omega)), (by omega), (by omega), (by omega), (by omega), (by omega), (by omega), (by omega)⟩
    · refine lv_iconst (v := iv 3) hx hb dX10_readName_85 rfl ?_
      refine lv_goto (tgt := 93) hx hb dX10_readName_86 (by decide) ?_
      refine xa_puti G fd_X10 (a := 26) (x := 3) 12 (kz := 12) rfl rfl (by decide) rfl (by unfold ir; omega) (wm 1 216 rfl rfl) ⟨rfl, rfl, rfl, rfl⟩ rfl dX10_readName_93 rfl (fun H locs G => ?_)
      have e_33 : (sv μL3 26 12 3).1 26 9 = μL3.1 26 9 := (sv_n _ (by decide))
      have e_34 : (sv μL3 26 12 3).1 26 12 = 3 := (sv_s _ _ _ _)
      have hI_35 : IC (sv μL3 26 12 3) := (IC.put hi_15 (by decide +kernel))
      have e_36 : (sv μL3 26 12 3).1 26 9 = μL3.1 26 9 := (sv_n _ (by decide))
      have e_37 : (sv μL3 26 12 3).1 26 6 = μ.1 26 6 := ((sv_n _ (by decide)).trans hi_9)
      have e_38 : (sv μL3 26 12 3).1 26 7 = μ.1 26 7 := ((sv_n _ (by decide)).trans hi_10)
      have e_39 : (sv μL3 26 12 3).1 26 8 = μ.1 26 8 := ((sv_n _ (by decide)).trans hi_11)
      have e_40 : (sv μL3 26 12 3).1 26 10 = μ.1 26 10 := ((sv_n _ (by decide)).trans hi_12)
      have e_41 : (sv μL3 26 12 3).1 26 11 = μ.1 26 11 := ((sv_n _ (by decide)).trans hi_13)
      have e_42 : (sv μL3 26 12 3).1 26 13 = μ.1 26 13 := ((sv_n _ (by decide)).trans hi_14)
      exact xr_v G hret hlk dX10_readName_96 ⟨(Fr.put (Fr.tr Fr.rf FL4 (by decide)) (by decide)), hI_35, (Or.inr (by by_cases h9 : μL3.1 26 9 = μ.1 26 9; (exfalso; omega); omega)), (by omega), (by omega), (by omega), (by omega), (by omega), (by omega), (by omega)⟩
  · refine lv_aload_n hx hb dX10_readName_13 rfl (lv_at hl 1 rfl) ?_
    refine lv_aload_n hx hb dX10_readName_14 rfl (lv_at hl 1 rfl) ?_
    refine xa_geti G fd_X10 (a := 26) (x := μL3.1 26 9) 9 rfl (by decide) rfl (wm 1 213 rfl rfl) ⟨rfl, rfl, rfl⟩ dX10_readName_15 rfl rfl ?_
    have e_43 : μL3.1 26 7 = μ.1 26 7 := hi_10
    refine xc_iV G (b := 26) (rest := []) (As := [.int (iv (μL3.1 26 9))]) (c_X10_byteAt ω l μL3 (μL3.1 26 9) (by unfold ir; omega) hi_15) (wm 3 58 rfl rfl) (wm 3 60 rfl rfl) (wm 0 2 rfl rfl) rfl rfl (by decide) rfl (wm 1 13 rfl rfl) (wm 3 61 rfl rfl) (by decide) hR (by decide) (n := 1) rfl rfl (Nat.le_of_ble_eq_true rfl) hl.1 dX10_readName_18 (fun r_45 μ44 ρ d0 H locs hr_r_45 hp G => ?_)
    have hr_r_45 : -2147483648 ≤ r_45 ∧ r_45 ≤ 2147483647 := hr_r_45
    obtain ⟨hsm_46, hp_47, hp_48⟩ := hp
    have hsm_46 := Eq.symm hsm_46
    subst hsm_46
    refine xc_iS G (rest := []) (As := [.int (iv r_45)]) (c_X10_isLetter ω l μL3 r_45 (by unfold ir; omega)) (wm 3 62 rfl rfl) (wm 3 63 rfl rfl) (wm 1 13 rfl rfl) (wm 3 64 rfl rfl) (by decide) hR (by decide) (n := 1) rfl rfl (Nat.le_of_ble_eq_true rfl) hl.1 dX10_readName_21 (fun r_50 μ49 ρ d0 H locs hr_r_50 hp G => ?_)
    have hr_r_50 : -2147483648 ≤ r_50 ∧ r_50 ≤ 2147483647 := hr_r_50
    obtain ⟨hsm_51, hp_52⟩ := hp
    have hsm_51 := Eq.symm hsm_51
    subst hsm_51
    refine xb_if_ne (tgt := 41) hx hb (by unfold ir; omega) dX10_readName_24 (by decide) (fun c_24 => ?_) (fun c_24 => ?_)
    · refine lv_aload_n hx hb dX10_readName_41 rfl (lv_at hl 1 rfl) ?_
      refine lv_aload_n hx hb dX10_readName_42 rfl (lv_at hl 1 rfl) ?_
      refine xa_getl G fd_X10 (a := 26) (x := μL3.1 26 14) 14 rfl (by decide) rfl (wm 1 220 rfl rfl) ⟨rfl, rfl, rfl⟩ dX10_readName_43 rfl rfl ?_
      have hj_53 : jr (μL3.1 26 14) := by have h9 := G.hj (a := 26) (k := 14) rfl; exact h9
      refine lv_bipush (v := iv 8) hx hb dX10_readName_46 rfl ?_
      refine lv_lshl hx hb dX10_readName_48 rfl ?_
      refine xb_topl (fun z_54 hr_z_54 he_z_54 => ?_)
      refine lv_aload_n hx hb dX10_readName_49 rfl (lv_at hl 1 rfl) ?_
      refine lv_aload_n hx hb dX10_readName_50 rfl (lv_at hl 1 rfl) ?_
      refine xa_geti G fd_X10 (a := 26) (x := μL3.1 26 9) 9 rfl (by decide) rfl (wm 1 213 rfl rfl) ⟨rfl, rfl, rfl⟩ dX10_readName_51 rfl rfl ?_
      have e_55 : μL3.1 26 7 = μ.1 26 7 := hi_10
      refine xc_iV G (b := 26) (rest := [.long (jv z_54), .ref (oP ω 26)]) (As := [.int (iv (μL3.1 26 9))]) (c_X10_byteAt ω l μL3 (μL3.1 26 9) (by unfold ir; omega) hi_15) (wm 3 58 rfl rfl) (wm 3 60 rfl rfl) (wm 0 2 rfl rfl) rfl rfl (by decide) rfl (wm 1 13 rfl rfl) (wm 3 61 rfl rfl) (by decide) hR (by decide) (n := 1) rfl rfl (Nat.le_of_ble_eq_true rfl) hl.1 dX10_readName_54 (fun r_57 μ56 ρ d0 H locs hr_r_57 hp G => ?_)
      have hr_r_57 : -2147483648 ≤ r_57 ∧ r_57 ≤ 2147483647 := hr_r_57
      obtain ⟨hsm_58, hp_59, hp_60⟩ := hp
      have hsm_58 := Eq.symm hsm_58
      subst hsm_58
      refine xb_i2l hx hb (by unfold ir; omega) dX10_readName_57 ?_
      refine lv_lor hx hb dX10_readName_58 ?_
      refine xb_topl (fun z_61 hr_z_61 he_z_61 => ?_)
      refine xa_putl G fd_X10 (a := 26) (x := z_61) 14 (kz := 14) rfl rfl (by decide) rfl hr_z_61 (wm 1 220 rfl rfl) ⟨rfl, rfl, rfl, rfl⟩ rfl dX10_readName_59 rfl (fun H locs G => ?_)
      refine lv_iinc (v := iv (l9 + 1)) (lv' := [(1, .int (iv (l9 + 1))), (0, .ref (oP ω 26))]) hx hb dX10_readName_62 hl (k := 0) rfl (by rw [show Int32.ofInt 1 = iv 1 from rfl, iv_add]) (by decide) rfl (fun ls hl => ?_)
      refine lv_aload_n hx hb dX10_readName_65 rfl (lv_at hl 1 rfl) ?_
      refine lv_dup hx hb dX10_readName_66 rfl ?_
      refine xa_geti G fd_X10 (a := 26) (x := μL3.1 26 9) 9 rfl (by decide) rfl (wm 1 213 rfl rfl) ⟨rfl, rfl, rfl⟩ dX10_readName_67 rfl (sv_n _ (by decide)) ?_
      refine lv_iconst (v := iv 1) hx hb dX10_readName_70 rfl ?_
      refine xb_iadd hx hb dX10_readName_71 ?_
      refine xa_puti G fd_X10 (a := 26) (x := (μL3.1 26 9) + 1) 9 (kz := 9) rfl rfl (by decide) rfl (by unfold ir; omega) (wm 1 213 rfl rfl) ⟨rfl, rfl, rfl, rfl⟩ rfl dX10_readName_72 rfl (fun H locs G => ?_)
      refine lv_goto (tgt := 2) hx hb dX10_readName_75 (by decide) ?_
      have e_62 : (sv (sv μL3 26 14 z_61) 26 9 ((μL3.1 26 9) + 1)).1 26 9 = (μL3.1 26 9) + 1 := (sv_s _ _ _ _)
      have e_63 : (sv (sv μL3 26 14 z_61) 26 9 ((μL3.1 26 9) + 1)).1 26 9 = (μL3.1 26 9) + 1 := (sv_s _ _ _ _)
      have hI_64 : IC (sv (sv μL3 26 14 z_61) 26 9 ((μL3.1 26 9) + 1)) := (IC.n_26_9 (IC.put hi_15 (by decide +kernel)) (by omega))
      exact ih _ _ _ _ _ _ _ (by omega) ⟨l9 + 1, (Fr.put (Fr.put FL4 (by decide)) (by decide)), (by omega), (by omega), (by omega), ((sv_n _ (by decide)).trans ((sv_n _ (by decide)).trans hi_9)), ((sv_n _ (by decide)).trans ((sv_n _ (by decide)).trans hi_10)), ((sv_n _ (by decide)).trans ((sv_n _ (by decide)).trans hi_11)), ((sv_n _ (by decide)).trans ((sv_n _ (by decide)).trans hi_12)), ((sv_n _ (by decide)).trans ((sv_n _ (by decide)).trans hi_13)), ((sv_n _ (by decide)).trans ((sv_n _ (by decide)).trans hi_14)), hI_64, rfl, lv_sub hl [0, 1] rfl⟩ G
    · refine lv_aload_n hx hb dX10_readName_27 rfl (lv_at hl 1 rfl) ?_
      refine lv_aload_n hx hb dX10_readName_28 rfl (lv_at hl 1 rfl) ?_
      refine xa_geti G fd_X10 (a := 26) (x := μL3.1 26 9) 9 rfl (by decide) rfl (wm 1 213 rfl rfl) ⟨rfl, rfl, rfl⟩ dX10_readName_29 rfl rfl ?_
      have e_65 : μL3.1 26 7 = μ.1 26 7 := hi_10
      refine xc_iV G (b := 26) (rest := []) (As := [.int (iv (μL3.1 26 9))]) (c_X10_byteAt ω l μL3 (μL3.1 26 9) (by unfold ir; omega) hi_15) (wm 3 58 rfl rfl) (wm 3 60 rfl rfl) (wm 0 2 rfl rfl) rfl rfl (by decide) rfl (wm 1 13 rfl rfl) (wm 3 61 rfl rfl) (by decide) hR (by decide) (n := 1) rfl rfl (Nat.le_of_ble_eq_true rfl) hl.1 dX10_readName_32 (fun r_67 μ66 ρ d0 H locs hr_r_67 hp G => ?_)
      have hr_r_67 : -2147483648 ≤ r_67 ∧ r_67 ≤ 2147483647 := hr_r_67
      obtain ⟨hsm_68, hp_69, hp_70⟩ := hp
      have hsm_68 := Eq.symm hsm_68
      subst hsm_68
      refine xc_iS G (rest := []) (As := [.int (iv r_67)]) (c_X10_isDigit ω l μL3 r_67 (by unfold ir; omega)) (wm 3 69 rfl rfl) (wm 3 70 rfl rfl) (wm 1 13 rfl rfl) (wm 3 71 rfl rfl) (by decide) hR (by decide) (n := 1) rfl rfl (Nat.le_of_ble_eq_true rfl) hl.1 dX10_readName_35 (fun r_72 μ71 ρ d0 H locs hr_r_72 hp G => ?_)
      have hr_r_72 : -2147483648 ≤ r_72 ∧ r_72 ≤ 2147483647 := hr_r_72
      obtain ⟨hsm_73, hp_74⟩ := hp
      have hsm_73 := Eq.symm hsm_73
      subst hsm_73
      refine xb_if_eq (tgt := 78) hx hb (by unfold ir; omega) dX10_readName_38 (by decide) (fun c_38 => ?_) (fun c_38 => ?_)
      · refine lv_aload_n hx hb dX10_readName_78 rfl (lv_at hl 1 rfl) ?_
        refine lv_iload_n hx hb dX10_readName_79 rfl (lv_at hl 0 rfl) ?_
        refine lv_bipush (v := iv 8) hx hb dX10_readName_80 rfl ?_
        refine xb_icmp_le (tgt := 89) hx hb (by unfold ir; omega) (by unfold ir; omega) dX10_readName_82 (by decide) (fun c_82 => ?_) (fun c_82 => ?_)
        · refine lv_aload_n hx hb dX10_readName_89 rfl (lv_at hl 1 rfl) ?_
          refine xc_iV G (b := 26) (rest := [.ref (oP ω 26)]) (As := []) (c_X10_wordOrName ω l μL3  hi_15) (wm 3 72 rfl rfl) (wm 3 74 rfl rfl) (wm 0 4 rfl rfl) rfl rfl (by decide) rfl (wm 1 13 rfl rfl) (wm 3 75 rfl rfl) (by decide) hR (by decide) (n := 0) rfl rfl (Nat.le_of_ble_eq_true rfl) hl.1 dX10_readName_90 (fun r_76 μ75 ρ d0 H locs hr_r_76 hp G => ?_)
          have hr_r_76 : -2147483648 ≤ r_76 ∧ r_76 ≤ 2147483647 := hr_r_76
          obtain ⟨hsm_77, hp_78⟩ := hp
          have hsm_77 := Eq.symm hsm_77
          subst hsm_77
          refine xa_puti G fd_X10 (a := 26) (x := r_76) 12 (kz := 12) rfl rfl (by decide) rfl (by unfold ir; omega) (wm 1 216 rfl rfl) ⟨rfl, rfl, rfl, rfl⟩ rfl dX10_readName_93 rfl (fun H locs G => ?_)
          have e_79 : (sv μL3 26 12 r_76).1 26 9 = μL3.1 26 9 := (sv_n _ (by decide))
          have e_80 : (sv μL3 26 12 r_76).1 26 12 = r_76 := (sv_s _ _ _ _)
          have hI_81 : IC (sv μL3 26 12 r_76) := (IC.put hi_15 (by decide +kernel))
          have e_82 : (sv μL3 26 12 r_76).1 26 9 = μL3.1 26 9 := (sv_n _ (by decide))
          have e_83 : (sv μL3 26 12 r_76).1 26 6 = μ.1 26 6 := ((sv_n _ (by decide)).trans hi_9)
          have e_84 : (sv μL3 26 12 r_76).1 26 7 = μ.1 26 7 := ((sv_n _ (by decide)).trans hi_10)
          have e_85 : (sv μL3 26 12 r_76).1 26 8 = μ.1 26 8 := ((sv_n _ (by decide)).trans hi_11)
          have e_86 : (sv μL3 26 12 r_76).1 26 10 = μ.1 26 10 := ((sv_n _ (by decide)).trans hi_12)
          have e_87 : (sv μL3 26 12 r_76).1 26 11 = μ.1 26 11 := ((sv_n _ (by decide)).trans hi_13)
          have e_88 : (sv μL3 26 12 r_76).1 26 13 = μ.1 26 13 := ((sv_n _ (by decide)).trans hi_14)
          exact xr_v G hret hlk dX10_readName_96 ⟨(Fr.put (Fr.tr Fr.rf FL4 (by decide)) (by decide)), hI_81, (Or.inr (by by_cases h9 : μL3.1 26 9 = μ.1 26 9; (exfalso; rw [h9, hbta] at hp_47 hp_69; omega); omega)), (by omega), (by omega), (by omega), (by omega), (by omega), (by omega), (by omega)⟩
        · refine lv_iconst (v := iv 3) hx hb dX10_readName_85 rfl ?_
          refine lv_goto (tgt := 93) hx hb dX10_readName_86 (by decide) ?_
          refine xa_puti G fd_X10 (a := 26) (x := 3) 12 (kz := 12) rfl rfl (by decide) rfl (by unfold ir; omega) (wm 1 216 rfl rfl) ⟨rfl, rfl, rfl, rfl⟩ rfl dX10_readName_93 rfl (fun H locs G => ?_)
          have e_89 : (sv μL3 26 12 3).1 26 9 = μL3.1 26 9 := (sv_n _ (by decide))
          have e_90 : (sv μL3 26 12 3).1 26 12 = 3 := (sv_s _ _ _ _)
          have hI_91 : IC (sv μL3 26 12 3) := (IC.put hi_15 (by decide +kernel))
          have e_92 : (sv μL3 26 12 3).1 26 9 = μL3.1 26 9 := (sv_n _ (by decide))
          have e_93 : (sv μL3 26 12 3).1 26 6 = μ.1 26 6 := ((sv_n _ (by decide)).trans hi_9)
          have e_94 : (sv μL3 26 12 3).1 26 7 = μ.1 26 7 := ((sv_n _ (by decide)).trans hi_10)
          have e_95 : (sv μL3 26 12 3).1 26 8 = μ.1 26 8 := ((sv_n _ (by decide)).trans hi_11)
          have e_96 : (sv μL3 26 12 3).1 26 10 = μ.1 26 10 := ((sv_n _ (by decide)).trans hi_12)
          have e_97 : (sv μL3 26 12 3).1 26 11 = μ.1 26 11 := ((sv_n _ (by decide)).trans hi_13)
          have e_98 : (sv μL3 26 12 3).1 26 13 = μ.1 26 13 := ((sv_n _ (by decide)).trans hi_14)
          exact xr_v G hret hlk dX10_readName_96 ⟨(Fr.put (Fr.tr Fr.rf FL4 (by decide)) (by decide)), hI_91, (Or.inr (by by_cases h9 : μL3.1 26 9 = μ.1 26 9; (exfalso; rw [h9, hbta] at hp_47 hp_69; omega); omega)), (by omega), (by omega), (by omega), (by omega), (by omega), (by omega), (by omega)⟩
      · refine lv_aload_n hx hb dX10_readName_41 rfl (lv_at hl 1 rfl) ?_
        refine lv_aload_n hx hb dX10_readName_42 rfl (lv_at hl 1 rfl) ?_
        refine xa_getl G fd_X10 (a := 26) (x := μL3.1 26 14) 14 rfl (by decide) rfl (wm 1 220 rfl rfl) ⟨rfl, rfl, rfl⟩ dX10_readName_43 rfl rfl ?_
        have hj_99 : jr (μL3.1 26 14) := by have h9 := G.hj (a := 26) (k := 14) rfl; exact h9
        refine lv_bipush (v := iv 8) hx hb dX10_readName_46 rfl ?_
        refine lv_lshl hx hb dX10_readName_48 rfl ?_
        refine xb_topl (fun z_100 hr_z_100 he_z_100 => ?_)
        refine lv_aload_n hx hb dX10_readName_49 rfl (lv_at hl 1 rfl) ?_
        refine lv_aload_n hx hb dX10_readName_50 rfl (lv_at hl 1 rfl) ?_
        refine xa_geti G fd_X10 (a := 26) (x := μL3.1 26 9) 9 rfl (by decide) rfl (wm 1 213 rfl rfl) ⟨rfl, rfl, rfl⟩ dX10_readName_51 rfl rfl ?_
        have e_101 : μL3.1 26 7 = μ.1 26 7 := hi_10
        refine xc_iV G (b := 26) (rest := [.long (jv z_100), .ref (oP ω 26)]) (As := [.int (iv (μL3.1 26 9))]) (c_X10_byteAt ω l μL3 (μL3.1 26 9) (by unfold ir; omega) hi_15) (wm 3 58 rfl rfl) (wm 3 60 rfl rfl) (wm 0 2 rfl rfl) rfl rfl (by decide) rfl (wm 1 13 rfl rfl) (wm 3 61 rfl rfl) (by decide) hR (by decide) (n := 1) rfl rfl (Nat.le_of_ble_eq_true rfl) hl.1 dX10_readName_54 (fun r_103 μ102 ρ d0 H locs hr_r_103 hp G => ?_)
        have hr_r_103 : -2147483648 ≤ r_103 ∧ r_103 ≤ 2147483647 := hr_r_103
        obtain ⟨hsm_104, hp_105, hp_106⟩ := hp
        have hsm_104 := Eq.symm hsm_104
        subst hsm_104
        refine xb_i2l hx hb (by unfold ir; omega) dX10_readName_57 ?_
        refine lv_lor hx hb dX10_readName_58 ?_
        refine xb_topl (fun z_107 hr_z_107 he_z_107 => ?_)
        refine xa_putl G fd_X10 (a := 26) (x := z_107) 14 (kz := 14) rfl rfl (by decide) rfl hr_z_107 (wm 1 220 rfl rfl) ⟨rfl, rfl, rfl, rfl⟩ rfl dX10_readName_59 rfl (fun H locs G => ?_)
        refine lv_iinc (v := iv (l9 + 1)) (lv' := [(1, .int (iv (l9 + 1))), (0, .ref (oP ω 26))]) hx hb dX10_readName_62 hl (k := 0) rfl (by rw [show Int32.ofInt 1 = iv 1 from rfl, iv_add]) (by decide) rfl (fun ls hl => ?_)
        refine lv_aload_n hx hb dX10_readName_65 rfl (lv_at hl 1 rfl) ?_
        refine lv_dup hx hb dX10_readName_66 rfl ?_
        refine xa_geti G fd_X10 (a := 26) (x := μL3.1 26 9) 9 rfl (by decide) rfl (wm 1 213 rfl rfl) ⟨rfl, rfl, rfl⟩ dX10_readName_67 rfl (sv_n _ (by decide)) ?_
        refine lv_iconst (v := iv 1) hx hb dX10_readName_70 rfl ?_
        refine xb_iadd hx hb dX10_readName_71 ?_
        refine xa_puti G fd_X10 (a := 26) (x := (μL3.1 26 9) + 1) 9 (kz := 9) rfl rfl (by decide) rfl (by unfold ir; omega) (wm 1 213 rfl rfl) ⟨rfl, rfl, rfl, rfl⟩ rfl dX10_readName_72 rfl (fun H locs G => ?_)
        refine lv_goto (tgt := 2) hx hb dX10_readName_75 (by decide) ?_
        have e_108 : (sv (sv μL3 26 14 z_107) 26 9 ((μL3.1 26 9) + 1)).1 26 9 = (μL3.1 26 9) + 1 := (sv_s _ _ _ _)
        have e_109 : (sv (sv μL3 26 14 z_107) 26 9 ((μL3.1 26 9) + 1)).1 26 9 = (μL3.1 26 9) + 1 := (sv_s _ _ _ _)
        have hI_110 : IC (sv (sv μL3 26 14 z_107) 26 9 ((μL3.1 26 9) + 1)) := (IC.n_26_9 (IC.put hi_15 (by decide +kernel)) (by omega))
        exact ih _ _ _ _ _ _ _ (by omega) ⟨l9 + 1, (Fr.put (Fr.put FL4 (by decide)) (by decide)), (by omega), (by omega), (by omega), ((sv_n _ (by decide)).trans ((sv_n _ (by decide)).trans hi_9)), ((sv_n _ (by decide)).trans ((sv_n _ (by decide)).trans hi_10)), ((sv_n _ (by decide)).trans ((sv_n _ (by decide)).trans hi_11)), ((sv_n _ (by decide)).trans ((sv_n _ (by decide)).trans hi_12)), ((sv_n _ (by decide)).trans ((sv_n _ (by decide)).trans hi_13)), ((sv_n _ (by decide)).trans ((sv_n _ (by decide)).trans hi_14)), hI_110, rfl, lv_sub hl [0, 1] rfl⟩ G

set_option maxHeartbeats 4000000 in
set_option maxRecDepth 100000 in
theorem c_X10_readSign (ω : Om) (l : Launch) (μ : M3) (x1 : Int) (hx1 : ir x1) (hI : IC μ) (hc : 0 ≤ x1) (hat : μ.1 26 9 < μ.1 26 7) : CtV ω l yX10_readSign cX10_readSign 3 4 91 [.ref (oP ω 26), .int (iv x1)] μ (fun (μ' : M3) => (Fr [26] μ μ') ∧ (IC μ') ∧ (μ'.1 26 12 = 3 ∨ μ.1 26 9 < μ'.1 26 9) ∧ (μ.1 26 9 ≤ μ'.1 26 9) ∧ (μ'.1 26 6 = μ.1 26 6) ∧ (μ'.1 26 7 = μ.1 26 7) ∧ (μ'.1 26 8 = μ.1 26 8) ∧ (μ'.1 26 10 = μ.1 26 10) ∧ (μ'.1 26 11 = μ.1 26 11) ∧ (μ'.1 26 13 = μ.1 26 13) ∧ (μ'.1 26 14 = μ.1 26 14)) := by
  refine CtV.go (by decide) (Nat.le_of_ble_eq_true rfl) (fun ρ p e s m below meth c R ls G hR hret hlk hl => ?_)
  have hx := G.1.1
  have hb := G.1.2.1
  have hl : lv_has ls 3 [(0, .ref (oP ω 26)), (1, .int (iv x1))] := hl
  generalize s.drawn = d0 at G ⊢
  have hr_x1 : -2147483648 ≤ x1 ∧ x1 ≤ 2147483647 := hx1
  have hn_1 : 0 ≤ μ.1 26 7 ∧ μ.1 26 7 ≤ 3000 := hI.nm.2.2.2.2.2.2.2.2.2.2.1
  have hn_2 : 0 ≤ μ.1 26 9 ∧ μ.1 26 9 ≤ 3000 := hI.nm.2.2.2.2.2.2.2.2.2.2.2.1
  refine xs_ldc G dX10_readSign_0 ?_
  refine lv_iload_n hx hb dX10_readSign_2 rfl (lv_at hl 1 rfl) ?_
  refine lv_i2c hx hb dX10_readSign_3 rfl ?_
  refine xb_topi (fun y_3 hr_y_3 he_y_3 => ?_)
  have hr_y_3 : -2147483648 ≤ y_3 ∧ y_3 ≤ 2147483647 := hr_y_3
  refine xc_iX G (rest := []) (As := [.int (iv y_3)]) (c_J0_indexOf_0f7a4 ω l μ y_3 (by unfold ir; omega) hI) (wm 3 101 rfl rfl) (wm 3 102 rfl rfl) (wm 3 103 rfl rfl) (xs_recv G) (wm 1 3 rfl rfl) (wm 3 104 rfl rfl) (by decide) hR (by decide) (n := 1) rfl rfl (Nat.le_of_ble_eq_true rfl) hl.1 dX10_readSign_4 (fun r_5 μ4 ρ d0 H locs hr_r_5 hp G => ?_)
  have hr_r_5 : -2147483648 ≤ r_5 ∧ r_5 ≤ 2147483647 := hr_r_5
  have hsm_6 := hp
  have hsm_6 := Eq.symm hsm_6
  subst hsm_6
  refine xb_if_ge (tgt := 16) hx hb (by unfold ir; omega) dX10_readSign_7 (by decide) (fun c_7 => ?_) (fun c_7 => ?_)
  · refine lv_aload_n hx hb dX10_readSign_16 rfl (lv_at hl 0 rfl) ?_
    refine lv_iload_n hx hb dX10_readSign_17 rfl (lv_at hl 1 rfl) ?_
    refine xa_puti G fd_X10 (a := 26) (x := x1) 12 (kz := 12) rfl rfl (by decide) rfl (by unfold ir; omega) (wm 1 216 rfl rfl) ⟨rfl, rfl, rfl, rfl⟩ rfl dX10_readSign_18 rfl (fun H locs G => ?_)
    refine lv_aload_n hx hb dX10_readSign_21 rfl (lv_at hl 0 rfl) ?_
    refine lv_dup hx hb dX10_readSign_22 rfl ?_
    refine xa_geti G fd_X10 (a := 26) (x := μ.1 26 9) 9 rfl (by decide) rfl (wm 1 213 rfl rfl) ⟨rfl, rfl, rfl⟩ dX10_readSign_23 rfl (sv_n _ (by decide)) ?_
    have hr_7 : -2147483648 ≤ μ.1 26 9 ∧ μ.1 26 9 ≤ 2147483647 := by have h9 := G.hr (a := 26) (k := 9) rfl; rw [show (sv μ 26 12 x1).1 26 9 = μ.1 26 9 from (sv_n _ (by decide))] at h9; exact h9
    refine lv_iconst (v := iv 1) hx hb dX10_readSign_26 rfl ?_
    refine xb_iadd hx hb dX10_readSign_27 ?_
    refine xa_puti G fd_X10 (a := 26) (x := (μ.1 26 9) + 1) 9 (kz := 9) rfl rfl (by decide) rfl (by unfold ir; omega) (wm 1 213 rfl rfl) ⟨rfl, rfl, rfl, rfl⟩ rfl dX10_readSign_28 rfl (fun H locs G => ?_)
    refine lv_aload_n hx hb dX10_readSign_31 rfl (lv_at hl 0 rfl) ?_
    refine lv_aload_n hx hb dX10_readSign_32 rfl (lv_at hl 0 rfl) ?_
    refine xa_geti G fd_X10 (a := 26) (x := (μ.1 26 9) + 1) 9 rfl (by decide) rfl (wm 1 213 rfl rfl) ⟨rfl, rfl, rfl⟩ dX10_readSign_33 rfl (sv_s _ _ _ _) ?_
    have hr_8 : -2147483648 ≤ (μ.1 26 9) + 1 ∧ (μ.1 26 9) + 1 ≤ 2147483647 := by have h9 := G.hr (a := 26) (k := 9) rfl; rw [show (sv (sv μ 26 12 x1) 26 9 ((μ.1 26 9) + 1)).1 26 9 = (μ.1 26 9) + 1 from (sv_s _ _ _ _)] at h9; exact h9
    have hI_9 : IC (sv (sv μ 26 12 x1) 26 9 ((μ.1 26 9) + 1)) := (IC.n_26_9 (IC.put hI (by decide +kernel)) (by omega))
    have e_10 : (sv (sv μ 26 12 x1) 26 9 ((μ.1 26 9) + 1)).1 26 9 = (μ.1 26 9) + 1 := (sv_s _ _ _ _)
    have e_11 : (sv (sv μ 26 12 x1) 26 9 ((μ.1 26 9) + 1)).1 26 9 = (μ.1 26 9) + 1 := (sv_s _ _ _ _)
    have e_12 : (sv (sv μ 26 12 x1) 26 9 ((μ.1 26 9) + 1)).1 26 9 = (μ.1 26 9) + 1 := (sv_s _ _ _ _)
    have e_13 : (sv (sv μ 26 12 x1) 26 9 ((μ.1 26 9) + 1)).1 26 7 = μ.1 26 7 := ((sv_n _ (by decide)).trans (sv_n _ (by decide)))
    refine xc_iV G (b := 26) (rest := []) (As := [.int (iv ((μ.1 26 9) + 1))]) (c_X10_byteAt ω l (sv (sv μ 26 12 x1) 26 9 ((μ.1 26 9) + 1)) ((μ.1 26 9) + 1) (by unfold ir; omega) hI_9) (wm 3 58 rfl rfl) (wm 3 60 rfl rfl) (wm 0 2 rfl rfl) rfl rfl (by decide) rfl (wm 1 13 rfl rfl) (wm 3 61 rfl rfl) (by decide) hR (by decide) (n := 1) rfl rfl (Nat.le_of_ble_eq_true rfl) hl.1 dX10_readSign_36 (fun r_15 μ14 ρ d0 H locs hr_r_15 hp G => ?_)
    have hr_r_15 : -2147483648 ≤ r_15 ∧ r_15 ≤ 2147483647 := hr_r_15
    obtain ⟨hsm_16, hp_17, hp_18⟩ := hp
    have hsm_16 := Eq.symm hsm_16
    subst hsm_16
    refine lv_bipush (v := iv 61) hx hb dX10_readSign_39 rfl ?_
    refine xb_icmp_eq (tgt := 45) hx hb (by unfold ir; omega) (by unfold ir; omega) dX10_readSign_41 (by decide) (fun c_41 => ?_) (fun c_41 => ?_)
    · refine lv_iload_n hx hb dX10_readSign_45 rfl (lv_at hl 1 rfl) ?_
      refine lv_bipush (v := iv 61) hx hb dX10_readSign_46 rfl ?_
      refine xb_icmp_ne (tgt := 57) hx hb (by unfold ir; omega) (by unfold ir; omega) dX10_readSign_48 (by decide) (fun c_48 => ?_) (fun c_48 => ?_)
      · refine lv_iload_n hx hb dX10_readSign_57 rfl (lv_at hl 1 rfl) ?_
        refine lv_bipush (v := iv 33) hx hb dX10_readSign_58 rfl ?_
        refine xb_icmp_ne (tgt := 69) hx hb (by unfold ir; omega) (by unfold ir; omega) dX10_readSign_60 (by decide) (fun c_60 => ?_) (fun c_60 => ?_)
        · refine lv_iload_n hx hb dX10_readSign_69 rfl (lv_at hl 1 rfl) ?_
          refine lv_bipush (v := iv 60) hx hb dX10_readSign_70 rfl ?_
          refine xb_icmp_ne (tgt := 81) hx hb (by unfold ir; omega) (by unfold ir; omega) dX10_readSign_72 (by decide) (fun c_72 => ?_) (fun c_72 => ?_)
          · refine lv_iload_n hx hb dX10_readSign_81 rfl (lv_at hl 1 rfl) ?_
            refine lv_bipush (v := iv 62) hx hb dX10_readSign_82 rfl ?_
            refine xb_icmp_ne (tgt := 93) hx hb (by unfold ir; omega) (by unfold ir; omega) dX10_readSign_84 (by decide) (fun c_84 => ?_) (fun c_84 => ?_)
            · refine lv_iconst (v := iv 0) hx hb dX10_readSign_93 rfl ?_
              refine lv_istore_n (lv' := [(2, .int (iv 0)), (0, .ref (oP ω 26)), (1, .int (iv x1))]) hx hb dX10_readSign_94 rfl hl (by decide) rfl (fun ls hl => ?_)
              refine lv_iload_n hx hb dX10_readSign_95 rfl (lv_at hl 0 rfl) ?_
              refine xb_if_eq (tgt := 114) hx hb (x := 0) (by unfold ir; omega) dX10_readSign_96 (by decide) (fun c_96 => ?_) (fun c_96 => absurd (by decide) c_96)
              have e_19 : (sv (sv μ 26 12 x1) 26 9 ((μ.1 26 9) + 1)).1 26 12 = x1 := ((sv_n _ (by decide)).trans (sv_s _ _ _ _))
              have e_20 : (sv (sv μ 26 12 x1) 26 9 ((μ.1 26 9) + 1)).1 26 9 = (μ.1 26 9) + 1 := (sv_s _ _ _ _)
              have e_21 : (sv (sv μ 26 12 x1) 26 9 ((μ.1 26 9) + 1)).1 26 9 = (μ.1 26 9) + 1 := (sv_s _ _ _ _)
              have e_22 : (sv (sv μ 26 12 x1) 26 9 ((μ.1 26 9) + 1)).1 26 6 = μ.1 26 6 := ((sv_n _ (by decide)).trans (sv_n _ (by decide)))
              have e_23 : (sv (sv μ 26 12 x1) 26 9 ((μ.1 26 9) + 1)).1 26 7 = μ.1 26 7 := ((sv_n _ (by decide)).trans (sv_n _ (by decide)))
              have e_24 : (sv (sv μ 26 12 x1) 26 9 ((μ.1 26 9) + 1)).1 26 8 = μ.1 26 8 := ((sv_n _ (by decide)).trans (sv_n _ (by decide)))
              have e_25 : (sv (sv μ 26 12 x1) 26 9 ((μ.1 26 9) + 1)).1 26 10 = μ.1 26 10 := ((sv_n _ (by decide)).trans (sv_n _ (by decide)))
              have e_26 : (sv (sv μ 26 12 x1) 26 9 ((μ.1 26 9) + 1)).1 26 11 = μ.1 26 11 := ((sv_n _ (by decide)).trans (sv_n _ (by decide)))
              have e_27 : (sv (sv μ 26 12 x1) 26 9 ((μ.1 26 9) + 1)).1 26 13 = μ.1 26 13 := ((sv_n _ (by decide)).trans (sv_n _ (by decide)))
              have e_28 : (sv (sv μ 26 12 x1) 26 9 ((μ.1 26 9) + 1)).1 26 14 = μ.1 26 14 := ((sv_n _ (by decide)).trans (sv_n _ (by decide)))
              exact xr_v G hret hlk dX10_readSign_114 ⟨(Fr.put (Fr.put Fr.rf (by decide)) (by decide)), hI_9, (by omega), (by omega), (by omega), (by omega), (by omega), (by omega), (by omega), (by omega), (by omega)⟩
            · refine lv_sipush (v := iv 132) hx hb dX10_readSign_87 rfl ?_
              refine lv_goto (tgt := 94) hx hb dX10_readSign_90 (by decide) ?_
              refine lv_istore_n (lv' := [(2, .int (iv 132)), (0, .ref (oP ω 26)), (1, .int (iv x1))]) hx hb dX10_readSign_94 rfl hl (by decide) rfl (fun ls hl => ?_)
              refine lv_iload_n hx hb dX10_readSign_95 rfl (lv_at hl 0 rfl) ?_
              refine xb_if_eq (tgt := 114) hx hb (x := 132) (by unfold ir; omega) dX10_readSign_96 (by decide) (fun c_96 => absurd c_96 (by decide)) (fun c_96 => ?_)
              refine lv_aload_n hx hb dX10_readSign_99 rfl (lv_at hl 1 rfl) ?_
              refine lv_iload_n hx hb dX10_readSign_100 rfl (lv_at hl 0 rfl) ?_
              refine xa_puti G fd_X10 (a := 26) (x := 132) 12 (kz := 12) rfl rfl (by decide) rfl (by unfold ir; omega) (wm 1 216 rfl rfl) ⟨rfl, rfl, rfl, rfl⟩ rfl dX10_readSign_101 rfl (fun H locs G => ?_)
              refine lv_aload_n hx hb dX10_readSign_104 rfl (lv_at hl 1 rfl) ?_
              refine lv_dup hx hb dX10_readSign_105 rfl ?_
              refine xa_geti G fd_X10 (a := 26) (x := (μ.1 26 9) + 1) 9 rfl (by decide) rfl (wm 1 213 rfl rfl) ⟨rfl, rfl, rfl⟩ dX10_readSign_106 rfl ((sv_n _ (by decide)).trans (sv_s _ _ _ _)) ?_
              refine lv_iconst (v := iv 1) hx hb dX10_readSign_109 rfl ?_
              refine xb_iadd hx hb dX10_readSign_110 ?_
              refine xb_ti (y := (μ.1 26 9) + 2) (by omega) ?_
              refine xa_puti G fd_X10 (a := 26) (x := (μ.1 26 9) + 2) 9 (kz := 9) rfl rfl (by decide) rfl (by unfold ir; omega) (wm 1 213 rfl rfl) ⟨rfl, rfl, rfl, rfl⟩ rfl dX10_readSign_111 rfl (fun H locs G => ?_)
              have hI_29 : IC (sv (sv (sv (sv μ 26 12 x1) 26 9 ((μ.1 26 9) + 1)) 26 12 132) 26 9 ((μ.1 26 9) + 2)) := (IC.n_26_9 (IC.put hI_9 (by decide +kernel)) (by omega))
              have e_30 : (sv (sv (sv (sv μ 26 12 x1) 26 9 ((μ.1 26 9) + 1)) 26 12 132) 26 9 ((μ.1 26 9) + 2)).1 26 12 = 132 := ((sv_n _ (by decide)).trans (sv_s _ _ _ _))
              have e_31 : (sv (sv (sv (sv μ 26 12 x1) 26 9 ((μ.1 26 9) + 1)) 26 12 132) 26 9 ((μ.1 26 9) + 2)).1 26 9 = (μ.1 26 9) + 2 := (sv_s _ _ _ _)
              have e_32 : (sv (sv (sv (sv μ 26 12 x1) 26 9 ((μ.1 26 9) + 1)) 26 12 132) 26 9 ((μ.1 26 9) + 2)).1 26 9 = (μ.1 26 9) + 2 := (sv_s _ _ _ _)
              have e_33 : (sv (sv (sv (sv μ 26 12 x1) 26 9 ((μ.1 26 9) + 1)) 26 12 132) 26 9 ((μ.1 26 9) + 2)).1 26 6 = μ.1 26 6 := ((sv_n _ (by decide)).trans ((sv_n _ (by decide)).trans ((sv_n _ (by decide)).trans (sv_n _ (by decide)))))
              have e_34 : (sv (sv (sv (sv μ 26 12 x1) 26 9 ((μ.1 26 9) + 1)) 26 12 132) 26 9 ((μ.1 26 9) + 2)).1 26 7 = μ.1 26 7 := ((sv_n _ (by decide)).trans ((sv_n _ (by decide)).trans ((sv_n _ (by decide)).trans (sv_n _ (by decide)))))
              have e_35 : (sv (sv (sv (sv μ 26 12 x1) 26 9 ((μ.1 26 9) + 1)) 26 12 132) 26 9 ((μ.1 26 9) + 2)).1 26 8 = μ.1 26 8 := ((sv_n _ (by decide)).trans ((sv_n _ (by decide)).trans ((sv_n _ (by decide)).trans (sv_n _ (by decide)))))
              have e_36 : (sv (sv (sv (sv μ 26 12 x1) 26 9 ((μ.1 26 9) + 1)) 26 12 132) 26 9 ((μ.1 26 9) + 2)).1 26 10 = μ.1 26 10 := ((sv_n _ (by decide)).trans ((sv_n _ (by decide)).trans ((sv_n _ (by decide)).trans (sv_n _ (by decide)))))
              have e_37 : (sv (sv (sv (sv μ 26 12 x1) 26 9 ((μ.1 26 9) + 1)) 26 12 132) 26 9 ((μ.1 26 9) + 2)).1 26 11 = μ.1 26 11 := ((sv_n _ (by decide)).trans ((sv_n _ (by decide)).trans ((sv_n _ (by decide)).trans (sv_n _ (by decide)))))
              have e_38 : (sv (sv (sv (sv μ 26 12 x1) 26 9 ((μ.1 26 9) + 1)) 26 12 132) 26 9 ((μ.1 26 9) + 2)).1 26 13 = μ.1 26 13 := ((sv_n _ (by decide)).trans ((sv_n _ (by decide)).trans ((sv_n _ (by decide)).trans (sv_n _ (by decide)))))
              have e_39 : (sv (sv (sv (sv μ 26 12 x1) 26 9 ((μ.1 26 9) + 1)) 26 12 132) 26 9 ((μ.1 26 9) + 2)).1 26 14 = μ.1 26 14 := ((sv_n _ (by decide)).trans ((sv_n _ (by decide)).trans ((sv_n _ (by decide)).trans (sv_n _ (by decide)))))
              exact xr_v G hret hlk dX10_readSign_114 ⟨(Fr.put (Fr.put (Fr.put (Fr.put Fr.rf (by decide)) (by decide)) (by decide)) (by decide)), hI_29, (by omega), (by omega), (by omega), (by omega), (by omega), (by omega), (by omega), (by omega), (by omega)⟩
          · refine lv_sipush (v := iv 131) hx hb dX10_readSign_75 rfl ?_
            refine lv_goto (tgt := 94) hx hb dX10_readSign_78 (by decide) ?_
            refine lv_istore_n (lv' := [(2, .int (iv 131)), (0, .ref (oP ω 26)), (1, .int (iv x1))]) hx hb dX10_readSign_94 rfl hl (by decide) rfl (fun ls hl => ?_)
            refine lv_iload_n hx hb dX10_readSign_95 rfl (lv_at hl 0 rfl) ?_
            refine xb_if_eq (tgt := 114) hx hb (x := 131) (by unfold ir; omega) dX10_readSign_96 (by decide) (fun c_96 => absurd c_96 (by decide)) (fun c_96 => ?_)
            refine lv_aload_n hx hb dX10_readSign_99 rfl (lv_at hl 1 rfl) ?_
            refine lv_iload_n hx hb dX10_readSign_100 rfl (lv_at hl 0 rfl) ?_
            refine xa_puti G fd_X10 (a := 26) (x := 131) 12 (kz := 12) rfl rfl (by decide) rfl (by unfold ir; omega) (wm 1 216 rfl rfl) ⟨rfl, rfl, rfl, rfl⟩ rfl dX10_readSign_101 rfl (fun H locs G => ?_)
            refine lv_aload_n hx hb dX10_readSign_104 rfl (lv_at hl 1 rfl) ?_
            refine lv_dup hx hb dX10_readSign_105 rfl ?_
            refine xa_geti G fd_X10 (a := 26) (x := (μ.1 26 9) + 1) 9 rfl (by decide) rfl (wm 1 213 rfl rfl) ⟨rfl, rfl, rfl⟩ dX10_readSign_106 rfl ((sv_n _ (by decide)).trans (sv_s _ _ _ _)) ?_
            refine lv_iconst (v := iv 1) hx hb dX10_readSign_109 rfl ?_
            refine xb_iadd hx hb dX10_readSign_110 ?_
            refine xb_ti (y := (μ.1 26 9) + 2) (by omega) ?_
            refine xa_puti G fd_X10 (a := 26) (x := (μ.1 26 9) + 2) 9 (kz := 9) rfl rfl (by decide) rfl (by unfold ir; omega) (wm 1 213 rfl rfl) ⟨rfl, rfl, rfl, rfl⟩ rfl dX10_readSign_111 rfl (fun H locs G => ?_)
            have hI_40 : IC (sv (sv (sv (sv μ 26 12 x1) 26 9 ((μ.1 26 9) + 1)) 26 12 131) 26 9 ((μ.1 26 9) + 2)) := (IC.n_26_9 (IC.put hI_9 (by decide +kernel)) (by omega))
            have e_41 : (sv (sv (sv (sv μ 26 12 x1) 26 9 ((μ.1 26 9) + 1)) 26 12 131) 26 9 ((μ.1 26 9) + 2)).1 26 12 = 131 := ((sv_n _ (by decide)).trans (sv_s _ _ _ _))
            have e_42 : (sv (sv (sv (sv μ 26 12 x1) 26 9 ((μ.1 26 9) + 1)) 26 12 131) 26 9 ((μ.1 26 9) + 2)).1 26 9 = (μ.1 26 9) + 2 := (sv_s _ _ _ _)
            have e_43 : (sv (sv (sv (sv μ 26 12 x1) 26 9 ((μ.1 26 9) + 1)) 26 12 131) 26 9 ((μ.1 26 9) + 2)).1 26 9 = (μ.1 26 9) + 2 := (sv_s _ _ _ _)
            have e_44 : (sv (sv (sv (sv μ 26 12 x1) 26 9 ((μ.1 26 9) + 1)) 26 12 131) 26 9 ((μ.1 26 9) + 2)).1 26 6 = μ.1 26 6 := ((sv_n _ (by decide)).trans ((sv_n _ (by decide)).trans ((sv_n _ (by decide)).trans (sv_n _ (by decide)))))
            have e_45 : (sv (sv (sv (sv μ 26 12 x1) 26 9 ((μ.1 26 9) + 1)) 26 12 131) 26 9 ((μ.1 26 9) + 2)).1 26 7 = μ.1 26 7 := ((sv_n _ (by decide)).trans ((sv_n _ (by decide)).trans ((sv_n _ (by decide)).trans (sv_n _ (by decide)))))
            have e_46 : (sv (sv (sv (sv μ 26 12 x1) 26 9 ((μ.1 26 9) + 1)) 26 12 131) 26 9 ((μ.1 26 9) + 2)).1 26 8 = μ.1 26 8 := ((sv_n _ (by decide)).trans ((sv_n _ (by decide)).trans ((sv_n _ (by decide)).trans (sv_n _ (by decide)))))
            have e_47 : (sv (sv (sv (sv μ 26 12 x1) 26 9 ((μ.1 26 9) + 1)) 26 12 131) 26 9 ((μ.1 26 9) + 2)).1 26 10 = μ.1 26 10 := ((sv_n _ (by decide)).trans ((sv_n _ (by decide)).trans ((sv_n _ (by decide)).trans (sv_n _ (by decide)))))
            have e_48 : (sv (sv (sv (sv μ 26 12 x1) 26 9 ((μ.1 26 9) + 1)) 26 12 131) 26 9 ((μ.1 26 9) + 2)).1 26 11 = μ.1 26 11 := ((sv_n _ (by decide)).trans ((sv_n _ (by decide)).trans ((sv_n _ (by decide)).trans (sv_n _ (by decide)))))
            have e_49 : (sv (sv (sv (sv μ 26 12 x1) 26 9 ((μ.1 26 9) + 1)) 26 12 131) 26 9 ((μ.1 26 9) + 2)).1 26 13 = μ.1 26 13 := ((sv_n _ (by decide)).trans ((sv_n _ (by decide)).trans ((sv_n _ (by decide)).trans (sv_n _ (by decide)))))
            have e_50 : (sv (sv (sv (sv μ 26 12 x1) 26 9 ((μ.1 26 9) + 1)) 26 12 131) 26 9 ((μ.1 26 9) + 2)).1 26 14 = μ.1 26 14 := ((sv_n _ (by decide)).trans ((sv_n _ (by decide)).trans ((sv_n _ (by decide)).trans (sv_n _ (by decide)))))
            exact xr_v G hret hlk dX10_readSign_114 ⟨(Fr.put (Fr.put (Fr.put (Fr.put Fr.rf (by decide)) (by decide)) (by decide)) (by decide)), hI_40, (by omega), (by omega), (by omega), (by omega), (by omega), (by omega), (by omega), (by omega), (by omega)⟩
        · refine lv_sipush (v := iv 130) hx hb dX10_readSign_63 rfl ?_
          refine lv_goto (tgt := 94) hx hb dX10_readSign_66 (by decide) ?_
          refine lv_istore_n (lv' := [(2, .int (iv 130)), (0, .ref (oP ω 26)), (1, .int (iv x1))]) hx hb dX10_readSign_94 rfl hl (by decide) rfl (fun ls hl => ?_)
          refine lv_iload_n hx hb dX10_readSign_95 rfl (lv_at hl 0 rfl) ?_
          refine xb_if_eq (tgt := 114) hx hb (x := 130) (by unfold ir; omega) dX10_readSign_96 (by decide) (fun c_96 => absurd c_96 (by decide)) (fun c_96 => ?_)
          refine lv_aload_n hx hb dX10_readSign_99 rfl (lv_at hl 1 rfl) ?_
          refine lv_iload_n hx hb dX10_readSign_100 rfl (lv_at hl 0 rfl) ?_
          refine xa_puti G fd_X10 (a := 26) (x := 130) 12 (kz := 12) rfl rfl (by decide) rfl (by unfold ir; omega) (wm 1 216 rfl rfl) ⟨rfl, rfl, rfl, rfl⟩ rfl dX10_readSign_101 rfl (fun H locs G => ?_)
          refine lv_aload_n hx hb dX10_readSign_104 rfl (lv_at hl 1 rfl) ?_
          refine lv_dup hx hb dX10_readSign_105 rfl ?_
          refine xa_geti G fd_X10 (a := 26) (x := (μ.1 26 9) + 1) 9 rfl (by decide) rfl (wm 1 213 rfl rfl) ⟨rfl, rfl, rfl⟩ dX10_readSign_106 rfl ((sv_n _ (by decide)).trans (sv_s _ _ _ _)) ?_
          refine lv_iconst (v := iv 1) hx hb dX10_readSign_109 rfl ?_
          refine xb_iadd hx hb dX10_readSign_110 ?_
          refine xb_ti (y := (μ.1 26 9) + 2) (by omega) ?_
          refine xa_puti G fd_X10 (a := 26) (x := (μ.1 26 9) + 2) 9 (kz := 9) rfl rfl (by decide) rfl (by unfold ir; omega) (wm 1 213 rfl rfl) ⟨rfl, rfl, rfl, rfl⟩ rfl dX10_readSign_111 rfl (fun H locs G => ?_)
          have hI_51 : IC (sv (sv (sv (sv μ 26 12 x1) 26 9 ((μ.1 26 9) + 1)) 26 12 130) 26 9 ((μ.1 26 9) + 2)) := (IC.n_26_9 (IC.put hI_9 (by decide +kernel)) (by omega))
          have e_52 : (sv (sv (sv (sv μ 26 12 x1) 26 9 ((μ.1 26 9) + 1)) 26 12 130) 26 9 ((μ.1 26 9) + 2)).1 26 12 = 130 := ((sv_n _ (by decide)).trans (sv_s _ _ _ _))
          have e_53 : (sv (sv (sv (sv μ 26 12 x1) 26 9 ((μ.1 26 9) + 1)) 26 12 130) 26 9 ((μ.1 26 9) + 2)).1 26 9 = (μ.1 26 9) + 2 := (sv_s _ _ _ _)
          have e_54 : (sv (sv (sv (sv μ 26 12 x1) 26 9 ((μ.1 26 9) + 1)) 26 12 130) 26 9 ((μ.1 26 9) + 2)).1 26 9 = (μ.1 26 9) + 2 := (sv_s _ _ _ _)
          have e_55 : (sv (sv (sv (sv μ 26 12 x1) 26 9 ((μ.1 26 9) + 1)) 26 12 130) 26 9 ((μ.1 26 9) + 2)).1 26 6 = μ.1 26 6 := ((sv_n _ (by decide)).trans ((sv_n _ (by decide)).trans ((sv_n _ (by decide)).trans (sv_n _ (by decide)))))
          have e_56 : (sv (sv (sv (sv μ 26 12 x1) 26 9 ((μ.1 26 9) + 1)) 26 12 130) 26 9 ((μ.1 26 9) + 2)).1 26 7 = μ.1 26 7 := ((sv_n _ (by decide)).trans ((sv_n _ (by decide)).trans ((sv_n _ (by decide)).trans (sv_n _ (by decide)))))
          have e_57 : (sv (sv (sv (sv μ 26 12 x1) 26 9 ((μ.1 26 9) + 1)) 26 12 130) 26 9 ((μ.1 26 9) + 2)).1 26 8 = μ.1 26 8 := ((sv_n _ (by decide)).trans ((sv_n _ (by decide)).trans ((sv_n _ (by decide)).trans (sv_n _ (by decide)))))
          have e_58 : (sv (sv (sv (sv μ 26 12 x1) 26 9 ((μ.1 26 9) + 1)) 26 12 130) 26 9 ((μ.1 26 9) + 2)).1 26 10 = μ.1 26 10 := ((sv_n _ (by decide)).trans ((sv_n _ (by decide)).trans ((sv_n _ (by decide)).trans (sv_n _ (by decide)))))
          have e_59 : (sv (sv (sv (sv μ 26 12 x1) 26 9 ((μ.1 26 9) + 1)) 26 12 130) 26 9 ((μ.1 26 9) + 2)).1 26 11 = μ.1 26 11 := ((sv_n _ (by decide)).trans ((sv_n _ (by decide)).trans ((sv_n _ (by decide)).trans (sv_n _ (by decide)))))
          have e_60 : (sv (sv (sv (sv μ 26 12 x1) 26 9 ((μ.1 26 9) + 1)) 26 12 130) 26 9 ((μ.1 26 9) + 2)).1 26 13 = μ.1 26 13 := ((sv_n _ (by decide)).trans ((sv_n _ (by decide)).trans ((sv_n _ (by decide)).trans (sv_n _ (by decide)))))
          have e_61 : (sv (sv (sv (sv μ 26 12 x1) 26 9 ((μ.1 26 9) + 1)) 26 12 130) 26 9 ((μ.1 26 9) + 2)).1 26 14 = μ.1 26 14 := ((sv_n _ (by decide)).trans ((sv_n _ (by decide)).trans ((sv_n _ (by decide)).trans (sv_n _ (by decide)))))
          exact xr_v G hret hlk dX10_readSign_114 ⟨(Fr.put (Fr.put (Fr.put (Fr.put Fr.rf (by decide)) (by decide)) (by decide)) (by decide)), hI_51, (by omega), (by omega), (by omega), (by omega), (by omega), (by omega), (by omega), (by omega), (by omega)⟩
      · refine lv_sipush (v := iv 129) hx hb dX10_readSign_51 rfl ?_
        refine lv_goto (tgt := 94) hx hb dX10_readSign_54 (by decide) ?_
        refine lv_istore_n (lv' := [(2, .int (iv 129)), (0, .ref (oP ω 26)), (1, .int (iv x1))]) hx hb dX10_readSign_94 rfl hl (by decide) rfl (fun ls hl => ?_)
        refine lv_iload_n hx hb dX10_readSign_95 rfl (lv_at hl 0 rfl) ?_
        refine xb_if_eq (tgt := 114) hx hb (x := 129) (by unfold ir; omega) dX10_readSign_96 (by decide) (fun c_96 => absurd c_96 (by decide)) (fun c_96 => ?_)
        refine lv_aload_n hx hb dX10_readSign_99 rfl (lv_at hl 1 rfl) ?_
        refine lv_iload_n hx hb dX10_readSign_100 rfl (lv_at hl 0 rfl) ?_
        refine xa_puti G fd_X10 (a := 26) (x := 129) 12 (kz := 12) rfl rfl (by decide) rfl (by unfold ir; omega) (wm 1 216 rfl rfl) ⟨rfl, rfl, rfl, rfl⟩ rfl dX10_readSign_101 rfl (fun H locs G => ?_)
        refine lv_aload_n hx hb dX10_readSign_104 rfl (lv_at hl 1 rfl) ?_
        refine lv_dup hx hb dX10_readSign_105 rfl ?_
        refine xa_geti G fd_X10 (a := 26) (x := (μ.1 26 9) + 1) 9 rfl (by decide) rfl (wm 1 213 rfl rfl) ⟨rfl, rfl, rfl⟩ dX10_readSign_106 rfl ((sv_n _ (by decide)).trans (sv_s _ _ _ _)) ?_
        refine lv_iconst (v := iv 1) hx hb dX10_readSign_109 rfl ?_
        refine xb_iadd hx hb dX10_readSign_110 ?_
        refine xb_ti (y := (μ.1 26 9) + 2) (by omega) ?_
        refine xa_puti G fd_X10 (a := 26) (x := (μ.1 26 9) + 2) 9 (kz := 9) rfl rfl (by decide) rfl (by unfold ir; omega) (wm 1 213 rfl rfl) ⟨rfl, rfl, rfl, rfl⟩ rfl dX10_readSign_111 rfl (fun H locs G => ?_)
        have hI_62 : IC (sv (sv (sv (sv μ 26 12 x1) 26 9 ((μ.1 26 9) + 1)) 26 12 129) 26 9 ((μ.1 26 9) + 2)) := (IC.n_26_9 (IC.put hI_9 (by decide +kernel)) (by omega))
        have e_63 : (sv (sv (sv (sv μ 26 12 x1) 26 9 ((μ.1 26 9) + 1)) 26 12 129) 26 9 ((μ.1 26 9) + 2)).1 26 12 = 129 := ((sv_n _ (by decide)).trans (sv_s _ _ _ _))
        have e_64 : (sv (sv (sv (sv μ 26 12 x1) 26 9 ((μ.1 26 9) + 1)) 26 12 129) 26 9 ((μ.1 26 9) + 2)).1 26 9 = (μ.1 26 9) + 2 := (sv_s _ _ _ _)
        have e_65 : (sv (sv (sv (sv μ 26 12 x1) 26 9 ((μ.1 26 9) + 1)) 26 12 129) 26 9 ((μ.1 26 9) + 2)).1 26 9 = (μ.1 26 9) + 2 := (sv_s _ _ _ _)
        have e_66 : (sv (sv (sv (sv μ 26 12 x1) 26 9 ((μ.1 26 9) + 1)) 26 12 129) 26 9 ((μ.1 26 9) + 2)).1 26 6 = μ.1 26 6 := ((sv_n _ (by decide)).trans ((sv_n _ (by decide)).trans ((sv_n _ (by decide)).trans (sv_n _ (by decide)))))
        have e_67 : (sv (sv (sv (sv μ 26 12 x1) 26 9 ((μ.1 26 9) + 1)) 26 12 129) 26 9 ((μ.1 26 9) + 2)).1 26 7 = μ.1 26 7 := ((sv_n _ (by decide)).trans ((sv_n _ (by decide)).trans ((sv_n _ (by decide)).trans (sv_n _ (by decide)))))
        have e_68 : (sv (sv (sv (sv μ 26 12 x1) 26 9 ((μ.1 26 9) + 1)) 26 12 129) 26 9 ((μ.1 26 9) + 2)).1 26 8 = μ.1 26 8 := ((sv_n _ (by decide)).trans ((sv_n _ (by decide)).trans ((sv_n _ (by decide)).trans (sv_n _ (by decide)))))
        have e_69 : (sv (sv (sv (sv μ 26 12 x1) 26 9 ((μ.1 26 9) + 1)) 26 12 129) 26 9 ((μ.1 26 9) + 2)).1 26 10 = μ.1 26 10 := ((sv_n _ (by decide)).trans ((sv_n _ (by decide)).trans ((sv_n _ (by decide)).trans (sv_n _ (by decide)))))
        have e_70 : (sv (sv (sv (sv μ 26 12 x1) 26 9 ((μ.1 26 9) + 1)) 26 12 129) 26 9 ((μ.1 26 9) + 2)).1 26 11 = μ.1 26 11 := ((sv_n _ (by decide)).trans ((sv_n _ (by decide)).trans ((sv_n _ (by decide)).trans (sv_n _ (by decide)))))
        have e_71 : (sv (sv (sv (sv μ 26 12 x1) 26 9 ((μ.1 26 9) + 1)) 26 12 129) 26 9 ((μ.1 26 9) + 2)).1 26 13 = μ.1 26 13 := ((sv_n _ (by decide)).trans ((sv_n _ (by decide)).trans ((sv_n _ (by decide)).trans (sv_n _ (by decide)))))
        have e_72 : (sv (sv (sv (sv μ 26 12 x1) 26 9 ((μ.1 26 9) + 1)) 26 12 129) 26 9 ((μ.1 26 9) + 2)).1 26 14 = μ.1 26 14 := ((sv_n _ (by decide)).trans ((sv_n _ (by decide)).trans ((sv_n _ (by decide)).trans (sv_n _ (by decide)))))
        exact xr_v G hret hlk dX10_readSign_114 ⟨(Fr.put (Fr.put (Fr.put (Fr.put Fr.rf (by decide)) (by decide)) (by decide)) (by decide)), hI_62, (by omega), (by omega), (by omega), (by omega), (by omega), (by omega), (by omega), (by omega), (by omega)⟩
    · have e_73 : (sv (sv μ 26 12 x1) 26 9 ((μ.1 26 9) + 1)).1 26 12 = x1 := ((sv_n _ (by decide)).trans (sv_s _ _ _ _))
      have e_74 : (sv (sv μ 26 12 x1) 26 9 ((μ.1 26 9) + 1)).1 26 9 = (μ.1 26 9) + 1 := (sv_s _ _ _ _)
      have e_75 : (sv (sv μ 26 12 x1) 26 9 ((μ.1 26 9) + 1)).1 26 9 = (μ.1 26 9) + 1 := (sv_s _ _ _ _)
      have e_76 : (sv (sv μ 26 12 x1) 26 9 ((μ.1 26 9) + 1)).1 26 6 = μ.1 26 6 := ((sv_n _ (by decide)).trans (sv_n _ (by decide)))
      have e_77 : (sv (sv μ 26 12 x1) 26 9 ((μ.1 26 9) + 1)).1 26 7 = μ.1 26 7 := ((sv_n _ (by decide)).trans (sv_n _ (by decide)))
      have e_78 : (sv (sv μ 26 12 x1) 26 9 ((μ.1 26 9) + 1)).1 26 8 = μ.1 26 8 := ((sv_n _ (by decide)).trans (sv_n _ (by decide)))
      have e_79 : (sv (sv μ 26 12 x1) 26 9 ((μ.1 26 9) + 1)).1 26 10 = μ.1 26 10 := ((sv_n _ (by decide)).trans (sv_n _ (by decide)))
      have e_80 : (sv (sv μ 26 12 x1) 26 9 ((μ.1 26 9) + 1)).1 26 11 = μ.1 26 11 := ((sv_n _ (by decide)).trans (sv_n _ (by decide)))
      have e_81 : (sv (sv μ 26 12 x1) 26 9 ((μ.1 26 9) + 1)).1 26 13 = μ.1 26 13 := ((sv_n _ (by decide)).trans (sv_n _ (by decide)))
      have e_82 : (sv (sv μ 26 12 x1) 26 9 ((μ.1 26 9) + 1)).1 26 14 = μ.1 26 14 := ((sv_n _ (by decide)).trans (sv_n _ (by decide)))
      exact xr_v G hret hlk dX10_readSign_44 ⟨(Fr.put (Fr.put Fr.rf (by decide)) (by decide)), hI_9, (by omega), (by omega), (by omega), (by omega), (by omega), (by omega), (by omega), (by omega), (by omega)⟩
  · refine lv_aload_n hx hb dX10_readSign_10 rfl (lv_at hl 0 rfl) ?_
    refine lv_iconst (v := iv 3) hx hb dX10_readSign_11 rfl ?_
    refine xa_puti G fd_X10 (a := 26) (x := 3) 12 (kz := 12) rfl rfl (by decide) rfl (by unfold ir; omega) (wm 1 216 rfl rfl) ⟨rfl, rfl, rfl, rfl⟩ rfl dX10_readSign_12 rfl (fun H locs G => ?_)
    have hI_83 : IC (sv μ 26 12 3) := (IC.put hI (by decide +kernel))
    have e_84 : (sv μ 26 12 3).1 26 12 = 3 := (sv_s _ _ _ _)
    have e_85 : (sv μ 26 12 3).1 26 9 = μ.1 26 9 := (sv_n _ (by decide))
    have e_86 : (sv μ 26 12 3).1 26 9 = μ.1 26 9 := (sv_n _ (by decide))
    have e_87 : (sv μ 26 12 3).1 26 6 = μ.1 26 6 := (sv_n _ (by decide))
    have e_88 : (sv μ 26 12 3).1 26 7 = μ.1 26 7 := (sv_n _ (by decide))
    have e_89 : (sv μ 26 12 3).1 26 8 = μ.1 26 8 := (sv_n _ (by decide))
    have e_90 : (sv μ 26 12 3).1 26 10 = μ.1 26 10 := (sv_n _ (by decide))
    have e_91 : (sv μ 26 12 3).1 26 11 = μ.1 26 11 := (sv_n _ (by decide))
    have e_92 : (sv μ 26 12 3).1 26 13 = μ.1 26 13 := (sv_n _ (by decide))
    have e_93 : (sv μ 26 12 3).1 26 14 = μ.1 26 14 := (sv_n _ (by decide))
    exact xr_v G hret hlk dX10_readSign_15 ⟨(Fr.put Fr.rf (by decide)), hI_83, (by omega), (by omega), (by omega), (by omega), (by omega), (by omega), (by omega), (by omega), (by omega)⟩
