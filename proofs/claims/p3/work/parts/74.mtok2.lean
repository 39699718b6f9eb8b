abbrev cX12_codeOf : ByteArray := prog_14_method_3_code
def yX12_codeOf : MethodName := ⟨RX12, "codeOf", "(I)I"⟩
abbrev cX12_here : ByteArray := prog_14_method_7_code
def yX12_here : MethodName := ⟨RX12, "here", "()I"⟩
abbrev cX12_isLetter : ByteArray := prog_14_method_8_code
def yX12_isLetter : MethodName := ⟨RX12, "isLetter", "(I)Z"⟩
abbrev cX12_isDigit : ByteArray := prog_14_method_9_code
def yX12_isDigit : MethodName := ⟨RX12, "isDigit", "(I)Z"⟩
abbrev cX12_wrong : ByteArray := prog_14_method_10_code
def yX12_wrong : MethodName := ⟨RX12, "wrong", "(I)V"⟩
abbrev cX12_isWrong : ByteArray := prog_14_method_11_code
def yX12_isWrong : MethodName := ⟨RX12, "isWrong", "()Z"⟩
abbrev cX12_spells : ByteArray := prog_14_method_13_code
def yX12_spells : MethodName := ⟨RX12, "spells", "()V"⟩
abbrev cX12_wordOf : ByteArray := prog_14_method_14_code
def yX12_wordOf : MethodName := ⟨RX12, "wordOf", "(J)I"⟩
abbrev cX12_whole : ByteArray := prog_14_method_15_code
def yX12_whole : MethodName := ⟨RX12, "whole", "(J)Z"⟩
abbrev cX12_counts : ByteArray := prog_14_method_16_code
def yX12_counts : MethodName := ⟨RX12, "counts", "()V"⟩
abbrev cX12_signs : ByteArray := prog_14_method_17_code
def yX12_signs : MethodName := ⟨RX12, "signs", "(I)V"⟩
theorem dX12_codeOf_0 : decode cX12_codeOf 0 = .ok (.iload_n 0, 1) := by decide +kernel
theorem dX12_codeOf_1 : decode cX12_codeOf 1 = .ok (.bipush 97, 2) := by decide +kernel
theorem dX12_codeOf_3 : decode cX12_codeOf 3 = .ok (.if_icmp .lt 18, 3) := by decide +kernel
theorem dX12_codeOf_6 : decode cX12_codeOf 6 = .ok (.iload_n 0, 1) := by decide +kernel
theorem dX12_codeOf_7 : decode cX12_codeOf 7 = .ok (.bipush 122, 2) := by decide +kernel
theorem dX12_codeOf_9 : decode cX12_codeOf 9 = .ok (.if_icmp .gt 12, 3) := by decide +kernel
theorem dX12_codeOf_12 : decode cX12_codeOf 12 = .ok (.iload_n 0, 1) := by decide +kernel
theorem dX12_codeOf_13 : decode cX12_codeOf 13 = .ok (.bipush 97, 2) := by decide +kernel
theorem dX12_codeOf_15 : decode cX12_codeOf 15 = .ok (.isub, 1) := by decide +kernel
theorem dX12_codeOf_16 : decode cX12_codeOf 16 = .ok (.iconst 1, 1) := by decide +kernel
theorem dX12_codeOf_17 : decode cX12_codeOf 17 = .ok (.iadd, 1) := by decide +kernel
theorem dX12_codeOf_18 : decode cX12_codeOf 18 = .ok (.goto 10, 3) := by decide +kernel
theorem dX12_codeOf_21 : decode cX12_codeOf 21 = .ok (.iload_n 0, 1) := by decide +kernel
theorem dX12_codeOf_22 : decode cX12_codeOf 22 = .ok (.bipush 48, 2) := by decide +kernel
theorem dX12_codeOf_24 : decode cX12_codeOf 24 = .ok (.isub, 1) := by decide +kernel
theorem dX12_codeOf_25 : decode cX12_codeOf 25 = .ok (.bipush 27, 2) := by decide +kernel
theorem dX12_codeOf_27 : decode cX12_codeOf 27 = .ok (.iadd, 1) := by decide +kernel
theorem dX12_codeOf_28 : decode cX12_codeOf 28 = .ok (.ireturn, 1) := by decide +kernel
theorem dX12_here_0 : decode cX12_here 0 = .ok (.aload_n 0, 1) := by decide +kernel
theorem dX12_here_1 : decode cX12_here 1 = .ok (.getfield 206, 3) := by decide +kernel
theorem dX12_here_4 : decode cX12_here 4 = .ok (.aload_n 0, 1) := by decide +kernel
theorem dX12_here_5 : decode cX12_here 5 = .ok (.getfield 209, 3) := by decide +kernel
theorem dX12_here_8 : decode cX12_here 8 = .ok (.if_icmp .ge 15, 3) := by decide +kernel
theorem dX12_here_11 : decode cX12_here 11 = .ok (.aload_n 0, 1) := by decide +kernel
theorem dX12_here_12 : decode cX12_here 12 = .ok (.getfield 7, 3) := by decide +kernel
theorem dX12_here_15 : decode cX12_here 15 = .ok (.aload_n 0, 1) := by decide +kernel
theorem dX12_here_16 : decode cX12_here 16 = .ok (.getfield 206, 3) := by decide +kernel
theorem dX12_here_19 : decode cX12_here 19 = .ok (.iaload, 1) := by decide +kernel
theorem dX12_here_20 : decode cX12_here 20 = .ok (.goto 4, 3) := by decide +kernel
theorem dX12_here_23 : decode cX12_here 23 = .ok (.iconst (-1), 1) := by decide +kernel
theorem dX12_here_24 : decode cX12_here 24 = .ok (.ireturn, 1) := by decide +kernel
theorem dX12_isLetter_0 : decode cX12_isLetter 0 = .ok (.iload_n 0, 1) := by decide +kernel
theorem dX12_isLetter_1 : decode cX12_isLetter 1 = .ok (.bipush 97, 2) := by decide +kernel
theorem dX12_isLetter_3 : decode cX12_isLetter 3 = .ok (.if_icmp .lt 13, 3) := by decide +kernel
theorem dX12_isLetter_6 : decode cX12_isLetter 6 = .ok (.iload_n 0, 1) := by decide +kernel
theorem dX12_isLetter_7 : decode cX12_isLetter 7 = .ok (.bipush 122, 2) := by decide +kernel
theorem dX12_isLetter_9 : decode cX12_isLetter 9 = .ok (.if_icmp .gt 7, 3) := by decide +kernel
theorem dX12_isLetter_12 : decode cX12_isLetter 12 = .ok (.iconst 1, 1) := by decide +kernel
theorem dX12_isLetter_13 : decode cX12_isLetter 13 = .ok (.goto 4, 3) := by decide +kernel
theorem dX12_isLetter_16 : decode cX12_isLetter 16 = .ok (.iconst 0, 1) := by decide +kernel
theorem dX12_isLetter_17 : decode cX12_isLetter 17 = .ok (.ireturn, 1) := by decide +kernel
theorem dX12_isDigit_0 : decode cX12_isDigit 0 = .ok (.iload_n 0, 1) := by decide +kernel
theorem dX12_isDigit_1 : decode cX12_isDigit 1 = .ok (.bipush 48, 2) := by decide +kernel
theorem dX12_isDigit_3 : decode cX12_isDigit 3 = .ok (.if_icmp .lt 13, 3) := by decide +kernel
theorem dX12_isDigit_6 : decode cX12_isDigit 6 = .ok (.iload_n 0, 1) := by decide +kernel
theorem dX12_isDigit_7 : decode cX12_isDigit 7 = .ok (.bipush 57, 2) := by decide +kernel
theorem dX12_isDigit_9 : decode cX12_isDigit 9 = .ok (.if_icmp .gt 7, 3) := by decide +kernel
theorem dX12_isDigit_12 : decode cX12_isDigit 12 = .ok (.iconst 1, 1) := by decide +kernel
theorem dX12_isDigit_13 : decode cX12_isDigit 13 = .ok (.goto 4, 3) := by decide +kernel
theorem dX12_isDigit_16 : decode cX12_isDigit 16 = .ok (.iconst 0, 1) := by decide +kernel
theorem dX12_isDigit_17 : decode cX12_isDigit 17 = .ok (.ireturn, 1) := by decide +kernel
theorem dX12_wrong_0 : decode cX12_wrong 0 = .ok (.aload_n 0, 1) := by decide +kernel
theorem dX12_wrong_1 : decode cX12_wrong 1 = .ok (.getfield 212, 3) := by decide +kernel
theorem dX12_wrong_4 : decode cX12_wrong 4 = .ok (.iconst (-1), 1) := by decide +kernel
theorem dX12_wrong_5 : decode cX12_wrong 5 = .ok (.if_icmp .ne 8, 3) := by decide +kernel
theorem dX12_wrong_8 : decode cX12_wrong 8 = .ok (.aload_n 0, 1) := by decide +kernel
theorem dX12_wrong_9 : decode cX12_wrong 9 = .ok (.iload_n 1, 1) := by decide +kernel
theorem dX12_wrong_10 : decode cX12_wrong 10 = .ok (.putfield 212, 3) := by decide +kernel
theorem dX12_wrong_13 : decode cX12_wrong 13 = .ok (.return_, 1) := by decide +kernel
theorem dX12_isWrong_0 : decode cX12_isWrong 0 = .ok (.aload_n 0, 1) := by decide +kernel
theorem dX12_isWrong_1 : decode cX12_isWrong 1 = .ok (.getfield 212, 3) := by decide +kernel
theorem dX12_isWrong_4 : decode cX12_isWrong 4 = .ok (.iconst (-1), 1) := by decide +kernel
theorem dX12_isWrong_5 : decode cX12_isWrong 5 = .ok (.if_icmp .eq 7, 3) := by decide +kernel
theorem dX12_isWrong_8 : decode cX12_isWrong 8 = .ok (.iconst 1, 1) := by decide +kernel
theorem dX12_isWrong_9 : decode cX12_isWrong 9 = .ok (.goto 4, 3) := by decide +kernel
theorem dX12_isWrong_12 : decode cX12_isWrong 12 = .ok (.iconst 0, 1) := by decide +kernel
theorem dX12_isWrong_13 : decode cX12_isWrong 13 = .ok (.ireturn, 1) := by decide +kernel
theorem dX12_spells_0 : decode cX12_spells 0 = .ok (.iconst 0, 1) := by decide +kernel
theorem dX12_spells_1 : decode cX12_spells 1 = .ok (.istore_n 1, 1) := by decide +kernel
theorem dX12_spells_2 : decode cX12_spells 2 = .ok (.aload_n 0, 1) := by decide +kernel
theorem dX12_spells_3 : decode cX12_spells 3 = .ok (.lconst 0, 1) := by decide +kernel
theorem dX12_spells_4 : decode cX12_spells 4 = .ok (.putfield 245, 3) := by decide +kernel
theorem dX12_spells_7 : decode cX12_spells 7 = .ok (.aload_n 0, 1) := by decide +kernel
theorem dX12_spells_8 : decode cX12_spells 8 = .ok (.invokevirtual 219, 3) := by decide +kernel
theorem dX12_spells_11 : decode cX12_spells 11 = .ok (.invokestatic 228, 3) := by decide +kernel
theorem dX12_spells_14 : decode cX12_spells 14 = .ok (.ifCond .ne 13, 3) := by decide +kernel
theorem dX12_spells_17 : decode cX12_spells 17 = .ok (.aload_n 0, 1) := by decide +kernel
theorem dX12_spells_18 : decode cX12_spells 18 = .ok (.invokevirtual 219, 3) := by decide +kernel
theorem dX12_spells_21 : decode cX12_spells 21 = .ok (.invokestatic 235, 3) := by decide +kernel
theorem dX12_spells_24 : decode cX12_spells 24 = .ok (.ifCond .eq 46, 3) := by decide +kernel
theorem dX12_spells_27 : decode cX12_spells 27 = .ok (.iload_n 1, 1) := by decide +kernel
theorem dX12_spells_28 : decode cX12_spells 28 = .ok (.bipush 8, 2) := by decide +kernel
theorem dX12_spells_30 : decode cX12_spells 30 = .ok (.if_icmp .ge 24, 3) := by decide +kernel
theorem dX12_spells_33 : decode cX12_spells 33 = .ok (.aload_n 0, 1) := by decide +kernel
theorem dX12_spells_34 : decode cX12_spells 34 = .ok (.ldc2_w 194, 3) := by decide +kernel
theorem dX12_spells_37 : decode cX12_spells 37 = .ok (.aload_n 0, 1) := by decide +kernel
theorem dX12_spells_38 : decode cX12_spells 38 = .ok (.getfield 245, 3) := by decide +kernel
theorem dX12_spells_41 : decode cX12_spells 41 = .ok (.lmul, 1) := by decide +kernel
theorem dX12_spells_42 : decode cX12_spells 42 = .ok (.aload_n 0, 1) := by decide +kernel
theorem dX12_spells_43 : decode cX12_spells 43 = .ok (.invokevirtual 219, 3) := by decide +kernel
theorem dX12_spells_46 : decode cX12_spells 46 = .ok (.invokestatic 196, 3) := by decide +kernel
theorem dX12_spells_49 : decode cX12_spells 49 = .ok (.i2l, 1) := by decide +kernel
theorem dX12_spells_50 : decode cX12_spells 50 = .ok (.ladd, 1) := by decide +kernel
theorem dX12_spells_51 : decode cX12_spells 51 = .ok (.putfield 245, 3) := by decide +kernel
theorem dX12_spells_54 : decode cX12_spells 54 = .ok (.iinc 1 1, 3) := by decide +kernel
theorem dX12_spells_57 : decode cX12_spells 57 = .ok (.aload_n 0, 1) := by decide +kernel
theorem dX12_spells_58 : decode cX12_spells 58 = .ok (.dup, 1) := by decide +kernel
theorem dX12_spells_59 : decode cX12_spells 59 = .ok (.getfield 206, 3) := by decide +kernel
theorem dX12_spells_62 : decode cX12_spells 62 = .ok (.iconst 1, 1) := by decide +kernel
theorem dX12_spells_63 : decode cX12_spells 63 = .ok (.iadd, 1) := by decide +kernel
theorem dX12_spells_64 : decode cX12_spells 64 = .ok (.putfield 206, 3) := by decide +kernel
theorem dX12_spells_67 : decode cX12_spells 67 = .ok (.goto (-60), 3) := by decide +kernel
theorem dX12_spells_70 : decode cX12_spells 70 = .ok (.iload_n 1, 1) := by decide +kernel
theorem dX12_spells_71 : decode cX12_spells 71 = .ok (.bipush 8, 2) := by decide +kernel
theorem dX12_spells_73 : decode cX12_spells 73 = .ok (.if_icmp .le 11, 3) := by decide +kernel
theorem dX12_spells_76 : decode cX12_spells 76 = .ok (.aload_n 0, 1) := by decide +kernel
theorem dX12_spells_77 : decode cX12_spells 77 = .ok (.aload_n 0, 1) := by decide +kernel
theorem dX12_spells_78 : decode cX12_spells 78 = .ok (.getfield 222, 3) := by decide +kernel
theorem dX12_spells_81 : decode cX12_spells 81 = .ok (.invokevirtual 249, 3) := by decide +kernel
theorem dX12_spells_84 : decode cX12_spells 84 = .ok (.aload_n 0, 1) := by decide +kernel
theorem dX12_spells_85 : decode cX12_spells 85 = .ok (.aload_n 0, 1) := by decide +kernel
theorem dX12_spells_86 : decode cX12_spells 86 = .ok (.getfield 245, 3) := by decide +kernel
theorem dX12_spells_89 : decode cX12_spells 89 = .ok (.invokestatic 252, 3) := by decide +kernel
theorem dX12_spells_92 : decode cX12_spells 92 = .ok (.putfield 256, 3) := by decide +kernel
theorem dX12_spells_95 : decode cX12_spells 95 = .ok (.aload_n 0, 1) := by decide +kernel
theorem dX12_spells_96 : decode cX12_spells 96 = .ok (.aload_n 0, 1) := by decide +kernel
theorem dX12_spells_97 : decode cX12_spells 97 = .ok (.getfield 256, 3) := by decide +kernel
theorem dX12_spells_100 : decode cX12_spells 100 = .ok (.iconst (-1), 1) := by decide +kernel
theorem dX12_spells_101 : decode cX12_spells 101 = .ok (.if_icmp .ne 7, 3) := by decide +kernel
theorem dX12_spells_104 : decode cX12_spells 104 = .ok (.iconst 0, 1) := by decide +kernel
theorem dX12_spells_105 : decode cX12_spells 105 = .ok (.goto 4, 3) := by decide +kernel
theorem dX12_spells_108 : decode cX12_spells 108 = .ok (.iconst 1, 1) := by decide +kernel
theorem dX12_spells_109 : decode cX12_spells 109 = .ok (.putfield 225, 3) := by decide +kernel
theorem dX12_spells_112 : decode cX12_spells 112 = .ok (.return_, 1) := by decide +kernel
theorem dX12_wordOf_0 : decode cX12_wordOf 0 = .ok (.iconst 0, 1) := by decide +kernel
theorem dX12_wordOf_1 : decode cX12_wordOf 1 = .ok (.istore_n 2, 1) := by decide +kernel
theorem dX12_wordOf_2 : decode cX12_wordOf 2 = .ok (.lconst 0, 1) := by decide +kernel
theorem dX12_wordOf_3 : decode cX12_wordOf 3 = .ok (.lstore_n 3, 1) := by decide +kernel
theorem dX12_wordOf_4 : decode cX12_wordOf 4 = .ok (.iconst 0, 1) := by decide +kernel
theorem dX12_wordOf_5 : decode cX12_wordOf 5 = .ok (.istore 5, 2) := by decide +kernel
theorem dX12_wordOf_7 : decode cX12_wordOf 7 = .ok (.iload 5, 2) := by decide +kernel
theorem dX12_wordOf_9 : decode cX12_wordOf 9 = .ok (.ldc_w 259, 3) := by decide +kernel
theorem dX12_wordOf_12 : decode cX12_wordOf 12 = .ok (.invokevirtual 184, 3) := by decide +kernel
theorem dX12_wordOf_15 : decode cX12_wordOf 15 = .ok (.if_icmp .ge 55, 3) := by decide +kernel
theorem dX12_wordOf_18 : decode cX12_wordOf 18 = .ok (.ldc_w 259, 3) := by decide +kernel
theorem dX12_wordOf_21 : decode cX12_wordOf 21 = .ok (.iload 5, 2) := by decide +kernel
theorem dX12_wordOf_23 : decode cX12_wordOf 23 = .ok (.invokevirtual 190, 3) := by decide +kernel
theorem dX12_wordOf_26 : decode cX12_wordOf 26 = .ok (.istore 6, 2) := by decide +kernel
theorem dX12_wordOf_28 : decode cX12_wordOf 28 = .ok (.iload 6, 2) := by decide +kernel
theorem dX12_wordOf_30 : decode cX12_wordOf 30 = .ok (.bipush 32, 2) := by decide +kernel
theorem dX12_wordOf_32 : decode cX12_wordOf 32 = .ok (.if_icmp .eq 19, 3) := by decide +kernel
theorem dX12_wordOf_35 : decode cX12_wordOf 35 = .ok (.ldc2_w 194, 3) := by decide +kernel
theorem dX12_wordOf_38 : decode cX12_wordOf 38 = .ok (.lload_n 3, 1) := by decide +kernel
theorem dX12_wordOf_39 : decode cX12_wordOf 39 = .ok (.lmul, 1) := by decide +kernel
theorem dX12_wordOf_40 : decode cX12_wordOf 40 = .ok (.iload 6, 2) := by decide +kernel
theorem dX12_wordOf_42 : decode cX12_wordOf 42 = .ok (.invokestatic 196, 3) := by decide +kernel
theorem dX12_wordOf_45 : decode cX12_wordOf 45 = .ok (.i2l, 1) := by decide +kernel
theorem dX12_wordOf_46 : decode cX12_wordOf 46 = .ok (.ladd, 1) := by decide +kernel
theorem dX12_wordOf_47 : decode cX12_wordOf 47 = .ok (.lstore_n 3, 1) := by decide +kernel
theorem dX12_wordOf_48 : decode cX12_wordOf 48 = .ok (.goto 16, 3) := by decide +kernel
theorem dX12_wordOf_51 : decode cX12_wordOf 51 = .ok (.lload_n 3, 1) := by decide +kernel
theorem dX12_wordOf_52 : decode cX12_wordOf 52 = .ok (.lload_n 0, 1) := by decide +kernel
theorem dX12_wordOf_53 : decode cX12_wordOf 53 = .ok (.lcmp, 1) := by decide +kernel
theorem dX12_wordOf_54 : decode cX12_wordOf 54 = .ok (.ifCond .ne 5, 3) := by decide +kernel
theorem dX12_wordOf_57 : decode cX12_wordOf 57 = .ok (.iload_n 2, 1) := by decide +kernel
theorem dX12_wordOf_58 : decode cX12_wordOf 58 = .ok (.ireturn, 1) := by decide +kernel
theorem dX12_wordOf_59 : decode cX12_wordOf 59 = .ok (.iinc 2 1, 3) := by decide +kernel
theorem dX12_wordOf_62 : decode cX12_wordOf 62 = .ok (.lconst 0, 1) := by decide +kernel
theorem dX12_wordOf_63 : decode cX12_wordOf 63 = .ok (.lstore_n 3, 1) := by decide +kernel
theorem dX12_wordOf_64 : decode cX12_wordOf 64 = .ok (.iinc 5 1, 3) := by decide +kernel
theorem dX12_wordOf_67 : decode cX12_wordOf 67 = .ok (.goto (-60), 3) := by decide +kernel
theorem dX12_wordOf_70 : decode cX12_wordOf 70 = .ok (.iconst (-1), 1) := by decide +kernel
theorem dX12_wordOf_71 : decode cX12_wordOf 71 = .ok (.ireturn, 1) := by decide +kernel
theorem dX12_whole_0 : decode cX12_whole 0 = .ok (.iconst 1, 1) := by decide +kernel
theorem dX12_whole_1 : decode cX12_whole 1 = .ok (.istore_n 3, 1) := by decide +kernel
theorem dX12_whole_2 : decode cX12_whole 2 = .ok (.aload_n 0, 1) := by decide +kernel
theorem dX12_whole_3 : decode cX12_whole 3 = .ok (.invokevirtual 219, 3) := by decide +kernel
theorem dX12_whole_6 : decode cX12_whole 6 = .ok (.invokestatic 235, 3) := by decide +kernel
theorem dX12_whole_9 : decode cX12_whole 9 = .ok (.ifCond .eq 68, 3) := by decide +kernel
theorem dX12_whole_12 : decode cX12_whole 12 = .ok (.aload_n 0, 1) := by decide +kernel
theorem dX12_whole_13 : decode cX12_whole 13 = .ok (.invokevirtual 219, 3) := by decide +kernel
theorem dX12_whole_16 : decode cX12_whole 16 = .ok (.bipush 48, 2) := by decide +kernel
theorem dX12_whole_18 : decode cX12_whole 18 = .ok (.isub, 1) := by decide +kernel
theorem dX12_whole_19 : decode cX12_whole 19 = .ok (.istore 4, 2) := by decide +kernel
theorem dX12_whole_21 : decode cX12_whole 21 = .ok (.iload_n 3, 1) := by decide +kernel
theorem dX12_whole_22 : decode cX12_whole 22 = .ok (.ifCond .eq 22, 3) := by decide +kernel
theorem dX12_whole_25 : decode cX12_whole 25 = .ok (.aload_n 0, 1) := by decide +kernel
theorem dX12_whole_26 : decode cX12_whole 26 = .ok (.getfield 261, 3) := by decide +kernel
theorem dX12_whole_29 : decode cX12_whole 29 = .ok (.lload_n 1, 1) := by decide +kernel
theorem dX12_whole_30 : decode cX12_whole 30 = .ok (.iload 4, 2) := by decide +kernel
theorem dX12_whole_32 : decode cX12_whole 32 = .ok (.i2l, 1) := by decide +kernel
theorem dX12_whole_33 : decode cX12_whole 33 = .ok (.lsub, 1) := by decide +kernel
theorem dX12_whole_34 : decode cX12_whole 34 = .ok (.ldc2_w 264, 3) := by decide +kernel
theorem dX12_whole_37 : decode cX12_whole 37 = .ok (.ldiv, 1) := by decide +kernel
theorem dX12_whole_38 : decode cX12_whole 38 = .ok (.lcmp, 1) := by decide +kernel
theorem dX12_whole_39 : decode cX12_whole 39 = .ok (.ifCond .le 5, 3) := by decide +kernel
theorem dX12_whole_42 : decode cX12_whole 42 = .ok (.iconst 0, 1) := by decide +kernel
theorem dX12_whole_43 : decode cX12_whole 43 = .ok (.istore_n 3, 1) := by decide +kernel
theorem dX12_whole_44 : decode cX12_whole 44 = .ok (.iload_n 3, 1) := by decide +kernel
theorem dX12_whole_45 : decode cX12_whole 45 = .ok (.ifCond .eq 19, 3) := by decide +kernel
theorem dX12_whole_48 : decode cX12_whole 48 = .ok (.aload_n 0, 1) := by decide +kernel
theorem dX12_whole_49 : decode cX12_whole 49 = .ok (.ldc2_w 264, 3) := by decide +kernel
theorem dX12_whole_52 : decode cX12_whole 52 = .ok (.aload_n 0, 1) := by decide +kernel
theorem dX12_whole_53 : decode cX12_whole 53 = .ok (.getfield 261, 3) := by decide +kernel
theorem dX12_whole_56 : decode cX12_whole 56 = .ok (.lmul, 1) := by decide +kernel
theorem dX12_whole_57 : decode cX12_whole 57 = .ok (.iload 4, 2) := by decide +kernel
theorem dX12_whole_59 : decode cX12_whole 59 = .ok (.i2l, 1) := by decide +kernel
theorem dX12_whole_60 : decode cX12_whole 60 = .ok (.ladd, 1) := by decide +kernel
theorem dX12_whole_61 : decode cX12_whole 61 = .ok (.putfield 261, 3) := by decide +kernel
theorem dX12_whole_64 : decode cX12_whole 64 = .ok (.aload_n 0, 1) := by decide +kernel
theorem dX12_whole_65 : decode cX12_whole 65 = .ok (.dup, 1) := by decide +kernel
theorem dX12_whole_66 : decode cX12_whole 66 = .ok (.getfield 206, 3) := by decide +kernel
theorem dX12_whole_69 : decode cX12_whole 69 = .ok (.iconst 1, 1) := by decide +kernel
theorem dX12_whole_70 : decode cX12_whole 70 = .ok (.iadd, 1) := by decide +kernel
theorem dX12_whole_71 : decode cX12_whole 71 = .ok (.putfield 206, 3) := by decide +kernel
theorem dX12_whole_74 : decode cX12_whole 74 = .ok (.goto (-72), 3) := by decide +kernel
theorem dX12_whole_77 : decode cX12_whole 77 = .ok (.iload_n 3, 1) := by decide +kernel
theorem dX12_whole_78 : decode cX12_whole 78 = .ok (.ireturn, 1) := by decide +kernel
theorem dX12_counts_0 : decode cX12_counts 0 = .ok (.aload_n 0, 1) := by decide +kernel
theorem dX12_counts_1 : decode cX12_counts 1 = .ok (.iconst 2, 1) := by decide +kernel
theorem dX12_counts_2 : decode cX12_counts 2 = .ok (.putfield 225, 3) := by decide +kernel
theorem dX12_counts_5 : decode cX12_counts 5 = .ok (.aload_n 0, 1) := by decide +kernel
theorem dX12_counts_6 : decode cX12_counts 6 = .ok (.lconst 0, 1) := by decide +kernel
theorem dX12_counts_7 : decode cX12_counts 7 = .ok (.putfield 261, 3) := by decide +kernel
theorem dX12_counts_10 : decode cX12_counts 10 = .ok (.aload_n 0, 1) := by decide +kernel
theorem dX12_counts_11 : decode cX12_counts 11 = .ok (.getfield 266, 3) := by decide +kernel
theorem dX12_counts_14 : decode cX12_counts 14 = .ok (.iconst 3, 1) := by decide +kernel
theorem dX12_counts_15 : decode cX12_counts 15 = .ok (.if_icmp .eq 49, 3) := by decide +kernel
theorem dX12_counts_18 : decode cX12_counts 18 = .ok (.aload_n 0, 1) := by decide +kernel
theorem dX12_counts_19 : decode cX12_counts 19 = .ok (.aload_n 0, 1) := by decide +kernel
theorem dX12_counts_20 : decode cX12_counts 20 = .ok (.getfield 266, 3) := by decide +kernel
theorem dX12_counts_23 : decode cX12_counts 23 = .ok (.ifCond .ne 9, 3) := by decide +kernel
theorem dX12_counts_26 : decode cX12_counts 26 = .ok (.ldc2_w 269, 3) := by decide +kernel
theorem dX12_counts_29 : decode cX12_counts 29 = .ok (.goto 20, 3) := by decide +kernel
theorem dX12_counts_32 : decode cX12_counts 32 = .ok (.aload_n 0, 1) := by decide +kernel
theorem dX12_counts_33 : decode cX12_counts 33 = .ok (.getfield 266, 3) := by decide +kernel
theorem dX12_counts_36 : decode cX12_counts 36 = .ok (.iconst 1, 1) := by decide +kernel
theorem dX12_counts_37 : decode cX12_counts 37 = .ok (.if_icmp .ne 9, 3) := by decide +kernel
theorem dX12_counts_40 : decode cX12_counts 40 = .ok (.ldc2_w 271, 3) := by decide +kernel
theorem dX12_counts_43 : decode cX12_counts 43 = .ok (.goto 6, 3) := by decide +kernel
theorem dX12_counts_46 : decode cX12_counts 46 = .ok (.ldc2_w 273, 3) := by decide +kernel
theorem dX12_counts_49 : decode cX12_counts 49 = .ok (.invokevirtual 275, 3) := by decide +kernel
theorem dX12_counts_52 : decode cX12_counts 52 = .ok (.ifCond .ne 11, 3) := by decide +kernel
theorem dX12_counts_55 : decode cX12_counts 55 = .ok (.aload_n 0, 1) := by decide +kernel
theorem dX12_counts_56 : decode cX12_counts 56 = .ok (.aload_n 0, 1) := by decide +kernel
theorem dX12_counts_57 : decode cX12_counts 57 = .ok (.getfield 222, 3) := by decide +kernel
theorem dX12_counts_60 : decode cX12_counts 60 = .ok (.invokevirtual 249, 3) := by decide +kernel
theorem dX12_counts_63 : decode cX12_counts 63 = .ok (.return_, 1) := by decide +kernel
theorem dX12_counts_64 : decode cX12_counts 64 = .ok (.aload_n 0, 1) := by decide +kernel
theorem dX12_counts_65 : decode cX12_counts 65 = .ok (.getfield 206, 3) := by decide +kernel
theorem dX12_counts_68 : decode cX12_counts 68 = .ok (.istore_n 1, 1) := by decide +kernel
theorem dX12_counts_69 : decode cX12_counts 69 = .ok (.aload_n 0, 1) := by decide +kernel
theorem dX12_counts_70 : decode cX12_counts 70 = .ok (.ldc2_w 279, 3) := by decide +kernel
theorem dX12_counts_73 : decode cX12_counts 73 = .ok (.invokevirtual 275, 3) := by decide +kernel
theorem dX12_counts_76 : decode cX12_counts 76 = .ok (.istore_n 2, 1) := by decide +kernel
theorem dX12_counts_77 : decode cX12_counts 77 = .ok (.aload_n 0, 1) := by decide +kernel
theorem dX12_counts_78 : decode cX12_counts 78 = .ok (.getfield 206, 3) := by decide +kernel
theorem dX12_counts_81 : decode cX12_counts 81 = .ok (.iload_n 1, 1) := by decide +kernel
theorem dX12_counts_82 : decode cX12_counts 82 = .ok (.isub, 1) := by decide +kernel
theorem dX12_counts_83 : decode cX12_counts 83 = .ok (.istore_n 3, 1) := by decide +kernel
theorem dX12_counts_84 : decode cX12_counts 84 = .ok (.iconst 0, 1) := by decide +kernel
theorem dX12_counts_85 : decode cX12_counts 85 = .ok (.istore 4, 2) := by decide +kernel
theorem dX12_counts_87 : decode cX12_counts 87 = .ok (.aload_n 0, 1) := by decide +kernel
theorem dX12_counts_88 : decode cX12_counts 88 = .ok (.invokevirtual 219, 3) := by decide +kernel
theorem dX12_counts_91 : decode cX12_counts 91 = .ok (.bipush 46, 2) := by decide +kernel
theorem dX12_counts_93 : decode cX12_counts 93 = .ok (.if_icmp .ne 66, 3) := by decide +kernel
theorem dX12_counts_96 : decode cX12_counts 96 = .ok (.aload_n 0, 1) := by decide +kernel
theorem dX12_counts_97 : decode cX12_counts 97 = .ok (.getfield 206, 3) := by decide +kernel
theorem dX12_counts_100 : decode cX12_counts 100 = .ok (.iconst 1, 1) := by decide +kernel
theorem dX12_counts_101 : decode cX12_counts 101 = .ok (.iadd, 1) := by decide +kernel
theorem dX12_counts_102 : decode cX12_counts 102 = .ok (.aload_n 0, 1) := by decide +kernel
theorem dX12_counts_103 : decode cX12_counts 103 = .ok (.getfield 209, 3) := by decide +kernel
theorem dX12_counts_106 : decode cX12_counts 106 = .ok (.if_icmp .ge 53, 3) := by decide +kernel
theorem dX12_counts_109 : decode cX12_counts 109 = .ok (.aload_n 0, 1) := by decide +kernel
theorem dX12_counts_110 : decode cX12_counts 110 = .ok (.getfield 7, 3) := by decide +kernel
theorem dX12_counts_113 : decode cX12_counts 113 = .ok (.aload_n 0, 1) := by decide +kernel
theorem dX12_counts_114 : decode cX12_counts 114 = .ok (.getfield 206, 3) := by decide +kernel
theorem dX12_counts_117 : decode cX12_counts 117 = .ok (.iconst 1, 1) := by decide +kernel
theorem dX12_counts_118 : decode cX12_counts 118 = .ok (.iadd, 1) := by decide +kernel
theorem dX12_counts_119 : decode cX12_counts 119 = .ok (.iaload, 1) := by decide +kernel
theorem dX12_counts_120 : decode cX12_counts 120 = .ok (.invokestatic 235, 3) := by decide +kernel
theorem dX12_counts_123 : decode cX12_counts 123 = .ok (.ifCond .eq 36, 3) := by decide +kernel
theorem dX12_counts_126 : decode cX12_counts 126 = .ok (.aload_n 0, 1) := by decide +kernel
theorem dX12_counts_127 : decode cX12_counts 127 = .ok (.dup, 1) := by decide +kernel
theorem dX12_counts_128 : decode cX12_counts 128 = .ok (.getfield 206, 3) := by decide +kernel
theorem dX12_counts_131 : decode cX12_counts 131 = .ok (.iconst 1, 1) := by decide +kernel
theorem dX12_counts_132 : decode cX12_counts 132 = .ok (.iadd, 1) := by decide +kernel
theorem dX12_counts_133 : decode cX12_counts 133 = .ok (.putfield 206, 3) := by decide +kernel
theorem dX12_counts_136 : decode cX12_counts 136 = .ok (.aload_n 0, 1) := by decide +kernel
theorem dX12_counts_137 : decode cX12_counts 137 = .ok (.getfield 206, 3) := by decide +kernel
theorem dX12_counts_140 : decode cX12_counts 140 = .ok (.istore_n 1, 1) := by decide +kernel
theorem dX12_counts_141 : decode cX12_counts 141 = .ok (.iload_n 2, 1) := by decide +kernel
theorem dX12_counts_142 : decode cX12_counts 142 = .ok (.aload_n 0, 1) := by decide +kernel
theorem dX12_counts_143 : decode cX12_counts 143 = .ok (.ldc2_w 279, 3) := by decide +kernel
theorem dX12_counts_146 : decode cX12_counts 146 = .ok (.invokevirtual 275, 3) := by decide +kernel
theorem dX12_counts_149 : decode cX12_counts 149 = .ok (.iand, 1) := by decide +kernel
theorem dX12_counts_150 : decode cX12_counts 150 = .ok (.istore_n 2, 1) := by decide +kernel
theorem dX12_counts_151 : decode cX12_counts 151 = .ok (.aload_n 0, 1) := by decide +kernel
theorem dX12_counts_152 : decode cX12_counts 152 = .ok (.getfield 206, 3) := by decide +kernel
theorem dX12_counts_155 : decode cX12_counts 155 = .ok (.iload_n 1, 1) := by decide +kernel
theorem dX12_counts_156 : decode cX12_counts 156 = .ok (.isub, 1) := by decide +kernel
theorem dX12_counts_157 : decode cX12_counts 157 = .ok (.istore 4, 2) := by decide +kernel
theorem dX12_counts_159 : decode cX12_counts 159 = .ok (.iload_n 3, 1) := by decide +kernel
theorem dX12_counts_160 : decode cX12_counts 160 = .ok (.iload 4, 2) := by decide +kernel
theorem dX12_counts_162 : decode cX12_counts 162 = .ok (.iadd, 1) := by decide +kernel
theorem dX12_counts_163 : decode cX12_counts 163 = .ok (.bipush 15, 2) := by decide +kernel
theorem dX12_counts_165 : decode cX12_counts 165 = .ok (.if_icmp .gt 7, 3) := by decide +kernel
theorem dX12_counts_168 : decode cX12_counts 168 = .ok (.iload_n 2, 1) := by decide +kernel
theorem dX12_counts_169 : decode cX12_counts 169 = .ok (.ifCond .ne 12, 3) := by decide +kernel
theorem dX12_counts_172 : decode cX12_counts 172 = .ok (.aload_n 0, 1) := by decide +kernel
theorem dX12_counts_173 : decode cX12_counts 173 = .ok (.aload_n 0, 1) := by decide +kernel
theorem dX12_counts_174 : decode cX12_counts 174 = .ok (.getfield 222, 3) := by decide +kernel
theorem dX12_counts_177 : decode cX12_counts 177 = .ok (.invokevirtual 249, 3) := by decide +kernel
theorem dX12_counts_180 : decode cX12_counts 180 = .ok (.return_, 1) := by decide +kernel
theorem dX12_counts_181 : decode cX12_counts 181 = .ok (.dconst 1, 1) := by decide +kernel
theorem dX12_counts_182 : decode cX12_counts 182 = .ok (.dstore 5, 2) := by decide +kernel
theorem dX12_counts_184 : decode cX12_counts 184 = .ok (.iconst 0, 1) := by decide +kernel
theorem dX12_counts_185 : decode cX12_counts 185 = .ok (.istore 7, 2) := by decide +kernel
theorem dX12_counts_187 : decode cX12_counts 187 = .ok (.iload 7, 2) := by decide +kernel
theorem dX12_counts_189 : decode cX12_counts 189 = .ok (.iload 4, 2) := by decide +kernel
theorem dX12_counts_191 : decode cX12_counts 191 = .ok (.if_icmp .ge 17, 3) := by decide +kernel
theorem dX12_counts_194 : decode cX12_counts 194 = .ok (.ldc2_w 281, 3) := by decide +kernel
theorem dX12_counts_197 : decode cX12_counts 197 = .ok (.dload 5, 2) := by decide +kernel
theorem dX12_counts_199 : decode cX12_counts 199 = .ok (.dmul, 1) := by decide +kernel
theorem dX12_counts_200 : decode cX12_counts 200 = .ok (.dstore 5, 2) := by decide +kernel
theorem dX12_counts_202 : decode cX12_counts 202 = .ok (.iinc 7 1, 3) := by decide +kernel
theorem dX12_counts_205 : decode cX12_counts 205 = .ok (.goto (-18), 3) := by decide +kernel
theorem dX12_counts_208 : decode cX12_counts 208 = .ok (.aload_n 0, 1) := by decide +kernel
theorem dX12_counts_209 : decode cX12_counts 209 = .ok (.aload_n 0, 1) := by decide +kernel
theorem dX12_counts_210 : decode cX12_counts 210 = .ok (.getfield 261, 3) := by decide +kernel
theorem dX12_counts_213 : decode cX12_counts 213 = .ok (.l2d, 1) := by decide +kernel
theorem dX12_counts_214 : decode cX12_counts 214 = .ok (.dload 5, 2) := by decide +kernel
theorem dX12_counts_216 : decode cX12_counts 216 = .ok (.ddiv, 1) := by decide +kernel
theorem dX12_counts_217 : decode cX12_counts 217 = .ok (.invokestatic 283, 3) := by decide +kernel
theorem dX12_counts_220 : decode cX12_counts 220 = .ok (.putfield 261, 3) := by decide +kernel
theorem dX12_counts_223 : decode cX12_counts 223 = .ok (.return_, 1) := by decide +kernel
theorem dX12_signs_0 : decode cX12_signs 0 = .ok (.aload_n 0, 1) := by decide +kernel
theorem dX12_signs_1 : decode cX12_signs 1 = .ok (.iconst 3, 1) := by decide +kernel
theorem dX12_signs_2 : decode cX12_signs 2 = .ok (.putfield 225, 3) := by decide +kernel
theorem dX12_signs_5 : decode cX12_signs 5 = .ok (.aload_n 0, 1) := by decide +kernel
theorem dX12_signs_6 : decode cX12_signs 6 = .ok (.dup, 1) := by decide +kernel
theorem dX12_signs_7 : decode cX12_signs 7 = .ok (.getfield 206, 3) := by decide +kernel
theorem dX12_signs_10 : decode cX12_signs 10 = .ok (.iconst 1, 1) := by decide +kernel
theorem dX12_signs_11 : decode cX12_signs 11 = .ok (.iadd, 1) := by decide +kernel
theorem dX12_signs_12 : decode cX12_signs 12 = .ok (.putfield 206, 3) := by decide +kernel
theorem dX12_signs_15 : decode cX12_signs 15 = .ok (.aload_n 0, 1) := by decide +kernel
theorem dX12_signs_16 : decode cX12_signs 16 = .ok (.invokevirtual 219, 3) := by decide +kernel
theorem dX12_signs_19 : decode cX12_signs 19 = .ok (.istore_n 2, 1) := by decide +kernel
theorem dX12_signs_20 : decode cX12_signs 20 = .ok (.aload_n 0, 1) := by decide +kernel
theorem dX12_signs_21 : decode cX12_signs 21 = .ok (.iload_n 1, 1) := by decide +kernel
theorem dX12_signs_22 : decode cX12_signs 22 = .ok (.putfield 289, 3) := by decide +kernel
theorem dX12_signs_25 : decode cX12_signs 25 = .ok (.iload_n 1, 1) := by decide +kernel
theorem dX12_signs_26 : decode cX12_signs 26 = .ok (.bipush 61, 2) := by decide +kernel
theorem dX12_signs_28 : decode cX12_signs 28 = .ok (.if_icmp .eq 21, 3) := by decide +kernel
theorem dX12_signs_31 : decode cX12_signs 31 = .ok (.iload_n 1, 1) := by decide +kernel
theorem dX12_signs_32 : decode cX12_signs 32 = .ok (.bipush 33, 2) := by decide +kernel
theorem dX12_signs_34 : decode cX12_signs 34 = .ok (.if_icmp .eq 15, 3) := by decide +kernel
theorem dX12_signs_37 : decode cX12_signs 37 = .ok (.iload_n 1, 1) := by decide +kernel
theorem dX12_signs_38 : decode cX12_signs 38 = .ok (.bipush 60, 2) := by decide +kernel
theorem dX12_signs_40 : decode cX12_signs 40 = .ok (.if_icmp .eq 9, 3) := by decide +kernel
theorem dX12_signs_43 : decode cX12_signs 43 = .ok (.iload_n 1, 1) := by decide +kernel
theorem dX12_signs_44 : decode cX12_signs 44 = .ok (.bipush 62, 2) := by decide +kernel
theorem dX12_signs_46 : decode cX12_signs 46 = .ok (.if_icmp .ne 28, 3) := by decide +kernel
theorem dX12_signs_49 : decode cX12_signs 49 = .ok (.iload_n 2, 1) := by decide +kernel
theorem dX12_signs_50 : decode cX12_signs 50 = .ok (.bipush 61, 2) := by decide +kernel
theorem dX12_signs_52 : decode cX12_signs 52 = .ok (.if_icmp .ne 22, 3) := by decide +kernel
theorem dX12_signs_55 : decode cX12_signs 55 = .ok (.aload_n 0, 1) := by decide +kernel
theorem dX12_signs_56 : decode cX12_signs 56 = .ok (.dup, 1) := by decide +kernel
theorem dX12_signs_57 : decode cX12_signs 57 = .ok (.getfield 206, 3) := by decide +kernel
theorem dX12_signs_60 : decode cX12_signs 60 = .ok (.iconst 1, 1) := by decide +kernel
theorem dX12_signs_61 : decode cX12_signs 61 = .ok (.iadd, 1) := by decide +kernel
theorem dX12_signs_62 : decode cX12_signs 62 = .ok (.putfield 206, 3) := by decide +kernel
theorem dX12_signs_65 : decode cX12_signs 65 = .ok (.aload_n 0, 1) := by decide +kernel
theorem dX12_signs_66 : decode cX12_signs 66 = .ok (.sipush 256, 3) := by decide +kernel
theorem dX12_signs_69 : decode cX12_signs 69 = .ok (.iload_n 1, 1) := by decide +kernel
theorem dX12_signs_70 : decode cX12_signs 70 = .ok (.iadd, 1) := by decide +kernel
theorem dX12_signs_71 : decode cX12_signs 71 = .ok (.putfield 289, 3) := by decide +kernel
theorem dX12_signs_74 : decode cX12_signs 74 = .ok (.iload_n 1, 1) := by decide +kernel
theorem dX12_signs_75 : decode cX12_signs 75 = .ok (.bipush 40, 2) := by decide +kernel
theorem dX12_signs_77 : decode cX12_signs 77 = .ok (.if_icmp .eq 111, 3) := by decide +kernel
theorem dX12_signs_80 : decode cX12_signs 80 = .ok (.iload_n 1, 1) := by decide +kernel
theorem dX12_signs_81 : decode cX12_signs 81 = .ok (.bipush 41, 2) := by decide +kernel
theorem dX12_signs_83 : decode cX12_signs 83 = .ok (.if_icmp .eq 105, 3) := by decide +kernel
theorem dX12_signs_86 : decode cX12_signs 86 = .ok (.iload_n 1, 1) := by decide +kernel
theorem dX12_signs_87 : decode cX12_signs 87 = .ok (.bipush 123, 2) := by decide +kernel
theorem dX12_signs_89 : decode cX12_signs 89 = .ok (.if_icmp .eq 99, 3) := by decide +kernel
theorem dX12_signs_92 : decode cX12_signs 92 = .ok (.iload_n 1, 1) := by decide +kernel
theorem dX12_signs_93 : decode cX12_signs 93 = .ok (.bipush 125, 2) := by decide +kernel
theorem dX12_signs_95 : decode cX12_signs 95 = .ok (.if_icmp .eq 93, 3) := by decide +kernel
theorem dX12_signs_98 : decode cX12_signs 98 = .ok (.iload_n 1, 1) := by decide +kernel
theorem dX12_signs_99 : decode cX12_signs 99 = .ok (.bipush 91, 2) := by decide +kernel
theorem dX12_signs_101 : decode cX12_signs 101 = .ok (.if_icmp .eq 87, 3) := by decide +kernel
theorem dX12_signs_104 : decode cX12_signs 104 = .ok (.iload_n 1, 1) := by decide +kernel
theorem dX12_signs_105 : decode cX12_signs 105 = .ok (.bipush 93, 2) := by decide +kernel
theorem dX12_signs_107 : decode cX12_signs 107 = .ok (.if_icmp .eq 81, 3) := by decide +kernel
theorem dX12_signs_110 : decode cX12_signs 110 = .ok (.iload_n 1, 1) := by decide +kernel
theorem dX12_signs_111 : decode cX12_signs 111 = .ok (.bipush 44, 2) := by decide +kernel
theorem dX12_signs_113 : decode cX12_signs 113 = .ok (.if_icmp .eq 75, 3) := by decide +kernel
theorem dX12_signs_116 : decode cX12_signs 116 = .ok (.iload_n 1, 1) := by decide +kernel
theorem dX12_signs_117 : decode cX12_signs 117 = .ok (.bipush 59, 2) := by decide +kernel
theorem dX12_signs_119 : decode cX12_signs 119 = .ok (.if_icmp .eq 69, 3) := by decide +kernel
theorem dX12_signs_122 : decode cX12_signs 122 = .ok (.iload_n 1, 1) := by decide +kernel
theorem dX12_signs_123 : decode cX12_signs 123 = .ok (.bipush 46, 2) := by decide +kernel
theorem dX12_signs_125 : decode cX12_signs 125 = .ok (.if_icmp .eq 63, 3) := by decide +kernel
theorem dX12_signs_128 : decode cX12_signs 128 = .ok (.iload_n 1, 1) := by decide +kernel
theorem dX12_signs_129 : decode cX12_signs 129 = .ok (.bipush 38, 2) := by decide +kernel
theorem dX12_signs_131 : decode cX12_signs 131 = .ok (.if_icmp .eq 57, 3) := by decide +kernel
theorem dX12_signs_134 : decode cX12_signs 134 = .ok (.iload_n 1, 1) := by decide +kernel
theorem dX12_signs_135 : decode cX12_signs 135 = .ok (.bipush 33, 2) := by decide +kernel
theorem dX12_signs_137 : decode cX12_signs 137 = .ok (.if_icmp .eq 51, 3) := by decide +kernel
theorem dX12_signs_140 : decode cX12_signs 140 = .ok (.iload_n 1, 1) := by decide +kernel
theorem dX12_signs_141 : decode cX12_signs 141 = .ok (.bipush 61, 2) := by decide +kernel
theorem dX12_signs_143 : decode cX12_signs 143 = .ok (.if_icmp .eq 45, 3) := by decide +kernel
theorem dX12_signs_146 : decode cX12_signs 146 = .ok (.iload_n 1, 1) := by decide +kernel
theorem dX12_signs_147 : decode cX12_signs 147 = .ok (.bipush 60, 2) := by decide +kernel
theorem dX12_signs_149 : decode cX12_signs 149 = .ok (.if_icmp .eq 39, 3) := by decide +kernel
theorem dX12_signs_152 : decode cX12_signs 152 = .ok (.iload_n 1, 1) := by decide +kernel
theorem dX12_signs_153 : decode cX12_signs 153 = .ok (.bipush 62, 2) := by decide +kernel
theorem dX12_signs_155 : decode cX12_signs 155 = .ok (.if_icmp .eq 33, 3) := by decide +kernel
theorem dX12_signs_158 : decode cX12_signs 158 = .ok (.iload_n 1, 1) := by decide +kernel
theorem dX12_signs_159 : decode cX12_signs 159 = .ok (.bipush 43, 2) := by decide +kernel
theorem dX12_signs_161 : decode cX12_signs 161 = .ok (.if_icmp .eq 27, 3) := by decide +kernel
theorem dX12_signs_164 : decode cX12_signs 164 = .ok (.iload_n 1, 1) := by decide +kernel
theorem dX12_signs_165 : decode cX12_signs 165 = .ok (.bipush 45, 2) := by decide +kernel
theorem dX12_signs_167 : decode cX12_signs 167 = .ok (.if_icmp .eq 21, 3) := by decide +kernel
theorem dX12_signs_170 : decode cX12_signs 170 = .ok (.iload_n 1, 1) := by decide +kernel
theorem dX12_signs_171 : decode cX12_signs 171 = .ok (.bipush 42, 2) := by decide +kernel
theorem dX12_signs_173 : decode cX12_signs 173 = .ok (.if_icmp .eq 15, 3) := by decide +kernel
theorem dX12_signs_176 : decode cX12_signs 176 = .ok (.iload_n 1, 1) := by decide +kernel
theorem dX12_signs_177 : decode cX12_signs 177 = .ok (.bipush 47, 2) := by decide +kernel
theorem dX12_signs_179 : decode cX12_signs 179 = .ok (.if_icmp .eq 9, 3) := by decide +kernel
theorem dX12_signs_182 : decode cX12_signs 182 = .ok (.iload_n 1, 1) := by decide +kernel
theorem dX12_signs_183 : decode cX12_signs 183 = .ok (.bipush 37, 2) := by decide +kernel
theorem dX12_signs_185 : decode cX12_signs 185 = .ok (.if_icmp .ne 7, 3) := by decide +kernel
theorem dX12_signs_188 : decode cX12_signs 188 = .ok (.iconst 1, 1) := by decide +kernel
theorem dX12_signs_189 : decode cX12_signs 189 = .ok (.goto 4, 3) := by decide +kernel
theorem dX12_signs_192 : decode cX12_signs 192 = .ok (.iconst 0, 1) := by decide +kernel
theorem dX12_signs_193 : decode cX12_signs 193 = .ok (.istore_n 3, 1) := by decide +kernel
theorem dX12_signs_194 : decode cX12_signs 194 = .ok (.iload_n 3, 1) := by decide +kernel
theorem dX12_signs_195 : decode cX12_signs 195 = .ok (.ifCond .ne 11, 3) := by decide +kernel
theorem dX12_signs_198 : decode cX12_signs 198 = .ok (.aload_n 0, 1) := by decide +kernel
theorem dX12_signs_199 : decode cX12_signs 199 = .ok (.aload_n 0, 1) := by decide +kernel
theorem dX12_signs_200 : decode cX12_signs 200 = .ok (.getfield 222, 3) := by decide +kernel
theorem dX12_signs_203 : decode cX12_signs 203 = .ok (.invokevirtual 249, 3) := by decide +kernel
theorem dX12_signs_206 : decode cX12_signs 206 = .ok (.return_, 1) := by decide +kernel
/-- the byte at hand -/
def hv (μ : M3) : Int := if μ.1 111 6 < μ.1 111 7 then μ.1 112 (μ.1 111 6) else -1
theorem hv_cg {μ ν : M3} (h6 : ν.1 111 6 = μ.1 111 6) (h7 : ν.1 111 7 = μ.1 111 7) (h : ∀ j, ν.1 112 j = μ.1 112 j) : hv ν = hv μ := by unfold hv; rw [h6, h7, h]
theorem hv_in {μ : M3} (h : 0 ≤ hv μ) : μ.1 111 6 < μ.1 111 7 := by
  unfold hv at h
  by_cases q : μ.1 111 6 < μ.1 111 7
  · exact q
  · rw [if_neg q] at h; omega
set_option maxHeartbeats 4000000 in
set_option maxRecDepth 100000 in
theorem c_X12_codeOf (ω : Om) (l : Launch) (μ : M3) (x1 : Int) (hx1 : ir x1) (hc0 : 0 ≤ x1 ∧ x1 ≤ 100000) : CtI ω l yX12_codeOf cX12_codeOf 1 .int 0 0 [.int (iv x1)] μ (fun (r : Int) (μ' : M3) => (μ' = μ) ∧ (0 ≤ r ∧ r ≤ 100027 ∨ r ≤ 27)) := by
  refine CtI.go (by decide) (Nat.le_of_ble_eq_true rfl) (fun ρ p e s m below meth c R ls G hR hret hlk hl => ?_)
  have hx := G.1.1
  have hb := G.1.2.1
  have hl : lv_has ls 1 [(0, .int (iv x1))] := hl
  generalize s.drawn = d0 at G ⊢
  have hr_x1 : -2147483648 ≤ x1 ∧ x1 ≤ 2147483647 := hx1
  refine lv_iload_n hx hb dX12_codeOf_0 rfl (lv_at hl 0 rfl) ?_
  refine lv_bipush (v := iv 97) hx hb dX12_codeOf_1 rfl ?_
  refine xb_icmp_lt (tgt := 21) hx hb (by unfold ir; omega) (by unfold ir; omega) dX12_codeOf_3 (by decide) (fun c_3 => ?_) (fun c_3 => ?_)
  · refine lv_iload_n hx hb dX12_codeOf_21 rfl (lv_at hl 0 rfl) ?_
    refine lv_bipush (v := iv 48) hx hb dX12_codeOf_22 rfl ?_
    refine xb_isub hx hb dX12_codeOf_24 ?_
    refine lv_bipush (v := iv 27) hx hb dX12_codeOf_25 rfl ?_
    refine xb_iadd hx hb dX12_codeOf_27 ?_
    refine xb_ti (y := x1 - 21) (by omega) ?_
    exact xr_i G (x := x1 - 21) hret hlk (by unfold ir; omega) rfl dX12_codeOf_28 ⟨rfl, (by omega)⟩
  · refine lv_iload_n hx hb dX12_codeOf_6 rfl (lv_at hl 0 rfl) ?_
    refine lv_bipush (v := iv 122) hx hb dX12_codeOf_7 rfl ?_
    refine xb_icmp_gt (tgt := 21) hx hb (by unfold ir; omega) (by unfold ir; omega) dX12_codeOf_9 (by decide) (fun c_9 => ?_) (fun c_9 => ?_)
    · refine lv_iload_n hx hb dX12_codeOf_21 rfl (lv_at hl 0 rfl) ?_
      refine lv_bipush (v := iv 48) hx hb dX12_codeOf_22 rfl ?_
      refine xb_isub hx hb dX12_codeOf_24 ?_
      refine lv_bipush (v := iv 27) hx hb dX12_codeOf_25 rfl ?_
      refine xb_iadd hx hb dX12_codeOf_27 ?_
      refine xb_ti (y := x1 - 21) (by omega) ?_
      exact xr_i G (x := x1 - 21) hret hlk (by unfold ir; omega) rfl dX12_codeOf_28 ⟨rfl, (by omega)⟩
    · refine lv_iload_n hx hb dX12_codeOf_12 rfl (lv_at hl 0 rfl) ?_
      refine lv_bipush (v := iv 97) hx hb dX12_codeOf_13 rfl ?_
      refine xb_isub hx hb dX12_codeOf_15 ?_
      refine lv_iconst (v := iv 1) hx hb dX12_codeOf_16 rfl ?_
      refine xb_iadd hx hb dX12_codeOf_17 ?_
      refine xb_ti (y := x1 - 96) (by omega) ?_
      refine lv_goto (tgt := 28) hx hb dX12_codeOf_18 (by decide) ?_
      exact xr_i G (x := x1 - 96) hret hlk (by unfold ir; omega) rfl dX12_codeOf_28 ⟨rfl, (by omega)⟩

set_option maxHeartbeats 4000000 in
set_option maxRecDepth 100000 in
theorem c_X12_isLetter (ω : Om) (l : Launch) (μ : M3) (x1 : Int) (hx1 : ir x1) : CtI ω l yX12_isLetter cX12_isLetter 1 .boolean 0 0 [.int (iv x1)] μ (fun (r : Int) (μ' : M3) => (μ' = μ) ∧ ((r = 1 ∧ 97 ≤ x1 ∧ x1 ≤ 122) ∨ (r = 0 ∧ (x1 < 97 ∨ 122 < x1)))) := by
  refine CtI.go (by decide) (Nat.le_of_ble_eq_true rfl) (fun ρ p e s m below meth c R ls G hR hret hlk hl => ?_)
  have hx := G.1.1
  have hb := G.1.2.1
  have hl : lv_has ls 1 [(0, .int (iv x1))] := hl
  generalize s.drawn = d0 at G ⊢
  have hr_x1 : -2147483648 ≤ x1 ∧ x1 ≤ 2147483647 := hx1
  refine lv_iload_n hx hb dX12_isLetter_0 rfl (lv_at hl 0 rfl) ?_
  refine lv_bipush (v := iv 97) hx hb dX12_isLetter_1 rfl ?_
  refine xb_icmp_lt (tgt := 16) hx hb (by unfold ir; omega) (by unfold ir; omega) dX12_isLetter_3 (by decide) (fun c_3 => ?_) (fun c_3 => ?_)
  · refine lv_iconst (v := iv 0) hx hb dX12_isLetter_16 rfl ?_
    exact xr_i G (x := 0) hret hlk (by unfold ir; omega) (zr (by omega)) dX12_isLetter_17 ⟨rfl, (by omega)⟩
  · refine lv_iload_n hx hb dX12_isLetter_6 rfl (lv_at hl 0 rfl) ?_
    refine lv_bipush (v := iv 122) hx hb dX12_isLetter_7 rfl ?_
    refine xb_icmp_gt (tgt := 16) hx hb (by unfold ir; omega) (by unfold ir; omega) dX12_isLetter_9 (by decide) (fun c_9 => ?_) (fun c_9 => ?_)
    · refine lv_iconst (v := iv 0) hx hb dX12_isLetter_16 rfl ?_
      exact xr_i G (x := 0) hret hlk (by unfold ir; omega) (zr (by omega)) dX12_isLetter_17 ⟨rfl, (by omega)⟩
    · refine lv_iconst (v := iv 1) hx hb dX12_isLetter_12 rfl ?_
      refine lv_goto (tgt := 17) hx hb dX12_isLetter_13 (by decide) ?_
      exact xr_i G (x := 1) hret hlk (by unfold ir; omega) (zr (by omega)) dX12_isLetter_17 ⟨rfl, (by omega)⟩

set_option maxHeartbeats 4000000 in
set_option maxRecDepth 100000 in
theorem c_X12_isDigit (ω : Om) (l : Launch) (μ : M3) (x1 : Int) (hx1 : ir x1) : CtI ω l yX12_isDigit cX12_isDigit 1 .boolean 0 0 [.int (iv x1)] μ (fun (r : Int) (μ' : M3) => (μ' = μ) ∧ ((r = 1 ∧ 48 ≤ x1 ∧ x1 ≤ 57) ∨ (r = 0 ∧ (x1 < 48 ∨ 57 < x1)))) := by
  refine CtI.go (by decide) (Nat.le_of_ble_eq_true rfl) (fun ρ p e s m below meth c R ls G hR hret hlk hl => ?_)
  have hx := G.1.1
  have hb := G.1.2.1
  have hl : lv_has ls 1 [(0, .int (iv x1))] := hl
  generalize s.drawn = d0 at G ⊢
  have hr_x1 : -2147483648 ≤ x1 ∧ x1 ≤ 2147483647 := hx1
  refine lv_iload_n hx hb dX12_isDigit_0 rfl (lv_at hl 0 rfl) ?_
  refine lv_bipush (v := iv 48) hx hb dX12_isDigit_1 rfl ?_
  refine xb_icmp_lt (tgt := 16) hx hb (by unfold ir; omega) (by unfold ir; omega) dX12_isDigit_3 (by decide) (fun c_3 => ?_) (fun c_3 => ?_)
  · refine lv_iconst (v := iv 0) hx hb dX12_isDigit_16 rfl ?_
    exact xr_i G (x := 0) hret hlk (by unfold ir; omega) (zr (by omega)) dX12_isDigit_17 ⟨rfl, (by omega)⟩
  · refine lv_iload_n hx hb dX12_isDigit_6 rfl (lv_at hl 0 rfl) ?_
    refine lv_bipush (v := iv 57) hx hb dX12_isDigit_7 rfl ?_
    refine xb_icmp_gt (tgt := 16) hx hb (by unfold ir; omega) (by unfold ir; omega) dX12_isDigit_9 (by decide) (fun c_9 => ?_) (fun c_9 => ?_)
    · refine lv_iconst (v := iv 0) hx hb dX12_isDigit_16 rfl ?_
      exact xr_i G (x := 0) hret hlk (by unfold ir; omega) (zr (by omega)) dX12_isDigit_17 ⟨rfl, (by omega)⟩
    · refine lv_iconst (v := iv 1) hx hb dX12_isDigit_12 rfl ?_
      refine lv_goto (tgt := 17) hx hb dX12_isDigit_13 (by decide) ?_
      exact xr_i G (x := 1) hret hlk (by unfold ir; omega) (zr (by omega)) dX12_isDigit_17 ⟨rfl, (by omega)⟩

set_option maxHeartbeats 4000000 in
set_option maxRecDepth 100000 in
theorem c_X12_here (ω : Om) (l : Launch) (μ : M3) (h0 : 0 ≤ μ.1 111 6 ∧ μ.1 111 6 ≤ μ.1 111 7) (h7 : μ.1 111 7 ≤ 3000) : CtI ω l yX12_here cX12_here 1 .int 0 0 [.ref (oP ω 111)] μ (fun (r : Int) (μ' : M3) => (μ' = μ) ∧ (r = hv μ) ∧ (r = -1 ∨ μ.1 111 6 < μ.1 111 7)) := by
  refine CtI.go (by decide) (Nat.le_of_ble_eq_true rfl) (fun ρ p e s m below meth c R ls G hR hret hlk hl => ?_)
  have hx := G.1.1
  have hb := G.1.2.1
  have hl : lv_has ls 1 [(0, .ref (oP ω 111))] := hl
  generalize s.drawn = d0 at G ⊢
  refine lv_aload_n hx hb dX12_here_0 rfl (lv_at hl 0 rfl) ?_
  refine xa_geti G fd_X12 (a := 111) (x := μ.1 111 6) 6 rfl (by decide) rfl (wm 7 155 rfl rfl) ⟨rfl, rfl, rfl⟩ dX12_here_1 rfl rfl ?_
  have hr_1 : -2147483648 ≤ μ.1 111 6 ∧ μ.1 111 6 ≤ 2147483647 := by have h9 := G.hr (a := 111) (k := 6) rfl; exact h9
  refine lv_aload_n hx hb dX12_here_4 rfl (lv_at hl 0 rfl) ?_
  refine xa_geti G fd_X12 (a := 111) (x := μ.1 111 7) 7 rfl (by decide) rfl (wm 7 156 rfl rfl) ⟨rfl, rfl, rfl⟩ dX12_here_5 rfl rfl ?_
  have hr_2 : -2147483648 ≤ μ.1 111 7 ∧ μ.1 111 7 ≤ 2147483647 := by have h9 := G.hr (a := 111) (k := 7) rfl; exact h9
  refine xb_icmp_ge (tgt := 23) hx hb (by unfold ir; omega) (by unfold ir; omega) dX12_here_8 (by decide) (fun c_8 => ?_) (fun c_8 => ?_)
  · refine lv_iconst (v := iv (-1)) hx hb dX12_here_23 rfl ?_
    exact xr_i G (x := (-1)) hret hlk (by unfold ir; omega) rfl dX12_here_24 ⟨rfl, (by unfold hv; rw [if_neg (by omega)]), (by omega)⟩
  · refine lv_aload_n hx hb dX12_here_11 rfl (lv_at hl 0 rfl) ?_
    refine xa_getr G fd_X12 (a := 111) (x := 112) 1 rfl (by decide) rfl (wm 7 150 rfl rfl) ⟨rfl, rfl, rfl⟩ dX12_here_12 rfl (G.sk 110 rfl) (by decide) rfl ?_
    refine lv_aload_n hx hb dX12_here_15 rfl (lv_at hl 0 rfl) ?_
    refine xa_geti G fd_X12 (a := 111) (x := μ.1 111 6) 6 rfl (by decide) rfl (wm 7 155 rfl rfl) ⟨rfl, rfl, rfl⟩ dX12_here_16 rfl rfl ?_
    refine xa_iald G (a := 112) (i := μ.1 111 6) rfl (by have h9 := G.lc (a := 112) (n := 3000) 50 rfl; omega) dX12_here_19 rfl ?_
    have hr_3 : -2147483648 ≤ μ.1 112 (μ.1 111 6) ∧ μ.1 112 (μ.1 111 6) ≤ 2147483647 := by have h9 := G.hr (a := 112) (k := μ.1 111 6) rfl; exact h9
    refine lv_goto (tgt := 24) hx hb dX12_here_20 (by decide) ?_
    exact xr_i G (x := μ.1 112 (μ.1 111 6)) hret hlk (by unfold ir; omega) rfl dX12_here_24 ⟨rfl, (by unfold hv; rw [if_pos (by omega)]), (by omega)⟩

set_option maxHeartbeats 4000000 in
set_option maxRecDepth 100000 in
theorem c_X12_wrong (ω : Om) (l : Launch) (μ : M3) (x1 : Int) (hx1 : ir x1) (hx1n : 0 ≤ x1) : CtV ω l yX12_wrong cX12_wrong 2 0 0 [.ref (oP ω 111), .int (iv x1)] μ (fun (μ' : M3) => (FrM [111] μ μ') ∧ (∀ j, j ∉ ([15] : List Int) → μ'.1 111 j = μ.1 111 j) ∧ (wr μ' = 1 ∧ bd μ' = 1 ∧ nn μ' = 9)) := by
  refine CtV.go (by decide) (Nat.le_of_ble_eq_true rfl) (fun ρ p e s m below meth c R ls G hR hret hlk hl => ?_)
  have hx := G.1.1
  have hb := G.1.2.1
  have hl : lv_has ls 2 [(0, .ref (oP ω 111)), (1, .int (iv x1))] := hl
  generalize s.drawn = d0 at G ⊢
  have hr_x1 : -2147483648 ≤ x1 ∧ x1 ≤ 2147483647 := hx1
  have hw_0 := wr_r (μ := μ)
  refine lv_aload_n hx hb dX12_wrong_0 rfl (lv_at hl 0 rfl) ?_
  refine xa_geti G fd_X12 (a := 111) (x := μ.1 111 15) 15 rfl (by decide) rfl (wm 7 164 rfl rfl) ⟨rfl, rfl, rfl⟩ dX12_wrong_1 rfl rfl ?_
  have hr_1 : -2147483648 ≤ μ.1 111 15 ∧ μ.1 111 15 ≤ 2147483647 := by have h9 := G.hr (a := 111) (k := 15) rfl; exact h9
  refine lv_iconst (v := iv (-1)) hx hb dX12_wrong_4 rfl ?_
  refine xb_icmp_ne (tgt := 13) hx hb (by unfold ir; omega) (by unfold ir; omega) dX12_wrong_5 (by decide) (fun c_5 => ?_) (fun c_5 => ?_)
  · exact xr_v G hret hlk dX12_wrong_13 ⟨FrM.rf, (fun j hj => rfl), (by have h9 : μ.1 111 15 ≠ -1 := (by omega); unfold wr bd nn; rw [if_neg h9, if_neg (fun z => h9 z.1), if_neg h9]; decide)⟩
  · refine lv_aload_n hx hb dX12_wrong_8 rfl (lv_at hl 0 rfl) ?_
    refine lv_iload_n hx hb dX12_wrong_9 rfl (lv_at hl 1 rfl) ?_
    refine xa_puti G fd_X12 (a := 111) (x := x1) 15 (kz := 15) rfl rfl (by decide) rfl (by unfold ir; omega) (wm 7 164 rfl rfl) ⟨rfl, rfl, rfl, rfl⟩ rfl dX12_wrong_10 rfl (fun H locs G => ?_)
    exact xr_v G hret hlk dX12_wrong_13 ⟨(FrM.put FrM.rf (by decide)), (fun j hj => (sv_n _ (fun h9 => hj (by rw [h9.2]; decide)))), (by have h9 : (sv μ 111 15 x1).1 111 15 ≠ -1 := (by rw [show (sv μ 111 15 x1).1 111 15 = x1 from (sv_s _ _ _ _)]; omega); unfold wr bd nn; rw [if_neg h9, if_neg (fun z => h9 z.1), if_neg h9]; decide)⟩

set_option maxHeartbeats 4000000 in
set_option maxRecDepth 100000 in
theorem c_X12_isWrong (ω : Om) (l : Launch) (μ : M3) : CtI ω l yX12_isWrong cX12_isWrong 1 .boolean 0 0 [.ref (oP ω 111)] μ (fun (r : Int) (μ' : M3) => (μ' = μ) ∧ (r = wr μ)) := by
  refine CtI.go (by decide) (Nat.le_of_ble_eq_true rfl) (fun ρ p e s m below meth c R ls G hR hret hlk hl => ?_)
  have hx := G.1.1
  have hb := G.1.2.1
  have hl : lv_has ls 1 [(0, .ref (oP ω 111))] := hl
  generalize s.drawn = d0 at G ⊢
  have hw_0 := wr_r (μ := μ)
  refine lv_aload_n hx hb dX12_isWrong_0 rfl (lv_at hl 0 rfl) ?_
  refine xa_geti G fd_X12 (a := 111) (x := μ.1 111 15) 15 rfl (by decide) rfl (wm 7 164 rfl rfl) ⟨rfl, rfl, rfl⟩ dX12_isWrong_1 rfl rfl ?_
  have hr_1 : -2147483648 ≤ μ.1 111 15 ∧ μ.1 111 15 ≤ 2147483647 := by have h9 := G.hr (a := 111) (k := 15) rfl; exact h9
  refine lv_iconst (v := iv (-1)) hx hb dX12_isWrong_4 rfl ?_
  refine xb_icmp_eq (tgt := 12) hx hb (by unfold ir; omega) (by unfold ir; omega) dX12_isWrong_5 (by decide) (fun c_5 => ?_) (fun c_5 => ?_)
  · refine lv_iconst (v := iv 0) hx hb dX12_isWrong_12 rfl ?_
    exact xr_i G (x := 0) hret hlk (by unfold ir; omega) (zr (by omega)) dX12_isWrong_13 ⟨rfl, (by have h9 := wr_0 (μ := μ); have h8 := wr_r (μ := μ); omega)⟩
  · refine lv_iconst (v := iv 1) hx hb dX12_isWrong_8 rfl ?_
    refine lv_goto (tgt := 13) hx hb dX12_isWrong_9 (by decide) ?_
    exact xr_i G (x := 1) hret hlk (by unfold ir; omega) (zr (by omega)) dX12_isWrong_13 ⟨rfl, (by have h9 := wr_0 (μ := μ); have h8 := wr_r (μ := μ); omega)⟩

set_option maxHeartbeats 4000000 in
set_option maxRecDepth 100000 in
theorem c_X12_wordOf (ω : Om) (l : Launch) (μ : M3) (x1 : Int) (hx1 : jr x1) : CtI ω l yX12_wordOf cX12_wordOf 7 .int 4 85 [.long (jv x1)] μ (fun (r : Int) (μ' : M3) => (μ' = μ) ∧ (-1 ≤ r ∧ r ≤ 32)) := by
  refine CtI.go (by decide) (Nat.le_of_ble_eq_true rfl) (fun ρ p e s m below meth c R ls G hR hret hlk hl => ?_)
  have hx := G.1.1
  have hb := G.1.2.1
  have hl : lv_has ls 7 [(0, .long (jv x1))] := hl
  generalize s.drawn = d0 at G ⊢
  refine lv_iconst (v := iv 0) hx hb dX12_wordOf_0 rfl ?_
  refine lv_istore_n (lv' := [(2, .int (iv 0)), (0, .long (jv x1))]) hx hb dX12_wordOf_1 rfl hl (by decide) rfl (fun ls hl => ?_)
  refine lv_lconst (v := jv 0) hx hb dX12_wordOf_2 rfl ?_
  refine lv_lstore_n (lv' := [(3, .long (jv 0)), (2, .int (iv 0)), (0, .long (jv x1))]) hx hb dX12_wordOf_3 rfl hl (by decide) rfl (fun ls hl => ?_)
  refine lv_iconst (v := iv 0) hx hb dX12_wordOf_4 rfl ?_
  refine lv_istore (lv' := [(5, .int (iv 0)), (3, .long (jv 0)), (2, .int (iv 0)), (0, .long (jv x1))]) hx hb dX12_wordOf_5 hl (by decide) rfl (fun ls hl => ?_)
  refine xl (fun n_9 μ' ls => ∃ (n9 : Int), ∃ (v9 : Int), ∃ (i9 : Int), (μ' = μ) ∧ (-2147483648 ≤ n9 ∧ n9 ≤ 2147483647) ∧ (jr v9) ∧ (-2147483648 ≤ i9 ∧ i9 ≤ 2147483647) ∧ (0 ≤ i9) ∧ (i9 ≤ 165) ∧ (0 ≤ n9) ∧ (n9 ≤ 165) ∧ (n9 = nbN (Int.toNat i9)) ∧ n_9 = Int.toNat (165 - i9) ∧ lv_has ls 7 [(5, .int (iv i9)), (3, .long (jv v9)), (2, .int (iv n9)), (0, .long (jv x1))]) (fun n_9 ρ μL1 d0 H locs ls hI_l G ih => ?_) _ _ _ _ _ _ _ ⟨0, 0, 0, rfl, (by omega), (by unfold jr; omega), (by omega), (by omega), (by omega), (by omega), (by omega), (by rfl), rfl, lv_sub hl [0, 1, 2, 3] rfl⟩ G
  obtain ⟨n9, v9, i9, FL2, hi_4, hi_5, hi_6, hi_7, hi_8, hi_9, hi_10, hi_11, hn3, hl⟩ := hI_l
  have FL2 := Eq.symm FL2
  subst FL2
  refine lv_iload hx hb dX12_wordOf_7 (lv_at hl 0 rfl) ?_
  refine xw_ldc G dX12_wordOf_9 ?_
  refine xc_iX G (rest := [.int (iv i9)]) (As := []) (c_J0_length_w ω l μ  ) (wm 7 143 rfl rfl) (wm 1 40 rfl rfl) (wm 1 41 rfl rfl) (xw_recv G) (wm 1 3 rfl rfl) (wm 1 42 rfl rfl) (by decide) hR (by decide) (n := 0) rfl rfl (Nat.le_of_ble_eq_true rfl) hl.1 dX12_wordOf_12 (fun r_13 μ12 ρ d0 H locs hr_r_13 hp G => ?_)
  have hr_r_13 : -2147483648 ≤ r_13 ∧ r_13 ≤ 2147483647 := hr_r_13
  obtain ⟨hsm_14, hp_15⟩ := hp
  have hsm_14 := Eq.symm hsm_14
  subst hsm_14
  refine xb_icmp_ge (tgt := 70) hx hb (by unfold ir; omega) (by unfold ir; omega) dX12_wordOf_15 (by decide) (fun c_15 => ?_) (fun c_15 => ?_)
  · refine lv_iconst (v := iv (-1)) hx hb dX12_wordOf_70 rfl ?_
    exact xr_i G (x := (-1)) hret hlk (by unfold ir; omega) rfl dX12_wordOf_71 ⟨rfl, (by omega)⟩
  · refine xw_ldc G dX12_wordOf_18 ?_
    refine lv_iload hx hb dX12_wordOf_21 (lv_at hl 0 rfl) ?_
    refine xc_iX G (rest := []) (As := [.int (iv i9)]) (c_J0_charAt_5068e ω l μ i9 (by unfold ir; omega) (by omega)) (wm 7 144 rfl rfl) (wm 1 50 rfl rfl) (wm 1 51 rfl rfl) (xw_recv G) (wm 1 3 rfl rfl) (wm 1 52 rfl rfl) (by decide) hR (by decide) (n := 1) rfl rfl (Nat.le_of_ble_eq_true rfl) hl.1 dX12_wordOf_23 (fun r_17 μ16 ρ d0 H locs hr_r_17 hp G => ?_)
    have hr_r_17 : -2147483648 ≤ r_17 ∧ r_17 ≤ 2147483647 := hr_r_17
    obtain ⟨hsm_18, hp_19⟩ := hp
    have hsm_18 := Eq.symm hsm_18
    subst hsm_18
    refine lv_istore (lv' := [(6, .int (iv r_17)), (5, .int (iv i9)), (3, .long (jv v9)), (2, .int (iv n9)), (0, .long (jv x1))]) hx hb dX12_wordOf_26 hl (by decide) rfl (fun ls hl => ?_)
    refine lv_iload hx hb dX12_wordOf_28 (lv_at hl 0 rfl) ?_
    refine lv_bipush (v := iv 32) hx hb dX12_wordOf_30 rfl ?_
    refine xb_icmp_eq (tgt := 51) hx hb (by unfold ir; omega) (by unfold ir; omega) dX12_wordOf_32 (by decide) (fun c_32 => ?_) (fun c_32 => ?_)
    · have hnb_ := nb_lt (Int.toNat i9) (by omega)
      have hwr_ := wch_r (Int.toNat i9) (by omega)
      rw [Int.toNat_of_nonneg (show 0 ≤ i9 by omega)] at hwr_
      refine lv_lload_n hx hb dX12_wordOf_51 rfl (lv_at hl 2 rfl) ?_
      refine lv_lload_n hx hb dX12_wordOf_52 rfl (lv_at hl 4 rfl) ?_
      refine xb_lcmp hx hb hi_5 hx1 dX12_wordOf_53 ?_
      have hr_20 : -2147483648 ≤ lcm v9 x1 ∧ lcm v9 x1 ≤ 2147483647 := lcm_ir _ _
      refine xb_if_ne (tgt := 59) hx hb (by unfold ir; omega) dX12_wordOf_54 (by decide) (fun c_54 => ?_) (fun c_54 => ?_)
      · refine lv_iinc (v := iv (n9 + 1)) (lv' := [(2, .int (iv (n9 + 1))), (6, .int (iv r_17)), (5, .int (iv i9)), (3, .long (jv v9)), (0, .long (jv x1))]) hx hb dX12_wordOf_59 hl (k := 3) rfl (by rw [show Int32.ofInt 1 = iv 1 from rfl, iv_add]) (by decide) rfl (fun ls hl => ?_)
        refine lv_lconst (v := jv 0) hx hb dX12_wordOf_62 rfl ?_
        refine lv_lstore_n (lv' := [(3, .long (jv 0)), (2, .int (iv (n9 + 1))), (6, .int (iv r_17)), (5, .int (iv i9)), (0, .long (jv x1))]) hx hb dX12_wordOf_63 rfl hl (by decide) rfl (fun ls hl => ?_)
        refine lv_iinc (v := iv (i9 + 1)) (lv' := [(5, .int (iv (i9 + 1))), (3, .long (jv 0)), (2, .int (iv (n9 + 1))), (6, .int (iv r_17)), (0, .long (jv x1))]) hx hb dX12_wordOf_64 hl (k := 3) rfl (by rw [show Int32.ofInt 1 = iv 1 from rfl, iv_add]) (by decide) rfl (fun ls hl => ?_)
        refine lv_goto (tgt := 7) hx hb dX12_wordOf_67 (by decide) ?_
        exact ih _ _ _ _ _ _ _ (by omega) ⟨n9 + 1, 0, i9 + 1, rfl, (by omega), (by unfold jr; omega), (by omega), (by omega), (by omega), (by omega), (by omega), (by have e9 : Int.toNat (i9 + 1) = Int.toNat i9 + 1 := toN (by omega); rw [e9]; show n9 + 1 = nbN (Int.toNat i9) + (if wch ((Int.toNat i9 : Nat) : Int) = 32 then 1 else 0); rw [Int.toNat_of_nonneg (by omega), if_pos (by omega), ← hi_11]), rfl, lv_sub hl [0, 1, 2, 4] rfl⟩ G
      · refine lv_iload_n hx hb dX12_wordOf_57 rfl (lv_at hl 3 rfl) ?_
        exact xr_i G (x := n9) hret hlk (by unfold ir; omega) rfl dX12_wordOf_58 ⟨rfl, (by omega)⟩
    · have hnb_ := nb_lt (Int.toNat i9) (by omega)
      have hwr_ := wch_r (Int.toNat i9) (by omega)
      rw [Int.toNat_of_nonneg (show 0 ≤ i9 by omega)] at hwr_
      refine lv_ldc2 (s := s.setDrawn d0) hx hb G.1.2.2.2.1 (dr_words G.1.2.2.2.2 d0 _ (wm 7 145 rfl rfl)) dX12_wordOf_35 ?_
      refine xb_litl (x := 37) (by decide) ?_
      refine lv_lload_n hx hb dX12_wordOf_38 rfl (lv_at hl 2 rfl) ?_
      refine xb_lmul hx hb dX12_wordOf_39 ?_
      refine xb_topl (fun z_21 hr_z_21 he_z_21 => ?_)
      refine lv_iload hx hb dX12_wordOf_40 (lv_at hl 0 rfl) ?_
      refine xc_iS G (rest := [.long (jv z_21)]) (As := [.int (iv r_17)]) (c_X12_codeOf ω l μ r_17 (by unfold ir; omega) (by omega)) (wm 7 146 rfl rfl) (wm 7 147 rfl rfl) (wm 1 18 rfl rfl) (wm 7 148 rfl rfl) (by decide) hR (by decide) (n := 1) rfl rfl (Nat.le_of_ble_eq_true rfl) hl.1 dX12_wordOf_42 (fun r_23 μ22 ρ d0 H locs hr_r_23 hp G => ?_)
      have hr_r_23 : -2147483648 ≤ r_23 ∧ r_23 ≤ 2147483647 := hr_r_23
      obtain ⟨hsm_24, hp_25⟩ := hp
      have hsm_24 := Eq.symm hsm_24
      subst hsm_24
      refine xb_i2l hx hb (by unfold ir; omega) dX12_wordOf_45 ?_
      refine xb_ladd hx hb dX12_wordOf_46 ?_
      refine xb_topl (fun z_26 hr_z_26 he_z_26 => ?_)
      refine lv_lstore_n (lv' := [(3, .long (jv z_26)), (6, .int (iv r_17)), (5, .int (iv i9)), (2, .int (iv n9)), (0, .long (jv x1))]) hx hb dX12_wordOf_47 rfl hl (by decide) rfl (fun ls hl => ?_)
      refine lv_goto (tgt := 64) hx hb dX12_wordOf_48 (by decide) ?_
      refine lv_iinc (v := iv (i9 + 1)) (lv' := [(5, .int (iv (i9 + 1))), (3, .long (jv z_26)), (6, .int (iv r_17)), (2, .int (iv n9)), (0, .long (jv x1))]) hx hb dX12_wordOf_64 hl (k := 2) rfl (by rw [show Int32.ofInt 1 = iv 1 from rfl, iv_add]) (by decide) rfl (fun ls hl => ?_)
      refine lv_goto (tgt := 7) hx hb dX12_wordOf_67 (by decide) ?_
      exact ih _ _ _ _ _ _ _ (by omega) ⟨n9, z_26, i9 + 1, rfl, (by omega), hr_z_26, (by omega), (by omega), (by omega), (by omega), (by omega), (by have e9 : Int.toNat (i9 + 1) = Int.toNat i9 + 1 := toN (by omega); rw [e9]; show n9 = nbN (Int.toNat i9) + (if wch ((Int.toNat i9 : Nat) : Int) = 32 then 1 else 0); rw [Int.toNat_of_nonneg (by omega), if_neg (by omega), ← hi_11]; omega), rfl, lv_sub hl [0, 1, 3, 4] rfl⟩ G

set_option maxHeartbeats 4000000 in
set_option maxRecDepth 100000 in
theorem c_X12_whole (ω : Om) (l : Launch) (μ : M3) (x1 : Int) (hx1 : jr x1) (h0 : 0 ≤ μ.1 111 6 ∧ μ.1 111 6 ≤ μ.1 111 7) (h7 : μ.1 111 7 ≤ 3000) : CtI ω l yX12_whole cX12_whole 5 .boolean 1 20 [.ref (oP ω 111), .long (jv x1)] μ (fun (r : Int) (μ' : M3) => (FrM [111] μ μ') ∧ (∀ j, j ∉ ([6, 12] : List Int) → μ'.1 111 j = μ.1 111 j) ∧ (μ.1 111 6 ≤ μ'.1 111 6 ∧ μ'.1 111 6 ≤ μ.1 111 7) ∧ (hv μ < 48 ∨ 57 < hv μ ∨ μ.1 111 6 < μ'.1 111 6) ∧ (r = 0 ∨ r = 1)) := by
  refine CtI.go (by decide) (Nat.le_of_ble_eq_true rfl) (fun ρ p e s m below meth c R ls G hR hret hlk hl => ?_)
  have hx := G.1.1
  have hb := G.1.2.1
  have hl : lv_has ls 5 [(0, .ref (oP ω 111)), (1, .long (jv x1))] := hl
  generalize s.drawn = d0 at G ⊢
  refine lv_iconst (v := iv 1) hx hb dX12_whole_0 rfl ?_
  refine lv_istore_n (lv' := [(3, .int (iv 1)), (0, .ref (oP ω 111)), (1, .long (jv x1))]) hx hb dX12_whole_1 rfl hl (by decide) rfl (fun ls hl => ?_)
  refine xl (fun n_9 μ' ls => ∃ (g9 : Int), (FrM [111] μ μ') ∧ (-2147483648 ≤ g9 ∧ g9 ≤ 2147483647) ∧ (∀ j, j ∉ ([6, 12] : List Int) → μ'.1 111 j = μ.1 111 j) ∧ (0 ≤ g9 ∧ g9 ≤ 1) ∧ (μ.1 111 6 ≤ μ'.1 111 6 ∧ μ'.1 111 6 ≤ μ.1 111 7) ∧ n_9 = Int.toNat (μ.1 111 7 - μ'.1 111 6) ∧ lv_has ls 5 [(3, .int (iv g9)), (0, .ref (oP ω 111)), (1, .long (jv x1))]) (fun n_9 ρ μL1 d0 H locs ls hI_l G ih => ?_) _ _ _ _ _ _ _ ⟨1, FrM.rf, (by omega), (fun j hj => rfl), (by omega), (by omega), rfl, lv_sub hl [0, 1, 2] rfl⟩ G
  obtain ⟨g9, FL2, hi_4, hi_5, hi_6, hi_7, hn3, hl⟩ := hI_l
  refine lv_aload_n hx hb dX12_whole_2 rfl (lv_at hl 1 rfl) ?_
  have e_8 : μL1.1 111 7 = μ.1 111 7 := (hi_5 7 (by decide))
  have e_9 : μL1.1 111 7 = μ.1 111 7 := (hi_5 7 (by decide))
  have e_10 : μL1.1 111 7 = μ.1 111 7 := (hi_5 7 (by decide))
  refine xc_iV G (b := 111) (rest := []) (As := []) (c_X12_here ω l μL1  (by omega) (by omega)) (wm 9 8 rfl rfl) (wm 9 10 rfl rfl) (wm 0 121 rfl rfl) rfl rfl (by decide) rfl (wm 1 18 rfl rfl) (wm 9 11 rfl rfl) (by decide) hR (by decide) (n := 0) rfl rfl (Nat.le_of_ble_eq_true rfl) hl.1 dX12_whole_3 (fun r_12 μ11 ρ d0 H locs hr_r_12 hp G => ?_)
  have hr_r_12 : -2147483648 ≤ r_12 ∧ r_12 ≤ 2147483647 := hr_r_12
  obtain ⟨hsm_13, hp_14, hp_15⟩ := hp
  have hsm_13 := Eq.symm hsm_13
  subst hsm_13
  refine xc_iS G (rest := []) (As := [.int (iv r_12)]) (c_X12_isDigit ω l μL1 r_12 (by unfold ir; omega)) (wm 9 19 rfl rfl) (wm 9 20 rfl rfl) (wm 1 18 rfl rfl) (wm 9 21 rfl rfl) (by decide) hR (by decide) (n := 1) rfl rfl (Nat.le_of_ble_eq_true rfl) hl.1 dX12_whole_6 (fun r_17 μ16 ρ d0 H locs hr_r_17 hp G => ?_)
  have hr_r_17 : -2147483648 ≤ r_17 ∧ r_17 ≤ 2147483647 := hr_r_17
  obtain ⟨hsm_18, hp_19⟩ := hp
  have hsm_18 := Eq.symm hsm_18
  subst hsm_18
  refine xb_if_eq (tgt := 77) hx hb (by unfold ir; omega) dX12_whole_9 (by decide) (fun c_9 => ?_) (fun c_9 => ?_)
  · refine lv_iload_n hx hb dX12_whole_77 rfl (lv_at hl 0 rfl) ?_
    exact xr_i G (x := g9) hret hlk (by unfold ir; omega) (zr (by omega)) dX12_whole_78 ⟨(FrM.tr FrM.rf FL2 (by decide)), (fun j hj => (hi_5 j (fun h9 => hj ((by decide : ∀ x ∈ ([6, 12] : List Int), x ∈ ([6, 12] : List Int)) j h9)))), (by omega), (by by_cases h9 : μL1.1 111 6 = μ.1 111 6; (have e9 : hv μL1 = hv μ := hv_cg h9 (hi_5 7 (by decide)) (fun j => (FL2.1 112 (by decide) j)); omega); omega), (by omega)⟩
  · refine lv_aload_n hx hb dX12_whole_12 rfl (lv_at hl 1 rfl) ?_
    have e_20 : μL1.1 111 7 = μ.1 111 7 := (hi_5 7 (by decide))
    have e_21 : μL1.1 111 7 = μ.1 111 7 := (hi_5 7 (by decide))
    have e_22 : μL1.1 111 7 = μ.1 111 7 := (hi_5 7 (by decide))
    refine xc_iV G (b := 111) (rest := []) (As := []) (c_X12_here ω l μL1  (by omega) (by omega)) (wm 9 8 rfl rfl) (wm 9 10 rfl rfl) (wm 0 121 rfl rfl) rfl rfl (by decide) rfl (wm 1 18 rfl rfl) (wm 9 11 rfl rfl) (by decide) hR (by decide) (n := 0) rfl rfl (Nat.le_of_ble_eq_true rfl) hl.1 dX12_whole_13 (fun r_24 μ23 ρ d0 H locs hr_r_24 hp G => ?_)
    have hr_r_24 : -2147483648 ≤ r_24 ∧ r_24 ≤ 2147483647 := hr_r_24
    obtain ⟨hsm_25, hp_26, hp_27⟩ := hp
    have hsm_25 := Eq.symm hsm_25
    subst hsm_25
    refine lv_bipush (v := iv 48) hx hb dX12_whole_16 rfl ?_
    refine xb_isub hx hb dX12_whole_18 ?_
    refine lv_istore (lv' := [(4, .int (iv (r_24 - 48))), (3, .int (iv g9)), (0, .ref (oP ω 111)), (1, .long (jv x1))]) hx hb dX12_whole_19 hl (by decide) rfl (fun ls hl => ?_)
    refine lv_iload_n hx hb dX12_whole_21 rfl (lv_at hl 1 rfl) ?_
    refine xb_if_eq (tgt := 44) hx hb (by unfold ir; omega) dX12_whole_22 (by decide) (fun c_22 => ?_) (fun c_22 => ?_)
    · refine lv_iload_n hx hb dX12_whole_44 rfl (lv_at hl 1 rfl) ?_
      refine xb_if_eq (tgt := 64) hx hb (by unfold ir; omega) dX12_whole_45 (by decide) (fun c_45 => ?_) (fun c_45 => ?_)
      · refine lv_aload_n hx hb dX12_whole_64 rfl (lv_at hl 2 rfl) ?_
        refine lv_dup hx hb dX12_whole_65 rfl ?_
        refine xa_geti G fd_X12 (a := 111) (x := μL1.1 111 6) 6 rfl (by decide) rfl (wm 7 155 rfl rfl) ⟨rfl, rfl, rfl⟩ dX12_whole_66 rfl rfl ?_
        have hr_28 : -2147483648 ≤ μL1.1 111 6 ∧ μL1.1 111 6 ≤ 2147483647 := by have h9 := G.hr (a := 111) (k := 6) rfl; exact h9
        refine lv_iconst (v := iv 1) hx hb dX12_whole_69 rfl ?_
        refine xb_iadd hx hb dX12_whole_70 ?_
        refine xa_puti G fd_X12 (a := 111) (x := (μL1.1 111 6) + 1) 6 (kz := 6) rfl rfl (by decide) rfl (by unfold ir; omega) (wm 7 155 rfl rfl) ⟨rfl, rfl, rfl, rfl⟩ rfl dX12_whole_71 rfl (fun H locs G => ?_)
        refine lv_goto (tgt := 2) hx hb dX12_whole_74 (by decide) ?_
        have e_29 : (sv μL1 111 6 ((μL1.1 111 6) + 1)).1 111 6 = (μL1.1 111 6) + 1 := (sv_s _ _ _ _)
        have e_30 : (sv μL1 111 6 ((μL1.1 111 6) + 1)).1 111 6 = (μL1.1 111 6) + 1 := (sv_s _ _ _ _)
        exact ih _ _ _ _ _ _ _ (by omega) ⟨g9, (FrM.put FL2 (by decide)), (by omega), (fun j hj => ((sv_n _ (fun h9 => hj (by rw [h9.2]; decide))).trans (hi_5 j (fun h9 => hj ((by decide : ∀ x ∈ ([6, 12] : List Int), x ∈ ([6, 12] : List Int)) j h9))))), (by omega), (by omega), rfl, lv_sub hl [1, 2, 3] rfl⟩ G
      · refine lv_aload_n hx hb dX12_whole_48 rfl (lv_at hl 2 rfl) ?_
        refine lv_ldc2 (s := s.setDrawn d0) hx hb G.1.2.2.2.1 (dr_words G.1.2.2.2.2 d0 _ (wm 9 41 rfl rfl)) dX12_whole_49 ?_
        refine xb_litl (x := 10) (by decide) ?_
        refine lv_aload_n hx hb dX12_whole_52 rfl (lv_at hl 2 rfl) ?_
        refine xa_getl G fd_X12 (a := 111) (x := μL1.1 111 12) 12 rfl (by decide) rfl (wm 7 161 rfl rfl) ⟨rfl, rfl, rfl⟩ dX12_whole_53 rfl rfl ?_
        have hj_31 : jr (μL1.1 111 12) := by have h9 := G.hj (a := 111) (k := 12) rfl; exact h9
        refine xb_lmul hx hb dX12_whole_56 ?_
        refine xb_topl (fun z_32 hr_z_32 he_z_32 => ?_)
        refine lv_iload hx hb dX12_whole_57 (lv_at hl 0 rfl) ?_
        refine xb_i2l hx hb (by unfold ir; omega) dX12_whole_59 ?_
        refine xb_ladd hx hb dX12_whole_60 ?_
        refine xb_topl (fun z_33 hr_z_33 he_z_33 => ?_)
        refine xa_putl G fd_X12 (a := 111) (x := z_33) 12 (kz := 12) rfl rfl (by decide) rfl hr_z_33 (wm 7 161 rfl rfl) ⟨rfl, rfl, rfl, rfl⟩ rfl dX12_whole_61 rfl (fun H locs G => ?_)
        refine lv_aload_n hx hb dX12_whole_64 rfl (lv_at hl 2 rfl) ?_
        refine lv_dup hx hb dX12_whole_65 rfl ?_
        refine xa_geti G fd_X12 (a := 111) (x := μL1.1 111 6) 6 rfl (by decide) rfl (wm 7 155 rfl rfl) ⟨rfl, rfl, rfl⟩ dX12_whole_66 rfl (sv_n _ (by decide)) ?_
        have hr_34 : -2147483648 ≤ μL1.1 111 6 ∧ μL1.1 111 6 ≤ 2147483647 := by have h9 := G.hr (a := 111) (k := 6) rfl; rw [show (sv μL1 111 12 z_33).1 111 6 = μL1.1 111 6 from (sv_n _ (by decide))] at h9; exact h9
        refine lv_iconst (v := iv 1) hx hb dX12_whole_69 rfl ?_
        refine xb_iadd hx hb dX12_whole_70 ?_
        refine xa_puti G fd_X12 (a := 111) (x := (μL1.1 111 6) + 1) 6 (kz := 6) rfl rfl (by decide) rfl (by unfold ir; omega) (wm 7 155 rfl rfl) ⟨rfl, rfl, rfl, rfl⟩ rfl dX12_whole_71 rfl (fun H locs G => ?_)
        refine lv_goto (tgt := 2) hx hb dX12_whole_74 (by decide) ?_
        have e_35 : (sv (sv μL1 111 12 z_33) 111 6 ((μL1.1 111 6) + 1)).1 111 6 = (μL1.1 111 6) + 1 := (sv_s _ _ _ _)
        have e_36 : (sv (sv μL1 111 12 z_33) 111 6 ((μL1.1 111 6) + 1)).1 111 6 = (μL1.1 111 6) + 1 := (sv_s _ _ _ _)
        exact ih _ _ _ _ _ _ _ (by omega) ⟨g9, (FrM.put (FrM.put FL2 (by decide)) (by decide)), (by omega), (fun j hj => ((sv_n _ (fun h9 => hj (by rw [h9.2]; decide))).trans ((sv_n _ (fun h9 => hj (by rw [h9.2]; decide))).trans (hi_5 j (fun h9 => hj ((by decide : ∀ x ∈ ([6, 12] : List Int), x ∈ ([6, 12] : List Int)) j h9)))))), (by omega), (by omega), rfl, lv_sub hl [1, 2, 3] rfl⟩ G
    · refine lv_aload_n hx hb dX12_whole_25 rfl (lv_at hl 2 rfl) ?_
      refine xa_getl G fd_X12 (a := 111) (x := μL1.1 111 12) 12 rfl (by decide) rfl (wm 7 161 rfl rfl) ⟨rfl, rfl, rfl⟩ dX12_whole_26 rfl rfl ?_
      have hj_37 : jr (μL1.1 111 12) := by have h9 := G.hj (a := 111) (k := 12) rfl; exact h9
      refine lv_lload_n hx hb dX12_whole_29 rfl (lv_at hl 3 rfl) ?_
      refine lv_iload hx hb dX12_whole_30 (lv_at hl 0 rfl) ?_
      refine xb_i2l hx hb (by unfold ir; omega) dX12_whole_32 ?_
      refine xb_lsub hx hb dX12_whole_33 ?_
      refine xb_topl (fun z_38 hr_z_38 he_z_38 => ?_)
      refine lv_ldc2 (s := s.setDrawn d0) hx hb G.1.2.2.2.1 (dr_words G.1.2.2.2.2 d0 _ (wm 9 41 rfl rfl)) dX12_whole_34 ?_
      refine xb_litl (x := 10) (by decide) ?_
      refine lv_ldiv hx hb dX12_whole_37 (by decide) ?_
      refine xb_topl (fun z_39 hr_z_39 he_z_39 => ?_)
      refine xb_lcmp hx hb hj_37 hr_z_39 dX12_whole_38 ?_
      have hr_40 : -2147483648 ≤ lcm (μL1.1 111 12) z_39 ∧ lcm (μL1.1 111 12) z_39 ≤ 2147483647 := lcm_ir _ _
      refine xb_if_le (tgt := 44) hx hb (by unfold ir; omega) dX12_whole_39 (by decide) (fun c_39 => ?_) (fun c_39 => ?_)
      · refine lv_iload_n hx hb dX12_whole_44 rfl (lv_at hl 1 rfl) ?_
        refine xb_if_eq (tgt := 64) hx hb (by unfold ir; omega) dX12_whole_45 (by decide) (fun c_45 => ?_) (fun c_45 => ?_)
        · refine lv_aload_n hx hb dX12_whole_64 rfl (lv_at hl 2 rfl) ?_
          refine lv_dup hx hb dX12_whole_65 rfl ?_
          refine xa_geti G fd_X12 (a := 111) (x := μL1.1 111 6) 6 rfl (by decide) rfl (wm 7 155 rfl rfl) ⟨rfl, rfl, rfl⟩ dX12_whole_66 rfl rfl ?_
          have hr_41 : -2147483648 ≤ μL1.1 111 6 ∧ μL1.1 111 6 ≤ 2147483647 := by have h9 := G.hr (a := 111) (k := 6) rfl; exact h9
          refine lv_iconst (v := iv 1) hx hb dX12_whole_69 rfl ?_
          refine xb_iadd hx hb dX12_whole_70 ?_
          refine xa_puti G fd_X12 (a := 111) (x := (μL1.1 111 6) + 1) 6 (kz := 6) rfl rfl (by decide) rfl (by unfold ir; omega) (wm 7 155 rfl rfl) ⟨rfl, rfl, rfl, rfl⟩ rfl dX12_whole_71 rfl (fun H locs G => ?_)
          refine lv_goto (tgt := 2) hx hb dX12_whole_74 (by decide) ?_
          have e_42 : (sv μL1 111 6 ((μL1.1 111 6) + 1)).1 111 6 = (μL1.1 111 6) + 1 := (sv_s _ _ _ _)
          have e_43 : (sv μL1 111 6 ((μL1.1 111 6) + 1)).1 111 6 = (μL1.1 111 6) + 1 := (sv_s _ _ _ _)
          exact ih _ _ _ _ _ _ _ (by omega) ⟨g9, (FrM.put FL2 (by decide)), (by omega), (fun j hj => ((sv_n _ (fun h9 => hj (by rw [h9.2]; decide))).trans (hi_5 j (fun h9 => hj ((by decide : ∀ x ∈ ([6, 12] : List Int), x ∈ ([6, 12] : List Int)) j h9))))), (by omega), (by omega), rfl, lv_sub hl [1, 2, 3] rfl⟩ G
        · refine lv_aload_n hx hb dX12_whole_48 rfl (lv_at hl 2 rfl) ?_
          refine lv_ldc2 (s := s.setDrawn d0) hx hb G.1.2.2.2.1 (dr_words G.1.2.2.2.2 d0 _ (wm 9 41 rfl rfl)) dX12_whole_49 ?_
          refine xb_litl (x := 10) (by decide) ?_
          refine lv_aload_n hx hb dX12_whole_52 rfl (lv_at hl 2 rfl) ?_
          refine xa_getl G fd_X12 (a := 111) (x := μL1.1 111 12) 12 rfl (by decide) rfl (wm 7 161 rfl rfl) ⟨rfl, rfl, rfl⟩ dX12_whole_53 rfl rfl ?_
          refine xb_lmul hx hb dX12_whole_56 ?_
          refine xb_topl (fun z_44 hr_z_44 he_z_44 => ?_)
          refine lv_iload hx hb dX12_whole_57 (lv_at hl 0 rfl) ?_
          refine xb_i2l hx hb (by unfold ir; omega) dX12_whole_59 ?_
          refine xb_ladd hx hb dX12_whole_60 ?_
          refine xb_topl (fun z_45 hr_z_45 he_z_45 => ?_)
          refine xa_putl G fd_X12 (a := 111) (x := z_45) 12 (kz := 12) rfl rfl (by decide) rfl hr_z_45 (wm 7 161 rfl rfl) ⟨rfl, rfl, rfl, rfl⟩ rfl dX12_whole_61 rfl (fun H locs G => ?_)
          refine lv_aload_n hx hb dX12_whole_64 rfl (lv_at hl 2 rfl) ?_
          refine lv_dup hx hb dX12_whole_65 rfl ?_
          refine xa_geti G fd_X12 (a := 111) (x := μL1.1 111 6) 6 rfl (by decide) rfl (wm 7 155 rfl rfl) ⟨rfl, rfl, rfl⟩ dX12_whole_66 rfl (sv_n _ (by decide)) ?_
          have hr_46 : -2147483648 ≤ μL1.1 111 6 ∧ μL1.1 111 6 ≤ 2147483647 := by have h9 := G.hr (a := 111) (k := 6) rfl; rw [show (sv μL1 111 12 z_45).1 111 6 = μL1.1 111 6 from (sv_n _ (by decide))] at h9; exact h9
          refine lv_iconst (v := iv 1) hx hb dX12_whole_69 rfl ?_
          refine xb_iadd hx hb dX12_whole_70 ?_
          refine xa_puti G fd_X12 (a := 111) (x := (μL1.1 111 6) + 1) 6 (kz := 6) rfl rfl (by decide) rfl (by unfold ir; omega) (wm 7 155 rfl rfl) ⟨rfl, rfl, rfl, rfl⟩ rfl dX12_whole_71 rfl (fun H locs G => ?_)
          refine lv_goto (tgt := 2) hx hb dX12_whole_74 (by decide) ?_
          have e_47 : (sv (sv μL1 111 12 z_45) 111 6 ((μL1.1 111 6) + 1)).1 111 6 = (μL1.1 111 6) + 1 := (sv_s _ _ _ _)
          have e_48 : (sv (sv μL1 111 12 z_45) 111 6 ((μL1.1 111 6) + 1)).1 111 6 = (μL1.1 111 6) + 1 := (sv_s _ _ _ _)
          exact ih _ _ _ _ _ _ _ (by omega) ⟨g9, (FrM.put (FrM.put FL2 (by decide)) (by decide)), (by omega), (fun j hj => ((sv_n _ (fun h9 => hj (by rw [h9.2]; decide))).trans ((sv_n _ (fun h9 => hj (by rw [h9.2]; decide))).trans (hi_5 j (fun h9 => hj ((by decide : ∀ x ∈ ([6, 12] : List Int), x ∈ ([6, 12] : List Int)) j h9)))))), (by omega), (by omega), rfl, lv_sub hl [1, 2, 3] rfl⟩ G
      · refine lv_iconst (v := iv 0) hx hb dX12_whole_42 rfl ?_
        refine lv_istore_n (lv' := [(3, .int (iv 0)), (4, .int (iv (r_24 - 48))), (0, .ref (oP ω 111)), (1, .long (jv x1))]) hx hb dX12_whole_43 rfl hl (by decide) rfl (fun ls hl => ?_)
        refine lv_iload_n hx hb dX12_whole_44 rfl (lv_at hl 0 rfl) ?_
        refine xb_if_eq (tgt := 64) hx hb (x := 0) (by unfold ir; omega) dX12_whole_45 (by decide) (fun c_45 => ?_) (fun c_45 => absurd (by decide) c_45)
        refine lv_aload_n hx hb dX12_whole_64 rfl (lv_at hl 2 rfl) ?_
        refine lv_dup hx hb dX12_whole_65 rfl ?_
        refine xa_geti G fd_X12 (a := 111) (x := μL1.1 111 6) 6 rfl (by decide) rfl (wm 7 155 rfl rfl) ⟨rfl, rfl, rfl⟩ dX12_whole_66 rfl rfl ?_
        have hr_49 : -2147483648 ≤ μL1.1 111 6 ∧ μL1.1 111 6 ≤ 2147483647 := by have h9 := G.hr (a := 111) (k := 6) rfl; exact h9
        refine lv_iconst (v := iv 1) hx hb dX12_whole_69 rfl ?_
        refine xb_iadd hx hb dX12_whole_70 ?_
        refine xa_puti G fd_X12 (a := 111) (x := (μL1.1 111 6) + 1) 6 (kz := 6) rfl rfl (by decide) rfl (by unfold ir; omega) (wm 7 155 rfl rfl) ⟨rfl, rfl, rfl, rfl⟩ rfl dX12_whole_71 rfl (fun H locs G => ?_)
        refine lv_goto (tgt := 2) hx hb dX12_whole_74 (by decide) ?_
        have e_50 : (sv μL1 111 6 ((μL1.1 111 6) + 1)).1 111 6 = (μL1.1 111 6) + 1 := (sv_s _ _ _ _)
        have e_51 : (sv μL1 111 6 ((μL1.1 111 6) + 1)).1 111 6 = (μL1.1 111 6) + 1 := (sv_s _ _ _ _)
        exact ih _ _ _ _ _ _ _ (by omega) ⟨0, (FrM.put FL2 (by decide)), (by omega), (fun j hj => ((sv_n _ (fun h9 => hj (by rw [h9.2]; decide))).trans (hi_5 j (fun h9 => hj ((by decide : ∀ x ∈ ([6, 12] : List Int), x ∈ ([6, 12] : List Int)) j h9))))), (by omega), (by omega), rfl, lv_sub hl [0, 2, 3] rfl⟩ G

set_option maxHeartbeats 4000000 in
set_option maxRecDepth 100000 in
theorem c_X12_spells (ω : Om) (l : Launch) (μ : M3) (h0 : 0 ≤ μ.1 111 6 ∧ μ.1 111 6 ≤ μ.1 111 7) (h7 : μ.1 111 7 ≤ 3000) (hnn : 0 ≤ nn μ ∧ nn μ ≤ 9 ∧ 9 * wr μ ≤ nn μ) (hlt : 97 ≤ hv μ ∧ hv μ ≤ 122) (hpl : 0 ≤ μ.1 111 9) : CtV ω l yX12_spells cX12_spells 2 5 111 [.ref (oP ω 111)] μ (fun (μ' : M3) => (FrM [111] μ μ') ∧ (∀ j, j ∉ ([6, 8, 10, 11, 15] : List Int) → μ'.1 111 j = μ.1 111 j) ∧ (μ.1 111 6 + 1 ≤ μ'.1 111 6 ∧ μ'.1 111 6 ≤ μ.1 111 7) ∧ (-1 ≤ μ'.1 111 11 ∧ μ'.1 111 11 ≤ 32) ∧ (0 ≤ μ'.1 111 8 ∧ μ'.1 111 8 ≤ 1) ∧ (wr μ ≤ wr μ' ∧ bd μ ≤ bd μ') ∧ (nn μ ≤ nn μ' ∧ nn μ' ≤ nn μ + 9 * wr μ' ∧ nn μ' ≤ 9 ∧ 9 * wr μ' ≤ nn μ')) := by
  refine CtV.go (by decide) (Nat.le_of_ble_eq_true rfl) (fun ρ p e s m below meth c R ls G hR hret hlk hl => ?_)
  have hx := G.1.1
  have hb := G.1.2.1
  have hl : lv_has ls 2 [(0, .ref (oP ω 111))] := hl
  generalize s.drawn = d0 at G ⊢
  have hw_0 := wr_r (μ := μ)
  refine lv_iconst (v := iv 0) hx hb dX12_spells_0 rfl ?_
  refine lv_istore_n (lv' := [(1, .int (iv 0)), (0, .ref (oP ω 111))]) hx hb dX12_spells_1 rfl hl (by decide) rfl (fun ls hl => ?_)
  refine lv_aload_n hx hb dX12_spells_2 rfl (lv_at hl 1 rfl) ?_
  refine lv_lconst (v := jv 0) hx hb dX12_spells_3 rfl ?_
  refine xa_putl G fd_X12 (a := 111) (x := 0) 10 (kz := 10) rfl rfl (by decide) rfl (by unfold jr; omega) (wm 7 159 rfl rfl) ⟨rfl, rfl, rfl, rfl⟩ rfl dX12_spells_4 rfl (fun H locs G => ?_)
  have e_1 : (sv μ 111 10 0).1 111 6 = μ.1 111 6 := (sv_n _ (by decide))
  have e_2 : (sv μ 111 10 0).1 111 6 = μ.1 111 6 := (sv_n _ (by decide))
  have e_3 : (sv μ 111 10 0).1 111 6 = μ.1 111 6 := (sv_n _ (by decide))
  have e_4 : (sv μ 111 10 0).1 111 6 = μ.1 111 6 := (sv_n _ (by decide))
  refine xl (fun n_9 μ' ls => ∃ (n9 : Int), (FrM [111] (sv μ 111 10 0) μ') ∧ (-2147483648 ≤ n9 ∧ n9 ≤ 2147483647) ∧ (∀ j, j ∉ ([6, 10] : List Int) → μ'.1 111 j = (sv μ 111 10 0).1 111 j) ∧ (0 ≤ n9) ∧ (n9 ≤ 3000 + μ'.1 111 6) ∧ (μ.1 111 6 ≤ μ'.1 111 6 ∧ μ'.1 111 6 ≤ μ.1 111 7) ∧ (n9 = μ'.1 111 6 - μ.1 111 6) ∧ n_9 = Int.toNat (μ.1 111 7 - μ'.1 111 6) ∧ lv_has ls 2 [(1, .int (iv n9)), (0, .ref (oP ω 111))]) (fun n_9 ρ μL5 d0 H locs ls hI_l G ih => ?_) _ _ _ _ _ _ _ ⟨0, FrM.rf, (by omega), (fun j hj => rfl), (by omega), (by omega), (by omega), (by omega), rfl, lv_sub hl [0, 1] rfl⟩ G
  obtain ⟨n9, FL6, hi_8, hi_9, hi_10, hi_11, hi_12, hi_13, hn7, hl⟩ := hI_l
  refine lv_aload_n hx hb dX12_spells_7 rfl (lv_at hl 1 rfl) ?_
  have e_14 : μL5.1 111 7 = μ.1 111 7 := ((hi_9 7 (by decide)).trans (sv_n _ (by decide)))
  have e_15 : μL5.1 111 7 = μ.1 111 7 := ((hi_9 7 (by decide)).trans (sv_n _ (by decide)))
  have e_16 : μL5.1 111 7 = μ.1 111 7 := ((hi_9 7 (by decide)).trans (sv_n _ (by decide)))
  refine xc_iV G (b := 111) (rest := []) (As := []) (c_X12_here ω l μL5  (by omega) (by omega)) (wm 9 8 rfl rfl) (wm 9 10 rfl rfl) (wm 0 121 rfl rfl) rfl rfl (by decide) rfl (wm 1 18 rfl rfl) (wm 9 11 rfl rfl) (by decide) hR (by decide) (n := 0) rfl rfl (Nat.le_of_ble_eq_true rfl) hl.1 dX12_spells_8 (fun r_18 μ17 ρ d0 H locs hr_r_18 hp G => ?_)
  have hr_r_18 : -2147483648 ≤ r_18 ∧ r_18 ≤ 2147483647 := hr_r_18
  obtain ⟨hsm_19, hp_20, hp_21⟩ := hp
  have hsm_19 := Eq.symm hsm_19
  subst hsm_19
  refine xc_iS G (rest := []) (As := [.int (iv r_18)]) (c_X12_isLetter ω l μL5 r_18 (by unfold ir; omega)) (wm 9 12 rfl rfl) (wm 9 13 rfl rfl) (wm 1 18 rfl rfl) (wm 9 14 rfl rfl) (by decide) hR (by decide) (n := 1) rfl rfl (Nat.le_of_ble_eq_true rfl) hl.1 dX12_spells_11 (fun r_23 μ22 ρ d0 H locs hr_r_23 hp G => ?_)
  have hr_r_23 : -2147483648 ≤ r_23 ∧ r_23 ≤ 2147483647 := hr_r_23
  obtain ⟨hsm_24, hp_25⟩ := hp
  have hsm_24 := Eq.symm hsm_24
  subst hsm_24
  refine xb_if_ne (tgt := 27) hx hb (by unfold ir; omega) dX12_spells_14 (by decide) (fun c_14 => ?_) (fun c_14 => ?_)
  · refine lv_iload_n hx hb dX12_spells_27 rfl (lv_at hl 0 rfl) ?_
    refine lv_bipush (v := iv 8) hx hb dX12_spells_28 rfl ?_
    refine xb_icmp_ge (tgt := 54) hx hb (by unfold ir; omega) (by unfold ir; omega) dX12_spells_30 (by decide) (fun c_30 => ?_) (fun c_30 => ?_)
    · refine lv_iinc (v := iv (n9 + 1)) (lv' := [(1, .int (iv (n9 + 1))), (0, .ref (oP ω 111))]) hx hb dX12_spells_54 hl (k := 0) rfl (by rw [show Int32.ofInt 1 = iv 1 from rfl, iv_add]) (by decide) rfl (fun ls hl => ?_)
      refine lv_aload_n hx hb dX12_spells_57 rfl (lv_at hl 1 rfl) ?_
      refine lv_dup hx hb dX12_spells_58 rfl ?_
      refine xa_geti G fd_X12 (a := 111) (x := μL5.1 111 6) 6 rfl (by decide) rfl (wm 7 155 rfl rfl) ⟨rfl, rfl, rfl⟩ dX12_spells_59 rfl rfl ?_
      have hr_26 : -2147483648 ≤ μL5.1 111 6 ∧ μL5.1 111 6 ≤ 2147483647 := by have h9 := G.hr (a := 111) (k := 6) rfl; exact h9
      refine lv_iconst (v := iv 1) hx hb dX12_spells_62 rfl ?_
      refine xb_iadd hx hb dX12_spells_63 ?_
      refine xa_puti G fd_X12 (a := 111) (x := (μL5.1 111 6) + 1) 6 (kz := 6) rfl rfl (by decide) rfl (by unfold ir; omega) (wm 7 155 rfl rfl) ⟨rfl, rfl, rfl, rfl⟩ rfl dX12_spells_64 rfl (fun H locs G => ?_)
      refine lv_goto (tgt := 7) hx hb dX12_spells_67 (by decide) ?_
      have e_27 : (sv μL5 111 6 ((μL5.1 111 6) + 1)).1 111 6 = (μL5.1 111 6) + 1 := (sv_s _ _ _ _)
      have e_28 : (sv μL5 111 6 ((μL5.1 111 6) + 1)).1 111 6 = (μL5.1 111 6) + 1 := (sv_s _ _ _ _)
      have e_29 : (sv μL5 111 6 ((μL5.1 111 6) + 1)).1 111 6 = (μL5.1 111 6) + 1 := (sv_s _ _ _ _)
      have e_30 : (sv μL5 111 6 ((μL5.1 111 6) + 1)).1 111 6 = (μL5.1 111 6) + 1 := (sv_s _ _ _ _)
      exact ih _ _ _ _ _ _ _ (by omega) ⟨n9 + 1, (FrM.put FL6 (by decide)), (by omega), (fun j hj => ((sv_n _ (fun h9 => hj (by rw [h9.2]; decide))).trans (hi_9 j (fun h9 => hj ((by decide : ∀ x ∈ ([6, 10] : List Int), x ∈ ([6, 10] : List Int)) j h9))))), (by omega), (by omega), (by omega), (by omega), rfl, lv_sub hl [0, 1] rfl⟩ G
    · refine lv_aload_n hx hb dX12_spells_33 rfl (lv_at hl 1 rfl) ?_
      refine lv_ldc2 (s := s.setDrawn d0) hx hb G.1.2.2.2.1 (dr_words G.1.2.2.2.2 d0 _ (wm 7 145 rfl rfl)) dX12_spells_34 ?_
      refine xb_litl (x := 37) (by decide) ?_
      refine lv_aload_n hx hb dX12_spells_37 rfl (lv_at hl 1 rfl) ?_
      refine xa_getl G fd_X12 (a := 111) (x := μL5.1 111 10) 10 rfl (by decide) rfl (wm 7 159 rfl rfl) ⟨rfl, rfl, rfl⟩ dX12_spells_38 rfl rfl ?_
      have hj_31 : jr (μL5.1 111 10) := by have h9 := G.hj (a := 111) (k := 10) rfl; exact h9
      refine xb_lmul hx hb dX12_spells_41 ?_
      refine xb_topl (fun z_32 hr_z_32 he_z_32 => ?_)
      refine lv_aload_n hx hb dX12_spells_42 rfl (lv_at hl 1 rfl) ?_
      have e_33 : μL5.1 111 7 = μ.1 111 7 := ((hi_9 7 (by decide)).trans (sv_n _ (by decide)))
      have e_34 : μL5.1 111 7 = μ.1 111 7 := ((hi_9 7 (by decide)).trans (sv_n _ (by decide)))
      have e_35 : μL5.1 111 7 = μ.1 111 7 := ((hi_9 7 (by decide)).trans (sv_n _ (by decide)))
      refine xc_iV G (b := 111) (rest := [.long (jv z_32), .ref (oP ω 111)]) (As := []) (c_X12_here ω l μL5  (by omega) (by omega)) (wm 9 8 rfl rfl) (wm 9 10 rfl rfl) (wm 0 121 rfl rfl) rfl rfl (by decide) rfl (wm 1 18 rfl rfl) (wm 9 11 rfl rfl) (by decide) hR (by decide) (n := 0) rfl rfl (Nat.le_of_ble_eq_true rfl) hl.1 dX12_spells_43 (fun r_37 μ36 ρ d0 H locs hr_r_37 hp G => ?_)
      have hr_r_37 : -2147483648 ≤ r_37 ∧ r_37 ≤ 2147483647 := hr_r_37
      obtain ⟨hsm_38, hp_39, hp_40⟩ := hp
      have hsm_38 := Eq.symm hsm_38
      subst hsm_38
      refine xc_iS G (rest := [.long (jv z_32), .ref (oP ω 111)]) (As := [.int (iv r_37)]) (c_X12_codeOf ω l μL5 r_37 (by unfold ir; omega) (by omega)) (wm 7 146 rfl rfl) (wm 7 147 rfl rfl) (wm 1 18 rfl rfl) (wm 7 148 rfl rfl) (by decide) hR (by decide) (n := 1) rfl rfl (Nat.le_of_ble_eq_true rfl) hl.1 dX12_spells_46 (fun r_42 μ41 ρ d0 H locs hr_r_42 hp G => ?_)
      have hr_r_42 : -2147483648 ≤ r_42 ∧ r_42 ≤ 2147483647 := hr_r_42
      obtain ⟨hsm_43, hp_44⟩ := hp
      have hsm_43 := Eq.symm hsm_43
      subst hsm_43
      refine xb_i2l hx hb (by unfold ir; omega) dX12_spells_49 ?_
      refine xb_ladd hx hb dX12_spells_50 ?_
      refine xb_topl (fun z_45 hr_z_45 he_z_45 => ?_)
      refine xa_putl G fd_X12 (a := 111) (x := z_45) 10 (kz := 10) rfl rfl (by decide) rfl hr_z_45 (wm 7 159 rfl rfl) ⟨rfl, rfl, rfl, rfl⟩ rfl dX12_spells_51 rfl (fun H locs G => ?_)
      refine lv_iinc (v := iv (n9 + 1)) (lv' := [(1, .int (iv (n9 + 1))), (0, .ref (oP ω 111))]) hx hb dX12_spells_54 hl (k := 0) rfl (by rw [show Int32.ofInt 1 = iv 1 from rfl, iv_add]) (by decide) rfl (fun ls hl => ?_)
      refine lv_aload_n hx hb dX12_spells_57 rfl (lv_at hl 1 rfl) ?_
      refine lv_dup hx hb dX12_spells_58 rfl ?_
      refine xa_geti G fd_X12 (a := 111) (x := μL5.1 111 6) 6 rfl (by decide) rfl (wm 7 155 rfl rfl) ⟨rfl, rfl, rfl⟩ dX12_spells_59 rfl (sv_n _ (by decide)) ?_
      have hr_46 : -2147483648 ≤ μL5.1 111 6 ∧ μL5.1 111 6 ≤ 2147483647 := by have h9 := G.hr (a := 111) (k := 6) rfl; rw [show (sv μL5 111 10 z_45).1 111 6 = μL5.1 111 6 from (sv_n _ (by decide))] at h9; exact h9
      refine lv_iconst (v := iv 1) hx hb dX12_spells_62 rfl ?_
      refine xb_iadd hx hb dX12_spells_63 ?_
      refine xa_puti G fd_X12 (a := 111) (x := (μL5.1 111 6) + 1) 6 (kz := 6) rfl rfl (by decide) rfl (by unfold ir; omega) (wm 7 155 rfl rfl) ⟨rfl, rfl, rfl, rfl⟩ rfl dX12_spells_64 rfl (fun H locs G => ?_)
      refine lv_goto (tgt := 7) hx hb dX12_spells_67 (by decide) ?_
      have e_47 : (sv (sv μL5 111 10 z_45) 111 6 ((μL5.1 111 6) + 1)).1 111 6 = (μL5.1 111 6) + 1 := (sv_s _ _ _ _)
      have e_48 : (sv (sv μL5 111 10 z_45) 111 6 ((μL5.1 111 6) + 1)).1 111 6 = (μL5.1 111 6) + 1 := (sv_s _ _ _ _)
      have e_49 : (sv (sv μL5 111 10 z_45) 111 6 ((μL5.1 111 6) + 1)).1 111 6 = (μL5.1 111 6) + 1 := (sv_s _ _ _ _)
      have e_50 : (sv (sv μL5 111 10 z_45) 111 6 ((μL5.1 111 6) + 1)).1 111 6 = (μL5.1 111 6) + 1 := (sv_s _ _ _ _)
      exact ih _ _ _ _ _ _ _ (by omega) ⟨n9 + 1, (FrM.put (FrM.put FL6 (by decide)) (by decide)), (by omega), (fun j hj => ((sv_n _ (fun h9 => hj (by rw [h9.2]; decide))).trans ((sv_n _ (fun h9 => hj (by rw [h9.2]; decide))).trans (hi_9 j (fun h9 => hj ((by decide : ∀ x ∈ ([6, 10] : List Int), x ∈ ([6, 10] : List Int)) j h9)))))), (by omega), (by omega), (by omega), (by omega), rfl, lv_sub hl [0, 1] rfl⟩ G
  · refine lv_aload_n hx hb dX12_spells_17 rfl (lv_at hl 1 rfl) ?_
    have e_51 : μL5.1 111 7 = μ.1 111 7 := ((hi_9 7 (by decide)).trans (sv_n _ (by decide)))
    have e_52 : μL5.1 111 7 = μ.1 111 7 := ((hi_9 7 (by decide)).trans (sv_n _ (by decide)))
    have e_53 : μL5.1 111 7 = μ.1 111 7 := ((hi_9 7 (by decide)).trans (sv_n _ (by decide)))
    refine xc_iV G (b := 111) (rest := []) (As := []) (c_X12_here ω l μL5  (by omega) (by omega)) (wm 9 8 rfl rfl) (wm 9 10 rfl rfl) (wm 0 121 rfl rfl) rfl rfl (by decide) rfl (wm 1 18 rfl rfl) (wm 9 11 rfl rfl) (by decide) hR (by decide) (n := 0) rfl rfl (Nat.le_of_ble_eq_true rfl) hl.1 dX12_spells_18 (fun r_55 μ54 ρ d0 H locs hr_r_55 hp G => ?_)
    have hr_r_55 : -2147483648 ≤ r_55 ∧ r_55 ≤ 2147483647 := hr_r_55
    obtain ⟨hsm_56, hp_57, hp_58⟩ := hp
    have hsm_56 := Eq.symm hsm_56
    subst hsm_56
    refine xc_iS G (rest := []) (As := [.int (iv r_55)]) (c_X12_isDigit ω l μL5 r_55 (by unfold ir; omega)) (wm 9 19 rfl rfl) (wm 9 20 rfl rfl) (wm 1 18 rfl rfl) (wm 9 21 rfl rfl) (by decide) hR (by decide) (n := 1) rfl rfl (Nat.le_of_ble_eq_true rfl) hl.1 dX12_spells_21 (fun r_60 μ59 ρ d0 H locs hr_r_60 hp G => ?_)
    have hr_r_60 : -2147483648 ≤ r_60 ∧ r_60 ≤ 2147483647 := hr_r_60
    obtain ⟨hsm_61, hp_62⟩ := hp
    have hsm_61 := Eq.symm hsm_61
    subst hsm_61
    refine xb_if_eq (tgt := 70) hx hb (by unfold ir; omega) dX12_spells_24 (by decide) (fun c_24 => ?_) (fun c_24 => ?_)
    · refine lv_iload_n hx hb dX12_spells_70 rfl (lv_at hl 0 rfl) ?_
      refine lv_bipush (v := iv 8) hx hb dX12_spells_71 rfl ?_
      refine xb_icmp_le (tgt := 84) hx hb (by unfold ir; omega) (by unfold ir; omega) dX12_spells_73 (by decide) (fun c_73 => ?_) (fun c_73 => ?_)
      · refine lv_aload_n hx hb dX12_spells_84 rfl (lv_at hl 1 rfl) ?_
        refine lv_aload_n hx hb dX12_spells_85 rfl (lv_at hl 1 rfl) ?_
        refine xa_getl G fd_X12 (a := 111) (x := μL5.1 111 10) 10 rfl (by decide) rfl (wm 7 159 rfl rfl) ⟨rfl, rfl, rfl⟩ dX12_spells_86 rfl rfl ?_
        have hj_63 : jr (μL5.1 111 10) := by have h9 := G.hj (a := 111) (k := 10) rfl; exact h9
        refine xc_iS G (rest := [.ref (oP ω 111)]) (As := [.long (jv (μL5.1 111 10))]) (c_X12_wordOf ω l μL5 (μL5.1 111 10) hj_63) (wm 9 26 rfl rfl) (wm 9 27 rfl rfl) (wm 1 18 rfl rfl) (wm 9 28 rfl rfl) (by decide) hR (by decide) (n := 1) rfl rfl (Nat.le_of_ble_eq_true rfl) hl.1 dX12_spells_89 (fun r_65 μ64 ρ d0 H locs hr_r_65 hp G => ?_)
        have hr_r_65 : -2147483648 ≤ r_65 ∧ r_65 ≤ 2147483647 := hr_r_65
        obtain ⟨hsm_66, hp_67⟩ := hp
        have hsm_66 := Eq.symm hsm_66
        subst hsm_66
        refine xa_puti G fd_X12 (a := 111) (x := r_65) 11 (kz := 11) rfl rfl (by decide) rfl (by unfold ir; omega) (wm 7 160 rfl rfl) ⟨rfl, rfl, rfl, rfl⟩ rfl dX12_spells_92 rfl (fun H locs G => ?_)
        refine lv_aload_n hx hb dX12_spells_95 rfl (lv_at hl 1 rfl) ?_
        refine lv_aload_n hx hb dX12_spells_96 rfl (lv_at hl 1 rfl) ?_
        refine xa_geti G fd_X12 (a := 111) (x := r_65) 11 rfl (by decide) rfl (wm 7 160 rfl rfl) ⟨rfl, rfl, rfl⟩ dX12_spells_97 rfl (sv_s _ _ _ _) ?_
        refine lv_iconst (v := iv (-1)) hx hb dX12_spells_100 rfl ?_
        refine xb_icmp_ne (tgt := 108) hx hb (by unfold ir; omega) (by unfold ir; omega) dX12_spells_101 (by decide) (fun c_101 => ?_) (fun c_101 => ?_)
        · refine lv_iconst (v := iv 1) hx hb dX12_spells_108 rfl ?_
          refine xa_puti G fd_X12 (a := 111) (x := 1) 8 (kz := 8) rfl rfl (by decide) rfl (by unfold ir; omega) (wm 7 157 rfl rfl) ⟨rfl, rfl, rfl, rfl⟩ rfl dX12_spells_109 rfl (fun H locs G => ?_)
          have hp9_ : μL5.1 111 6 ≠ μ.1 111 6 := by
            intro h9
            have e9 : hv μL5 = hv μ := hv_cg h9 ((hi_9 7 (by decide)).trans (sv_n _ (by decide))) (fun j => ((FL6.1 112 (by decide) j).trans (sv_n _ (by omega))))
            have f9 := hp_20
            have f9 := hp_57
            omega
          have e_68 : (sv (sv μL5 111 11 r_65) 111 8 1).1 111 6 = μL5.1 111 6 := ((sv_n _ (by decide)).trans (sv_n _ (by decide)))
          have e_69 : (sv (sv μL5 111 11 r_65) 111 8 1).1 111 6 = μL5.1 111 6 := ((sv_n _ (by decide)).trans (sv_n _ (by decide)))
          have e_70 : (sv (sv μL5 111 11 r_65) 111 8 1).1 111 11 = r_65 := ((sv_n _ (by decide)).trans (sv_s _ _ _ _))
          have e_71 : (sv (sv μL5 111 11 r_65) 111 8 1).1 111 11 = r_65 := ((sv_n _ (by decide)).trans (sv_s _ _ _ _))
          have e_72 : (sv (sv μL5 111 11 r_65) 111 8 1).1 111 8 = 1 := (sv_s _ _ _ _)
          have e_73 : (sv (sv μL5 111 11 r_65) 111 8 1).1 111 8 = 1 := (sv_s _ _ _ _)
          have e_74 : wr (sv (sv μL5 111 11 r_65) 111 8 1) = wr μ := ((wr_cg (sv_n _ (by decide))).trans ((wr_cg (sv_n _ (by decide))).trans ((wr_cg (hi_9 15 (by decide))).trans (wr_cg (sv_n _ (by decide))))))
          have e_75 : bd (sv (sv μL5 111 11 r_65) 111 8 1) = bd μ := ((bd_cg (sv_n _ (by decide)) (sv_n _ (by decide)) (sv_n _ (by decide))).trans ((bd_cg (sv_n _ (by decide)) (sv_n _ (by decide)) (sv_n _ (by decide))).trans ((bd_cg (hi_9 15 (by decide)) (hi_9 16 (by decide)) (hi_9 17 (by decide))).trans (bd_cg (sv_n _ (by decide)) (sv_n _ (by decide)) (sv_n _ (by decide))))))
          have e_76 : wr (sv (sv μL5 111 11 r_65) 111 8 1) = wr μ := ((wr_cg (sv_n _ (by decide))).trans ((wr_cg (sv_n _ (by decide))).trans ((wr_cg (hi_9 15 (by decide))).trans (wr_cg (sv_n _ (by decide))))))
          have e_77 : nn (sv (sv μL5 111 11 r_65) 111 8 1) = nn μ := ((nn_cg (sv_n _ (by decide)) (sv_n _ (by decide))).trans ((nn_cg (sv_n _ (by decide)) (sv_n _ (by decide))).trans ((nn_cg (hi_9 15 (by decide)) (hi_9 18 (by decide))).trans (nn_cg (sv_n _ (by decide)) (sv_n _ (by decide))))))
          exact xr_v G hret hlk dX12_spells_112 ⟨(FrM.put (FrM.put (FrM.tr (FrM.put FrM.rf (by decide)) FL6 (by decide)) (by decide)) (by decide)), (fun j hj => ((sv_n _ (fun h9 => hj (by rw [h9.2]; decide))).trans ((sv_n _ (fun h9 => hj (by rw [h9.2]; decide))).trans ((hi_9 j (fun h9 => hj ((by decide : ∀ x ∈ ([6, 10] : List Int), x ∈ ([6, 8, 10, 11, 15] : List Int)) j h9))).trans (sv_n _ (fun h9 => hj (by rw [h9.2]; decide))))))), (by omega), (by omega), (by omega), (by omega), (by omega)⟩
        · refine lv_iconst (v := iv 0) hx hb dX12_spells_104 rfl ?_
          refine lv_goto (tgt := 109) hx hb dX12_spells_105 (by decide) ?_
          refine xa_puti G fd_X12 (a := 111) (x := 0) 8 (kz := 8) rfl rfl (by decide) rfl (by unfold ir; omega) (wm 7 157 rfl rfl) ⟨rfl, rfl, rfl, rfl⟩ rfl dX12_spells_109 rfl (fun H locs G => ?_)
          have hp9_ : μL5.1 111 6 ≠ μ.1 111 6 := by
            intro h9
            have e9 : hv μL5 = hv μ := hv_cg h9 ((hi_9 7 (by decide)).trans (sv_n _ (by decide))) (fun j => ((FL6.1 112 (by decide) j).trans (sv_n _ (by omega))))
            have f9 := hp_20
            have f9 := hp_57
            omega
          have e_78 : (sv (sv μL5 111 11 r_65) 111 8 0).1 111 6 = μL5.1 111 6 := ((sv_n _ (by decide)).trans (sv_n _ (by decide)))
          have e_79 : (sv (sv μL5 111 11 r_65) 111 8 0).1 111 6 = μL5.1 111 6 := ((sv_n _ (by decide)).trans (sv_n _ (by decide)))
          have e_80 : (sv (sv μL5 111 11 r_65) 111 8 0).1 111 11 = r_65 := ((sv_n _ (by decide)).trans (sv_s _ _ _ _))
          have e_81 : (sv (sv μL5 111 11 r_65) 111 8 0).1 111 11 = r_65 := ((sv_n _ (by decide)).trans (sv_s _ _ _ _))
          have e_82 : (sv (sv μL5 111 11 r_65) 111 8 0).1 111 8 = 0 := (sv_s _ _ _ _)
          have e_83 : (sv (sv μL5 111 11 r_65) 111 8 0).1 111 8 = 0 := (sv_s _ _ _ _)
          have e_84 : wr (sv (sv μL5 111 11 r_65) 111 8 0) = wr μ := ((wr_cg (sv_n _ (by decide))).trans ((wr_cg (sv_n _ (by decide))).trans ((wr_cg (hi_9 15 (by decide))).trans (wr_cg (sv_n _ (by decide))))))
          have e_85 : bd (sv (sv μL5 111 11 r_65) 111 8 0) = bd μ := ((bd_cg (sv_n _ (by decide)) (sv_n _ (by decide)) (sv_n _ (by decide))).trans ((bd_cg (sv_n _ (by decide)) (sv_n _ (by decide)) (sv_n _ (by decide))).trans ((bd_cg (hi_9 15 (by decide)) (hi_9 16 (by decide)) (hi_9 17 (by decide))).trans (bd_cg (sv_n _ (by decide)) (sv_n _ (by decide)) (sv_n _ (by decide))))))
          have e_86 : wr (sv (sv μL5 111 11 r_65) 111 8 0) = wr μ := ((wr_cg (sv_n _ (by decide))).trans ((wr_cg (sv_n _ (by decide))).trans ((wr_cg (hi_9 15 (by decide))).trans (wr_cg (sv_n _ (by decide))))))
          have e_87 : nn (sv (sv μL5 111 11 r_65) 111 8 0) = nn μ := ((nn_cg (sv_n _ (by decide)) (sv_n _ (by decide))).trans ((nn_cg (sv_n _ (by decide)) (sv_n _ (by decide))).trans ((nn_cg (hi_9 15 (by decide)) (hi_9 18 (by decide))).trans (nn_cg (sv_n _ (by decide)) (sv_n _ (by decide))))))
          exact xr_v G hret hlk dX12_spells_112 ⟨(FrM.put (FrM.put (FrM.tr (FrM.put FrM.rf (by decide)) FL6 (by decide)) (by decide)) (by decide)), (fun j hj => ((sv_n _ (fun h9 => hj (by rw [h9.2]; decide))).trans ((sv_n _ (fun h9 => hj (by rw [h9.2]; decide))).trans ((hi_9 j (fun h9 => hj ((by decide : ∀ x ∈ ([6, 10] : List Int), x ∈ ([6, 8, 10, 11, 15] : List Int)) j h9))).trans (sv_n _ (fun h9 => hj (by rw [h9.2]; decide))))))), (by omega), (by omega), (by omega), (by omega), (by omega)⟩
      · refine lv_aload_n hx hb dX12_spells_76 rfl (lv_at hl 1 rfl) ?_
        refine lv_aload_n hx hb dX12_spells_77 rfl (lv_at hl 1 rfl) ?_
        refine xa_geti G fd_X12 (a := 111) (x := μ.1 111 9) 9 rfl (by decide) rfl (wm 7 158 rfl rfl) ⟨rfl, rfl, rfl⟩ dX12_spells_78 rfl ((hi_9 9 (by decide)).trans (sv_n _ (by decide))) ?_
        have hr_88 : -2147483648 ≤ μ.1 111 9 ∧ μ.1 111 9 ≤ 2147483647 := by have h9 := G.hr (a := 111) (k := 9) rfl; rw [show μL5.1 111 9 = μ.1 111 9 from ((hi_9 9 (by decide)).trans (sv_n _ (by decide)))] at h9; exact h9
        have e_89 : μL5.1 111 9 = μ.1 111 9 := ((hi_9 9 (by decide)).trans (sv_n _ (by decide)))
        refine xc_vV G (b := 111) (rest := []) (As := [.int (iv (μ.1 111 9))]) (c_X12_wrong ω l μL5 (μ.1 111 9) (by unfold ir; omega) (by omega)) (wm 9 22 rfl rfl) (wm 9 24 rfl rfl) (wm 0 123 rfl rfl) rfl rfl (by decide) rfl (wm 1 18 rfl rfl) (wm 9 25 rfl rfl) (by decide) hR (by decide) (n := 1) rfl rfl (Nat.le_of_ble_eq_true rfl) hl.1 dX12_spells_81 (fun μ90 ρ d0 H locs hp G => ?_)
        obtain ⟨F_91, hp_92, hp_93⟩ := hp
        have hw_94 := wr_r (μ := μ90)
        refine lv_aload_n hx hb dX12_spells_84 rfl (lv_at hl 1 rfl) ?_
        refine lv_aload_n hx hb dX12_spells_85 rfl (lv_at hl 1 rfl) ?_
        refine xa_getl G fd_X12 (a := 111) (x := μL5.1 111 10) 10 rfl (by decide) rfl (wm 7 159 rfl rfl) ⟨rfl, rfl, rfl⟩ dX12_spells_86 rfl (hp_92 10 (by decide)) ?_
        have hj_95 : jr (μL5.1 111 10) := by have h9 := G.hj (a := 111) (k := 10) rfl; rw [show μ90.1 111 10 = μL5.1 111 10 from (hp_92 10 (by decide))] at h9; exact h9
        refine xc_iS G (rest := [.ref (oP ω 111)]) (As := [.long (jv (μL5.1 111 10))]) (c_X12_wordOf ω l μ90 (μL5.1 111 10) hj_95) (wm 9 26 rfl rfl) (wm 9 27 rfl rfl) (wm 1 18 rfl rfl) (wm 9 28 rfl rfl) (by decide) hR (by decide) (n := 1) rfl rfl (Nat.le_of_ble_eq_true rfl) hl.1 dX12_spells_89 (fun r_97 μ96 ρ d0 H locs hr_r_97 hp G => ?_)
        have hr_r_97 : -2147483648 ≤ r_97 ∧ r_97 ≤ 2147483647 := hr_r_97
        obtain ⟨hsm_98, hp_99⟩ := hp
        have hsm_98 := Eq.symm hsm_98
        subst hsm_98
        refine xa_puti G fd_X12 (a := 111) (x := r_97) 11 (kz := 11) rfl rfl (by decide) rfl (by unfold ir; omega) (wm 7 160 rfl rfl) ⟨rfl, rfl, rfl, rfl⟩ rfl dX12_spells_92 rfl (fun H locs G => ?_)
        refine lv_aload_n hx hb dX12_spells_95 rfl (lv_at hl 1 rfl) ?_
        refine lv_aload_n hx hb dX12_spells_96 rfl (lv_at hl 1 rfl) ?_
        refine xa_geti G fd_X12 (a := 111) (x := r_97) 11 rfl (by decide) rfl (wm 7 160 rfl rfl) ⟨rfl, rfl, rfl⟩ dX12_spells_97 rfl (sv_s _ _ _ _) ?_
        refine lv_iconst (v := iv (-1)) hx hb dX12_spells_100 rfl ?_
        refine xb_icmp_ne (tgt := 108) hx hb (by unfold ir; omega) (by unfold ir; omega) dX12_spells_101 (by decide) (fun c_101 => ?_) (fun c_101 => ?_)
        · refine lv_iconst (v := iv 1) hx hb dX12_spells_108 rfl ?_
          refine xa_puti G fd_X12 (a := 111) (x := 1) 8 (kz := 8) rfl rfl (by decide) rfl (by unfold ir; omega) (wm 7 157 rfl rfl) ⟨rfl, rfl, rfl, rfl⟩ rfl dX12_spells_109 rfl (fun H locs G => ?_)
          have hp9_ : μL5.1 111 6 ≠ μ.1 111 6 := by
            intro h9
            have e9 : hv μL5 = hv μ := hv_cg h9 ((hi_9 7 (by decide)).trans (sv_n _ (by decide))) (fun j => ((FL6.1 112 (by decide) j).trans (sv_n _ (by omega))))
            have f9 := hp_20
            have f9 := hp_57
            omega
          have e_100 : (sv (sv μ90 111 11 r_97) 111 8 1).1 111 6 = μL5.1 111 6 := ((sv_n _ (by decide)).trans ((sv_n _ (by decide)).trans (hp_92 6 (by decide))))
          have e_101 : (sv (sv μ90 111 11 r_97) 111 8 1).1 111 6 = μL5.1 111 6 := ((sv_n _ (by decide)).trans ((sv_n _ (by decide)).trans (hp_92 6 (by decide))))
          have e_102 : (sv (sv μ90 111 11 r_97) 111 8 1).1 111 11 = r_97 := ((sv_n _ (by decide)).trans (sv_s _ _ _ _))
          have e_103 : (sv (sv μ90 111 11 r_97) 111 8 1).1 111 11 = r_97 := ((sv_n _ (by decide)).trans (sv_s _ _ _ _))
          have e_104 : (sv (sv μ90 111 11 r_97) 111 8 1).1 111 8 = 1 := (sv_s _ _ _ _)
          have e_105 : (sv (sv μ90 111 11 r_97) 111 8 1).1 111 8 = 1 := (sv_s _ _ _ _)
          have e_106 : wr (sv (sv μ90 111 11 r_97) 111 8 1) = wr μ90 := ((wr_cg (sv_n _ (by decide))).trans (wr_cg (sv_n _ (by decide))))
          have e_107 : bd (sv (sv μ90 111 11 r_97) 111 8 1) = bd μ90 := ((bd_cg (sv_n _ (by decide)) (sv_n _ (by decide)) (sv_n _ (by decide))).trans (bd_cg (sv_n _ (by decide)) (sv_n _ (by decide)) (sv_n _ (by decide))))
          have e_108 : wr (sv (sv μ90 111 11 r_97) 111 8 1) = wr μ90 := ((wr_cg (sv_n _ (by decide))).trans (wr_cg (sv_n _ (by decide))))
          have e_109 : nn (sv (sv μ90 111 11 r_97) 111 8 1) = nn μ90 := ((nn_cg (sv_n _ (by decide)) (sv_n _ (by decide))).trans (nn_cg (sv_n _ (by decide)) (sv_n _ (by decide))))
          exact xr_v G hret hlk dX12_spells_112 ⟨(FrM.put (FrM.put (FrM.tr (FrM.tr (FrM.put FrM.rf (by decide)) FL6 (by decide)) F_91 (by decide)) (by decide)) (by decide)), (fun j hj => ((sv_n _ (fun h9 => hj (by rw [h9.2]; decide))).trans ((sv_n _ (fun h9 => hj (by rw [h9.2]; decide))).trans ((hp_92 j (fun h9 => hj ((by decide : ∀ x ∈ ([15] : List Int), x ∈ ([6, 8, 10, 11, 15] : List Int)) j h9))).trans ((hi_9 j (fun h9 => hj ((by decide : ∀ x ∈ ([6, 10] : List Int), x ∈ ([6, 8, 10, 11, 15] : List Int)) j h9))).trans (sv_n _ (fun h9 => hj (by rw [h9.2]; decide)))))))), (by omega), (by omega), (by omega), (by omega), (by omega)⟩
        · refine lv_iconst (v := iv 0) hx hb dX12_spells_104 rfl ?_
          refine lv_goto (tgt := 109) hx hb dX12_spells_105 (by decide) ?_
          refine xa_puti G fd_X12 (a := 111) (x := 0) 8 (kz := 8) rfl rfl (by decide) rfl (by unfold ir; omega) (wm 7 157 rfl rfl) ⟨rfl, rfl, rfl, rfl⟩ rfl dX12_spells_109 rfl (fun H locs G => ?_)
          have hp9_ : μL5.1 111 6 ≠ μ.1 111 6 := by
            intro h9
            have e9 : hv μL5 = hv μ := hv_cg h9 ((hi_9 7 (by decide)).trans (sv_n _ (by decide))) (fun j => ((FL6.1 112 (by decide) j).trans (sv_n _ (by omega))))
            have f9 := hp_20
            have f9 := hp_57
            omega
          have e_110 : (sv (sv μ90 111 11 r_97) 111 8 0).1 111 6 = μL5.1 111 6 := ((sv_n _ (by decide)).trans ((sv_n _ (by decide)).trans (hp_92 6 (by decide))))
          have e_111 : (sv (sv μ90 111 11 r_97) 111 8 0).1 111 6 = μL5.1 111 6 := ((sv_n _ (by decide)).trans ((sv_n _ (by decide)).trans (hp_92 6 (by decide))))
          have e_112 : (sv (sv μ90 111 11 r_97) 111 8 0).1 111 11 = r_97 := ((sv_n _ (by decide)).trans (sv_s _ _ _ _))
          have e_113 : (sv (sv μ90 111 11 r_97) 111 8 0).1 111 11 = r_97 := ((sv_n _ (by decide)).trans (sv_s _ _ _ _))
          have e_114 : (sv (sv μ90 111 11 r_97) 111 8 0).1 111 8 = 0 := (sv_s _ _ _ _)
          have e_115 : (sv (sv μ90 111 11 r_97) 111 8 0).1 111 8 = 0 := (sv_s _ _ _ _)
          have e_116 : wr (sv (sv μ90 111 11 r_97) 111 8 0) = wr μ90 := ((wr_cg (sv_n _ (by decide))).trans (wr_cg (sv_n _ (by decide))))
          have e_117 : bd (sv (sv μ90 111 11 r_97) 111 8 0) = bd μ90 := ((bd_cg (sv_n _ (by decide)) (sv_n _ (by decide)) (sv_n _ (by decide))).trans (bd_cg (sv_n _ (by decide)) (sv_n _ (by decide)) (sv_n _ (by decide))))
          have e_118 : wr (sv (sv μ90 111 11 r_97) 111 8 0) = wr μ90 := ((wr_cg (sv_n _ (by decide))).trans (wr_cg (sv_n _ (by decide))))
          have e_119 : nn (sv (sv μ90 111 11 r_97) 111 8 0) = nn μ90 := ((nn_cg (sv_n _ (by decide)) (sv_n _ (by decide))).trans (nn_cg (sv_n _ (by decide)) (sv_n _ (by decide))))
          exact xr_v G hret hlk dX12_spells_112 ⟨(FrM.put (FrM.put (FrM.tr (FrM.tr (FrM.put FrM.rf (by decide)) FL6 (by decide)) F_91 (by decide)) (by decide)) (by decide)), (fun j hj => ((sv_n _ (fun h9 => hj (by rw [h9.2]; decide))).trans ((sv_n _ (fun h9 => hj (by rw [h9.2]; decide))).trans ((hp_92 j (fun h9 => hj ((by decide : ∀ x ∈ ([15] : List Int), x ∈ ([6, 8, 10, 11, 15] : List Int)) j h9))).trans ((hi_9 j (fun h9 => hj ((by decide : ∀ x ∈ ([6, 10] : List Int), x ∈ ([6, 8, 10, 11, 15] : List Int)) j h9))).trans (sv_n _ (fun h9 => hj (by rw [h9.2]; decide)))))))), (by omega), (by omega), (by omega), (by omega), (by omega)⟩
    · refine lv_iload_n hx hb dX12_spells_27 rfl (lv_at hl 0 rfl) ?_
      refine lv_bipush (v := iv 8) hx hb dX12_spells_28 rfl ?_
      refine xb_icmp_ge (tgt := 54) hx hb (by unfold ir; omega) (by unfold ir; omega) dX12_spells_30 (by decide) (fun c_30 => ?_) (fun c_30 => ?_)
      · refine lv_iinc (v := iv (n9 + 1)) (lv' := [(1, .int (iv (n9 + 1))), (0, .ref (oP ω 111))]) hx hb dX12_spells_54 hl (k := 0) rfl (by rw [show Int32.ofInt 1 = iv 1 from rfl, iv_add]) (by decide) rfl (fun ls hl => ?_)
        refine lv_aload_n hx hb dX12_spells_57 rfl (lv_at hl 1 rfl) ?_
        refine lv_dup hx hb dX12_spells_58 rfl ?_
        refine xa_geti G fd_X12 (a := 111) (x := μL5.1 111 6) 6 rfl (by decide) rfl (wm 7 155 rfl rfl) ⟨rfl, rfl, rfl⟩ dX12_spells_59 rfl rfl ?_
        have hr_120 : -2147483648 ≤ μL5.1 111 6 ∧ μL5.1 111 6 ≤ 2147483647 := by have h9 := G.hr (a := 111) (k := 6) rfl; exact h9
        refine lv_iconst (v := iv 1) hx hb dX12_spells_62 rfl ?_
        refine xb_iadd hx hb dX12_spells_63 ?_
        refine xa_puti G fd_X12 (a := 111) (x := (μL5.1 111 6) + 1) 6 (kz := 6) rfl rfl (by decide) rfl (by unfold ir; omega) (wm 7 155 rfl rfl) ⟨rfl, rfl, rfl, rfl⟩ rfl dX12_spells_64 rfl (fun H locs G => ?_)
        refine lv_goto (tgt := 7) hx hb dX12_spells_67 (by decide) ?_
        have e_121 : (sv μL5 111 6 ((μL5.1 111 6) + 1)).1 111 6 = (μL5.1 111 6) + 1 := (sv_s _ _ _ _)
        have e_122 : (sv μL5 111 6 ((μL5.1 111 6) + 1)).1 111 6 = (μL5.1 111 6) + 1 := (sv_s _ _ _ _)
        have e_123 : (sv μL5 111 6 ((μL5.1 111 6) + 1)).1 111 6 = (μL5.1 111 6) + 1 := (sv_s _ _ _ _)
        have e_124 : (sv μL5 111 6 ((μL5.1 111 6) + 1)).1 111 6 = (μL5.1 111 6) + 1 := (sv_s _ _ _ _)
        exact ih _ _ _ _ _ _ _ (by omega) ⟨n9 + 1, (FrM.put FL6 (by decide)), (by omega), (fun j hj => ((sv_n _ (fun h9 => hj (by rw [h9.2]; decide))).trans (hi_9 j (fun h9 => hj ((by decide : ∀ x ∈ ([6, 10] : List Int), x ∈ ([6, 10] : List Int)) j h9))))), (by omega), (by omega), (by omega), (by omega), rfl, lv_sub hl [0, 1] rfl⟩ G
      · refine lv_aload_n hx hb dX12_spells_33 rfl (lv_at hl 1 rfl) ?_
        refine lv_ldc2 (s := s.setDrawn d0) hx hb G.1.2.2.2.1 (dr_words G.1.2.2.2.2 d0 _ (wm 7 145 rfl rfl)) dX12_spells_34 ?_
        refine xb_litl (x := 37) (by decide) ?_
        refine lv_aload_n hx hb dX12_spells_37 rfl (lv_at hl 1 rfl) ?_
        refine xa_getl G fd_X12 (a := 111) (x := μL5.1 111 10) 10 rfl (by decide) rfl (wm 7 159 rfl rfl) ⟨rfl, rfl, rfl⟩ dX12_spells_38 rfl rfl ?_
        have hj_125 : jr (μL5.1 111 10) := by have h9 := G.hj (a := 111) (k := 10) rfl; exact h9
        refine xb_lmul hx hb dX12_spells_41 ?_
        refine xb_topl (fun z_126 hr_z_126 he_z_126 => ?_)
        refine lv_aload_n hx hb dX12_spells_42 rfl (lv_at hl 1 rfl) ?_
        have e_127 : μL5.1 111 7 = μ.1 111 7 := ((hi_9 7 (by decide)).trans (sv_n _ (by decide)))
        have e_128 : μL5.1 111 7 = μ.1 111 7 := ((hi_9 7 (by decide)).trans (sv_n _ (by decide)))
        have e_129 : μL5.1 111 7 = μ.1 111 7 := ((hi_9 7 (by decide)).trans (sv_n _ (by decide)))
        refine xc_iV G (b := 111) (rest := [.long (jv z_126), .ref (oP ω 111)]) (As := []) (c_X12_here ω l μL5  (by omega) (by omega)) (wm 9 8 rfl rfl) (wm 9 10 rfl rfl) (wm 0 121 rfl rfl) rfl rfl (by decide) rfl (wm 1 18 rfl rfl) (wm 9 11 rfl rfl) (by decide) hR (by decide) (n := 0) rfl rfl (Nat.le_of_ble_eq_true rfl) hl.1 dX12_spells_43 (fun r_131 μ130 ρ d0 H locs hr_r_131 hp G => ?_)
        have hr_r_131 : -2147483648 ≤ r_131 ∧ r_131 ≤ 2147483647 := hr_r_131
        obtain ⟨hsm_132, hp_133, hp_134⟩ := hp
        have hsm_132 := Eq.symm hsm_132
        subst hsm_132
        refine xc_iS G (rest := [.long (jv z_126), .ref (oP ω 111)]) (As := [.int (iv r_131)]) (c_X12_codeOf ω l μL5 r_131 (by unfold ir; omega) (by omega)) (wm 7 146 rfl rfl) (wm 7 147 rfl rfl) (wm 1 18 rfl rfl) (wm 7 148 rfl rfl) (by decide) hR (by decide) (n := 1) rfl rfl (Nat.le_of_ble_eq_true rfl) hl.1 dX12_spells_46 (fun r_136 μ135 ρ d0 H locs hr_r_136 hp G => ?_)
        have hr_r_136 : -2147483648 ≤ r_136 ∧ r_136 ≤ 2147483647 := hr_r_136
        obtain ⟨hsm_137, hp_138⟩ := hp
        have hsm_137 := Eq.symm hsm_137
        subst hsm_137
        refine xb_i2l hx hb (by unfold ir; omega) dX12_spells_49 ?_
        refine xb_ladd hx hb dX12_spells_50 ?_
        refine xb_topl (fun z_139 hr_z_139 he_z_139 => ?_)
        refine xa_putl G fd_X12 (a := 111) (x := z_139) 10 (kz := 10) rfl rfl (by decide) rfl hr_z_139 (wm 7 159 rfl rfl) ⟨rfl, rfl, rfl, rfl⟩ rfl dX12_spells_51 rfl (fun H locs G => ?_)
        refine lv_iinc (v := iv (n9 + 1)) (lv' := [(1, .int (iv (n9 + 1))), (0, .ref (oP ω 111))]) hx hb dX12_spells_54 hl (k := 0) rfl (by rw [show Int32.ofInt 1 = iv 1 from rfl, iv_add]) (by decide) rfl (fun ls hl => ?_)
        refine lv_aload_n hx hb dX12_spells_57 rfl (lv_at hl 1 rfl) ?_
        refine lv_dup hx hb dX12_spells_58 rfl ?_
        refine xa_geti G fd_X12 (a := 111) (x := μL5.1 111 6) 6 rfl (by decide) rfl (wm 7 155 rfl rfl) ⟨rfl, rfl, rfl⟩ dX12_spells_59 rfl (sv_n _ (by decide)) ?_
        have hr_140 : -2147483648 ≤ μL5.1 111 6 ∧ μL5.1 111 6 ≤ 2147483647 := by have h9 := G.hr (a := 111) (k := 6) rfl; rw [show (sv μL5 111 10 z_139).1 111 6 = μL5.1 111 6 from (sv_n _ (by decide))] at h9; exact h9
        refine lv_iconst (v := iv 1) hx hb dX12_spells_62 rfl ?_
        refine xb_iadd hx hb dX12_spells_63 ?_
        refine xa_puti G fd_X12 (a := 111) (x := (μL5.1 111 6) + 1) 6 (kz := 6) rfl rfl (by decide) rfl (by unfold ir; omega) (wm 7 155 rfl rfl) ⟨rfl, rfl, rfl, rfl⟩ rfl dX12_spells_64 rfl (fun H locs G => ?_)
        refine lv_goto (tgt := 7) hx hb dX12_spells_67 (by decide) ?_
        have e_141 : (sv (sv μL5 111 10 z_139) 111 6 ((μL5.1 111 6) + 1)).1 111 6 = (μL5.1 111 6) + 1 := (sv_s _ _ _ _)
        have e_142 : (sv (sv μL5 111 10 z_139) 111 6 ((μL5.1 111 6) + 1)).1 111 6 = (μL5.1 111 6) + 1 := (sv_s _ _ _ _)
        have e_143 : (sv (sv μL5 111 10 z_139) 111 6 ((μL5.1 111 6) + 1)).1 111 6 = (μL5.1 111 6) + 1 := (sv_s _ _ _ _)
        have e_144 : (sv (sv μL5 111 10 z_139) 111 6 ((μL5.1 111 6) + 1)).1 111 6 = (μL5.1 111 6) + 1 := (sv_s _ _ _ _)
        exact ih _ _ _ _ _ _ _ (by omega) ⟨n9 + 1, (FrM.put (FrM.put FL6 (by decide)) (by decide)), (by omega), (fun j hj => ((sv_n _ (fun h9 => hj (by rw [h9.2]; decide))).trans ((sv_n _ (fun h9 => hj (by rw [h9.2]; decide))).trans (hi_9 j (fun h9 => hj ((by decide : ∀ x ∈ ([6, 10] : List Int), x ∈ ([6, 10] : List Int)) j h9)))))), (by omega), (by omega), (by omega), (by omega), rfl, lv_sub hl [0, 1] rfl⟩ G

set_option maxHeartbeats 4000000 in
set_option maxRecDepth 100000 in
theorem c_X12_signs (ω : Om) (l : Launch) (μ : M3) (x1 : Int) (hx1 : ir x1) (h0 : 0 ≤ μ.1 111 6 ∧ μ.1 111 6 ≤ μ.1 111 7) (h7 : μ.1 111 7 ≤ 3000) (hnn : 0 ≤ nn μ ∧ nn μ ≤ 9 ∧ 9 * wr μ ≤ nn μ) (hin : μ.1 111 6 < μ.1 111 7) (hpl : 0 ≤ μ.1 111 9) : CtV ω l yX12_signs cX12_signs 4 1 21 [.ref (oP ω 111), .int (iv x1)] μ (fun (μ' : M3) => (FrM [111] μ μ') ∧ (∀ j, j ∉ ([6, 8, 13, 15] : List Int) → μ'.1 111 j = μ.1 111 j) ∧ (μ.1 111 6 + 1 ≤ μ'.1 111 6 ∧ μ'.1 111 6 ≤ μ.1 111 7) ∧ (μ'.1 111 8 = 3) ∧ (wr μ ≤ wr μ' ∧ bd μ ≤ bd μ') ∧ (nn μ ≤ nn μ' ∧ nn μ' ≤ nn μ + 9 * wr μ' ∧ nn μ' ≤ 9 ∧ 9 * wr μ' ≤ nn μ')) := by
  refine CtV.go (by decide) (Nat.le_of_ble_eq_true rfl) (fun ρ p e s m below meth c R ls G hR hret hlk hl => ?_)
  have hx := G.1.1
  have hb := G.1.2.1
  have hl : lv_has ls 4 [(0, .ref (oP ω 111)), (1, .int (iv x1))] := hl
  generalize s.drawn = d0 at G ⊢
  have hr_x1 : -2147483648 ≤ x1 ∧ x1 ≤ 2147483647 := hx1
  have hw_0 := wr_r (μ := μ)
  refine lv_aload_n hx hb dX12_signs_0 rfl (lv_at hl 0 rfl) ?_
  refine lv_iconst (v := iv 3) hx hb dX12_signs_1 rfl ?_
  refine xa_puti G fd_X12 (a := 111) (x := 3) 8 (kz := 8) rfl rfl (by decide) rfl (by unfold ir; omega) (wm 7 157 rfl rfl) ⟨rfl, rfl, rfl, rfl⟩ rfl dX12_signs_2 rfl (fun H locs G => ?_)
  refine lv_aload_n hx hb dX12_signs_5 rfl (lv_at hl 0 rfl) ?_
  refine lv_dup hx hb dX12_signs_6 rfl ?_
  refine xa_geti G fd_X12 (a := 111) (x := μ.1 111 6) 6 rfl (by decide) rfl (wm 7 155 rfl rfl) ⟨rfl, rfl, rfl⟩ dX12_signs_7 rfl (sv_n _ (by decide)) ?_
  have hr_1 : -2147483648 ≤ μ.1 111 6 ∧ μ.1 111 6 ≤ 2147483647 := by have h9 := G.hr (a := 111) (k := 6) rfl; rw [show (sv μ 111 8 3).1 111 6 = μ.1 111 6 from (sv_n _ (by decide))] at h9; exact h9
  refine lv_iconst (v := iv 1) hx hb dX12_signs_10 rfl ?_
  refine xb_iadd hx hb dX12_signs_11 ?_
  refine xa_puti G fd_X12 (a := 111) (x := (μ.1 111 6) + 1) 6 (kz := 6) rfl rfl (by decide) rfl (by unfold ir; omega) (wm 7 155 rfl rfl) ⟨rfl, rfl, rfl, rfl⟩ rfl dX12_signs_12 rfl (fun H locs G => ?_)
  refine lv_aload_n hx hb dX12_signs_15 rfl (lv_at hl 0 rfl) ?_
  have e_2 : (sv (sv μ 111 8 3) 111 6 ((μ.1 111 6) + 1)).1 111 6 = (μ.1 111 6) + 1 := (sv_s _ _ _ _)
  have e_3 : (sv (sv μ 111 8 3) 111 6 ((μ.1 111 6) + 1)).1 111 6 = (μ.1 111 6) + 1 := (sv_s _ _ _ _)
  have e_4 : (sv (sv μ 111 8 3) 111 6 ((μ.1 111 6) + 1)).1 111 7 = μ.1 111 7 := ((sv_n _ (by decide)).trans (sv_n _ (by decide)))
  have e_5 : (sv (sv μ 111 8 3) 111 6 ((μ.1 111 6) + 1)).1 111 7 = μ.1 111 7 := ((sv_n _ (by decide)).trans (sv_n _ (by decide)))
  have e_6 : (sv (sv μ 111 8 3) 111 6 ((μ.1 111 6) + 1)).1 111 6 = (μ.1 111 6) + 1 := (sv_s _ _ _ _)
  have e_7 : (sv (sv μ 111 8 3) 111 6 ((μ.1 111 6) + 1)).1 111 7 = μ.1 111 7 := ((sv_n _ (by decide)).trans (sv_n _ (by decide)))
  refine xc_iV G (b := 111) (rest := []) (As := []) (c_X12_here ω l (sv (sv μ 111 8 3) 111 6 ((μ.1 111 6) + 1))  (by omega) (by omega)) (wm 9 8 rfl rfl) (wm 9 10 rfl rfl) (wm 0 121 rfl rfl) rfl rfl (by decide) rfl (wm 1 18 rfl rfl) (wm 9 11 rfl rfl) (by decide) hR (by decide) (n := 0) rfl rfl (Nat.le_of_ble_eq_true rfl) hl.1 dX12_signs_16 (fun r_9 μ8 ρ d0 H locs hr_r_9 hp G => ?_)
  have hr_r_9 : -2147483648 ≤ r_9 ∧ r_9 ≤ 2147483647 := hr_r_9
  obtain ⟨hsm_10, hp_11, hp_12⟩ := hp
  have hsm_10 := Eq.symm hsm_10
  subst hsm_10
  refine lv_istore_n (lv' := [(2, .int (iv r_9)), (0, .ref (oP ω 111)), (1, .int (iv x1))]) hx hb dX12_signs_19 rfl hl (by decide) rfl (fun ls hl => ?_)
  refine lv_aload_n hx hb dX12_signs_20 rfl (lv_at hl 1 rfl) ?_
  refine lv_iload_n hx hb dX12_signs_21 rfl (lv_at hl 2 rfl) ?_
  refine xa_puti G fd_X12 (a := 111) (x := x1) 13 (kz := 13) rfl rfl (by decide) rfl (by unfold ir; omega) (wm 7 162 rfl rfl) ⟨rfl, rfl, rfl, rfl⟩ rfl dX12_signs_22 rfl (fun H locs G => ?_)
  refine lv_iload_n hx hb dX12_signs_25 rfl (lv_at hl 2 rfl) ?_
  refine lv_bipush (v := iv 61) hx hb dX12_signs_26 rfl ?_
  refine xb_icmp_eq (tgt := 49) hx hb (by unfold ir; omega) (by unfold ir; omega) dX12_signs_28 (by decide) (fun c_28 => ?_) (fun c_28 => ?_)
  · refine lv_iload_n hx hb dX12_signs_49 rfl (lv_at hl 0 rfl) ?_
    refine lv_bipush (v := iv 61) hx hb dX12_signs_50 rfl ?_
    refine xb_icmp_ne (tgt := 74) hx hb (by unfold ir; omega) (by unfold ir; omega) dX12_signs_52 (by decide) (fun c_52 => ?_) (fun c_52 => ?_)
    · refine lv_iload_n hx hb dX12_signs_74 rfl (lv_at hl 2 rfl) ?_
      refine lv_bipush (v := iv 40) hx hb dX12_signs_75 rfl ?_
      refine xb_icmp_eq (tgt := 188) hx hb (by unfold ir; omega) (by unfold ir; omega) dX12_signs_77 (by decide) (fun c_77 => ?_) (fun c_77 => ?_)
      · refine lv_iconst (v := iv 1) hx hb dX12_signs_188 rfl ?_
        refine lv_goto (tgt := 193) hx hb dX12_signs_189 (by decide) ?_
        refine lv_istore_n (lv' := [(3, .int (iv 1)), (2, .int (iv r_9)), (0, .ref (oP ω 111)), (1, .int (iv x1))]) hx hb dX12_signs_193 rfl hl (by decide) rfl (fun ls hl => ?_)
        refine lv_iload_n hx hb dX12_signs_194 rfl (lv_at hl 0 rfl) ?_
        refine xb_if_ne (tgt := 206) hx hb (x := 1) (by unfold ir; omega) dX12_signs_195 (by decide) (fun c_195 => ?_) (fun c_195 => absurd c_195 (by decide))
        have e_13 : (sv (sv (sv μ 111 8 3) 111 6 ((μ.1 111 6) + 1)) 111 13 x1).1 111 6 = (μ.1 111 6) + 1 := ((sv_n _ (by decide)).trans (sv_s _ _ _ _))
        have e_14 : (sv (sv (sv μ 111 8 3) 111 6 ((μ.1 111 6) + 1)) 111 13 x1).1 111 6 = (μ.1 111 6) + 1 := ((sv_n _ (by decide)).trans (sv_s _ _ _ _))
        have e_15 : (sv (sv (sv μ 111 8 3) 111 6 ((μ.1 111 6) + 1)) 111 13 x1).1 111 8 = 3 := ((sv_n _ (by decide)).trans ((sv_n _ (by decide)).trans (sv_s _ _ _ _)))
        have e_16 : wr (sv (sv (sv μ 111 8 3) 111 6 ((μ.1 111 6) + 1)) 111 13 x1) = wr μ := ((wr_cg (sv_n _ (by decide))).trans ((wr_cg (sv_n _ (by decide))).trans (wr_cg (sv_n _ (by decide)))))
        have e_17 : bd (sv (sv (sv μ 111 8 3) 111 6 ((μ.1 111 6) + 1)) 111 13 x1) = bd μ := ((bd_cg (sv_n _ (by decide)) (sv_n _ (by decide)) (sv_n _ (by decide))).trans ((bd_cg (sv_n _ (by decide)) (sv_n _ (by decide)) (sv_n _ (by decide))).trans (bd_cg (sv_n _ (by decide)) (sv_n _ (by decide)) (sv_n _ (by decide)))))
        have e_18 : wr (sv (sv (sv μ 111 8 3) 111 6 ((μ.1 111 6) + 1)) 111 13 x1) = wr μ := ((wr_cg (sv_n _ (by decide))).trans ((wr_cg (sv_n _ (by decide))).trans (wr_cg (sv_n _ (by decide)))))
        have e_19 : nn (sv (sv (sv μ 111 8 3) 111 6 ((μ.1 111 6) + 1)) 111 13 x1) = nn μ := ((nn_cg (sv_n _ (by decide)) (sv_n _ (by decide))).trans ((nn_cg (sv_n _ (by decide)) (sv_n _ (by decide))).trans (nn_cg (sv_n _ (by decide)) (sv_n _ (by decide)))))
        exact xr_v G hret hlk dX12_signs_206 ⟨(FrM.put (FrM.put (FrM.put FrM.rf (by decide)) (by decide)) (by decide)), (fun j hj => ((sv_n _ (fun h9 => hj (by rw [h9.2]; decide))).trans ((sv_n _ (fun h9 => hj (by rw [h9.2]; decide))).trans (sv_n _ (fun h9 => hj (by rw [h9.2]; decide)))))), (by omega), (by omega), (by omega), (by omega)⟩
      · refine lv_iload_n hx hb dX12_signs_80 rfl (lv_at hl 2 rfl) ?_
        refine lv_bipush (v := iv 41) hx hb dX12_signs_81 rfl ?_
        refine xb_icmp_eq (tgt := 188) hx hb (by unfold ir; omega) (by unfold ir; omega) dX12_signs_83 (by decide) (fun c_83 => ?_) (fun c_83 => ?_)
        · refine lv_iconst (v := iv 1) hx hb dX12_signs_188 rfl ?_
          refine lv_goto (tgt := 193) hx hb dX12_signs_189 (by decide) ?_
          refine lv_istore_n (lv' := [(3, .int (iv 1)), (2, .int (iv r_9)), (0, .ref (oP ω 111)), (1, .int (iv x1))]) hx hb dX12_signs_193 rfl hl (by decide) rfl (fun ls hl => ?_)
          refine lv_iload_n hx hb dX12_signs_194 rfl (lv_at hl 0 rfl) ?_
          refine xb_if_ne (tgt := 206) hx hb (x := 1) (by unfold ir; omega) dX12_signs_195 (by decide) (fun c_195 => ?_) (fun c_195 => absurd c_195 (by decide))
          have e_20 : (sv (sv (sv μ 111 8 3) 111 6 ((μ.1 111 6) + 1)) 111 13 x1).1 111 6 = (μ.1 111 6) + 1 := ((sv_n _ (by decide)).trans (sv_s _ _ _ _))
          have e_21 : (sv (sv (sv μ 111 8 3) 111 6 ((μ.1 111 6) + 1)) 111 13 x1).1 111 6 = (μ.1 111 6) + 1 := ((sv_n _ (by decide)).trans (sv_s _ _ _ _))
          have e_22 : (sv (sv (sv μ 111 8 3) 111 6 ((μ.1 111 6) + 1)) 111 13 x1).1 111 8 = 3 := ((sv_n _ (by decide)).trans ((sv_n _ (by decide)).trans (sv_s _ _ _ _)))
          have e_23 : wr (sv (sv (sv μ 111 8 3) 111 6 ((μ.1 111 6) + 1)) 111 13 x1) = wr μ := ((wr_cg (sv_n _ (by decide))).trans ((wr_cg (sv_n _ (by decide))).trans (wr_cg (sv_n _ (by decide)))))
          have e_24 : bd (sv (sv (sv μ 111 8 3) 111 6 ((μ.1 111 6) + 1)) 111 13 x1) = bd μ := ((bd_cg (sv_n _ (by decide)) (sv_n _ (by decide)) (sv_n _ (by decide))).trans ((bd_cg (sv_n _ (by decide)) (sv_n _ (by decide)) (sv_n _ (by decide))).trans (bd_cg (sv_n _ (by decide)) (sv_n _ (by decide)) (sv_n _ (by decide)))))
          have e_25 : wr (sv (sv (sv μ 111 8 3) 111 6 ((μ.1 111 6) + 1)) 111 13 x1) = wr μ := ((wr_cg (sv_n _ (by decide))).trans ((wr_cg (sv_n _ (by decide))).trans (wr_cg (sv_n _ (by decide)))))
          have e_26 : nn (sv (sv (sv μ 111 8 3) 111 6 ((μ.1 111 6) + 1)) 111 13 x1) = nn μ := ((nn_cg (sv_n _ (by decide)) (sv_n _ (by decide))).trans ((nn_cg (sv_n _ (by decide)) (sv_n _ (by decide))).trans (nn_cg (sv_n _ (by decide)) (sv_n _ (by decide)))))
          exact xr_v G hret hlk dX12_signs_206 ⟨(FrM.put (FrM.put (FrM.put FrM.rf (by decide)) (by decide)) (by decide)), (fun j hj => ((sv_n _ (fun h9 => hj (by rw [h9.2]; decide))).trans ((sv_n _ (fun h9 => hj (by rw [h9.2]; decide))).trans (sv_n _ (fun h9 => hj (by rw [h9.2]; decide)))))), (by omega), (by omega), (by omega), (by omega)⟩
        · refine lv_iload_n hx hb dX12_signs_86 rfl (lv_at hl 2 rfl) ?_
          refine lv_bipush (v := iv 123) hx hb dX12_signs_87 rfl ?_
          refine xb_icmp_eq (tgt := 188) hx hb (by unfold ir; omega) (by unfold ir; omega) dX12_signs_89 (by decide) (fun c_89 => ?_) (fun c_89 => ?_)
          · refine lv_iconst (v := iv 1) hx hb dX12_signs_188 rfl ?_
            refine lv_goto (tgt := 193) hx hb dX12_signs_189 (by decide) ?_
            refine lv_istore_n (lv' := [(3, .int (iv 1)), (2, .int (iv r_9)), (0, .ref (oP ω 111)), (1, .int (iv x1))]) hx hb dX12_signs_193 rfl hl (by decide) rfl (fun ls hl => ?_)
            refine lv_iload_n hx hb dX12_signs_194 rfl (lv_at hl 0 rfl) ?_
            refine xb_if_ne (tgt := 206) hx hb (x := 1) (by unfold ir; omega) dX12_signs_195 (by decide) (fun c_195 => ?_) (fun c_195 => absurd c_195 (by decide))
            have e_27 : (sv (sv (sv μ 111 8 3) 111 6 ((μ.1 111 6) + 1)) 111 13 x1).1 111 6 = (μ.1 111 6) + 1 := ((sv_n _ (by decide)).trans (sv_s _ _ _ _))
            have e_28 : (sv (sv (sv μ 111 8 3) 111 6 ((μ.1 111 6) + 1)) 111 13 x1).1 111 6 = (μ.1 111 6) + 1 := ((sv_n _ (by decide)).trans (sv_s _ _ _ _))
            have e_29 : (sv (sv (sv μ 111 8 3) 111 6 ((μ.1 111 6) + 1)) 111 13 x1).1 111 8 = 3 := ((sv_n _ (by decide)).trans ((sv_n _ (by decide)).trans (sv_s _ _ _ _)))
            have e_30 : wr (sv (sv (sv μ 111 8 3) 111 6 ((μ.1 111 6) + 1)) 111 13 x1) = wr μ := ((wr_cg (sv_n _ (by decide))).trans ((wr_cg (sv_n _ (by decide))).trans (wr_cg (sv_n _ (by decide)))))
            have e_31 : bd (sv (sv (sv μ 111 8 3) 111 6 ((μ.1 111 6) + 1)) 111 13 x1) = bd μ := ((bd_cg (sv_n _ (by decide)) (sv_n _ (by decide)) (sv_n _ (by decide))).trans ((bd_cg (sv_n _ (by decide)) (sv_n _ (by decide)) (sv_n _ (by decide))).trans (bd_cg (sv_n _ (by decide)) (sv_n _ (by decide)) (sv_n _ (by decide)))))
            have e_32 : wr (sv (sv (sv μ 111 8 3) 111 6 ((μ.1 111 6) + 1)) 111 13 x1) = wr μ := ((wr_cg (sv_n _ (by decide))).trans ((wr_cg (sv_n _ (by decide))).trans (wr_cg (sv_n _ (by decide)))))
            have e_33 : nn (sv (sv (sv μ 111 8 3) 111 6 ((μ.1 111 6) + 1)) 111 13 x1) = nn μ := ((nn_cg (sv_n _ (by decide)) (sv_n _ (by decide))).trans ((nn_cg (sv_n _ (by decide)) (sv_n _ (by decide))).trans (nn_cg (sv_n _ (by decide)) (sv_n _ (by decide)))))
            exact xr_v G hret hlk dX12_signs_206 ⟨(FrM.put (FrM.put (FrM.put FrM.rf (by decide)) (by decide)) (by decide)), (fun j hj => ((sv_n _ (fun h9 => hj (by rw [h9.2]; decide))).trans ((sv_n _ (fun h9 => hj (by rw [h9.2]; decide))).trans (sv_n _ (fun h9 => hj (by rw [h9.2]; decide)))))), (by omega), (by omega), (by omega), (by omega)⟩
          · refine lv_iload_n hx hb dX12_signs_92 rfl (lv_at hl 2 rfl) ?_
            refine lv_bipush (v := iv 125) hx hb dX12_signs_93 rfl ?_
            refine xb_icmp_eq (tgt := 188) hx hb (by unfold ir; omega) (by unfold ir; omega) dX12_signs_95 (by decide) (fun c_95 => ?_) (fun c_95 => ?_)
            · refine lv_iconst (v := iv 1) hx hb dX12_signs_188 rfl ?_
              refine lv_goto (tgt := 193) hx hb dX12_signs_189 (by decide) ?_
              refine lv_istore_n (lv' := [(3, .int (iv 1)), (2, .int (iv r_9)), (0, .ref (oP ω 111)), (1, .int (iv x1))]) hx hb dX12_signs_193 rfl hl (by decide) rfl (fun ls hl => ?_)
              refine lv_iload_n hx hb dX12_signs_194 rfl (lv_at hl 0 rfl) ?_
              refine xb_if_ne (tgt := 206) hx hb (x := 1) (by unfold ir; omega) dX12_signs_195 (by decide) (fun c_195 => ?_) (fun c_195 => absurd c_195 (by decide))
              have e_34 : (sv (sv (sv μ 111 8 3) 111 6 ((μ.1 111 6) + 1)) 111 13 x1).1 111 6 = (μ.1 111 6) + 1 := ((sv_n _ (by decide)).trans (sv_s _ _ _ _))
              have e_35 : (sv (sv (sv μ 111 8 3) 111 6 ((μ.1 111 6) + 1)) 111 13 x1).1 111 6 = (μ.1 111 6) + 1 := ((sv_n _ (by decide)).trans (sv_s _ _ _ _))
              have e_36 : (sv (sv (sv μ 111 8 3) 111 6 ((μ.1 111 6) + 1)) 111 13 x1).1 111 8 = 3 := ((sv_n _ (by decide)).trans ((sv_n _ (by decide)).trans (sv_s _ _ _ _)))
              have e_37 : wr (sv (sv (sv μ 111 8 3) 111 6 ((μ.1 111 6) + 1)) 111 13 x1) = wr μ := ((wr_cg (sv_n _ (by decide))).trans ((wr_cg (sv_n _ (by decide))).trans (wr_cg (sv_n _ (by decide)))))
              have e_38 : bd (sv (sv (sv μ 111 8 3) 111 6 ((μ.1 111 6) + 1)) 111 13 x1) = bd μ := ((bd_cg (sv_n _ (by decide)) (sv_n _ (by decide)) (sv_n _ (by decide))).trans ((bd_cg (sv_n _ (by decide)) (sv_n _ (by decide)) (sv_n _ (by decide))).trans (bd_cg (sv_n _ (by decide)) (sv_n _ (by decide)) (sv_n _ (by decide)))))
              have e_39 : wr (sv (sv (sv μ 111 8 3) 111 6 ((μ.1 111 6) + 1)) 111 13 x1) = wr μ := ((wr_cg (sv_n _ (by decide))).trans ((wr_cg (sv_n _ (by decide))).trans (wr_cg (sv_n _ (by decide)))))
              have e_40 : nn (sv (sv (sv μ 111 8 3) 111 6 ((μ.1 111 6) + 1)) 111 13 x1) = nn μ := ((nn_cg (sv_n _ (by decide)) (sv_n _ (by decide))).trans ((nn_cg (sv_n _ (by decide)) (sv_n _ (by decide))).trans (nn_cg (sv_n _ (by decide)) (sv_n _ (by decide)))))
              exact xr_v G hret hlk dX12_signs_206 ⟨(FrM.put (FrM.put (FrM.put FrM.rf (by decide)) (by decide)) (by decide)), (fun j hj => ((sv_n _ (fun h9 => hj (by rw [h9.2]; decide))).trans ((sv_n _ (fun h9 => hj (by rw [h9.2]; decide))).trans (sv_n _ (fun h9 => hj (by rw [h9.2]; decide)))))), (by omega), (by omega), (by omega), (by omega)⟩
            · refine lv_iload_n hx hb dX12_signs_98 rfl (lv_at hl 2 rfl) ?_
              refine lv_bipush (v := iv 91) hx hb dX12_signs_99 rfl ?_
              refine xb_icmp_eq (tgt := 188) hx hb (by unfold ir; omega) (by unfold ir; omega) dX12_signs_101 (by decide) (fun c_101 => ?_) (fun c_101 => ?_)
              · refine lv_iconst (v := iv 1) hx hb dX12_signs_188 rfl ?_
                refine lv_goto (tgt := 193) hx hb dX12_signs_189 (by decide) ?_
                refine lv_istore_n (lv' := [(3, .int (iv 1)), (2, .int (iv r_9)), (0, .ref (oP ω 111)), (1, .int (iv x1))]) hx hb dX12_signs_193 rfl hl (by decide) rfl (fun ls hl => ?_)
                refine lv_iload_n hx hb dX12_signs_194 rfl (lv_at hl 0 rfl) ?_
                refine xb_if_ne (tgt := 206) hx hb (x := 1) (by unfold ir; omega) dX12_signs_195 (by decide) (fun c_195 => ?_) (fun c_195 => absurd c_195 (by decide))
                have e_41 : (sv (sv (sv μ 111 8 3) 111 6 ((μ.1 111 6) + 1)) 111 13 x1).1 111 6 = (μ.1 111 6) + 1 := ((sv_n _ (by decide)).trans (sv_s _ _ _ _))
                have e_42 : (sv (sv (sv μ 111 8 3) 111 6 ((μ.1 111 6) + 1)) 111 13 x1).1 111 6 = (μ.1 111 6) + 1 := ((sv_n _ (by decide)).trans (sv_s _ _ _ _))
                have e_43 : (sv (sv (sv μ 111 8 3) 111 6 ((μ.1 111 6) + 1)) 111 13 x1).1 111 8 = 3 := ((sv_n _ (by decide)).trans ((sv_n _ (by decide)).trans (sv_s _ _ _ _)))
                have e_44 : wr (sv (sv (sv μ 111 8 3) 111 6 ((μ.1 111 6) + 1)) 111 13 x1) = wr μ := ((wr_cg (sv_n _ (by decide))).trans ((wr_cg (sv_n _ (by decide))).trans (wr_cg (sv_n _ (by decide)))))
                have e_45 : bd (sv (sv (sv μ 111 8 3) 111 6 ((μ.1 111 6) + 1)) 111 13 x1) = bd μ := ((bd_cg (sv_n _ (by decide)) (sv_n _ (by decide)) (sv_n _ (by decide))).trans ((bd_cg (sv_n _ (by decide)) (sv_n _ (by decide)) (sv_n _ (by decide))).trans (bd_cg (sv_n _ (by decide)) (sv_n _ (by decide)) (sv_n _ (by decide)))))
                have e_46 : wr (sv (sv (sv μ 111 8 3) 111 6 ((μ.1 111 6) + 1)) 111 13 x1) = wr μ := ((wr_cg (sv_n _ (by decide))).trans ((wr_cg (sv_n _ (by decide))).trans (wr_cg (sv_n _ (by decide)))))
                have e_47 : nn (sv (sv (sv μ 111 8 3) 111 6 ((μ.1 111 6) + 1)) 111 13 x1) = nn μ := ((nn_cg (sv_n _ (by decide)) (sv_n _ (by decide))).trans ((nn_cg (sv_n _ (by decide)) (sv_n _ (by decide))).trans (nn_cg (sv_n _ (by decide)) (sv_n _ (by decide)))))
                exact xr_v G hret hlk dX12_signs_206 ⟨(FrM.put (FrM.put (FrM.put FrM.rf (by decide)) (by decide)) (by decide)), (fun j hj => ((sv_n _ (fun h9 => hj (by rw [h9.2]; decide))).trans ((sv_n _ (fun h9 => hj (by rw [h9.2]; decide))).trans (sv_n _ (fun h9 => hj (by rw [h9.2]; decide)))))), (by omega), (by omega), (by omega), (by omega)⟩
              · refine lv_iload_n hx hb dX12_signs_104 rfl (lv_at hl 2 rfl) ?_
                refine lv_bipush (v := iv 93) hx hb dX12_signs_105 rfl ?_
                refine xb_icmp_eq (tgt := 188) hx hb (by unfold ir; omega) (by unfold ir; omega) dX12_signs_107 (by decide) (fun c_107 => ?_) (fun c_107 => ?_)
                · refine lv_iconst (v := iv 1) hx hb dX12_signs_188 rfl ?_
                  refine lv_goto (tgt := 193) hx hb dX12_signs_189 (by decide) ?_
                  refine lv_istore_n (lv' := [(3, .int (iv 1)), (2, .int (iv r_9)), (0, .ref (oP ω 111)), (1, .int (iv x1))]) hx hb dX12_signs_193 rfl hl (by decide) rfl (fun ls hl => ?_)
                  refine lv_iload_n hx hb dX12_signs_194 rfl (lv_at hl 0 rfl) ?_
                  refine xb_if_ne (tgt := 206) hx hb (x := 1) (by unfold ir; omega) dX12_signs_195 (by decide) (fun c_195 => ?_) (fun c_195 => absurd c_195 (by decide))
                  have e_48 : (sv (sv (sv μ 111 8 3) 111 6 ((μ.1 111 6) + 1)) 111 13 x1).1 111 6 = (μ.1 111 6) + 1 := ((sv_n _ (by decide)).trans (sv_s _ _ _ _))
                  have e_49 : (sv (sv (sv μ 111 8 3) 111 6 ((μ.1 111 6) + 1)) 111 13 x1).1 111 6 = (μ.1 111 6) + 1 := ((sv_n _ (by decide)).trans (sv_s _ _ _ _))
                  have e_50 : (sv (sv (sv μ 111 8 3) 111 6 ((μ.1 111 6) + 1)) 111 13 x1).1 111 8 = 3 := ((sv_n _ (by decide)).trans ((sv_n _ (by decide)).trans (sv_s _ _ _ _)))
                  have e_51 : wr (sv (sv (sv μ 111 8 3) 111 6 ((μ.1 111 6) + 1)) 111 13 x1) = wr μ := ((wr_cg (sv_n _ (by decide))).trans ((wr_cg (sv_n _ (by decide))).trans (wr_cg (sv_n _ (by decide)))))
                  have e_52 : bd (sv (sv (sv μ 111 8 3) 111 6 ((μ.1 111 6) + 1)) 111 13 x1) = bd μ := ((bd_cg (sv_n _ (by decide)) (sv_n _ (by decide)) (sv_n _ (by decide))).trans ((bd_cg (sv_n _ (by decide)) (sv_n _ (by decide)) (sv_n _ (by decide))).trans (bd_cg (sv_n _ (by decide)) (sv_n _ (by decide)) (sv_n _ (by decide)))))
                  have e_53 : wr (sv (sv (sv μ 111 8 3) 111 6 ((μ.1 111 6) + 1)) 111 13 x1) = wr μ := ((wr_cg (sv_n _ (by decide))).trans ((wr_cg (sv_n _ (by decide))).trans (wr_cg (sv_n _ (by decide)))))
                  have e_54 : nn (sv (sv (sv μ 111 8 3) 111 6 ((μ.1 111 6) + 1)) 111 13 x1) = nn μ := ((nn_cg (sv_n _ (by decide)) (sv_n _ (by decide))).trans ((nn_cg (sv_n _ (by decide)) (sv_n _ (by decide))).trans (nn_cg (sv_n _ (by decide)) (sv_n _ (by decide)))))
                  exact xr_v G hret hlk dX12_signs_206 ⟨(FrM.put (FrM.put (FrM.put FrM.rf (by decide)) (by decide)) (by decide)), (fun j hj => ((sv_n _ (fun h9 => hj (by rw [h9.2]; decide))).trans ((sv_n _ (fun h9 => hj (by rw [h9.2]; decide))).trans (sv_n _ (fun h9 => hj (by rw [h9.2]; decide)))))), (by omega), (by omega), (by omega), (by omega)⟩
                · refine lv_iload_n hx hb dX12_signs_110 rfl (lv_at hl 2 rfl) ?_
                  refine lv_bipush (v := iv 44) hx hb dX12_signs_111 rfl ?_
                  refine xb_icmp_eq (tgt := 188) hx hb (by unfold ir; omega) (by unfold ir; omega) dX12_signs_113 (by decide) (fun c_113 => ?_) (fun c_113 => ?_)
                  · refine lv_iconst (v := iv 1) hx hb dX12_signs_188 rfl ?_
                    refine lv_goto (tgt := 193) hx hb dX12_signs_189 (by decide) ?_
                    refine lv_istore_n (lv' := [(3, .int (iv 1)), (2, .int (iv r_9)), (0, .ref (oP ω 111)), (1, .int (iv x1))]) hx hb dX12_signs_193 rfl hl (by decide) rfl (fun ls hl => ?_)
                    refine lv_iload_n hx hb dX12_signs_194 rfl (lv_at hl 0 rfl) ?_
                    refine xb_if_ne (tgt := 206) hx hb (x := 1) (by unfold ir; omega) dX12_signs_195 (by decide) (fun c_195 => ?_) (fun c_195 => absurd c_195 (by decide))
                    have e_55 : (sv (sv (sv μ 111 8 3) 111 6 ((μ.1 111 6) + 1)) 111 13 x1).1 111 6 = (μ.1 111 6) + 1 := ((sv_n _ (by decide)).trans (sv_s _ _ _ _))
                    have e_56 : (sv (sv (sv μ 111 8 3) 111 6 ((μ.1 111 6) + 1)) 111 13 x1).1 111 6 = (μ.1 111 6) + 1 := ((sv_n _ (by decide)).trans (sv_s _ _ _ _))
                    have e_57 : (sv (sv (sv μ 111 8 3) 111 6 ((μ.1 111 6) + 1)) 111 13 x1).1 111 8 = 3 := ((sv_n _ (by decide)).trans ((sv_n _ (by decide)).trans (sv_s _ _ _ _)))
                    have e_58 : wr (sv (sv (sv μ 111 8 3) 111 6 ((μ.1 111 6) + 1)) 111 13 x1) = wr μ := ((wr_cg (sv_n _ (by decide))).trans ((wr_cg (sv_n _ (by decide))).trans (wr_cg (sv_n _ (by decide)))))
                    have e_59 : bd (sv (sv (sv μ 111 8 3) 111 6 ((μ.1 111 6) + 1)) 111 13 x1) = bd μ := ((bd_cg (sv_n _ (by decide)) (sv_n _ (by decide)) (sv_n _ (by decide))).trans ((bd_cg (sv_n _ (by decide)) (sv_n _ (by decide)) (sv_n _ (by decide))).trans (bd_cg (sv_n _ (by decide)) (sv_n _ (by decide)) (sv_n _ (by decide)))))
                    have e_60 : wr (sv (sv (sv μ 111 8 3) 111 6 ((μ.1 111 6) + 1)) 111 13 x1) = wr μ := ((wr_cg (sv_n _ (by decide))).trans ((wr_cg (sv_n _ (by decide))).trans (wr_cg (sv_n _ (by decide)))))
                    have e_61 : nn (sv (sv (sv μ 111 8 3) 111 6 ((μ.1 111 6) + 1)) 111 13 x1) = nn μ := ((nn_cg (sv_n _ (by decide)) (sv_n _ (by decide))).trans ((nn_cg (sv_n _ (by decide)) (sv_n _ (by decide))).trans (nn_cg (sv_n _ (by decide)) (sv_n _ (by decide)))))
                    exact xr_v G hret hlk dX12_signs_206 ⟨(FrM.put (FrM.put (FrM.put FrM.rf (by decide)) (by decide)) (by decide)), (fun j hj => ((sv_n _ (fun h9 => hj (by rw [h9.2]; decide))).trans ((sv_n _ (fun h9 => hj (by rw [h9.2]; decide))).trans (sv_n _ (fun h9 => hj (by rw [h9.2]; decide)))))), (by omega), (by omega), (by omega), (by omega)⟩
                  · refine lv_iload_n hx hb dX12_signs_116 rfl (lv_at hl 2 rfl) ?_
                    refine lv_bipush (v := iv 59) hx hb dX12_signs_117 rfl ?_
                    refine xb_icmp_eq (tgt := 188) hx hb (by unfold ir; omega) (by unfold ir; omega) dX12_signs_119 (by decide) (fun c_119 => ?_) (fun c_119 => ?_)
                    · refine lv_iconst (v := iv 1) hx hb dX12_signs_188 rfl ?_
                      refine lv_goto (tgt := 193) hx hb dX12_signs_189 (by decide) ?_
                      refine lv_istore_n (lv' := [(3, .int (iv 1)), (2, .int (iv r_9)), (0, .ref (oP ω 111)), (1, .int (iv x1))]) hx hb dX12_signs_193 rfl hl (by decide) rfl (fun ls hl => ?_)
                      refine lv_iload_n hx hb dX12_signs_194 rfl (lv_at hl 0 rfl) ?_
                      refine xb_if_ne (tgt := 206) hx hb (x := 1) (by unfold ir; omega) dX12_signs_195 (by decide) (fun c_195 => ?_) (fun c_195 => absurd c_195 (by decide))
                      have e_62 : (sv (sv (sv μ 111 8 3) 111 6 ((μ.1 111 6) + 1)) 111 13 x1).1 111 6 = (μ.1 111 6) + 1 := ((sv_n _ (by decide)).trans (sv_s _ _ _ _))
                      have e_63 : (sv (sv (sv μ 111 8 3) 111 6 ((μ.1 111 6) + 1)) 111 13 x1).1 111 6 = (μ.1 111 6) + 1 := ((sv_n _ (by decide)).trans (sv_s _ _ _ _))
                      have e_64 : (sv (sv (sv μ 111 8 3) 111 6 ((μ.1 111 6) + 1)) 111 13 x1).1 111 8 = 3 := ((sv_n _ (by decide)).trans ((sv_n _ (by decide)).trans (sv_s _ _ _ _)))
                      have e_65 : wr (sv (sv (sv μ 111 8 3) 111 6 ((μ.1 111 6) + 1)) 111 13 x1) = wr μ := ((wr_cg (sv_n _ (by decide))).trans ((wr_cg (sv_n _ (by decide))).trans (wr_cg (sv_n _ (by decide)))))
                      have e_66 : bd (sv (sv (sv μ 111 8 3) 111 6 ((μ.1 111 6) + 1)) 111 13 x1) = bd μ := ((bd_cg (sv_n _ (by decide)) (sv_n _ (by decide)) (sv_n _ (by decide))).trans ((bd_cg (sv_n _ (by decide)) (sv_n _ (by decide)) (sv_n _ (by decide))).trans (bd_cg (sv_n _ (by decide)) (sv_n _ (by decide)) (sv_n _ (by decide)))))
                      have e_67 : wr (sv (sv (sv μ 111 8 3) 111 6 ((μ.1 111 6) + 1)) 111 13 x1) = wr μ := ((wr_cg (sv_n _ (by decide))).trans ((wr_cg (sv_n _ (by decide))).trans (wr_cg (sv_n _ (by decide)))))
                      have e_68 : nn (sv (sv (sv μ 111 8 3) 111 6 ((μ.1 111 6) + 1)) 111 13 x1) = nn μ := ((nn_cg (sv_n _ (by decide)) (sv_n _ (by decide))).trans ((nn_cg (sv_n _ (by decide)) (sv_n _ (by decide))).trans (nn_cg (sv_n _ (by decide)) (sv_n _ (by decide)))))
                      exact xr_v G hret hlk dX12_signs_206 ⟨(FrM.put (FrM.put (FrM.put FrM.rf (by decide)) (by decide)) (by decide)), (fun j hj => ((sv_n _ (fun h9 => hj (by rw [h9.2]; decide))).trans ((sv_n _ (fun h9 => hj (by rw [h9.2]; decide))).trans (sv_n _ (fun h9 => hj (by rw [h9.2]; decide)))))), (by omega), (by omega), (by omega), (by omega)⟩
                    · refine lv_iload_n hx hb dX12_signs_122 rfl (lv_at hl 2 rfl) ?_
                      refine lv_bipush (v := iv 46) hx hb dX12_signs_123 rfl ?_
                      refine xb_icmp_eq (tgt := 188) hx hb (by unfold ir; omega) (by unfold ir; omega) dX12_signs_125 (by decide) (fun c_125 => ?_) (fun c_125 => ?_)
                      · refine lv_iconst (v := iv 1) hx hb dX12_signs_188 rfl ?_
                        refine lv_goto (tgt := 193) hx hb dX12_signs_189 (by decide) ?_
                        refine lv_istore_n (lv' := [(3, .int (iv 1)), (2, .int (iv r_9)), (0, .ref (oP ω 111)), (1, .int (iv x1))]) hx hb dX12_signs_193 rfl hl (by decide) rfl (fun ls hl => ?_)
                        refine lv_iload_n hx hb dX12_signs_194 rfl (lv_at hl 0 rfl) ?_
                        refine xb_if_ne (tgt := 206) hx hb (x := 1) (by unfold ir; omega) dX12_signs_195 (by decide) (fun c_195 => ?_) (fun c_195 => absurd c_195 (by decide))
                        have e_69 : (sv (sv (sv μ 111 8 3) 111 6 ((μ.1 111 6) + 1)) 111 13 x1).1 111 6 = (μ.1 111 6) + 1 := ((sv_n _ (by decide)).trans (sv_s _ _ _ _))
                        have e_70 : (sv (sv (sv μ 111 8 3) 111 6 ((μ.1 111 6) + 1)) 111 13 x1).1 111 6 = (μ.1 111 6) + 1 := ((sv_n _ (by decide)).trans (sv_s _ _ _ _))
                        have e_71 : (sv (sv (sv μ 111 8 3) 111 6 ((μ.1 111 6) + 1)) 111 13 x1).1 111 8 = 3 := ((sv_n _ (by decide)).trans ((sv_n _ (by decide)).trans (sv_s _ _ _ _)))
                        have e_72 : wr (sv (sv (sv μ 111 8 3) 111 6 ((μ.1 111 6) + 1)) 111 13 x1) = wr μ := ((wr_cg (sv_n _ (by decide))).trans ((wr_cg (sv_n _ (by decide))).trans (wr_cg (sv_n _ (by decide)))))
                        have e_73 : bd (sv (sv (sv μ 111 8 3) 111 6 ((μ.1 111 6) + 1)) 111 13 x1) = bd μ := ((bd_cg (sv_n _ (by decide)) (sv_n _ (by decide)) (sv_n _ (by decide))).trans ((bd_cg (sv_n _ (by decide)) (sv_n _ (by decide)) (sv_n _ (by decide))).trans (bd_cg (sv_n _ (by decide)) (sv_n _ (by decide)) (sv_n _ (by decide)))))
                        have e_74 : wr (sv (sv (sv μ 111 8 3) 111 6 ((μ.1 111 6) + 1)) 111 13 x1) = wr μ := ((wr_cg (sv_n _ (by decide))).trans ((wr_cg (sv_n _ (by decide))).trans (wr_cg (sv_n _ (by decide)))))
                        have e_75 : nn (sv (sv (sv μ 111 8 3) 111 6 ((μ.1 111 6) + 1)) 111 13 x1) = nn μ := ((nn_cg (sv_n _ (by decide)) (sv_n _ (by decide))).trans ((nn_cg (sv_n _ (by decide)) (sv_n _ (by decide))).trans (nn_cg (sv_n _ (by decide)) (sv_n _ (by decide)))))
                        exact xr_v G hret hlk dX12_signs_206 ⟨(FrM.put (FrM.put (FrM.put FrM.rf (by decide)) (by decide)) (by decide)), (fun j hj => ((sv_n _ (fun h9 => hj (by rw [h9.2]; decide))).trans ((sv_n _ (fun h9 => hj (by rw [h9.2]; decide))).trans (sv_n _ (fun h9 => hj (by rw [h9.2]; decide)))))), (by omega), (by omega), (by omega), (by omega)⟩
                      · refine lv_iload_n hx hb dX12_signs_128 rfl (lv_at hl 2 rfl) ?_
                        refine lv_bipush (v := iv 38) hx hb dX12_signs_129 rfl ?_
                        refine xb_icmp_eq (tgt := 188) hx hb (by unfold ir; omega) (by unfold ir; omega) dX12_signs_131 (by decide) (fun c_131 => ?_) (fun c_131 => ?_)
                        · refine lv_iconst (v := iv 1) hx hb dX12_signs_188 rfl ?_
                          refine lv_goto (tgt := 193) hx hb dX12_signs_189 (by decide) ?_
                          refine lv_istore_n (lv' := [(3, .int (iv 1)), (2, .int (iv r_9)), (0, .ref (oP ω 111)), (1, .int (iv x1))]) hx hb dX12_signs_193 rfl hl (by decide) rfl (fun ls hl => ?_)
                          refine lv_iload_n hx hb dX12_signs_194 rfl (lv_at hl 0 rfl) ?_
                          refine xb_if_ne (tgt := 206) hx hb (x := 1) (by unfold ir; omega) dX12_signs_195 (by decide) (fun c_195 => ?_) (fun c_195 => absurd c_195 (by decide))
                          have e_76 : (sv (sv (sv μ 111 8 3) 111 6 ((μ.1 111 6) + 1)) 111 13 x1).1 111 6 = (μ.1 111 6) + 1 := ((sv_n _ (by decide)).trans (sv_s _ _ _ _))
                          have e_77 : (sv (sv (sv μ 111 8 3) 111 6 ((μ.1 111 6) + 1)) 111 13 x1).1 111 6 = (μ.1 111 6) + 1 := ((sv_n _ (by decide)).trans (sv_s _ _ _ _))
                          have e_78 : (sv (sv (sv μ 111 8 3) 111 6 ((μ.1 111 6) + 1)) 111 13 x1).1 111 8 = 3 := ((sv_n _ (by decide)).trans ((sv_n _ (by decide)).trans (sv_s _ _ _ _)))
                          have e_79 : wr (sv (sv (sv μ 111 8 3) 111 6 ((μ.1 111 6) + 1)) 111 13 x1) = wr μ := ((wr_cg (sv_n _ (by decide))).trans ((wr_cg (sv_n _ (by decide))).trans (wr_cg (sv_n _ (by decide)))))
                          have e_80 : bd (sv (sv (sv μ 111 8 3) 111 6 ((μ.1 111 6) + 1)) 111 13 x1) = bd μ := ((bd_cg (sv_n _ (by decide)) (sv_n _ (by decide)) (sv_n _ (by decide))).trans ((bd_cg (sv_n _ (by decide)) (sv_n _ (by decide)) (sv_n _ (by decide))).trans (bd_cg (sv_n _ (by decide)) (sv_n _ (by decide)) (sv_n _ (by decide)))))
                          have e_81 : wr (sv (sv (sv μ 111 8 3) 111 6 ((μ.1 111 6) + 1)) 111 13 x1) = wr μ := ((wr_cg (sv_n _ (by decide))).trans ((wr_cg (sv_n _ (by decide))).trans (wr_cg (sv_n _ (by decide)))))
                          have e_82 : nn (sv (sv (sv μ 111 8 3) 111 6 ((μ.1 111 6) + 1)) 111 13 x1) = nn μ := ((nn_cg (sv_n _ (by decide)) (sv_n _ (by decide))).trans ((nn_cg (sv_n _ (by decide)) (sv_n _ (by decide))).trans (nn_cg (sv_n _ (by decide)) (sv_n _ (by decide)))))
                          exact xr_v G hret hlk dX12_signs_206 ⟨(FrM.put (FrM.put (FrM.put FrM.rf (by decide)) (by decide)) (by decide)), (fun j hj => ((sv_n _ (fun h9 => hj (by rw [h9.2]; decide))).trans ((sv_n _ (fun h9 => hj (by rw [h9.2]; decide))).trans (sv_n _ (fun h9 => hj (by rw [h9.2]; decide)))))), (by omega), (by omega), (by omega), (by omega)⟩
                        · refine lv_iload_n hx hb dX12_signs_134 rfl (lv_at hl 2 rfl) ?_
                          refine lv_bipush (v := iv 33) hx hb dX12_signs_135 rfl ?_
                          refine xb_icmp_eq (tgt := 188) hx hb (by unfold ir; omega) (by unfold ir; omega) dX12_signs_137 (by decide) (fun c_137 => ?_) (fun c_137 => ?_)
                          · refine lv_iconst (v := iv 1) hx hb dX12_signs_188 rfl ?_
                            refine lv_goto (tgt := 193) hx hb dX12_signs_189 (by decide) ?_
                            refine lv_istore_n (lv' := [(3, .int (iv 1)), (2, .int (iv r_9)), (0, .ref (oP ω 111)), (1, .int (iv x1))]) hx hb dX12_signs_193 rfl hl (by decide) rfl (fun ls hl => ?_)
                            refine lv_iload_n hx hb dX12_signs_194 rfl (lv_at hl 0 rfl) ?_
                            refine xb_if_ne (tgt := 206) hx hb (x := 1) (by unfold ir; omega) dX12_signs_195 (by decide) (fun c_195 => ?_) (fun c_195 => absurd c_195 (by decide))
                            have e_83 : (sv (sv (sv μ 111 8 3) 111 6 ((μ.1 111 6) + 1)) 111 13 x1).1 111 6 = (μ.1 111 6) + 1 := ((sv_n _ (by decide)).trans (sv_s _ _ _ _))
                            have e_84 : (sv (sv (sv μ 111 8 3) 111 6 ((μ.1 111 6) + 1)) 111 13 x1).1 111 6 = (μ.1 111 6) + 1 := ((sv_n _ (by decide)).trans (sv_s _ _ _ _))
                            have e_85 : (sv (sv (sv μ 111 8 3) 111 6 ((μ.1 111 6) + 1)) 111 13 x1).1 111 8 = 3 := ((sv_n _ (by decide)).trans ((sv_n _ (by decide)).trans (sv_s _ _ _ _)))
                            have e_86 : wr (sv (sv (sv μ 111 8 3) 111 6 ((μ.1 111 6) + 1)) 111 13 x1) = wr μ := ((wr_cg (sv_n _ (by decide))).trans ((wr_cg (sv_n _ (by decide))).trans (wr_cg (sv_n _ (by decide)))))
                            have e_87 : bd (sv (sv (sv μ 111 8 3) 111 6 ((μ.1 111 6) + 1)) 111 13 x1) = bd μ := ((bd_cg (sv_n _ (by decide)) (sv_n _ (by decide)) (sv_n _ (by decide))).trans ((bd_cg (sv_n _ (by decide)) (sv_n _ (by decide)) (sv_n _ (by decide))).trans (bd_cg (sv_n _ (by decide)) (sv_n _ (by decide)) (sv_n _ (by decide)))))
                            have e_88 : wr (sv (sv (sv μ 111 8 3) 111 6 ((μ.1 111 6) + 1)) 111 13 x1) = wr μ := ((wr_cg (sv_n _ (by decide))).trans ((wr_cg (sv_n _ (by decide))).trans (wr_cg (sv_n _ (by decide)))))
                            have e_89 : nn (sv (sv (sv μ 111 8 3) 111 6 ((μ.1 111 6) + 1)) 111 13 x1) = nn μ := ((nn_cg (sv_n _ (by decide)) (sv_n _ (by decide))).trans ((nn_cg (sv_n _ (by decide)) (sv_n _ (by decide))).trans (nn_cg (sv_n _ (by decide)) (sv_n _ (by decide)))))
                            exact xr_v G hret hlk dX12_signs_206 ⟨(FrM.put (FrM.put (FrM.put FrM.rf (by decide)) (by decide)) (by decide)), (fun j hj => ((sv_n _ (fun h9 => hj (by rw [h9.2]; decide))).trans ((sv_n _ (fun h9 => hj (by rw [h9.2]; decide))).trans (sv_n _ (fun h9 => hj (by rw [h9.2]; decide)))))), (by omega), (by omega), (by omega), (by omega)⟩
                          · refine lv_iload_n hx hb dX12_signs_140 rfl (lv_at hl 2 rfl) ?_
                            refine lv_bipush (v := iv 61) hx hb dX12_signs_141 rfl ?_
                            refine xb_icmp_eq (tgt := 188) hx hb (by unfold ir; omega) (by unfold ir; omega) dX12_signs_143 (by decide) (fun c_143 => ?_) (fun c_143 => ?_)
                            · refine lv_iconst (v := iv 1) hx hb dX12_signs_188 rfl ?_
                              refine lv_goto (tgt := 193) hx hb dX12_signs_189 (by decide) ?_
                              refine lv_istore_n (lv' := [(3, .int (iv 1)), (2, .int (iv r_9)), (0, .ref (oP ω 111)), (1, .int (iv x1))]) hx hb dX12_signs_193 rfl hl (by decide) rfl (fun ls hl => ?_)
                              refine lv_iload_n hx hb dX12_signs_194 rfl (lv_at hl 0 rfl) ?_
                              refine xb_if_ne (tgt := 206) hx hb (x := 1) (by unfold ir; omega) dX12_signs_195 (by decide) (fun c_195 => ?_) (fun c_195 => absurd c_195 (by decide))
                              have e_90 : (sv (sv (sv μ 111 8 3) 111 6 ((μ.1 111 6) + 1)) 111 13 x1).1 111 6 = (μ.1 111 6) + 1 := ((sv_n _ (by decide)).trans (sv_s _ _ _ _))
                              have e_91 : (sv (sv (sv μ 111 8 3) 111 6 ((μ.1 111 6) + 1)) 111 13 x1).1 111 6 = (μ.1 111 6) + 1 := ((sv_n _ (by decide)).trans (sv_s _ _ _ _))
                              have e_92 : (sv (sv (sv μ 111 8 3) 111 6 ((μ.1 111 6) + 1)) 111 13 x1).1 111 8 = 3 := ((sv_n _ (by decide)).trans ((sv_n _ (by decide)).trans (sv_s _ _ _ _)))
                              have e_93 : wr (sv (sv (sv μ 111 8 3) 111 6 ((μ.1 111 6) + 1)) 111 13 x1) = wr μ := ((wr_cg (sv_n _ (by decide))).trans ((wr_cg (sv_n _ (by decide))).trans (wr_cg (sv_n _ (by decide)))))
                              have e_94 : bd (sv (sv (sv μ 111 8 3) 111 6 ((μ.1 111 6) + 1)) 111 13 x1) = bd μ := ((bd_cg (sv_n _ (by decide)) (sv_n _ (by decide)) (sv_n _ (by decide))).trans ((bd_cg (sv_n _ (by decide)) (sv_n _ (by decide)) (sv_n _ (by decide))).trans (bd_cg (sv_n _ (by decide)) (sv_n _ (by decide)) (sv_n _ (by decide)))))
                              have e_95 : wr (sv (sv (sv μ 111 8 3) 111 6 ((μ.1 111 6) + 1)) 111 13 x1) = wr μ := ((wr_cg (sv_n _ (by decide))).trans ((wr_cg (sv_n _ (by decide))).trans (wr_cg (sv_n _ (by decide)))))
                              have e_96 : nn (sv (sv (sv μ 111 8 3) 111 6 ((μ.1 111 6) + 1)) 111 13 x1) = nn μ := ((nn_cg (sv_n _ (by decide)) (sv_n _ (by decide))).trans ((nn_cg (sv_n _ (by decide)) (sv_n _ (by decide))).trans (nn_cg (sv_n _ (by decide)) (sv_n _ (by decide)))))
                              exact xr_v G hret hlk dX12_signs_206 ⟨(FrM.put (FrM.put (FrM.put FrM.rf (by decide)) (by decide)) (by decide)), (fun j hj => ((sv_n _ (fun h9 => hj (by rw [h9.2]; decide))).trans ((sv_n _ (fun h9 => hj (by rw [h9.2]; decide))).trans (sv_n _ (fun h9 => hj (by rw [h9.2]; decide)))))), (by omega), (by omega), (by omega), (by omega)⟩
                            · refine lv_iload_n hx hb dX12_signs_146 rfl (lv_at hl 2 rfl) ?_
                              refine lv_bipush (v := iv 60) hx hb dX12_signs_147 rfl ?_
                              refine xb_icmp_eq (tgt := 188) hx hb (by unfold ir; omega) (by unfold ir; omega) dX12_signs_149 (by decide) (fun c_149 => ?_) (fun c_149 => ?_)
                              · refine lv_iconst (v := iv 1) hx hb dX12_signs_188 rfl ?_
                                refine lv_goto (tgt := 193) hx hb dX12_signs_189 (by decide) ?_
                                refine lv_istore_n (lv' := [(3, .int (iv 1)), (2, .int (iv r_9)), (0, .ref (oP ω 111)), (1, .int (iv x1))]) hx hb dX12_signs_193 rfl hl (by decide) rfl (fun ls hl => ?_)
                                refine lv_iload_n hx hb dX12_signs_194 rfl (lv_at hl 0 rfl) ?_
                                refine xb_if_ne (tgt := 206) hx hb (x := 1) (by unfold ir; omega) dX12_signs_195 (by decide) (fun c_195 => ?_) (fun c_195 => absurd c_195 (by decide))
                                have e_97 : (sv (sv (sv μ 111 8 3) 111 6 ((μ.1 111 6) + 1)) 111 13 x1).1 111 6 = (μ.1 111 6) + 1 := ((sv_n _ (by decide)).trans (sv_s _ _ _ _))
                                have e_98 : (sv (sv (sv μ 111 8 3) 111 6 ((μ.1 111 6) + 1)) 111 13 x1).1 111 6 = (μ.1 111 6) + 1 := ((sv_n _ (by decide)).trans (sv_s _ _ _ _))
                                have e_99 : (sv (sv (sv μ 111 8 3) 111 6 ((μ.1 111 6) + 1)) 111 13 x1).1 111 8 = 3 := ((sv_n _ (by decide)).trans ((sv_n _ (by decide)).trans (sv_s _ _ _ _)))
                                have e_100 : wr (sv (sv (sv μ 111 8 3) 111 6 ((μ.1 111 6) + 1)) 111 13 x1) = wr μ := ((wr_cg (sv_n _ (by decide))).trans ((wr_cg (sv_n _ (by decide))).trans (wr_cg (sv_n _ (by decide)))))
                                have e_101 : bd (sv (sv (sv μ 111 8 3) 111 6 ((μ.1 111 6) + 1)) 111 13 x1) = bd μ := ((bd_cg (sv_n _ (by decide)) (sv_n _ (by decide)) (sv_n _ (by decide))).trans ((bd_cg (sv_n _ (by decide)) (sv_n _ (by decide)) (sv_n _ (by decide))).trans (bd_cg (sv_n _ (by decide)) (sv_n _ (by decide)) (sv_n _ (by decide)))))
                                have e_102 : wr (sv (sv (sv μ 111 8 3) 111 6 ((μ.1 111 6) + 1)) 111 13 x1) = wr μ := ((wr_cg (sv_n _ (by decide))).trans ((wr_cg (sv_n _ (by decide))).trans (wr_cg (sv_n _ (by decide)))))
                                have e_103 : nn (sv (sv (sv μ 111 8 3) 111 6 ((μ.1 111 6) + 1)) 111 13 x1) = nn μ := ((nn_cg (sv_n _ (by decide)) (sv_n _ (by decide))).trans ((nn_cg (sv_n _ (by decide)) (sv_n _ (by decide))).trans (nn_cg (sv_n _ (by decide)) (sv_n _ (by decide)))))
                                exact xr_v G hret hlk dX12_signs_206 ⟨(FrM.put (FrM.put (FrM.put FrM.rf (by decide)) (by decide)) (by decide)), (fun j hj => ((sv_n _ (fun h9 => hj (by rw [h9.2]; decide))).trans ((sv_n _ (fun h9 => hj (by rw [h9.2]; decide))).trans (sv_n _ (fun h9 => hj (by rw [h9.2]; decide)))))), (by omega), (by omega), (by omega), (by omega)⟩
                              · refine lv_iload_n hx hb dX12_signs_152 rfl (lv_at hl 2 rfl) ?_
                                refine lv_bipush (v := iv 62) hx hb dX12_signs_153 rfl ?_
                                refine xb_icmp_eq (tgt := 188) hx hb (by unfold ir; omega) (by unfold ir; omega) dX12_signs_155 (by decide) (fun c_155 => ?_) (fun c_155 => ?_)
                                · refine lv_iconst (v := iv 1) hx hb dX12_signs_188 rfl ?_
                                  refine lv_goto (tgt := 193) hx hb dX12_signs_189 (by decide) ?_
                                  refine lv_istore_n (lv' := [(3, .int (iv 1)), (2, .int (iv r_9)), (0, .ref (oP ω 111)), (1, .int (iv x1))]) hx hb dX12_signs_193 rfl hl (by decide) rfl (fun ls hl => ?_)
                                  refine lv_iload_n hx hb dX12_signs_194 rfl (lv_at hl 0 rfl) ?_
                                  refine xb_if_ne (tgt := 206) hx hb (x := 1) (by unfold ir; omega) dX12_signs_195 (by decide) (fun c_195 => ?_) (fun c_195 => absurd c_195 (by decide))
                                  have e_104 : (sv (sv (sv μ 111 8 3) 111 6 ((μ.1 111 6) + 1)) 111 13 x1).1 111 6 = (μ.1 111 6) + 1 := ((sv_n _ (by decide)).trans (sv_s _ _ _ _))
                                  have e_105 : (sv (sv (sv μ 111 8 3) 111 6 ((μ.1 111 6) + 1)) 111 13 x1).1 111 6 = (μ.1 111 6) + 1 := ((sv_n _ (by decide)).trans (sv_s _ _ _ _))
                                  have e_106 : (sv (sv (sv μ 111 8 3) 111 6 ((μ.1 111 6) + 1)) 111 13 x1).1 111 8 = 3 := ((sv_n _ (by decide)).trans ((sv_n _ (by decide)).trans (sv_s _ _ _ _)))
                                  have e_107 : wr (sv (sv (sv μ 111 8 3) 111 6 ((μ.1 111 6) + 1)) 111 13 x1) = wr μ := ((wr_cg (sv_n _ (by decide))).trans ((wr_cg (sv_n _ (by decide))).trans (wr_cg (sv_n _ (by decide)))))
                                  have e_108 : bd (sv (sv (sv μ 111 8 3) 111 6 ((μ.1 111 6) + 1)) 111 13 x1) = bd μ := ((bd_cg (sv_n _ (by decide)) (sv_n _ (by decide)) (sv_n _ (by decide))).trans ((bd_cg (sv_n _ (by decide)) (sv_n _ (by decide)) (sv_n _ (by decide))).trans (bd_cg (sv_n _ (by decide)) (sv_n _ (by decide)) (sv_n _ (by decide)))))
                                  have e_109 : wr (sv (sv (sv μ 111 8 3) 111 6 ((μ.1 111 6) + 1)) 111 13 x1) = wr μ := ((wr_cg (sv_n _ (by decide))).trans ((wr_cg (sv_n _ (by decide))).trans (wr_cg (sv_n _ (by decide)))))
                                  have e_110 : nn (sv (sv (sv μ 111 8 3) 111 6 ((μ.1 111 6) + 1)) 111 13 x1) = nn μ := ((nn_cg (sv_n _ (by decide)) (sv_n _ (by decide))).trans ((nn_cg (sv_n _ (by decide)) (sv_n _ (by decide))).trans (nn_cg (sv_n _ (by decide)) (sv_n _ (by decide)))))
                                  exact xr_v G hret hlk dX12_signs_206 ⟨(FrM.put (FrM.put (FrM.put FrM.rf (by decide)) (by decide)) (by decide)), (fun j hj => ((sv_n _ (fun h9 => hj (by rw [h9.2]; decide))).trans ((sv_n _ (fun h9 => hj (by rw [h9.2]; decide))).trans (sv_n _ (fun h9 => hj (by rw [h9.2]; decide)))))), (by omega), (by omega), (by omega), (by omega)⟩
                                · refine lv_iload_n hx hb dX12_signs_158 rfl (lv_at hl 2 rfl) ?_
                                  refine lv_bipush (v := iv 43) hx hb dX12_signs_159 rfl ?_
                                  refine xb_icmp_eq (tgt := 188) hx hb (by unfold ir; omega) (by unfold ir; omega) dX12_signs_161 (by decide) (fun c_161 => ?_) (fun c_161 => ?_)
                                  · refine lv_iconst (v := iv 1) hx hb dX12_signs_188 rfl ?_
                                    refine lv_goto (tgt := 193) hx hb dX12_signs_189 (by decide) ?_
                                    refine lv_istore_n (lv' := [(3, .int (iv 1)), (2, .int (iv r_9)), (0, .ref (oP ω 111)), (1, .int (iv x1))]) hx hb dX12_signs_193 rfl hl (by decide) rfl (fun ls hl => ?_)
                                    refine lv_iload_n hx hb dX12_signs_194 rfl (lv_at hl 0 rfl) ?_
                                    refine xb_if_ne (tgt := 206) hx hb (x := 1) (by unfold ir; omega) dX12_signs_195 (by decide) (fun c_195 => ?_) (fun c_195 => absurd c_195 (by decide))
                                    have e_111 : (sv (sv (sv μ 111 8 3) 111 6 ((μ.1 111 6) + 1)) 111 13 x1).1 111 6 = (μ.1 111 6) + 1 := ((sv_n _ (by decide)).trans (sv_s _ _ _ _))
                                    have e_112 : (sv (sv (sv μ 111 8 3) 111 6 ((μ.1 111 6) + 1)) 111 13 x1).1 111 6 = (μ.1 111 6) + 1 := ((sv_n _ (by decide)).trans (sv_s _ _ _ _))
                                    have e_113 : (sv (sv (sv μ 111 8 3) 111 6 ((μ.1 111 6) + 1)) 111 13 x1).1 111 8 = 3 := ((sv_n _ (by decide)).trans ((sv_n _ (by decide)).trans (sv_s _ _ _ _)))
                                    have e_114 : wr (sv (sv (sv μ 111 8 3) 111 6 ((μ.1 111 6) + 1)) 111 13 x1) = wr μ := ((wr_cg (sv_n _ (by decide))).trans ((wr_cg (sv_n _ (by decide))).trans (wr_cg (sv_n _ (by decide)))))
                                    have e_115 : bd (sv (sv (sv μ 111 8 3) 111 6 ((μ.1 111 6) + 1)) 111 13 x1) = bd μ := ((bd_cg (sv_n _ (by decide)) (sv_n _ (by decide)) (sv_n _ (by decide))).trans ((bd_cg (sv_n _ (by decide)) (sv_n _ (by decide)) (sv_n _ (by decide))).trans (bd_cg (sv_n _ (by decide)) (sv_n _ (by decide)) (sv_n _ (by decide)))))
                                    have e_116 : wr (sv (sv (sv μ 111 8 3) 111 6 ((μ.1 111 6) + 1)) 111 13 x1) = wr μ := ((wr_cg (sv_n _ (by decide))).trans ((wr_cg (sv_n _ (by decide))).trans (wr_cg (sv_n _ (by decide)))))
                                    have e_117 : nn (sv (sv (sv μ 111 8 3) 111 6 ((μ.1 111 6) + 1)) 111 13 x1) = nn μ := ((nn_cg (sv_n _ (by decide)) (sv_n _ (by decide))).trans ((nn_cg (sv_n _ (by decide)) (sv_n _ (by decide))).trans (nn_cg (sv_n _ (by decide)) (sv_n _ (by decide)))))
                                    exact xr_v G hret hlk dX12_signs_206 ⟨(FrM.put (FrM.put (FrM.put FrM.rf (by decide)) (by decide)) (by decide)), (fun j hj => ((sv_n _ (fun h9 => hj (by rw [h9.2]; decide))).trans ((sv_n _ (fun h9 => hj (by rw [h9.2]; decide))).trans (sv_n _ (fun h9 => hj (by rw [h9.2]; decide)))))), (by omega), (by omega), (by omega), (by omega)⟩
                                  · refine lv_iload_n hx hb dX12_signs_164 rfl (lv_at hl 2 rfl) ?_
                                    refine lv_bipush (v := iv 45) hx hb dX12_signs_165 rfl ?_
                                    refine xb_icmp_eq (tgt := 188) hx hb (by unfold ir; omega) (by unfold ir; omega) dX12_signs_167 (by decide) (fun c_167 => ?_) (fun c_167 => ?_)
                                    · refine lv_iconst (v := iv 1) hx hb dX12_signs_188 rfl ?_
                                      refine lv_goto (tgt := 193) hx hb dX12_signs_189 (by decide) ?_
                                      refine lv_istore_n (lv' := [(3, .int (iv 1)), (2, .int (iv r_9)), (0, .ref (oP ω 111)), (1, .int (iv x1))]) hx hb dX12_signs_193 rfl hl (by decide) rfl (fun ls hl => ?_)
                                      refine lv_iload_n hx hb dX12_signs_194 rfl (lv_at hl 0 rfl) ?_
                                      refine xb_if_ne (tgt := 206) hx hb (x := 1) (by unfold ir; omega) dX12_signs_195 (by decide) (fun c_195 => ?_) (fun c_195 => absurd c_195 (by decide))
                                      have e_118 : (sv (sv (sv μ 111 8 3) 111 6 ((μ.1 111 6) + 1)) 111 13 x1).1 111 6 = (μ.1 111 6) + 1 := ((sv_n _ (by decide)).trans (sv_s _ _ _ _))
                                      have e_119 : (sv (sv (sv μ 111 8 3) 111 6 ((μ.1 111 6) + 1)) 111 13 x1).1 111 6 = (μ.1 111 6) + 1 := ((sv_n _ (by decide)).trans (sv_s _ _ _ _))
                                      have e_120 : (sv (sv (sv μ 111 8 3) 111 6 ((μ.1 111 6) + 1)) 111 13 x1).1 111 8 = 3 := ((sv_n _ (by decide)).trans ((sv_n _ (by decide)).trans (sv_s _ _ _ _)))
                                      have e_121 : wr (sv (sv (sv μ 111 8 3) 111 6 ((μ.1 111 6) + 1)) 111 13 x1) = wr μ := ((wr_cg (sv_n _ (by decide))).trans ((wr_cg (sv_n _ (by decide))).trans (wr_cg (sv_n _ (by decide)))))
                                      have e_122 : bd (sv (sv (sv μ 111 8 3) 111 6 ((μ.1 111 6) + 1)) 111 13 x1) = bd μ := ((bd_cg (sv_n _ (by decide)) (sv_n _ (by decide)) (sv_n _ (by decide))).trans ((bd_cg (sv_n _ (by decide)) (sv_n _ (by decide)) (sv_n _ (by decide))).trans (bd_cg (sv_n _ (by decide)) (sv_n _ (by decide)) (sv_n _ (by decide)))))
                                      have e_123 : wr (sv (sv (sv μ 111 8 3) 111 6 ((μ.1 111 6) + 1)) 111 13 x1) = wr μ := ((wr_cg (sv_n _ (by decide))).trans ((wr_cg (sv_n _ (by decide))).trans (wr_cg (sv_n _ (by decide)))))
                                      have e_124 : nn (sv (sv (sv μ 111 8 3) 111 6 ((μ.1 111 6) + 1)) 111 13 x1) = nn μ := ((nn_cg (sv_n _ (by decide)) (sv_n _ (by decide))).trans ((nn_cg (sv_n _ (by decide)) (sv_n _ (by decide))).trans (nn_cg (sv_n _ (by decide)) (sv_n _ (by decide)))))
                                      exact xr_v G hret hlk dX12_signs_206 ⟨(FrM.put (FrM.put (FrM.put FrM.rf (by decide)) (by decide)) (by decide)), (fun j hj => ((sv_n _ (fun h9 => hj (by rw [h9.2]; decide))).trans ((sv_n _ (fun h9 => hj (by rw [h9.2]; decide))).trans (sv_n _ (fun h9 => hj (by rw [h9.2]; decide)))))), (by omega), (by omega), (by omega), (by omega)⟩
                                    · refine lv_iload_n hx hb dX12_signs_170 rfl (lv_at hl 2 rfl) ?_
                                      refine lv_bipush (v := iv 42) hx hb dX12_signs_171 rfl ?_
                                      refine xb_icmp_eq (tgt := 188) hx hb (by unfold ir; omega) (by unfold ir; omega) dX12_signs_173 (by decide) (fun c_173 => ?_) (fun c_173 => ?_)
                                      · refine lv_iconst (v := iv 1) hx hb dX12_signs_188 rfl ?_
                                        refine lv_goto (tgt := 193) hx hb dX12_signs_189 (by decide) ?_
                                        refine lv_istore_n (lv' := [(3, .int (iv 1)), (2, .int (iv r_9)), (0, .ref (oP ω 111)), (1, .int (iv x1))]) hx hb dX12_signs_193 rfl hl (by decide) rfl (fun ls hl => ?_)
                                        refine lv_iload_n hx hb dX12_signs_194 rfl (lv_at hl 0 rfl) ?_
                                        refine xb_if_ne (tgt := 206) hx hb (x := 1) (by unfold ir; omega) dX12_signs_195 (by decide) (fun c_195 => ?_) (fun c_195 => absurd c_195 (by decide))
                                        have e_125 : (sv (sv (sv μ 111 8 3) 111 6 ((μ.1 111 6) + 1)) 111 13 x1).1 111 6 = (μ.1 111 6) + 1 := ((sv_n _ (by decide)).trans (sv_s _ _ _ _))
                                        have e_126 : (sv (sv (sv μ 111 8 3) 111 6 ((μ.1 111 6) + 1)) 111 13 x1).1 111 6 = (μ.1 111 6) + 1 := ((sv_n _ (by decide)).trans (sv_s _ _ _ _))
                                        have e_127 : (sv (sv (sv μ 111 8 3) 111 6 ((μ.1 111 6) + 1)) 111 13 x1).1 111 8 = 3 := ((sv_n _ (by decide)).trans ((sv_n _ (by decide)).trans (sv_s _ _ _ _)))
                                        have e_128 : wr (sv (sv (sv μ 111 8 3) 111 6 ((μ.1 111 6) + 1)) 111 13 x1) = wr μ := ((wr_cg (sv_n _ (by decide))).trans ((wr_cg (sv_n _ (by decide))).trans (wr_cg (sv_n _ (by decide)))))
                                        have e_129 : bd (sv (sv (sv μ 111 8 3) 111 6 ((μ.1 111 6) + 1)) 111 13 x1) = bd μ := ((bd_cg (sv_n _ (by decide)) (sv_n _ (by decide)) (sv_n _ (by decide))).trans ((bd_cg (sv_n _ (by decide)) (sv_n _ (by decide)) (sv_n _ (by decide))).trans (bd_cg (sv_n _ (by decide)) (sv_n _ (by decide)) (sv_n _ (by decide)))))
                                        have e_130 : wr (sv (sv (sv μ 111 8 3) 111 6 ((μ.1 111 6) + 1)) 111 13 x1) = wr μ := ((wr_cg (sv_n _ (by decide))).trans ((wr_cg (sv_n _ (by decide))).trans (wr_cg (sv_n _ (by decide)))))
                                        have e_131 : nn (sv (sv (sv μ 111 8 3) 111 6 ((μ.1 111 6) + 1)) 111 13 x1) = nn μ := ((nn_cg (sv_n _ (by decide)) (sv_n _ (by decide))).trans ((nn_cg (sv_n _ (by decide)) (sv_n _ (by decide))).trans (nn_cg (sv_n _ (by decide)) (sv_n _ (by decide)))))
                                        exact xr_v G hret hlk dX12_signs_206 ⟨(FrM.put (FrM.put (FrM.put FrM.rf (by decide)) (by decide)) (by decide)), (fun j hj => ((sv_n _ (fun h9 => hj (by rw [h9.2]; decide))).trans ((sv_n _ (fun h9 => hj (by rw [h9.2]; decide))).trans (sv_n _ (fun h9 => hj (by rw [h9.2]; decide)))))), (by omega), (by omega), (by omega), (by omega)⟩
                                      · refine lv_iload_n hx hb dX12_signs_176 rfl (lv_at hl 2 rfl) ?_
                                        refine lv_bipush (v := iv 47) hx hb dX12_signs_177 rfl ?_
                                        refine xb_icmp_eq (tgt := 188) hx hb (by unfold ir; omega) (by unfold ir; omega) dX12_signs_179 (by decide) (fun c_179 => ?_) (fun c_179 => ?_)
                                        · refine lv_iconst (v := iv 1) hx hb dX12_signs_188 rfl ?_
                                          refine lv_goto (tgt := 193) hx hb dX12_signs_189 (by decide) ?_
                                          refine lv_istore_n (lv' := [(3, .int (iv 1)), (2, .int (iv r_9)), (0, .ref (oP ω 111)), (1, .int (iv x1))]) hx hb dX12_signs_193 rfl hl (by decide) rfl (fun ls hl => ?_)
                                          refine lv_iload_n hx hb dX12_signs_194 rfl (lv_at hl 0 rfl) ?_
                                          refine xb_if_ne (tgt := 206) hx hb (x := 1) (by unfold ir; omega) dX12_signs_195 (by decide) (fun c_195 => ?_) (fun c_195 => absurd c_195 (by decide))
                                          have e_132 : (sv (sv (sv μ 111 8 3) 111 6 ((μ.1 111 6) + 1)) 111 13 x1).1 111 6 = (μ.1 111 6) + 1 := ((sv_n _ (by decide)).trans (sv_s _ _ _ _))
                                          have e_133 : (sv (sv (sv μ 111 8 3) 111 6 ((μ.1 111 6) + 1)) 111 13 x1).1 111 6 = (μ.1 111 6) + 1 := ((sv_n _ (by decide)).trans (sv_s _ _ _ _))
                                          have e_134 : (sv (sv (sv μ 111 8 3) 111 6 ((μ.1 111 6) + 1)) 111 13 x1).1 111 8 = 3 := ((sv_n _ (by decide)).trans ((sv_n _ (by decide)).trans (sv_s _ _ _ _)))
                                          have e_135 : wr (sv (sv (sv μ 111 8 3) 111 6 ((μ.1 111 6) + 1)) 111 13 x1) = wr μ := ((wr_cg (sv_n _ (by decide))).trans ((wr_cg (sv_n _ (by decide))).trans (wr_cg (sv_n _ (by decide)))))
                                          have e_136 : bd (sv (sv (sv μ 111 8 3) 111 6 ((μ.1 111 6) + 1)) 111 13 x1) = bd μ := ((bd_cg (sv_n _ (by decide)) (sv_n _ (by decide)) (sv_n _ (by decide))).trans ((bd_cg (sv_n _ (by decide)) (sv_n _ (by decide)) (sv_n _ (by decide))).trans (bd_cg (sv_n _ (by decide)) (sv_n _ (by decide)) (sv_n _ (by decide)))))
                                          have e_137 : wr (sv (sv (sv μ 111 8 3) 111 6 ((μ.1 111 6) + 1)) 111 13 x1) = wr μ := ((wr_cg (sv_n _ (by decide))).trans ((wr_cg (sv_n _ (by decide))).trans (wr_cg (sv_n _ (by decide)))))
                                          have e_138 : nn (sv (sv (sv μ 111 8 3) 111 6 ((μ.1 111 6) + 1)) 111 13 x1) = nn μ := ((nn_cg (sv_n _ (by decide)) (sv_n _ (by decide))).trans ((nn_cg (sv_n _ (by decide)) (sv_n _ (by decide))).trans (nn_cg (sv_n _ (by decide)) (sv_n _ (by decide)))))
                                          exact xr_v G hret hlk dX12_signs_206 ⟨(FrM.put (FrM.put (FrM.put FrM.rf (by decide)) (by decide)) (by decide)), (fun j hj => ((sv_n _ (fun h9 => hj (by rw [h9.2]; decide))).trans ((sv_n _ (fun h9 => hj (by rw [h9.2]; decide))).trans (sv_n _ (fun h9 => hj (by rw [h9.2]; decide)))))), (by omega), (by omega), (by omega), (by omega)⟩
                                        · refine lv_iload_n hx hb dX12_signs_182 rfl (lv_at hl 2 rfl) ?_
                                          refine lv_bipush (v := iv 37) hx hb dX12_signs_183 rfl ?_
                                          refine xb_icmp_ne (tgt := 192) hx hb (by unfold ir; omega) (by unfold ir; omega) dX12_signs_185 (by decide) (fun c_185 => ?_) (fun c_185 => ?_)
                                          · refine lv_iconst (v := iv 0) hx hb dX12_signs_192 rfl ?_
                                            refine lv_istore_n (lv' := [(3, .int (iv 0)), (2, .int (iv r_9)), (0, .ref (oP ω 111)), (1, .int (iv x1))]) hx hb dX12_signs_193 rfl hl (by decide) rfl (fun ls hl => ?_)
                                            refine lv_iload_n hx hb dX12_signs_194 rfl (lv_at hl 0 rfl) ?_
                                            refine xb_if_ne (tgt := 206) hx hb (x := 0) (by unfold ir; omega) dX12_signs_195 (by decide) (fun c_195 => absurd c_195 (by decide)) (fun c_195 => ?_)
                                            refine lv_aload_n hx hb dX12_signs_198 rfl (lv_at hl 2 rfl) ?_
                                            refine lv_aload_n hx hb dX12_signs_199 rfl (lv_at hl 2 rfl) ?_
                                            refine xa_geti G fd_X12 (a := 111) (x := μ.1 111 9) 9 rfl (by decide) rfl (wm 7 158 rfl rfl) ⟨rfl, rfl, rfl⟩ dX12_signs_200 rfl ((sv_n _ (by decide)).trans ((sv_n _ (by decide)).trans (sv_n _ (by decide)))) ?_
                                            have hr_139 : -2147483648 ≤ μ.1 111 9 ∧ μ.1 111 9 ≤ 2147483647 := by have h9 := G.hr (a := 111) (k := 9) rfl; rw [show (sv (sv (sv μ 111 8 3) 111 6 ((μ.1 111 6) + 1)) 111 13 x1).1 111 9 = μ.1 111 9 from ((sv_n _ (by decide)).trans ((sv_n _ (by decide)).trans (sv_n _ (by decide))))] at h9; exact h9
                                            have e_140 : (sv (sv (sv μ 111 8 3) 111 6 ((μ.1 111 6) + 1)) 111 13 x1).1 111 9 = μ.1 111 9 := ((sv_n _ (by decide)).trans ((sv_n _ (by decide)).trans (sv_n _ (by decide))))
                                            refine xc_vV G (b := 111) (rest := []) (As := [.int (iv (μ.1 111 9))]) (c_X12_wrong ω l (sv (sv (sv μ 111 8 3) 111 6 ((μ.1 111 6) + 1)) 111 13 x1) (μ.1 111 9) (by unfold ir; omega) (by omega)) (wm 9 22 rfl rfl) (wm 9 24 rfl rfl) (wm 0 123 rfl rfl) rfl rfl (by decide) rfl (wm 1 18 rfl rfl) (wm 9 25 rfl rfl) (by decide) hR (by decide) (n := 1) rfl rfl (Nat.le_of_ble_eq_true rfl) hl.1 dX12_signs_203 (fun μ141 ρ d0 H locs hp G => ?_)
                                            obtain ⟨F_142, hp_143, hp_144⟩ := hp
                                            have hw_145 := wr_r (μ := μ141)
                                            have e_146 : μ141.1 111 6 = (μ.1 111 6) + 1 := ((hp_143 6 (by decide)).trans ((sv_n _ (by decide)).trans (sv_s _ _ _ _)))
                                            have e_147 : μ141.1 111 6 = (μ.1 111 6) + 1 := ((hp_143 6 (by decide)).trans ((sv_n _ (by decide)).trans (sv_s _ _ _ _)))
                                            have e_148 : μ141.1 111 8 = 3 := ((hp_143 8 (by decide)).trans ((sv_n _ (by decide)).trans ((sv_n _ (by decide)).trans (sv_s _ _ _ _))))
                                            exact xr_v G hret hlk dX12_signs_206 ⟨(FrM.tr (FrM.put (FrM.put (FrM.put FrM.rf (by decide)) (by decide)) (by decide)) F_142 (by decide)), (fun j hj => ((hp_143 j (fun h9 => hj ((by decide : ∀ x ∈ ([15] : List Int), x ∈ ([6, 8, 13, 15] : List Int)) j h9))).trans ((sv_n _ (fun h9 => hj (by rw [h9.2]; decide))).trans ((sv_n _ (fun h9 => hj (by rw [h9.2]; decide))).trans (sv_n _ (fun h9 => hj (by rw [h9.2]; decide))))))), (by omega), (by omega), (by omega), (by omega)⟩
                                          · refine lv_iconst (v := iv 1) hx hb dX12_signs_188 rfl ?_
                                            refine lv_goto (tgt := 193) hx hb dX12_signs_189 (by decide) ?_
                                            refine lv_istore_n (lv' := [(3, .int (iv 1)), (2, .int (iv r_9)), (0, .ref (oP ω 111)), (1, .int (iv x1))]) hx hb dX12_signs_193 rfl hl (by decide) rfl (fun ls hl => ?_)
                                            refine lv_iload_n hx hb dX12_signs_194 rfl (lv_at hl 0 rfl) ?_
                                            refine xb_if_ne (tgt := 206) hx hb (x := 1) (by unfold ir; omega) dX12_signs_195 (by decide) (fun c_195 => ?_) (fun c_195 => absurd c_195 (by decide))
                                            have e_149 : (sv (sv (sv μ 111 8 3) 111 6 ((μ.1 111 6) + 1)) 111 13 x1).1 111 6 = (μ.1 111 6) + 1 := ((sv_n _ (by decide)).trans (sv_s _ _ _ _))
                                            have e_150 : (sv (sv (sv μ 111 8 3) 111 6 ((μ.1 111 6) + 1)) 111 13 x1).1 111 6 = (μ.1 111 6) + 1 := ((sv_n _ (by decide)).trans (sv_s _ _ _ _))
                                            have e_151 : (sv (sv (sv μ 111 8 3) 111 6 ((μ.1 111 6) + 1)) 111 13 x1).1 111 8 = 3 := ((sv_n _ (by decide)).trans ((sv_n _ (by decide)).trans (sv_s _ _ _ _)))
                                            have e_152 : wr (sv (sv (sv μ 111 8 3) 111 6 ((μ.1 111 6) + 1)) 111 13 x1) = wr μ := ((wr_cg (sv_n _ (by decide))).trans ((wr_cg (sv_n _ (by decide))).trans (wr_cg (sv_n _ (by decide)))))
                                            have e_153 : bd (sv (sv (sv μ 111 8 3) 111 6 ((μ.1 111 6) + 1)) 111 13 x1) = bd μ := ((bd_cg (sv_n _ (by decide)) (sv_n _ (by decide)) (sv_n _ (by decide))).trans ((bd_cg (sv_n _ (by decide)) (sv_n _ (by decide)) (sv_n _ (by decide))).trans (bd_cg (sv_n _ (by decide)) (sv_n _ (by decide)) (sv_n _ (by decide)))))
                                            have e_154 : wr (sv (sv (sv μ 111 8 3) 111 6 ((μ.1 111 6) + 1)) 111 13 x1) = wr μ := ((wr_cg (sv_n _ (by decide))).trans ((wr_cg (sv_n _ (by decide))).trans (wr_cg (sv_n _ (by decide)))))
                                            have e_155 : nn (sv (sv (sv μ 111 8 3) 111 6 ((μ.1 111 6) + 1)) 111 13 x1) = nn μ := ((nn_cg (sv_n _ (by decide)) (sv_n _ (by decide))).trans ((nn_cg (sv_n _ (by decide)) (sv_n _ (by decide))).trans (nn_cg (sv_n _ (by decide)) (sv_n _ (by decide)))))
                                            exact xr_v G hret hlk dX12_signs_206 ⟨(FrM.put (FrM.put (FrM.put FrM.rf (by decide)) (by decide)) (by decide)), (fun j hj => ((sv_n _ (fun h9 => hj (by rw [h9.2]; decide))).trans ((sv_n _ (fun h9 => hj (by rw [h9.2]; decide))).trans (sv_n _ (fun h9 => hj (by rw [h9.2]; decide)))))), (by omega), (by omega), (by omega), (by omega)⟩
    · refine lv_aload_n hx hb dX12_signs_55 rfl (lv_at hl 1 rfl) ?_
      refine lv_dup hx hb dX12_signs_56 rfl ?_
      refine xa_geti G fd_X12 (a := 111) (x := (μ.1 111 6) + 1) 6 rfl (by decide) rfl (wm 7 155 rfl rfl) ⟨rfl, rfl, rfl⟩ dX12_signs_57 rfl ((sv_n _ (by decide)).trans (sv_s _ _ _ _)) ?_
      have hr_156 : -2147483648 ≤ (μ.1 111 6) + 1 ∧ (μ.1 111 6) + 1 ≤ 2147483647 := by have h9 := G.hr (a := 111) (k := 6) rfl; rw [show (sv (sv (sv μ 111 8 3) 111 6 ((μ.1 111 6) + 1)) 111 13 x1).1 111 6 = (μ.1 111 6) + 1 from ((sv_n _ (by decide)).trans (sv_s _ _ _ _))] at h9; exact h9
      refine lv_iconst (v := iv 1) hx hb dX12_signs_60 rfl ?_
      refine xb_iadd hx hb dX12_signs_61 ?_
      refine xb_ti (y := (μ.1 111 6) + 2) (by omega) ?_
      refine xa_puti G fd_X12 (a := 111) (x := (μ.1 111 6) + 2) 6 (kz := 6) rfl rfl (by decide) rfl (by unfold ir; omega) (wm 7 155 rfl rfl) ⟨rfl, rfl, rfl, rfl⟩ rfl dX12_signs_62 rfl (fun H locs G => ?_)
      refine lv_aload_n hx hb dX12_signs_65 rfl (lv_at hl 1 rfl) ?_
      refine lv_sipush (v := iv 256) hx hb dX12_signs_66 rfl ?_
      refine lv_iload_n hx hb dX12_signs_69 rfl (lv_at hl 2 rfl) ?_
      refine xb_iadd hx hb dX12_signs_70 ?_
      refine xa_puti G fd_X12 (a := 111) (x := 256 + x1) 13 (kz := 13) rfl rfl (by decide) rfl (by unfold ir; omega) (wm 7 162 rfl rfl) ⟨rfl, rfl, rfl, rfl⟩ rfl dX12_signs_71 rfl (fun H locs G => ?_)
      refine lv_iload_n hx hb dX12_signs_74 rfl (lv_at hl 2 rfl) ?_
      refine lv_bipush (v := iv 40) hx hb dX12_signs_75 rfl ?_
      refine xb_icmp_eq (tgt := 188) hx hb (by unfold ir; omega) (by unfold ir; omega) dX12_signs_77 (by decide) (fun c_77 => ?_) (fun c_77 => ?_)
      · refine lv_iconst (v := iv 1) hx hb dX12_signs_188 rfl ?_
        refine lv_goto (tgt := 193) hx hb dX12_signs_189 (by decide) ?_
        refine lv_istore_n (lv' := [(3, .int (iv 1)), (2, .int (iv r_9)), (0, .ref (oP ω 111)), (1, .int (iv x1))]) hx hb dX12_signs_193 rfl hl (by decide) rfl (fun ls hl => ?_)
        refine lv_iload_n hx hb dX12_signs_194 rfl (lv_at hl 0 rfl) ?_
        refine xb_if_ne (tgt := 206) hx hb (x := 1) (by unfold ir; omega) dX12_signs_195 (by decide) (fun c_195 => ?_) (fun c_195 => absurd c_195 (by decide))
        have e_157 : (sv (sv (sv (sv (sv μ 111 8 3) 111 6 ((μ.1 111 6) + 1)) 111 13 x1) 111 6 ((μ.1 111 6) + 2)) 111 13 (256 + x1)).1 111 6 = (μ.1 111 6) + 2 := ((sv_n _ (by decide)).trans (sv_s _ _ _ _))
        have e_158 : (sv (sv (sv (sv (sv μ 111 8 3) 111 6 ((μ.1 111 6) + 1)) 111 13 x1) 111 6 ((μ.1 111 6) + 2)) 111 13 (256 + x1)).1 111 6 = (μ.1 111 6) + 2 := ((sv_n _ (by decide)).trans (sv_s _ _ _ _))
        have e_159 : (sv (sv (sv (sv (sv μ 111 8 3) 111 6 ((μ.1 111 6) + 1)) 111 13 x1) 111 6 ((μ.1 111 6) + 2)) 111 13 (256 + x1)).1 111 8 = 3 := ((sv_n _ (by decide)).trans ((sv_n _ (by decide)).trans ((sv_n _ (by decide)).trans ((sv_n _ (by decide)).trans (sv_s _ _ _ _)))))
        have e_160 : wr (sv (sv (sv (sv (sv μ 111 8 3) 111 6 ((μ.1 111 6) + 1)) 111 13 x1) 111 6 ((μ.1 111 6) + 2)) 111 13 (256 + x1)) = wr μ := ((wr_cg (sv_n _ (by decide))).trans ((wr_cg (sv_n _ (by decide))).trans ((wr_cg (sv_n _ (by decide))).trans ((wr_cg (sv_n _ (by decide))).trans (wr_cg (sv_n _ (by decide)))))))
        have e_161 : bd (sv (sv (sv (sv (sv μ 111 8 3) 111 6 ((μ.1 111 6) + 1)) 111 13 x1) 111 6 ((μ.1 111 6) + 2)) 111 13 (256 + x1)) = bd μ := ((bd_cg (sv_n _ (by decide)) (sv_n _ (by decide)) (sv_n _ (by decide))).trans ((bd_cg (sv_n _ (by decide)) (sv_n _ (by decide)) (sv_n _ (by decide))).trans ((bd_cg (sv_n _ (by decide)) (sv_n _ (by decide)) (sv_n _ (by decide))).trans ((bd_cg (sv_n _ (by decide)) (sv_n _ (by decide)) (sv_n _ (by decide))).trans (bd_cg (sv_n _ (by decide)) (sv_n _ (by decide)) (sv_n _ (by decide)))))))
        have e_162 : wr (sv (sv (sv (sv (sv μ 111 8 3) 111 6 ((μ.1 111 6) + 1)) 111 13 x1) 111 6 ((μ.1 111 6) + 2)) 111 13 (256 + x1)) = wr μ := ((wr_cg (sv_n _ (by decide))).trans ((wr_cg (sv_n _ (by decide))).trans ((wr_cg (sv_n _ (by decide))).trans ((wr_cg (sv_n _ (by decide))).trans (wr_cg (sv_n _ (by decide)))))))
        have e_163 : nn (sv (sv (sv (sv (sv μ 111 8 3) 111 6 ((μ.1 111 6) + 1)) 111 13 x1) 111 6 ((μ.1 111 6) + 2)) 111 13 (256 + x1)) = nn μ := ((nn_cg (sv_n _ (by decide)) (sv_n _ (by decide))).trans ((nn_cg (sv_n _ (by decide)) (sv_n _ (by decide))).trans ((nn_cg (sv_n _ (by decide)) (sv_n _ (by decide))).trans ((nn_cg (sv_n _ (by decide)) (sv_n _ (by decide))).trans (nn_cg (sv_n _ (by decide)) (sv_n _ (by decide)))))))
        exact xr_v G hret hlk dX12_signs_206 ⟨(FrM.put (FrM.put (FrM.put (FrM.put (FrM.put FrM.rf (by decide)) (by decide)) (by decide)) (by decide)) (by decide)), (fun j hj => ((sv_n _ (fun h9 => hj (by rw [h9.2]; decide))).trans ((sv_n _ (fun h9 => hj (by rw [h9.2]; decide))).trans ((sv_n _ (fun h9 => hj (by rw [h9.2]; decide))).trans ((sv_n _ (fun h9 => hj (by rw [h9.2]; decide))).trans (sv_n _ (fun h9 => hj (by rw [h9.2]; decide)))))))), (by omega), (by omega), (by omega), (by omega)⟩
      · refine lv_iload_n hx hb dX12_signs_80 rfl (lv_at hl 2 rfl) ?_
        refine lv_bipush (v := iv 41) hx hb dX12_signs_81 rfl ?_
        refine xb_icmp_eq (tgt := 188) hx hb (by unfold ir; omega) (by unfold ir; omega) dX12_signs_83 (by decide) (fun c_83 => ?_) (fun c_83 => ?_)
        · refine lv_iconst (v := iv 1) hx hb dX12_signs_188 rfl ?_
          refine lv_goto (tgt := 193) hx hb dX12_signs_189 (by decide) ?_
          refine lv_istore_n (lv' := [(3, .int (iv 1)), (2, .int (iv r_9)), (0, .ref (oP ω 111)), (1, .int (iv x1))]) hx hb dX12_signs_193 rfl hl (by decide) rfl (fun ls hl => ?_)
          refine lv_iload_n hx hb dX12_signs_194 rfl (lv_at hl 0 rfl) ?_
          refine xb_if_ne (tgt := 206) hx hb (x := 1) (by unfold ir; omega) dX12_signs_195 (by decide) (fun c_195 => ?_) (fun c_195 => absurd c_195 (by decide))
          have e_164 : (sv (sv (sv (sv (sv μ 111 8 3) 111 6 ((μ.1 111 6) + 1)) 111 13 x1) 111 6 ((μ.1 111 6) + 2)) 111 13 (256 + x1)).1 111 6 = (μ.1 111 6) + 2 := ((sv_n _ (by decide)).trans (sv_s _ _ _ _))
          have e_165 : (sv (sv (sv (sv (sv μ 111 8 3) 111 6 ((μ.1 111 6) + 1)) 111 13 x1) 111 6 ((μ.1 111 6) + 2)) 111 13 (256 + x1)).1 111 6 = (μ.1 111 6) + 2 := ((sv_n _ (by decide)).trans (sv_s _ _ _ _))
          have e_166 : (sv (sv (sv (sv (sv μ 111 8 3) 111 6 ((μ.1 111 6) + 1)) 111 13 x1) 111 6 ((μ.1 111 6) + 2)) 111 13 (256 + x1)).1 111 8 = 3 := ((sv_n _ (by decide)).trans ((sv_n _ (by decide)).trans ((sv_n _ (by decide)).trans ((sv_n _ (by decide)).trans (sv_s _ _ _ _)))))
          have e_167 : wr (sv (sv (sv (sv (sv μ 111 8 3) 111 6 ((μ.1 111 6) + 1)) 111 13 x1) 111 6 ((μ.1 111 6) + 2)) 111 13 (256 + x1)) = wr μ := ((wr_cg (sv_n _ (by decide))).trans ((wr_cg (sv_n _ (by decide))).trans ((wr_cg (sv_n _ (by decide))).trans ((wr_cg (sv_n _ (by decide))).trans (wr_cg (sv_n _ (by decide)))))))
          have e_168 : bd (sv (sv (sv (sv (sv μ 111 8 3) 111 6 ((μ.1 111 6) + 1)) 111 13 x1) 111 6 ((μ.1 111 6) + 2)) 111 13 (256 + x1)) = bd μ := ((bd_cg (sv_n _ (by decide)) (sv_n _ (by decide)) (sv_n _ (by decide))).trans ((bd_cg (sv_n _ (by decide)) (sv_n _ (by decide)) (sv_n _ (by decide))).trans ((bd_cg (sv_n _ (by decide)) (sv_n _ (by decide)) (sv_n _ (by decide))).trans ((bd_cg (sv_n _ (by decide)) (sv_n _ (by decide)) (sv_n _ (by decide))).trans (bd_cg (sv_n _ (by decide)) (sv_n _ (by decide)) (sv_n _ (by decide)))))))
          have e_169 : wr (sv (sv (sv (sv (sv μ 111 8 3) 111 6 ((μ.1 111 6) + 1)) 111 13 x1) 111 6 ((μ.1 111 6) + 2)) 111 13 (256 + x1)) = wr μ := ((wr_cg (sv_n _ (by decide))).trans ((wr_cg (sv_n _ (by decide))).trans ((wr_cg (sv_n _ (by decide))).trans ((wr_cg (sv_n _ (by decide))).trans (wr_cg (sv_n _ (by decide)))))))
          have e_170 : nn (sv (sv (sv (sv (sv μ 111 8 3) 111 6 ((μ.1 111 6) + 1)) 111 13 x1) 111 6 ((μ.1 111 6) + 2)) 111 13 (256 + x1)) = nn μ := ((nn_cg (sv_n _ (by decide)) (sv_n _ (by decide))).trans ((nn_cg (sv_n _ (by decide)) (sv_n _ (by decide))).trans ((nn_cg (sv_n _ (by decide)) (sv_n _ (by decide))).trans ((nn_cg (sv_n _ (by decide)) (sv_n _ (by decide))).trans (nn_cg (sv_n _ (by decide)) (sv_n _ (by decide)))))))
          exact xr_v G hret hlk dX12_signs_206 ⟨(FrM.put (FrM.put (FrM.put (FrM.put (FrM.put FrM.rf (by decide)) (by decide)) (by decide)) (by decide)) (by decide)), (fun j hj => ((sv_n _ (fun h9 => hj (by rw [h9.2]; decide))).trans ((sv_n _ (fun h9 => hj (by rw [h9.2]; decide))).trans ((sv_n _ (fun h9 => hj (by rw [h9.2]; decide))).trans ((sv_n _ (fun h9 => hj (by rw [h9.2]; decide))).trans (sv_n _ (fun h9 => hj (by rw [h9.2]; decide)))))))), (by omega), (by omega), (by omega), (by omega)⟩
        · refine lv_iload_n hx hb dX12_signs_86 rfl (lv_at hl 2 rfl) ?_
          refine lv_bipush (v := iv 123) hx hb dX12_signs_87 rfl ?_
          refine xb_icmp_eq (tgt := 188) hx hb (by unfold ir; omega) (by unfold ir; omega) dX12_signs_89 (by decide) (fun c_89 => ?_) (fun c_89 => ?_)
          · refine lv_iconst (v := iv 1) hx hb dX12_signs_188 rfl ?_
            refine lv_goto (tgt := 193) hx hb dX12_signs_189 (by decide) ?_
            refine lv_istore_n (lv' := [(3, .int (iv 1)), (2, .int (iv r_9)), (0, .ref (oP ω 111)), (1, .int (iv x1))]) hx hb dX12_signs_193 rfl hl (by decide) rfl (fun ls hl => ?_)
            refine lv_iload_n hx hb dX12_signs_194 rfl (lv_at hl 0 rfl) ?_
            refine xb_if_ne (tgt := 206) hx hb (x := 1) (by unfold ir; omega) dX12_signs_195 (by decide) (fun c_195 => ?_) (fun c_195 => absurd c_195 (by decide))
            have e_171 : (sv (sv (sv (sv (sv μ 111 8 3) 111 6 ((μ.1 111 6) + 1)) 111 13 x1) 111 6 ((μ.1 111 6) + 2)) 111 13 (256 + x1)).1 111 6 = (μ.1 111 6) + 2 := ((sv_n _ (by decide)).trans (sv_s _ _ _ _))
            have e_172 : (sv (sv (sv (sv (sv μ 111 8 3) 111 6 ((μ.1 111 6) + 1)) 111 13 x1) 111 6 ((μ.1 111 6) + 2)) 111 13 (256 + x1)).1 111 6 = (μ.1 111 6) + 2 := ((sv_n _ (by decide)).trans (sv_s _ _ _ _))
            have e_173 : (sv (sv (sv (sv (sv μ 111 8 3) 111 6 ((μ.1 111 6) + 1)) 111 13 x1) 111 6 ((μ.1 111 6) + 2)) 111 13 (256 + x1)).1 111 8 = 3 := ((sv_n _ (by decide)).trans ((sv_n _ (by decide)).trans ((sv_n _ (by decide)).trans ((sv_n _ (by decide)).trans (sv_s _ _ _ _)))))
            have e_174 : wr (sv (sv (sv (sv (sv μ 111 8 3) 111 6 ((μ.1 111 6) + 1)) 111 13 x1) 111 6 ((μ.1 111 6) + 2)) 111 13 (256 + x1)) = wr μ := ((wr_cg (sv_n _ (by decide))).trans ((wr_cg (sv_n _ (by decide))).trans ((wr_cg (sv_n _ (by decide))).trans ((wr_cg (sv_n _ (by decide))).trans (wr_cg (sv_n _ (by decide)))))))
            have e_175 : bd (sv (sv (sv (sv (sv μ 111 8 3) 111 6 ((μ.1 111 6) + 1)) 111 13 x1) 111 6 ((μ.1 111 6) + 2)) 111 13 (256 + x1)) = bd μ := ((bd_cg (sv_n _ (by decide)) (sv_n _ (by decide)) (sv_n _ (by decide))).trans ((bd_cg (sv_n _ (by decide)) (sv_n _ (by decide)) (sv_n _ (by decide))).trans ((bd_cg (sv_n _ (by decide)) (sv_n _ (by decide)) (sv_n _ (by decide))).trans ((bd_cg (sv_n _ (by decide)) (sv_n _ (by decide)) (sv_n _ (by decide))).trans (bd_cg (sv_n _ (by decide)) (sv_n _ (by decide)) (sv_n _ (by decide)))))))
            have e_176 : wr (sv (sv (sv (sv (sv μ 111 8 3) 111 6 ((μ.1 111 6) + 1)) 111 13 x1) 111 6 ((μ.1 111 6) + 2)) 111 13 (256 + x1)) = wr μ := ((wr_cg (sv_n _ (by decide))).trans ((wr_cg (sv_n _ (by decide))).trans ((wr_cg (sv_n _ (by decide))).trans ((wr_cg (sv_n _ (by decide))).trans (wr_cg (sv_n _ (by decide)))))))
            have e_177 : nn (sv (sv (sv (sv (sv μ 111 8 3) 111 6 ((μ.1 111 6) + 1)) 111 13 x1) 111 6 ((μ.1 111 6) + 2)) 111 13 (256 + x1)) = nn μ := ((nn_cg (sv_n _ (by decide)) (sv_n _ (by decide))).trans ((nn_cg (sv_n _ (by decide)) (sv_n _ (by decide))).trans ((nn_cg (sv_n _ (by decide)) (sv_n _ (by decide))).trans ((nn_cg (sv_n _ (by decide)) (sv_n _ (by decide))).trans (nn_cg (sv_n _ (by decide)) (sv_n _ (by decide)))))))
            exact xr_v G hret hlk dX12_signs_206 ⟨(FrM.put (FrM.put (FrM.put (FrM.put (FrM.put FrM.rf (by decide)) (by decide)) (by decide)) (by decide)) (by decide)), (fun j hj => ((sv_n _ (fun h9 => hj (by rw [h9.2]; decide))).trans ((sv_n _ (fun h9 => hj (by rw [h9.2]; decide))).trans ((sv_n _ (fun h9 => hj (by rw [h9.2]; decide))).trans ((sv_n _ (fun h9 => hj (by rw [h9.2]; decide))).trans (sv_n _ (fun h9 => hj (by rw [h9.2]; decide)))))))), (by omega), (by omega), (by omega), (by omega)⟩
          · refine lv_iload_n hx hb dX12_signs_92 rfl (lv_at hl 2 rfl) ?_
            refine lv_bipush (v := iv 125) hx hb dX12_signs_93 rfl ?_
            refine xb_icmp_eq (tgt := 188) hx hb (by unfold ir; omega) (by unfold ir; omega) dX12_signs_95 (by decide) (fun c_95 => ?_) (fun c_95 => ?_)
            · refine lv_iconst (v := iv 1) hx hb dX12_signs_188 rfl ?_
              refine lv_goto (tgt := 193) hx hb dX12_signs_189 (by decide) ?_
              refine lv_istore_n (lv' := [(3, .int (iv 1)), (2, .int (iv r_9)), (0, .ref (oP ω 111)), (1, .int (iv x1))]) hx hb dX12_signs_193 rfl hl (by decide) rfl (fun ls hl => ?_)
              refine lv_iload_n hx hb dX12_signs_194 rfl (lv_at hl 0 rfl) ?_
              refine xb_if_ne (tgt := 206) hx hb (x := 1) (by unfold ir; omega) dX12_signs_195 (by decide) (fun c_195 => ?_) (fun c_195 => absurd c_195 (by decide))
              have e_178 : (sv (sv (sv (sv (sv μ 111 8 3) 111 6 ((μ.1 111 6) + 1)) 111 13 x1) 111 6 ((μ.1 111 6) + 2)) 111 13 (256 + x1)).1 111 6 = (μ.1 111 6) + 2 := ((sv_n _ (by decide)).trans (sv_s _ _ _ _))
              have e_179 : (sv (sv (sv (sv (sv μ 111 8 3) 111 6 ((μ.1 111 6) + 1)) 111 13 x1) 111 6 ((μ.1 111 6) + 2)) 111 13 (256 + x1)).1 111 6 = (μ.1 111 6) + 2 := ((sv_n _ (by decide)).trans (sv_s _ _ _ _))
              have e_180 : (sv (sv (sv (sv (sv μ 111 8 3) 111 6 ((μ.1 111 6) + 1)) 111 13 x1) 111 6 ((μ.1 111 6) + 2)) 111 13 (256 + x1)).1 111 8 = 3 := ((sv_n _ (by decide)).trans ((sv_n _ (by decide)).trans ((sv_n _ (by decide)).trans ((sv_n _ (by decide)).trans (sv_s _ _ _ _)))))
              have e_181 : wr (sv (sv (sv (sv (sv μ 111 8 3) 111 6 ((μ.1 111 6) + 1)) 111 13 x1) 111 6 ((μ.1 111 6) + 2)) 111 13 (256 + x1)) = wr μ := ((wr_cg (sv_n _ (by decide))).trans ((wr_cg (sv_n _ (by decide))).trans ((wr_cg (sv_n _ (by decide))).trans ((wr_cg (sv_n _ (by decide))).trans (wr_cg (sv_n _ (by decide)))))))
              have e_182 : bd (sv (sv (sv (sv (sv μ 111 8 3) 111 6 ((μ.1 111 6) + 1)) 111 13 x1) 111 6 ((μ.1 111 6) + 2)) 111 13 (256 + x1)) = bd μ := ((bd_cg (sv_n _ (by decide)) (sv_n _ (by decide)) (sv_n _ (by decide))).trans ((bd_cg (sv_n _ (by decide)) (sv_n _ (by decide)) (sv_n _ (by decide))).trans ((bd_cg (sv_n _ (by decide)) (sv_n _ (by decide)) (sv_n _ (by decide))).trans ((bd_cg (sv_n _ (by decide)) (sv_n _ (by decide)) (sv_n _ (by decide))).trans (bd_cg (sv_n _ (by decide)) (sv_n _ (by decide)) (sv_n _ (by decide)))))))
              have e_183 : wr (sv (sv (sv (sv (sv μ 111 8 3) 111 6 ((μ.1 111 6) + 1)) 111 13 x1) 111 6 ((μ.1 111 6) + 2)) 111 13 (256 + x1)) = wr μ := ((wr_cg (sv_n _ (by decide))).trans ((wr_cg (sv_n _ (by decide))).trans ((wr_cg (sv_n _ (by decide))).trans ((wr_cg (sv_n _ (by decide))).trans (wr_cg (sv_n _ (by decide)))))))
              have e_184 : nn (sv (sv (sv (sv (sv μ 111 8 3) 111 6 ((μ.1 111 6) + 1)) 111 13 x1) 111 6 ((μ.1 111 6) + 2)) 111 13 (256 + x1)) = nn μ := ((nn_cg (sv_n _ (by decide)) (sv_n _ (by decide))).trans ((nn_cg (sv_n _ (by decide)) (sv_n _ (by decide))).trans ((nn_cg (sv_n _ (by decide)) (sv_n _ (by decide))).trans ((nn_cg (sv_n _ (by decide)) (sv_n _ (by decide))).trans (nn_cg (sv_n _ (by decide)) (sv_n _ (by decide)))))))
              exact xr_v G hret hlk dX12_signs_206 ⟨(FrM.put (FrM.put (FrM.put (FrM.put (FrM.put FrM.rf (by decide)) (by decide)) (by decide)) (by decide)) (by decide)), (fun j hj => ((sv_n _ (fun h9 => hj (by rw [h9.2]; decide))).trans ((sv_n _ (fun h9 => hj (by rw [h9.2]; decide))).trans ((sv_n _ (fun h9 => hj (by rw [h9.2]; decide))).trans ((sv_n _ (fun h9 => hj (by rw [h9.2]; decide))).trans (sv_n _ (fun h9 => hj (by rw [h9.2]; decide)))))))), (by omega), (by omega), (by omega), (by omega)⟩
            · refine lv_iload_n hx hb dX12_signs_98 rfl (lv_at hl 2 rfl) ?_
              refine lv_bipush (v := iv 91) hx hb dX12_signs_99 rfl ?_
              refine xb_icmp_eq (tgt := 188) hx hb (by unfold ir; omega) (by unfold ir; omega) dX12_signs_101 (by decide) (fun c_101 => ?_) (fun c_101 => ?_)
              · refine lv_iconst (v := iv 1) hx hb dX12_signs_188 rfl ?_
                refine lv_goto (tgt := 193) hx hb dX12_signs_189 (by decide) ?_
                refine lv_istore_n (lv' := [(3, .int (iv 1)), (2, .int (iv r_9)), (0, .ref (oP ω 111)), (1, .int (iv x1))]) hx hb dX12_signs_193 rfl hl (by decide) rfl (fun ls hl => ?_)
                refine lv_iload_n hx hb dX12_signs_194 rfl (lv_at hl 0 rfl) ?_
                refine xb_if_ne (tgt := 206) hx hb (x := 1) (by unfold ir; omega) dX12_signs_195 (by decide) (fun c_195 => ?_) (fun c_195 => absurd c_195 (by decide))
                have e_185 : (sv (sv (sv (sv (sv μ 111 8 3) 111 6 ((μ.1 111 6) + 1)) 111 13 x1) 111 6 ((μ.1 111 6) + 2)) 111 13 (256 + x1)).1 111 6 = (μ.1 111 6) + 2 := ((sv_n _ (by decide)).trans (sv_s _ _ _ _))
                have e_186 : (sv (sv (sv (sv (sv μ 111 8 3) 111 6 ((μ.1 111 6) + 1)) 111 13 x1) 111 6 ((μ.1 111 6) + 2)) 111 13 (256 + x1)).1 111 6 = (μ.1 111 6) + 2 := ((sv_n _ (by decide)).trans (sv_s _ _ _ _))
                have e_187 : (sv (sv (sv (sv (sv μ 111 8 3) 111 6 ((μ.1 111 6) + 1)) 111 13 x1) 111 6 ((μ.1 111 6) + 2)) 111 13 (256 + x1)).1 111 8 = 3 := ((sv_n _ (by decide)).trans ((sv_n _ (by decide)).trans ((sv_n _ (by decide)).trans ((sv_n _ (by decide)).trans (sv_s _ _ _ _)))))
                have e_188 : wr (sv (sv (sv (sv (sv μ 111 8 3) 111 6 ((μ.1 111 6) + 1)) 111 13 x1) 111 6 ((μ.1 111 6) + 2)) 111 13 (256 + x1)) = wr μ := ((wr_cg (sv_n _ (by decide))).trans ((wr_cg (sv_n _ (by decide))).trans ((wr_cg (sv_n _ (by decide))).trans ((wr_cg (sv_n _ (by decide))).trans (wr_cg (sv_n _ (by decide)))))))
                have e_189 : bd (sv (sv (sv (sv (sv μ 111 8 3) 111 6 ((μ.1 111 6) + 1)) 111 13 x1) 111 6 ((μ.1 111 6) + 2)) 111 13 (256 + x1)) = bd μ := ((bd_cg (sv_n _ (by decide)) (sv_n _ (by decide)) (sv_n _ (by decide))).trans ((bd_cg (sv_n _ (by decide)) (sv_n _ (by decide)) (sv_n _ (by decide))).trans ((bd_cg (sv_n _ (by decide)) (sv_n _ (by decide)) (sv_n _ (by decide))).trans ((bd_cg (sv_n _ (by decide)) (sv_n _ (by decide)) (sv_n _ (by decide))).trans (bd_cg (sv_n _ (by decide)) (sv_n _ (by decide)) (sv_n _ (by decide)))))))
                have e_190 : wr (sv (sv (sv (sv (sv μ 111 8 3) 111 6 ((μ.1 111 6) + 1)) 111 13 x1) 111 6 ((μ.1 111 6) + 2)) 111 13 (256 + x1)) = wr μ := ((wr_cg (sv_n _ (by decide))).trans ((wr_cg (sv_n _ (by decide))).trans ((wr_cg (sv_n _ (by decide))).trans ((wr_cg (sv_n _ (by decide))).trans (wr_cg (sv_n _ (by decide)))))))
                have e_191 : nn (sv (sv (sv (sv (sv μ 111 8 3) 111 6 ((μ.1 111 6) + 1)) 111 13 x1) 111 6 ((μ.1 111 6) + 2)) 111 13 (256 + x1)) = nn μ := ((nn_cg (sv_n _ (by decide)) (sv_n _ (by decide))).trans ((nn_cg (sv_n _ (by decide)) (sv_n _ (by decide))).trans ((nn_cg (sv_n _ (by decide)) (sv_n _ (by decide))).trans ((nn_cg (sv_n _ (by decide)) (sv_n _ (by decide))).trans (nn_cg (sv_n _ (by decide)) (sv_n _ (by decide)))))))
                exact xr_v G hret hlk dX12_signs_206 ⟨(FrM.put (FrM.put (FrM.put (FrM.put (FrM.put FrM.rf (by decide)) (by decide)) (by decide)) (by decide)) (by decide)), (fun j hj => ((sv_n _ (fun h9 => hj (by rw [h9.2]; decide))).trans ((sv_n _ (fun h9 => hj (by rw [h9.2]; decide))).trans ((sv_n _ (fun h9 => hj (by rw [h9.2]; decide))).trans ((sv_n _ (fun h9 => hj (by rw [h9.2]; decide))).trans (sv_n _ (fun h9 => hj (by rw [h9.2]; decide)))))))), (by omega), (by omega), (by omega), (by omega)⟩
              · refine lv_iload_n hx hb dX12_signs_104 rfl (lv_at hl 2 rfl) ?_
                refine lv_bipush (v := iv 93) hx hb dX12_signs_105 rfl ?_
                refine xb_icmp_eq (tgt := 188) hx hb (by unfold ir; omega) (by unfold ir; omega) dX12_signs_107 (by decide) (fun c_107 => ?_) (fun c_107 => ?_)
                · refine lv_iconst (v := iv 1) hx hb dX12_signs_188 rfl ?_
                  refine lv_goto (tgt := 193) hx hb dX12_signs_189 (by decide) ?_
                  refine lv_istore_n (lv' := [(3, .int (iv 1)), (2, .int (iv r_9)), (0, .ref (oP ω 111)), (1, .int (iv x1))]) hx hb dX12_signs_193 rfl hl (by decide) rfl (fun ls hl => ?_)
                  refine lv_iload_n hx hb dX12_signs_194 rfl (lv_at hl 0 rfl) ?_
                  refine xb_if_ne (tgt := 206) hx hb (x := 1) (by unfold ir; omega) dX12_signs_195 (by decide) (fun c_195 => ?_) (fun c_195 => absurd c_195 (by decide))
                  have e_192 : (sv (sv (sv (sv (sv μ 111 8 3) 111 6 ((μ.1 111 6) + 1)) 111 13 x1) 111 6 ((μ.1 111 6) + 2)) 111 13 (256 + x1)).1 111 6 = (μ.1 111 6) + 2 := ((sv_n _ (by decide)).trans (sv_s _ _ _ _))
                  have e_193 : (sv (sv (sv (sv (sv μ 111 8 3) 111 6 ((μ.1 111 6) + 1)) 111 13 x1) 111 6 ((μ.1 111 6) + 2)) 111 13 (256 + x1)).1 111 6 = (μ.1 111 6) + 2 := ((sv_n _ (by decide)).trans (sv_s _ _ _ _))
                  have e_194 : (sv (sv (sv (sv (sv μ 111 8 3) 111 6 ((μ.1 111 6) + 1)) 111 13 x1) 111 6 ((μ.1 111 6) + 2)) 111 13 (256 + x1)).1 111 8 = 3 := ((sv_n _ (by decide)).trans ((sv_n _ (by decide)).trans ((sv_n _ (by decide)).trans ((sv_n _ (by decide)).trans (sv_s _ _ _ _)))))
                  have e_195 : wr (sv (sv (sv (sv (sv μ 111 8 3) 111 6 ((μ.1 111 6) + 1)) 111 13 x1) 111 6 ((μ.1 111 6) + 2)) 111 13 (256 + x1)) = wr μ := ((wr_cg (sv_n _ (by decide))).trans ((wr_cg (sv_n _ (by decide))).trans ((wr_cg (sv_n _ (by decide))).trans ((wr_cg (sv_n _ (by decide))).trans (wr_cg (sv_n _ (by decide)))))))
                  have e_196 : bd (sv (sv (sv (sv (sv μ 111 8 3) 111 6 ((μ.1 111 6) + 1)) 111 13 x1) 111 6 ((μ.1 111 6) + 2)) 111 13 (256 + x1)) = bd μ := ((bd_cg (sv_n _ (by decide)) (sv_n _ (by decide)) (sv_n _ (by decide))).trans ((bd_cg (sv_n _ (by decide)) (sv_n _ (by decide)) (sv_n _ (by decide))).trans ((bd_cg (sv_n _ (by decide)) (sv_n _ (by decide)) (sv_n _ (by decide))).trans ((bd_cg (sv_n _ (by decide)) (sv_n _ (by decide)) (sv_n _ (by decide))).trans (bd_cg (sv_n _ (by decide)) (sv_n _ (by decide)) (sv_n _ (by decide)))))))
                  have e_197 : wr (sv (sv (sv (sv (sv μ 111 8 3) 111 6 ((μ.1 111 6) + 1)) 111 13 x1) 111 6 ((μ.1 111 6) + 2)) 111 13 (256 + x1)) = wr μ := ((wr_cg (sv_n _ (by decide))).trans ((wr_cg (sv_n _ (by decide))).trans ((wr_cg (sv_n _ (by decide))).trans ((wr_cg (sv_n _ (by decide))).trans (wr_cg (sv_n _ (by decide)))))))
                  have e_198 : nn (sv (sv (sv (sv (sv μ 111 8 3) 111 6 ((μ.1 111 6) + 1)) 111 13 x1) 111 6 ((μ.1 111 6) + 2)) 111 13 (256 + x1)) = nn μ := ((nn_cg (sv_n _ (by decide)) (sv_n _ (by decide))).trans ((nn_cg (sv_n _ (by decide)) (sv_n _ (by decide))).trans ((nn_cg (sv_n _ (by decide)) (sv_n _ (by decide))).trans ((nn_cg (sv_n _ (by decide)) (sv_n _ (by decide))).trans (nn_cg (sv_n _ (by decide)) (sv_n _ (by decide)))))))
                  exact xr_v G hret hlk dX12_signs_206 ⟨(FrM.put (FrM.put (FrM.put (FrM.put (FrM.put FrM.rf (by decide)) (by decide)) (by decide)) (by decide)) (by decide)), (fun j hj => ((sv_n _ (fun h9 => hj (by rw [h9.2]; decide))).trans ((sv_n _ (fun h9 => hj (by rw [h9.2]; decide))).trans ((sv_n _ (fun h9 => hj (by rw [h9.2]; decide))).trans ((sv_n _ (fun h9 => hj (by rw [h9.2]; decide))).trans (sv_n _ (fun h9 => hj (by rw [h9.2]; decide)))))))), (by omega), (by omega), (by omega), (by omega)⟩
                · refine lv_iload_n hx hb dX12_signs_110 rfl (lv_at hl 2 rfl) ?_
                  refine lv_bipush (v := iv 44) hx hb dX12_signs_111 rfl ?_
                  refine xb_icmp_eq (tgt := 188) hx hb (by unfold ir; omega) (by unfold ir; omega) dX12_signs_113 (by decide) (fun c_113 => ?_) (fun c_113 => ?_)
                  · refine lv_iconst (v := iv 1) hx hb dX12_signs_188 rfl ?_
                    refine lv_goto (tgt := 193) hx hb dX12_signs_189 (by decide) ?_
                    refine lv_istore_n (lv' := [(3, .int (iv 1)), (2, .int (iv r_9)), (0, .ref (oP ω 111)), (1, .int (iv x1))]) hx hb dX12_signs_193 rfl hl (by decide) rfl (fun ls hl => ?_)
                    refine lv_iload_n hx hb dX12_signs_194 rfl (lv_at hl 0 rfl) ?_
                    refine xb_if_ne (tgt := 206) hx hb (x := 1) (by unfold ir; omega) dX12_signs_195 (by decide) (fun c_195 => ?_) (fun c_195 => absurd c_195 (by decide))
                    have e_199 : (sv (sv (sv (sv (sv μ 111 8 3) 111 6 ((μ.1 111 6) + 1)) 111 13 x1) 111 6 ((μ.1 111 6) + 2)) 111 13 (256 + x1)).1 111 6 = (μ.1 111 6) + 2 := ((sv_n _ (by decide)).trans (sv_s _ _ _ _))
                    have e_200 : (sv (sv (sv (sv (sv μ 111 8 3) 111 6 ((μ.1 111 6) + 1)) 111 13 x1) 111 6 ((μ.1 111 6) + 2)) 111 13 (256 + x1)).1 111 6 = (μ.1 111 6) + 2 := ((sv_n _ (by decide)).trans (sv_s _ _ _ _))
                    have e_201 : (sv (sv (sv (sv (sv μ 111 8 3) 111 6 ((μ.1 111 6) + 1)) 111 13 x1) 111 6 ((μ.1 111 6) + 2)) 111 13 (256 + x1)).1 111 8 = 3 := ((sv_n _ (by decide)).trans ((sv_n _ (by decide)).trans ((sv_n _ (by decide)).trans ((sv_n _ (by decide)).trans (sv_s _ _ _ _)))))
                    have e_202 : wr (sv (sv (sv (sv (sv μ 111 8 3) 111 6 ((μ.1 111 6) + 1)) 111 13 x1) 111 6 ((μ.1 111 6) + 2)) 111 13 (256 + x1)) = wr μ := ((wr_cg (sv_n _ (by decide))).trans ((wr_cg (sv_n _ (by decide))).trans ((wr_cg (sv_n _ (by decide))).trans ((wr_cg (sv_n _ (by decide))).trans (wr_cg (sv_n _ (by decide)))))))
                    have e_203 : bd (sv (sv (sv (sv (sv μ 111 8 3) 111 6 ((μ.1 111 6) + 1)) 111 13 x1) 111 6 ((μ.1 111 6) + 2)) 111 13 (256 + x1)) = bd μ := ((bd_cg (sv_n _ (by decide)) (sv_n _ (by decide)) (sv_n _ (by decide))).trans ((bd_cg (sv_n _ (by decide)) (sv_n _ (by decide)) (sv_n _ (by decide))).trans ((bd_cg (sv_n _ (by decide)) (sv_n _ (by decide)) (sv_n _ (by decide))).trans ((bd_cg (sv_n _ (by decide)) (sv_n _ (by decide)) (sv_n _ (by decide))).trans (bd_cg (sv_n _ (by decide)) (sv_n _ (by decide)) (sv_n _ (by decide)))))))
                    have e_204 : wr (sv (sv (sv (sv (sv μ 111 8 3) 111 6 ((μ.1 111 6) + 1)) 111 13 x1) 111 6 ((μ.1 111 6) + 2)) 111 13 (256 + x1)) = wr μ := ((wr_cg (sv_n _ (by decide))).trans ((wr_cg (sv_n _ (by decide))).trans ((wr_cg (sv_n _ (by decide))).trans ((wr_cg (sv_n _ (by decide))).trans (wr_cg (sv_n _ (by decide)))))))
                    have e_205 : nn (sv (sv (sv (sv (sv μ 111 8 3) 111 6 ((μ.1 111 6) + 1)) 111 13 x1) 111 6 ((μ.1 111 6) + 2)) 111 13 (256 + x1)) = nn μ := ((nn_cg (sv_n _ (by decide)) (sv_n _ (by decide))).trans ((nn_cg (sv_n _ (by decide)) (sv_n _ (by decide))).trans ((nn_cg (sv_n _ (by decide)) (sv_n _ (by decide))).trans ((nn_cg (sv_n _ (by decide)) (sv_n _ (by decide))).trans (nn_cg (sv_n _ (by decide)) (sv_n _ (by decide)))))))
                    exact xr_v G hret hlk dX12_signs_206 ⟨(FrM.put (FrM.put (FrM.put (FrM.put (FrM.put FrM.rf (by decide)) (by decide)) (by decide)) (by decide)) (by decide)), (fun j hj => ((sv_n _ (fun h9 => hj (by rw [h9.2]; decide))).trans ((sv_n _ (fun h9 => hj (by rw [h9.2]; decide))).trans ((sv_n _ (fun h9 => hj (by rw [h9.2]; decide))).trans ((sv_n _ (fun h9 => hj (by rw [h9.2]; decide))).trans (sv_n _ (fun h9 => hj (by rw [h9.2]; decide)))))))), (by omega), (by omega), (by omega), (by omega)⟩
                  · refine lv_iload_n hx hb dX12_signs_116 rfl (lv_at hl 2 rfl) ?_
                    refine lv_bipush (v := iv 59) hx hb dX12_signs_117 rfl ?_
                    refine xb_icmp_eq (tgt := 188) hx hb (by unfold ir; omega) (by unfold ir; omega) dX12_signs_119 (by decide) (fun c_119 => ?_) (fun c_119 => ?_)
                    · refine lv_iconst (v := iv 1) hx hb dX12_signs_188 rfl ?_
                      refine lv_goto (tgt := 193) hx hb dX12_signs_189 (by decide) ?_
                      refine lv_istore_n (lv' := [(3, .int (iv 1)), (2, .int (iv r_9)), (0, .ref (oP ω 111)), (1, .int (iv x1))]) hx hb dX12_signs_193 rfl hl (by decide) rfl (fun ls hl => ?_)
                      refine lv_iload_n hx hb dX12_signs_194 rfl (lv_at hl 0 rfl) ?_
                      refine xb_if_ne (tgt := 206) hx hb (x := 1) (by unfold ir; omega) dX12_signs_195 (by decide) (fun c_195 => ?_) (fun c_195 => absurd c_195 (by decide))
                      have e_206 : (sv (sv (sv (sv (sv μ 111 8 3) 111 6 ((μ.1 111 6) + 1)) 111 13 x1) 111 6 ((μ.1 111 6) + 2)) 111 13 (256 + x1)).1 111 6 = (μ.1 111 6) + 2 := ((sv_n _ (by decide)).trans (sv_s _ _ _ _))
                      have e_207 : (sv (sv (sv (sv (sv μ 111 8 3) 111 6 ((μ.1 111 6) + 1)) 111 13 x1) 111 6 ((μ.1 111 6) + 2)) 111 13 (256 + x1)).1 111 6 = (μ.1 111 6) + 2 := ((sv_n _ (by decide)).trans (sv_s _ _ _ _))
                      have e_208 : (sv (sv (sv (sv (sv μ 111 8 3) 111 6 ((μ.1 111 6) + 1)) 111 13 x1) 111 6 ((μ.1 111 6) + 2)) 111 13 (256 + x1)).1 111 8 = 3 := ((sv_n _ (by decide)).trans ((sv_n _ (by decide)).trans ((sv_n _ (by decide)).trans ((sv_n _ (by decide)).trans (sv_s _ _ _ _)))))
                      have e_209 : wr (sv (sv (sv (sv (sv μ 111 8 3) 111 6 ((μ.1 111 6) + 1)) 111 13 x1) 111 6 ((μ.1 111 6) + 2)) 111 13 (256 + x1)) = wr μ := ((wr_cg (sv_n _ (by decide))).trans ((wr_cg (sv_n _ (by decide))).trans ((wr_cg (sv_n _ (by decide))).trans ((wr_cg (sv_n _ (by decide))).trans (wr_cg (sv_n _ (by decide)))))))
                      have e_210 : bd (sv (sv (sv (sv (sv μ 111 8 3) 111 6 ((μ.1 111 6) + 1)) 111 13 x1) 111 6 ((μ.1 111 6) + 2)) 111 13 (256 + x1)) = bd μ := ((bd_cg (sv_n _ (by decide)) (sv_n _ (by decide)) (sv_n _ (by decide))).trans ((bd_cg (sv_n _ (by decide)) (sv_n _ (by decide)) (sv_n _ (by decide))).trans ((bd_cg (sv_n _ (by decide)) (sv_n _ (by decide)) (sv_n _ (by decide))).trans ((bd_cg (sv_n _ (by decide)) (sv_n _ (by decide)) (sv_n _ (by decide))).trans (bd_cg (sv_n _ (by decide)) (sv_n _ (by decide)) (sv_n _ (by decide)))))))
                      have e_211 : wr (sv (sv (sv (sv (sv μ 111 8 3) 111 6 ((μ.1 111 6) + 1)) 111 13 x1) 111 6 ((μ.1 111 6) + 2)) 111 13 (256 + x1)) = wr μ := ((wr_cg (sv_n _ (by decide))).trans ((wr_cg (sv_n _ (by decide))).trans ((wr_cg (sv_n _ (by decide))).trans ((wr_cg (sv_n _ (by decide))).trans (wr_cg (sv_n _ (by decide)))))))
                      have e_212 : nn (sv (sv (sv (sv (sv μ 111 8 3) 111 6 ((μ.1 111 6) + 1)) 111 13 x1) 111 6 ((μ.1 111 6) + 2)) 111 13 (256 + x1)) = nn μ := ((nn_cg (sv_n _ (by decide)) (sv_n _ (by decide))).trans ((nn_cg (sv_n _ (by decide)) (sv_n _ (by decide))).trans ((nn_cg (sv_n _ (by decide)) (sv_n _ (by decide))).trans ((nn_cg (sv_n _ (by decide)) (sv_n _ (by decide))).trans (nn_cg (sv_n _ (by decide)) (sv_n _ (by decide)))))))
                      exact xr_v G hret hlk dX12_signs_206 ⟨(FrM.put (FrM.put (FrM.put (FrM.put (FrM.put FrM.rf (by decide)) (by decide)) (by decide)) (by decide)) (by decide)), (fun j hj => ((sv_n _ (fun h9 => hj (by rw [h9.2]; decide))).trans ((sv_n _ (fun h9 => hj (by rw [h9.2]; decide))).trans ((sv_n _ (fun h9 => hj (by rw [h9.2]; decide))).trans ((sv_n _ (fun h9 => hj (by rw [h9.2]; decide))).trans (sv_n _ (fun h9 => hj (by rw [h9.2]; decide)))))))), (by omega), (by omega), (by omega), (by omega)⟩
                    · refine lv_iload_n hx hb dX12_signs_122 rfl (lv_at hl 2 rfl) ?_
                      refine lv_bipush (v := iv 46) hx hb dX12_signs_123 rfl ?_
                      refine xb_icmp_eq (tgt := 188) hx hb (by unfold ir; omega) (by unfold ir; omega) dX12_signs_125 (by decide) (fun c_125 => ?_) (fun c_125 => ?_)
                      · refine lv_iconst (v := iv 1) hx hb dX12_signs_188 rfl ?_
                        refine lv_goto (tgt := 193) hx hb dX12_signs_189 (by decide) ?_
                        refine lv_istore_n (lv' := [(3, .int (iv 1)), (2, .int (iv r_9)), (0, .ref (oP ω 111)), (1, .int (iv x1))]) hx hb dX12_signs_193 rfl hl (by decide) rfl (fun ls hl => ?_)
                        refine lv_iload_n hx hb dX12_signs_194 rfl (lv_at hl 0 rfl) ?_
                        refine xb_if_ne (tgt := 206) hx hb (x := 1) (by unfold ir; omega) dX12_signs_195 (by decide) (fun c_195 => ?_) (fun c_195 => absurd c_195 (by decide))
                        have e_213 : (sv (sv (sv (sv (sv μ 111 8 3) 111 6 ((μ.1 111 6) + 1)) 111 13 x1) 111 6 ((μ.1 111 6) + 2)) 111 13 (256 + x1)).1 111 6 = (μ.1 111 6) + 2 := ((sv_n _ (by decide)).trans (sv_s _ _ _ _))
                        have e_214 : (sv (sv (sv (sv (sv μ 111 8 3) 111 6 ((μ.1 111 6) + 1)) 111 13 x1) 111 6 ((μ.1 111 6) + 2)) 111 13 (256 + x1)).1 111 6 = (μ.1 111 6) + 2 := ((sv_n _ (by decide)).trans (sv_s _ _ _ _))
                        have e_215 : (sv (sv (sv (sv (sv μ 111 8 3) 111 6 ((μ.1 111 6) + 1)) 111 13 x1) 111 6 ((μ.1 111 6) + 2)) 111 13 (256 + x1)).1 111 8 = 3 := ((sv_n _ (by decide)).trans ((sv_n _ (by decide)).trans ((sv_n _ (by decide)).trans ((sv_n _ (by decide)).trans (sv_s _ _ _ _)))))
                        have e_216 : wr (sv (sv (sv (sv (sv μ 111 8 3) 111 6 ((μ.1 111 6) + 1)) 111 13 x1) 111 6 ((μ.1 111 6) + 2)) 111 13 (256 + x1)) = wr μ := ((wr_cg (sv_n _ (by decide))).trans ((wr_cg (sv_n _ (by decide))).trans ((wr_cg (sv_n _ (by decide))).trans ((wr_cg (sv_n _ (by decide))).trans (wr_cg (sv_n _ (by decide)))))))
                        have e_217 : bd (sv (sv (sv (sv (sv μ 111 8 3) 111 6 ((μ.1 111 6) + 1)) 111 13 x1) 111 6 ((μ.1 111 6) + 2)) 111 13 (256 + x1)) = bd μ := ((bd_cg (sv_n _ (by decide)) (sv_n _ (by decide)) (sv_n _ (by decide))).trans ((bd_cg (sv_n _ (by decide)) (sv_n _ (by decide)) (sv_n _ (by decide))).trans ((bd_cg (sv_n _ (by decide)) (sv_n _ (by decide)) (sv_n _ (by decide))).trans ((bd_cg (sv_n _ (by decide)) (sv_n _ (by decide)) (sv_n _ (by decide))).trans (bd_cg (sv_n _ (by decide)) (sv_n _ (by decide)) (sv_n _ (by decide)))))))
                        have e_218 : wr (sv (sv (sv (sv (sv μ 111 8 3) 111 6 ((μ.1 111 6) + 1)) 111 13 x1) 111 6 ((μ.1 111 6) + 2)) 111 13 (256 + x1)) = wr μ := ((wr_cg (sv_n _ (by decide))).trans ((wr_cg (sv_n _ (by decide))).trans ((wr_cg (sv_n _ (by decide))).trans ((wr_cg (sv_n _ (by decide))).trans (wr_cg (sv_n _ (by decide)))))))
                        have e_219 : nn (sv (sv (sv (sv (sv μ 111 8 3) 111 6 ((μ.1 111 6) + 1)) 111 13 x1) 111 6 ((μ.1 111 6) + 2)) 111 13 (256 + x1)) = nn μ := ((nn_cg (sv_n _ (by decide)) (sv_n _ (by decide))).trans ((nn_cg (sv_n _ (by decide)) (sv_n _ (by decide))).trans ((nn_cg (sv_n _ (by decide)) (sv_n _ (by decide))).trans ((nn_cg (sv_n _ (by decide)) (sv_n _ (by decide))).trans (nn_cg (sv_n _ (by decide)) (sv_n _ (by decide)))))))
                        exact xr_v G hret hlk dX12_signs_206 ⟨(FrM.put (FrM.put (FrM.put (FrM.put (FrM.put FrM.rf (by decide)) (by decide)) (by decide)) (by decide)) (by decide)), (fun j hj => ((sv_n _ (fun h9 => hj (by rw [h9.2]; decide))).trans ((sv_n _ (fun h9 => hj (by rw [h9.2]; decide))).trans ((sv_n _ (fun h9 => hj (by rw [h9.2]; decide))).trans ((sv_n _ (fun h9 => hj (by rw [h9.2]; decide))).trans (sv_n _ (fun h9 => hj (by rw [h9.2]; decide)))))))), (by omega), (by omega), (by omega), (by omega)⟩
                      · refine lv_iload_n hx hb dX12_signs_128 rfl (lv_at hl 2 rfl) ?_
                        refine lv_bipush (v := iv 38) hx hb dX12_signs_129 rfl ?_
                        refine xb_icmp_eq (tgt := 188) hx hb (by unfold ir; omega) (by unfold ir; omega) dX12_signs_131 (by decide) (fun c_131 => ?_) (fun c_131 => ?_)
                        · refine lv_iconst (v := iv 1) hx hb dX12_signs_188 rfl ?_
                          refine lv_goto (tgt := 193) hx hb dX12_signs_189 (by decide) ?_
                          refine lv_istore_n (lv' := [(3, .int (iv 1)), (2, .int (iv r_9)), (0, .ref (oP ω 111)), (1, .int (iv x1))]) hx hb dX12_signs_193 rfl hl (by decide) rfl (fun ls hl => ?_)
                          refine lv_iload_n hx hb dX12_signs_194 rfl (lv_at hl 0 rfl) ?_
                          refine xb_if_ne (tgt := 206) hx hb (x := 1) (by unfold ir; omega) dX12_signs_195 (by decide) (fun c_195 => ?_) (fun c_195 => absurd c_195 (by decide))
                          have e_220 : (sv (sv (sv (sv (sv μ 111 8 3) 111 6 ((μ.1 111 6) + 1)) 111 13 x1) 111 6 ((μ.1 111 6) + 2)) 111 13 (256 + x1)).1 111 6 = (μ.1 111 6) + 2 := ((sv_n _ (by decide)).trans (sv_s _ _ _ _))
                          have e_221 : (sv (sv (sv (sv (sv μ 111 8 3) 111 6 ((μ.1 111 6) + 1)) 111 13 x1) 111 6 ((μ.1 111 6) + 2)) 111 13 (256 + x1)).1 111 6 = (μ.1 111 6) + 2 := ((sv_n _ (by decide)).trans (sv_s _ _ _ _))
                          have e_222 : (sv (sv (sv (sv (sv μ 111 8 3) 111 6 ((μ.1 111 6) + 1)) 111 13 x1) 111 6 ((μ.1 111 6) + 2)) 111 13 (256 + x1)).1 111 8 = 3 := ((sv_n _ (by decide)).trans ((sv_n _ (by decide)).trans ((sv_n _ (by decide)).trans ((sv_n _ (by decide)).trans (sv_s _ _ _ _)))))
                          have e_223 : wr (sv (sv (sv (sv (sv μ 111 8 3) 111 6 ((μ.1 111 6) + 1)) 111 13 x1) 111 6 ((μ.1 111 6) + 2)) 111 13 (256 + x1)) = wr μ := ((wr_cg (sv_n _ (by decide))).trans ((wr_cg (sv_n _ (by decide))).trans ((wr_cg (sv_n _ (by decide))).trans ((wr_cg (sv_n _ (by decide))).trans (wr_cg (sv_n _ (by decide)))))))
                          have e_224 : bd (sv (sv (sv (sv (sv μ 111 8 3) 111 6 ((μ.1 111 6) + 1)) 111 13 x1) 111 6 ((μ.1 111 6) + 2)) 111 13 (256 + x1)) = bd μ := ((bd_cg (sv_n _ (by decide)) (sv_n _ (by decide)) (sv_n _ (by decide))).trans ((bd_cg (sv_n _ (by decide)) (sv_n _ (by decide)) (sv_n _ (by decide))).trans ((bd_cg (sv_n _ (by decide)) (sv_n _ (by decide)) (sv_n _ (by decide))).trans ((bd_cg (sv_n _ (by decide)) (sv_n _ (by decide)) (sv_n _ (by decide))).trans (bd_cg (sv_n _ (by decide)) (sv_n _ (by decide)) (sv_n _ (by decide)))))))
                          have e_225 : wr (sv (sv (sv (sv (sv μ 111 8 3) 111 6 ((μ.1 111 6) + 1)) 111 13 x1) 111 6 ((μ.1 111 6) + 2)) 111 13 (256 + x1)) = wr μ := ((wr_cg (sv_n _ (by decide))).trans ((wr_cg (sv_n _ (by decide))).trans ((wr_cg (sv_n _ (by decide))).trans ((wr_cg (sv_n _ (by decide))).trans (wr_cg (sv_n _ (by decide)))))))
                          have e_226 : nn (sv (sv (sv (sv (sv μ 111 8 3) 111 6 ((μ.1 111 6) + 1)) 111 13 x1) 111 6 ((μ.1 111 6) + 2)) 111 13 (256 + x1)) = nn μ := ((nn_cg (sv_n _ (by decide)) (sv_n _ (by decide))).trans ((nn_cg (sv_n _ (by decide)) (sv_n _ (by decide))).trans ((nn_cg (sv_n _ (by decide)) (sv_n _ (by decide))).trans ((nn_cg (sv_n _ (by decide)) (sv_n _ (by decide))).trans (nn_cg (sv_n _ (by decide)) (sv_n _ (by decide)))))))
                          exact xr_v G hret hlk dX12_signs_206 ⟨(FrM.put (FrM.put (FrM.put (FrM.put (FrM.put FrM.rf (by decide)) (by decide)) (by decide)) (by decide)) (by decide)), (fun j hj => ((sv_n _ (fun h9 => hj (by rw [h9.2]; decide))).trans ((sv_n _ (fun h9 => hj (by rw [h9.2]; decide))).trans ((sv_n _ (fun h9 => hj (by rw [h9.2]; decide))).trans ((sv_n _ (fun h9 => hj (by rw [h9.2]; decide))).trans (sv_n _ (fun h9 => hj (by rw [h9.2]; decide)))))))), (by omega), (by omega), (by omega), (by omega)⟩
                        · refine lv_iload_n hx hb dX12_signs_134 rfl (lv_at hl 2 rfl) ?_
                          refine lv_bipush (v := iv 33) hx hb dX12_signs_135 rfl ?_
                          refine xb_icmp_eq (tgt := 188) hx hb (by unfold ir; omega) (by unfold ir; omega) dX12_signs_137 (by decide) (fun c_137 => ?_) (fun c_137 => ?_)
                          · refine lv_iconst (v := iv 1) hx hb dX12_signs_188 rfl ?_
                            refine lv_goto (tgt := 193) hx hb dX12_signs_189 (by decide) ?_
                            refine lv_istore_n (lv' := [(3, .int (iv 1)), (2, .int (iv r_9)), (0, .ref (oP ω 111)), (1, .int (iv x1))]) hx hb dX12_signs_193 rfl hl (by decide) rfl (fun ls hl => ?_)
                            refine lv_iload_n hx hb dX12_signs_194 rfl (lv_at hl 0 rfl) ?_
                            refine xb_if_ne (tgt := 206) hx hb (x := 1) (by unfold ir; omega) dX12_signs_195 (by decide) (fun c_195 => ?_) (fun c_195 => absurd c_195 (by decide))
                            have e_227 : (sv (sv (sv (sv (sv μ 111 8 3) 111 6 ((μ.1 111 6) + 1)) 111 13 x1) 111 6 ((μ.1 111 6) + 2)) 111 13 (256 + x1)).1 111 6 = (μ.1 111 6) + 2 := ((sv_n _ (by decide)).trans (sv_s _ _ _ _))
                            have e_228 : (sv (sv (sv (sv (sv μ 111 8 3) 111 6 ((μ.1 111 6) + 1)) 111 13 x1) 111 6 ((μ.1 111 6) + 2)) 111 13 (256 + x1)).1 111 6 = (μ.1 111 6) + 2 := ((sv_n _ (by decide)).trans (sv_s _ _ _ _))
                            have e_229 : (sv (sv (sv (sv (sv μ 111 8 3) 111 6 ((μ.1 111 6) + 1)) 111 13 x1) 111 6 ((μ.1 111 6) + 2)) 111 13 (256 + x1)).1 111 8 = 3 := ((sv_n _ (by decide)).trans ((sv_n _ (by decide)).trans ((sv_n _ (by decide)).trans ((sv_n _ (by decide)).trans (sv_s _ _ _ _)))))
                            have e_230 : wr (sv (sv (sv (sv (sv μ 111 8 3) 111 6 ((μ.1 111 6) + 1)) 111 13 x1) 111 6 ((μ.1 111 6) + 2)) 111 13 (256 + x1)) = wr μ := ((wr_cg (sv_n _ (by decide))).trans ((wr_cg (sv_n _ (by decide))).trans ((wr_cg (sv_n _ (by decide))).trans ((wr_cg (sv_n _ (by decide))).trans (wr_cg (sv_n _ (by decide)))))))
                            have e_231 : bd (sv (sv (sv (sv (sv μ 111 8 3) 111 6 ((μ.1 111 6) + 1)) 111 13 x1) 111 6 ((μ.1 111 6) + 2)) 111 13 (256 + x1)) = bd μ := ((bd_cg (sv_n _ (by decide)) (sv_n _ (by decide)) (sv_n _ (by decide))).trans ((bd_cg (sv_n _ (by decide)) (sv_n _ (by decide)) (sv_n _ (by decide))).trans ((bd_cg (sv_n _ (by decide)) (sv_n _ (by decide)) (sv_n _ (by decide))).trans ((bd_cg (sv_n _ (by decide)) (sv_n _ (by decide)) (sv_n _ (by decide))).trans (bd_cg (sv_n _ (by decide)) (sv_n _ (by decide)) (sv_n _ (by decide)))))))
                            have e_232 : wr (sv (sv (sv (sv (sv μ 111 8 3) 111 6 ((μ.1 111 6) + 1)) 111 13 x1) 111 6 ((μ.1 111 6) + 2)) 111 13 (256 + x1)) = wr μ := ((wr_cg (sv_n _ (by decide))).trans ((wr_cg (sv_n _ (by decide))).trans ((wr_cg (sv_n _ (by decide))).trans ((wr_cg (sv_n _ (by decide))).trans (wr_cg (sv_n _ (by decide)))))))
                            have e_233 : nn (sv (sv (sv (sv (sv μ 111 8 3) 111 6 ((μ.1 111 6) + 1)) 111 13 x1) 111 6 ((μ.1 111 6) + 2)) 111 13 (256 + x1)) = nn μ := ((nn_cg (sv_n _ (by decide)) (sv_n _ (by decide))).trans ((nn_cg (sv_n _ (by decide)) (sv_n _ (by decide))).trans ((nn_cg (sv_n _ (by decide)) (sv_n _ (by decide))).trans ((nn_cg (sv_n _ (by decide)) (sv_n _ (by decide))).trans (nn_cg (sv_n _ (by decide)) (sv_n _ (by decide)))))))
                            exact xr_v G hret hlk dX12_signs_206 ⟨(FrM.put (FrM.put (FrM.put (FrM.put (FrM.put FrM.rf (by decide)) (by decide)) (by decide)) (by decide)) (by decide)), (fun j hj => ((sv_n _ (fun h9 => hj (by rw [h9.2]; decide))).trans ((sv_n _ (fun h9 => hj (by rw [h9.2]; decide))).trans ((sv_n _ (fun h9 => hj (by rw [h9.2]; decide))).trans ((sv_n _ (fun h9 => hj (by rw [h9.2]; decide))).trans (sv_n _ (fun h9 => hj (by rw [h9.2]; decide)))))))), (by omega), (by omega), (by omega), (by omega)⟩
                          · refine lv_iload_n hx hb dX12_signs_140 rfl (lv_at hl 2 rfl) ?_
                            refine lv_bipush (v := iv 61) hx hb dX12_signs_141 rfl ?_
                            refine xb_icmp_eq (tgt := 188) hx hb (by unfold ir; omega) (by unfold ir; omega) dX12_signs_143 (by decide) (fun c_143 => ?_) (fun c_143 => ?_)
                            · refine lv_iconst (v := iv 1) hx hb dX12_signs_188 rfl ?_
                              refine lv_goto (tgt := 193) hx hb dX12_signs_189 (by decide) ?_
                              refine lv_istore_n (lv' := [(3, .int (iv 1)), (2, .int (iv r_9)), (0, .ref (oP ω 111)), (1, .int (iv x1))]) hx hb dX12_signs_193 rfl hl (by decide) rfl (fun ls hl => ?_)
                              refine lv_iload_n hx hb dX12_signs_194 rfl (lv_at hl 0 rfl) ?_
                              refine xb_if_ne (tgt := 206) hx hb (x := 1) (by unfold ir; omega) dX12_signs_195 (by decide) (fun c_195 => ?_) (fun c_195 => absurd c_195 (by decide))
                              have e_234 : (sv (sv (sv (sv (sv μ 111 8 3) 111 6 ((μ.1 111 6) + 1)) 111 13 x1) 111 6 ((μ.1 111 6) + 2)) 111 13 (256 + x1)).1 111 6 = (μ.1 111 6) + 2 := ((sv_n _ (by decide)).trans (sv_s _ _ _ _))
                              have e_235 : (sv (sv (sv (sv (sv μ 111 8 3) 111 6 ((μ.1 111 6) + 1)) 111 13 x1) 111 6 ((μ.1 111 6) + 2)) 111 13 (256 + x1)).1 111 6 = (μ.1 111 6) + 2 := ((sv_n _ (by decide)).trans (sv_s _ _ _ _))
                              have e_236 : (sv (sv (sv (sv (sv μ 111 8 3) 111 6 ((μ.1 111 6) + 1)) 111 13 x1) 111 6 ((μ.1 111 6) + 2)) 111 13 (256 + x1)).1 111 8 = 3 := ((sv_n _ (by decide)).trans ((sv_n _ (by decide)).trans ((sv_n _ (by decide)).trans ((sv_n _ (by decide)).trans (sv_s _ _ _ _)))))
                              have e_237 : wr (sv (sv (sv (sv (sv μ 111 8 3) 111 6 ((μ.1 111 6) + 1)) 111 13 x1) 111 6 ((μ.1 111 6) + 2)) 111 13 (256 + x1)) = wr μ := ((wr_cg (sv_n _ (by decide))).trans ((wr_cg (sv_n _ (by decide))).trans ((wr_cg (sv_n _ (by decide))).trans ((wr_cg (sv_n _ (by decide))).trans (wr_cg (sv_n _ (by decide)))))))
                              have e_238 : bd (sv (sv (sv (sv (sv μ 111 8 3) 111 6 ((μ.1 111 6) + 1)) 111 13 x1) 111 6 ((μ.1 111 6) + 2)) 111 13 (256 + x1)) = bd μ := ((bd_cg (sv_n _ (by decide)) (sv_n _ (by decide)) (sv_n _ (by decide))).trans ((bd_cg (sv_n _ (by decide)) (sv_n _ (by decide)) (sv_n _ (by decide))).trans ((bd_cg (sv_n _ (by decide)) (sv_n _ (by decide)) (sv_n _ (by decide))).trans ((bd_cg (sv_n _ (by decide)) (sv_n _ (by decide)) (sv_n _ (by decide))).trans (bd_cg (sv_n _ (by decide)) (sv_n _ (by decide)) (sv_n _ (by decide)))))))
                              have e_239 : wr (sv (sv (sv (sv (sv μ 111 8 3) 111 6 ((μ.1 111 6) + 1)) 111 13 x1) 111 6 ((μ.1 111 6) + 2)) 111 13 (256 + x1)) = wr μ := ((wr_cg (sv_n _ (by decide))).trans ((wr_cg (sv_n _ (by decide))).trans ((wr_cg (sv_n _ (by decide))).trans ((wr_cg (sv_n _ (by decide))).trans (wr_cg (sv_n _ (by decide)))))))
                              have e_240 : nn (sv (sv (sv (sv (sv μ 111 8 3) 111 6 ((μ.1 111 6) + 1)) 111 13 x1) 111 6 ((μ.1 111 6) + 2)) 111 13 (256 + x1)) = nn μ := ((nn_cg (sv_n _ (by decide)) (sv_n _ (by decide))).trans ((nn_cg (sv_n _ (by decide)) (sv_n _ (by decide))).trans ((nn_cg (sv_n _ (by decide)) (sv_n _ (by decide))).trans ((nn_cg (sv_n _ (by decide)) (sv_n _ (by decide))).trans (nn_cg (sv_n _ (by decide)) (sv_n _ (by decide)))))))
                              exact xr_v G hret hlk dX12_signs_206 ⟨(FrM.put (FrM.put (FrM.put (FrM.put (FrM.put FrM.rf (by decide)) (by decide)) (by decide)) (by decide)) (by decide)), (fun j hj => ((sv_n _ (fun h9 => hj (by rw [h9.2]; decide))).trans ((sv_n _ (fun h9 => hj (by rw [h9.2]; decide))).trans ((sv_n _ (fun h9 => hj (by rw [h9.2]; decide))).trans ((sv_n _ (fun h9 => hj (by rw [h9.2]; decide))).trans (sv_n _ (fun h9 => hj (by rw [h9.2]; decide)))))))), (by omega), (by omega), (by omega), (by omega)⟩
                            · refine lv_iload_n hx hb dX12_signs_146 rfl (lv_at hl 2 rfl) ?_
                              refine lv_bipush (v := iv 60) hx hb dX12_signs_147 rfl ?_
                              refine xb_icmp_eq (tgt := 188) hx hb (by unfold ir; omega) (by unfold ir; omega) dX12_signs_149 (by decide) (fun c_149 => ?_) (fun c_149 => ?_)
                              · refine lv_iconst (v := iv 1) hx hb dX12_signs_188 rfl ?_
                                refine lv_goto (tgt := 193) hx hb dX12_signs_189 (by decide) ?_
                                refine lv_istore_n (lv' := [(3, .int (iv 1)), (2, .int (iv r_9)), (0, .ref (oP ω 111)), (1, .int (iv x1))]) hx hb dX12_signs_193 rfl hl (by decide) rfl (fun ls hl => ?_)
                                refine lv_iload_n hx hb dX12_signs_194 rfl (lv_at hl 0 rfl) ?_
                                refine xb_if_ne (tgt := 206) hx hb (x := 1) (by unfold ir; omega) dX12_signs_195 (by decide) (fun c_195 => ?_) (fun c_195 => absurd c_195 (by decide))
                                have e_241 : (sv (sv (sv (sv (sv μ 111 8 3) 111 6 ((μ.1 111 6) + 1)) 111 13 x1) 111 6 ((μ.1 111 6) + 2)) 111 13 (256 + x1)).1 111 6 = (μ.1 111 6) + 2 := ((sv_n _ (by decide)).trans (sv_s _ _ _ _))
                                have e_242 : (sv (sv (sv (sv (sv μ 111 8 3) 111 6 ((μ.1 111 6) + 1)) 111 13 x1) 111 6 ((μ.1 111 6) + 2)) 111 13 (256 + x1)).1 111 6 = (μ.1 111 6) + 2 := ((sv_n _ (by decide)).trans (sv_s _ _ _ _))
                                have e_243 : (sv (sv (sv (sv (sv μ 111 8 3) 111 6 ((μ.1 111 6) + 1)) 111 13 x1) 111 6 ((μ.1 111 6) + 2)) 111 13 (256 + x1)).1 111 8 = 3 := ((sv_n _ (by decide)).trans ((sv_n _ (by decide)).trans ((sv_n _ (by decide)).trans ((sv_n _ (by decide)).trans (sv_s _ _ _ _)))))
                                have e_244 : wr (sv (sv (sv (sv (sv μ 111 8 3) 111 6 ((μ.1 111 6) + 1)) 111 13 x1) 111 6 ((μ.1 111 6) + 2)) 111 13 (256 + x1)) = wr μ := ((wr_cg (sv_n _ (by decide))).trans ((wr_cg (sv_n _ (by decide))).trans ((wr_cg (sv_n _ (by decide))).trans ((wr_cg (sv_n _ (by decide))).trans (wr_cg (sv_n _ (by decide)))))))
                                have e_245 : bd (sv (sv (sv (sv (sv μ 111 8 3) 111 6 ((μ.1 111 6) + 1)) 111 13 x1) 111 6 ((μ.1 111 6) + 2)) 111 13 (256 + x1)) = bd μ := ((bd_cg (sv_n _ (by decide)) (sv_n _ (by decide)) (sv_n _ (by decide))).trans ((bd_cg (sv_n _ (by decide)) (sv_n _ (by decide)) (sv_n _ (by decide))).trans ((bd_cg (sv_n _ (by decide)) (sv_n _ (by decide)) (sv_n _ (by decide))).trans ((bd_cg (sv_n _ (by decide)) (sv_n _ (by decide)) (sv_n _ (by decide))).trans (bd_cg (sv_n _ (by decide)) (sv_n _ (by decide)) (sv_n _ (by decide)))))))
                                have e_246 : wr (sv (sv (sv (sv (sv μ 111 8 3) 111 6 ((μ.1 111 6) + 1)) 111 13 x1) 111 6 ((μ.1 111 6) + 2)) 111 13 (256 + x1)) = wr μ := ((wr_cg (sv_n _ (by decide))).trans ((wr_cg (sv_n _ (by decide))).trans ((wr_cg (sv_n _ (by decide))).trans ((wr_cg (sv_n _ (by decide))).trans (wr_cg (sv_n _ (by decide)))))))
                                have e_247 : nn (sv (sv (sv (sv (sv μ 111 8 3) 111 6 ((μ.1 111 6) + 1)) 111 13 x1) 111 6 ((μ.1 111 6) + 2)) 111 13 (256 + x1)) = nn μ := ((nn_cg (sv_n _ (by decide)) (sv_n _ (by decide))).trans ((nn_cg (sv_n _ (by decide)) (sv_n _ (by decide))).trans ((nn_cg (sv_n _ (by decide)) (sv_n _ (by decide))).trans ((nn_cg (sv_n _ (by decide)) (sv_n _ (by decide))).trans (nn_cg (sv_n _ (by decide)) (sv_n _ (by decide)))))))
                                exact xr_v G hret hlk dX12_signs_206 ⟨(FrM.put (FrM.put (FrM.put (FrM.put (FrM.put FrM.rf (by decide)) (by decide)) (by decide)) (by decide)) (by decide)), (fun j hj => ((sv_n _ (fun h9 => hj (by rw [h9.2]; decide))).trans ((sv_n _ (fun h9 => hj (by rw [h9.2]; decide))).trans ((sv_n _ (fun h9 => hj (by rw [h9.2]; decide))).trans ((sv_n _ (fun h9 => hj (by rw [h9.2]; decide))).trans (sv_n _ (fun h9 => hj (by rw [h9.2]; decide)))))))), (by omega), (by omega), (by omega), (by omega)⟩
                              · refine lv_iload_n hx hb dX12_signs_152 rfl (lv_at hl 2 rfl) ?_
                                refine lv_bipush (v := iv 62) hx hb dX12_signs_153 rfl ?_
                                refine xb_icmp_eq (tgt := 188) hx hb (by unfold ir; omega) (by unfold ir; omega) dX12_signs_155 (by decide) (fun c_155 => ?_) (fun c_155 => ?_)
                                · refine lv_iconst (v := iv 1) hx hb dX12_signs_188 rfl ?_
                                  refine lv_goto (tgt := 193) hx hb dX12_signs_189 (by decide) ?_
                                  refine lv_istore_n (lv' := [(3, .int (iv 1)), (2, .int (iv r_9)), (0, .ref (oP ω 111)), (1, .int (iv x1))]) hx hb dX12_signs_193 rfl hl (by decide) rfl (fun ls hl => ?_)
                                  refine lv_iload_n hx hb dX12_signs_194 rfl (lv_at hl 0 rfl) ?_
                                  refine xb_if_ne (tgt := 206) hx hb (x := 1) (by unfold ir; omega) dX12_signs_195 (by decide) (fun c_195 => ?_) (fun c_195 => absurd c_195 (by decide))
                                  have e_248 : (sv (sv (sv (sv (sv μ 111 8 3) 111 6 ((μ.1 111 6) + 1)) 111 13 x1) 111 6 ((μ.1 111 6) + 2)) 111 13 (256 + x1)).1 111 6 = (μ.1 111 6) + 2 := ((sv_n _ (by decide)).trans (sv_s _ _ _ _))
                                  have e_249 : (sv (sv (sv (sv (sv μ 111 8 3) 111 6 ((μ.1 111 6) + 1)) 111 13 x1) 111 6 ((μ.1 111 6) + 2)) 111 13 (256 + x1)).1 111 6 = (μ.1 111 6) + 2 := ((sv_n _ (by decide)).trans (sv_s _ _ _ _))
                                  have e_250 : (sv (sv (sv (sv (sv μ 111 8 3) 111 6 ((μ.1 111 6) + 1)) 111 13 x1) 111 6 ((μ.1 111 6) + 2)) 111 13 (256 + x1)).1 111 8 = 3 := ((sv_n _ (by decide)).trans ((sv_n _ (by decide)).trans ((sv_n _ (by decide)).trans ((sv_n _ (by decide)).trans (sv_s _ _ _ _)))))
                                  have e_251 : wr (sv (sv (sv (sv (sv μ 111 8 3) 111 6 ((μ.1 111 6) + 1)) 111 13 x1) 111 6 ((μ.1 111 6) + 2)) 111 13 (256 + x1)) = wr μ := ((wr_cg (sv_n _ (by decide))).trans ((wr_cg (sv_n _ (by decide))).trans ((wr_cg (sv_n _ (by decide))).trans ((wr_cg (sv_n _ (by decide))).trans (wr_cg (sv_n _ (by decide)))))))
                                  have e_252 : bd (sv (sv (sv (sv (sv μ 111 8 3) 111 6 ((μ.1 111 6) + 1)) 111 13 x1) 111 6 ((μ.1 111 6) + 2)) 111 13 (256 + x1)) = bd μ := ((bd_cg (sv_n _ (by decide)) (sv_n _ (by decide)) (sv_n _ (by decide))).trans ((bd_cg (sv_n _ (by decide)) (sv_n _ (by decide)) (sv_n _ (by decide))).trans ((bd_cg (sv_n _ (by decide)) (sv_n _ (by decide)) (sv_n _ (by decide))).trans ((bd_cg (sv_n _ (by decide)) (sv_n _ (by decide)) (sv_n _ (by decide))).trans (bd_cg (sv_n _ (by decide)) (sv_n _ (by decide)) (sv_n _ (by decide)))))))
                                  have e_253 : wr (sv (sv (sv (sv (sv μ 111 8 3) 111 6 ((μ.1 111 6) + 1)) 111 13 x1) 111 6 ((μ.1 111 6) + 2)) 111 13 (256 + x1)) = wr μ := ((wr_cg (sv_n _ (by decide))).trans ((wr_cg (sv_n _ (by decide))).trans ((wr_cg (sv_n _ (by decide))).trans ((wr_cg (sv_n _ (by decide))).trans (wr_cg (sv_n _ (by decide)))))))
                                  have e_254 : nn (sv (sv (sv (sv (sv μ 111 8 3) 111 6 ((μ.1 111 6) + 1)) 111 13 x1) 111 6 ((μ.1 111 6) + 2)) 111 13 (256 + x1)) = nn μ := ((nn_cg (sv_n _ (by decide)) (sv_n _ (by decide))).trans ((nn_cg (sv_n _ (by decide)) (sv_n _ (by decide))).trans ((nn_cg (sv_n _ (by decide)) (sv_n _ (by decide))).trans ((nn_cg (sv_n _ (by decide)) (sv_n _ (by decide))).trans (nn_cg (sv_n _ (by decide)) (sv_n _ (by decide)))))))
                                  exact xr_v G hret hlk dX12_signs_206 ⟨(FrM.put (FrM.put (FrM.put (FrM.put (FrM.put FrM.rf (by decide)) (by decide)) (by decide)) (by decide)) (by decide)), (fun j hj => ((sv_n _ (fun h9 => hj (by rw [h9.2]; decide))).trans ((sv_n _ (fun h9 => hj (by rw [h9.2]; decide))).trans ((sv_n _ (fun h9 => hj (by rw [h9.2]; decide))).trans ((sv_n _ (fun h9 => hj (by rw [h9.2]; decide))).trans (sv_n _ (fun h9 => hj (by rw [h9.2]; decide)))))))), (by omega), (by omega), (by omega), (by omega)⟩
                                · refine lv_iload_n hx hb dX12_signs_158 rfl (lv_at hl 2 rfl) ?_
                                  refine lv_bipush (v := iv 43) hx hb dX12_signs_159 rfl ?_
                                  refine xb_icmp_eq (tgt := 188) hx hb (by unfold ir; omega) (by unfold ir; omega) dX12_signs_161 (by decide) (fun c_161 => ?_) (fun c_161 => ?_)
                                  · refine lv_iconst (v := iv 1) hx hb dX12_signs_188 rfl ?_
                                    refine lv_goto (tgt := 193) hx hb dX12_signs_189 (by decide) ?_
                                    refine lv_istore_n (lv' := [(3, .int (iv 1)), (2, .int (iv r_9)), (0, .ref (oP ω 111)), (1, .int (iv x1))]) hx hb dX12_signs_193 rfl hl (by decide) rfl (fun ls hl => ?_)
                                    refine lv_iload_n hx hb dX12_signs_194 rfl (lv_at hl 0 rfl) ?_
                                    refine xb_if_ne (tgt := 206) hx hb (x := 1) (by unfold ir; omega) dX12_signs_195 (by decide) (fun c_195 => ?_) (fun c_195 => absurd c_195 (by decide))
                                    have e_255 : (sv (sv (sv (sv (sv μ 111 8 3) 111 6 ((μ.1 111 6) + 1)) 111 13 x1) 111 6 ((μ.1 111 6) + 2)) 111 13 (256 + x1)).1 111 6 = (μ.1 111 6) + 2 := ((sv_n _ (by decide)).trans (sv_s _ _ _ _))
                                    have e_256 : (sv (sv (sv (sv (sv μ 111 8 3) 111 6 ((μ.1 111 6) + 1)) 111 13 x1) 111 6 ((μ.1 111 6) + 2)) 111 13 (256 + x1)).1 111 6 = (μ.1 111 6) + 2 := ((sv_n _ (by decide)).trans (sv_s _ _ _ _))
                                    have e_257 : (sv (sv (sv (sv (sv μ 111 8 3) 111 6 ((μ.1 111 6) + 1)) 111 13 x1) 111 6 ((μ.1 111 6) + 2)) 111 13 (256 + x1)).1 111 8 = 3 := ((sv_n _ (by decide)).trans ((sv_n _ (by decide)).trans ((sv_n _ (by decide)).trans ((sv_n _ (by decide)).trans (sv_s _ _ _ _)))))
                                    have e_258 : wr (sv (sv (sv (sv (sv μ 111 8 3) 111 6 ((μ.1 111 6) + 1)) 111 13 x1) 111 6 ((μ.1 111 6) + 2)) 111 13 (256 + x1)) = wr μ := ((wr_cg (sv_n _ (by decide))).trans ((wr_cg (sv_n _ (by decide))).trans ((wr_cg (sv_n _ (by decide))).trans ((wr_cg (sv_n _ (by decide))).trans (wr_cg (sv_n _ (by decide)))))))
                                    have e_259 : bd (sv (sv (sv (sv (sv μ 111 8 3) 111 6 ((μ.1 111 6) + 1)) 111 13 x1) 111 6 ((μ.1 111 6) + 2)) 111 13 (256 + x1)) = bd μ := ((bd_cg (sv_n _ (by decide)) (sv_n _ (by decide)) (sv_n _ (by decide))).trans ((bd_cg (sv_n _ (by decide)) (sv_n _ (by decide)) (sv_n _ (by decide))).trans ((bd_cg (sv_n _ (by decide)) (sv_n _ (by decide)) (sv_n _ (by decide))).trans ((bd_cg (sv_n _ (by decide)) (sv_n _ (by decide)) (sv_n _ (by decide))).trans (bd_cg (sv_n _ (by decide)) (sv_n _ (by decide)) (sv_n _ (by decide)))))))
                                    have e_260 : wr (sv (sv (sv (sv (sv μ 111 8 3) 111 6 ((μ.1 111 6) + 1)) 111 13 x1) 111 6 ((μ.1 111 6) + 2)) 111 13 (256 + x1)) = wr μ := ((wr_cg (sv_n _ (by decide))).trans ((wr_cg (sv_n _ (by decide))).trans ((wr_cg (sv_n _ (by decide))).trans ((wr_cg (sv_n _ (by decide))).trans (wr_cg (sv_n _ (by decide)))))))
                                    have e_261 : nn (sv (sv (sv (sv (sv μ 111 8 3) 111 6 ((μ.1 111 6) + 1)) 111 13 x1) 111 6 ((μ.1 111 6) + 2)) 111 13 (256 + x1)) = nn μ := ((nn_cg (sv_n _ (by decide)) (sv_n _ (by decide))).trans ((nn_cg (sv_n _ (by decide)) (sv_n _ (by decide))).trans ((nn_cg (sv_n _ (by decide)) (sv_n _ (by decide))).trans ((nn_cg (sv_n _ (by decide)) (sv_n _ (by decide))).trans (nn_cg (sv_n _ (by decide)) (sv_n _ (by decide)))))))
                                    exact xr_v G hret hlk dX12_signs_206 ⟨(FrM.put (FrM.put (FrM.put (FrM.put (FrM.put FrM.rf (by decide)) (by decide)) (by decide)) (by decide)) (by decide)), (fun j hj => ((sv_n _ (fun h9 => hj (by rw [h9.2]; decide))).trans ((sv_n _ (fun h9 => hj (by rw [h9.2]; decide))).trans ((sv_n _ (fun h9 => hj (by rw [h9.2]; decide))).trans ((sv_n _ (fun h9 => hj (by rw [h9.2]; decide))).trans (sv_n _ (fun h9 => hj (by rw [h9.2]; decide)))))))), (by omega), (by omega), (by omega), (by omega)⟩
                                  · refine lv_iload_n hx hb dX12_signs_164 rfl (lv_at hl 2 rfl) ?_
                                    refine lv_bipush (v := iv 45) hx hb dX12_signs_165 rfl ?_
                                    refine xb_icmp_eq (tgt := 188) hx hb (by unfold ir; omega) (by unfold ir; omega) dX12_signs_167 (by decide) (fun c_167 => ?_) (fun c_167 => ?_)
                                    · refine lv_iconst (v := iv 1) hx hb dX12_signs_188 rfl ?_
                                      refine lv_goto (tgt := 193) hx hb dX12_signs_189 (by decide) ?_
                                      refine lv_istore_n (lv' := [(3, .int (iv 1)), (2, .int (iv r_9)), (0, .ref (oP ω 111)), (1, .int (iv x1))]) hx hb dX12_signs_193 rfl hl (by decide) rfl (fun ls hl => ?_)
                                      refine lv_iload_n hx hb dX12_signs_194 rfl (lv_at hl 0 rfl) ?_
                                      refine xb_if_ne (tgt := 206) hx hb (x := 1) (by unfold ir; omega) dX12_signs_195 (by decide) (fun c_195 => ?_) (fun c_195 => absurd c_195 (by decide))
                                      have e_262 : (sv (sv (sv (sv (sv μ 111 8 3) 111 6 ((μ.1 111 6) + 1)) 111 13 x1) 111 6 ((μ.1 111 6) + 2)) 111 13 (256 + x1)).1 111 6 = (μ.1 111 6) + 2 := ((sv_n _ (by decide)).trans (sv_s _ _ _ _))
                                      have e_263 : (sv (sv (sv (sv (sv μ 111 8 3) 111 6 ((μ.1 111 6) + 1)) 111 13 x1) 111 6 ((μ.1 111 6) + 2)) 111 13 (256 + x1)).1 111 6 = (μ.1 111 6) + 2 := ((sv_n _ (by decide)).trans (sv_s _ _ _ _))
                                      have e_264 : (sv (sv (sv (sv (sv μ 111 8 3) 111 6 ((μ.1 111 6) + 1)) 111 13 x1) 111 6 ((μ.1 111 6) + 2)) 111 13 (256 + x1)).1 111 8 = 3 := ((sv_n _ (by decide)).trans ((sv_n _ (by decide)).trans ((sv_n _ (by decide)).trans ((sv_n _ (by decide)).trans (sv_s _ _ _ _)))))
                                      have e_265 : wr (sv (sv (sv (sv (sv μ 111 8 3) 111 6 ((μ.1 111 6) + 1)) 111 13 x1) 111 6 ((μ.1 111 6) + 2)) 111 13 (256 + x1)) = wr μ := ((wr_cg (sv_n _ (by decide))).trans ((wr_cg (sv_n _ (by decide))).trans ((wr_cg (sv_n _ (by decide))).trans ((wr_cg (sv_n _ (by decide))).trans (wr_cg (sv_n _ (by decide)))))))
                                      have e_266 : bd (sv (sv (sv (sv (sv μ 111 8 3) 111 6 ((μ.1 111 6) + 1)) 111 13 x1) 111 6 ((μ.1 111 6) + 2)) 111 13 (256 + x1)) = bd μ := ((bd_cg (sv_n _ (by decide)) (sv_n _ (by decide)) (sv_n _ (by decide))).trans ((bd_cg (sv_n _ (by decide)) (sv_n _ (by decide)) (sv_n _ (by decide))).trans ((bd_cg (sv_n _ (by decide)) (sv_n _ (by decide)) (sv_n _ (by decide))).trans ((bd_cg (sv_n _ (by decide)) (sv_n _ (by decide)) (sv_n _ (by decide))).trans (bd_cg (sv_n _ (by decide)) (sv_n _ (by decide)) (sv_n _ (by decide)))))))
                                      have e_267 : wr (sv (sv (sv (sv (sv μ 111 8 3) 111 6 ((μ.1 111 6) + 1)) 111 13 x1) 111 6 ((μ.1 111 6) + 2)) 111 13 (256 + x1)) = wr μ := ((wr_cg (sv_n _ (by decide))).trans ((wr_cg (sv_n _ (by decide))).trans ((wr_cg (sv_n _ (by decide))).trans ((wr_cg (sv_n _ (by decide))).trans (wr_cg (sv_n _ (by decide)))))))
                                      have e_268 : nn (sv (sv (sv (sv (sv μ 111 8 3) 111 6 ((μ.1 111 6) + 1)) 111 13 x1) 111 6 ((μ.1 111 6) + 2)) 111 13 (256 + x1)) = nn μ := ((nn_cg (sv_n _ (by decide)) (sv_n _ (by decide))).trans ((nn_cg (sv_n _ (by decide)) (sv_n _ (by decide))).trans ((nn_cg (sv_n _ (by decide)) (sv_n _ (by decide))).trans ((nn_cg (sv_n _ (by decide)) (sv_n _ (by decide))).trans (nn_cg (sv_n _ (by decide)) (sv_n _ (by decide)))))))
                                      exact xr_v G hret hlk dX12_signs_206 ⟨(FrM.put (FrM.put (FrM.put (FrM.put (FrM.put FrM.rf (by decide)) (by decide)) (by decide)) (by decide)) (by decide)), (fun j hj => ((sv_n _ (fun h9 => hj (by rw [h9.2]; decide))).trans ((sv_n _ (fun h9 => hj (by rw [h9.2]; decide))).trans ((sv_n _ (fun h9 => hj (by rw [h9.2]; decide))).trans ((sv_n _ (fun h9 => hj (by rw [h9.2]; decide))).trans (sv_n _ (fun h9 => hj (by rw [h9.2]; decide)))))))), (by omega), (by omega), (by omega), (by omega)⟩
                                    · refine lv_iload_n hx hb dX12_signs_170 rfl (lv_at hl 2 rfl) ?_
                                      refine lv_bipush (v := iv 42) hx hb dX12_signs_171 rfl ?_
                                      refine xb_icmp_eq (tgt := 188) hx hb (by unfold ir; omega) (by unfold ir; omega) dX12_signs_173 (by decide) (fun c_173 => ?_) (fun c_173 => ?_)
                                      · refine lv_iconst (v := iv 1) hx hb dX12_signs_188 rfl ?_
                                        refine lv_goto (tgt := 193) hx hb dX12_signs_189 (by decide) ?_
                                        refine lv_istore_n (lv' := [(3, .int (iv 1)), (2, .int (iv r_9)), (0, .ref (oP ω 111)), (1, .int (iv x1))]) hx hb dX12_signs_193 rfl hl (by decide) rfl (fun ls hl => ?_)
                                        refine lv_iload_n hx hb dX12_signs_194 rfl (lv_at hl 0 rfl) ?_
                                        refine xb_if_ne (tgt := 206) hx hb (x := 1) (by unfold ir; omega) dX12_signs_195 (by decide) (fun c_195 => ?_) (fun c_195 => absurd c_195 (by decide))
                                        have e_269 : (sv (sv (sv (sv (sv μ 111 8 3) 111 6 ((μ.1 111 6) + 1)) 111 13 x1) 111 6 ((μ.1 111 6) + 2)) 111 13 (256 + x1)).1 111 6 = (μ.1 111 6) + 2 := ((sv_n _ (by decide)).trans (sv_s _ _ _ _))
                                        have e_270 : (sv (sv (sv (sv (sv μ 111 8 3) 111 6 ((μ.1 111 6) + 1)) 111 13 x1) 111 6 ((μ.1 111 6) + 2)) 111 13 (256 + x1)).1 111 6 = (μ.1 111 6) + 2 := ((sv_n _ (by decide)).trans (sv_s _ _ _ _))
                                        have e_271 : (sv (sv (sv (sv (sv μ 111 8 3) 111 6 ((μ.1 111 6) + 1)) 111 13 x1) 111 6 ((μ.1 111 6) + 2)) 111 13 (256 + x1)).1 111 8 = 3 := ((sv_n _ (by decide)).trans ((sv_n _ (by decide)).trans ((sv_n _ (by decide)).trans ((sv_n _ (by decide)).trans (sv_s _ _ _ _)))))
                                        have e_272 : wr (sv (sv (sv (sv (sv μ 111 8 3) 111 6 ((μ.1 111 6) + 1)) 111 13 x1) 111 6 ((μ.1 111 6) + 2)) 111 13 (256 + x1)) = wr μ := ((wr_cg (sv_n _ (by decide))).trans ((wr_cg (sv_n _ (by decide))).trans ((wr_cg (sv_n _ (by decide))).trans ((wr_cg (sv_n _ (by decide))).trans (wr_cg (sv_n _ (by decide)))))))
                                        have e_273 : bd (sv (sv (sv (sv (sv μ 111 8 3) 111 6 ((μ.1 111 6) + 1)) 111 13 x1) 111 6 ((μ.1 111 6) + 2)) 111 13 (256 + x1)) = bd μ := ((bd_cg (sv_n _ (by decide)) (sv_n _ (by decide)) (sv_n _ (by decide))).trans ((bd_cg (sv_n _ (by decide)) (sv_n _ (by decide)) (sv_n _ (by decide))).trans ((bd_cg (sv_n _ (by decide)) (sv_n _ (by decide)) (sv_n _ (by decide))).trans ((bd_cg (sv_n _ (by decide)) (sv_n _ (by decide)) (sv_n _ (by decide))).trans (bd_cg (sv_n _ (by decide)) (sv_n _ (by decide)) (sv_n _ (by decide)))))))
                                        have e_274 : wr (sv (sv (sv (sv (sv μ 111 8 3) 111 6 ((μ.1 111 6) + 1)) 111 13 x1) 111 6 ((μ.1 111 6) + 2)) 111 13 (256 + x1)) = wr μ := ((wr_cg (sv_n _ (by decide))).trans ((wr_cg (sv_n _ (by decide))).trans ((wr_cg (sv_n _ (by decide))).trans ((wr_cg (sv_n _ (by decide))).trans (wr_cg (sv_n _ (by decide)))))))
                                        have e_275 : nn (sv (sv (sv (sv (sv μ 111 8 3) 111 6 ((μ.1 111 6) + 1)) 111 13 x1) 111 6 ((μ.1 111 6) + 2)) 111 13 (256 + x1)) = nn μ := ((nn_cg (sv_n _ (by decide)) (sv_n _ (by decide))).trans ((nn_cg (sv_n _ (by decide)) (sv_n _ (by decide))).trans ((nn_cg (sv_n _ (by decide)) (sv_n _ (by decide))).trans ((nn_cg (sv_n _ (by decide)) (sv_n _ (by decide))).trans (nn_cg (sv_n _ (by decide)) (sv_n _ (by decide)))))))
                                        exact xr_v G hret hlk dX12_signs_206 ⟨(FrM.put (FrM.put (FrM.put (FrM.put (FrM.put FrM.rf (by decide)) (by decide)) (by decide)) (by decide)) (by decide)), (fun j hj => ((sv_n _ (fun h9 => hj (by rw [h9.2]; decide))).trans ((sv_n _ (fun h9 => hj (by rw [h9.2]; decide))).trans ((sv_n _ (fun h9 => hj (by rw [h9.2]; decide))).trans ((sv_n _ (fun h9 => hj (by rw [h9.2]; decide))).trans (sv_n _ (fun h9 => hj (by rw [h9.2]; decide)))))))), (by omega), (by omega), (by omega), (by omega)⟩
                                      · refine lv_iload_n hx hb dX12_signs_176 rfl (lv_at hl 2 rfl) ?_
                                        refine lv_bipush (v := iv 47) hx hb dX12_signs_177 rfl ?_
                                        refine xb_icmp_eq (tgt := 188) hx hb (by unfold ir; omega) (by unfold ir; omega) dX12_signs_179 (by decide) (fun c_179 => ?_) (fun c_179 => ?_)
                                        · refine lv_iconst (v := iv 1) hx hb dX12_signs_188 rfl ?_
                                          refine lv_goto (tgt := 193) hx hb dX12_signs_189 (by decide) ?_
                                          refine lv_istore_n (lv' := [(3, .int (iv 1)), (2, .int (iv r_9)), (0, .ref (oP ω 111)), (1, .int (iv x1))]) hx hb dX12_signs_193 rfl hl (by decide) rfl (fun ls hl => ?_)
                                          refine lv_iload_n hx hb dX12_signs_194 rfl (lv_at hl 0 rfl) ?_
                                          refine xb_if_ne (tgt := 206) hx hb (x := 1) (by unfold ir; omega) dX12_signs_195 (by decide) (fun c_195 => ?_) (fun c_195 => absurd c_195 (by decide))
                                          have e_276 : (sv (sv (sv (sv (sv μ 111 8 3) 111 6 ((μ.1 111 6) + 1)) 111 13 x1) 111 6 ((μ.1 111 6) + 2)) 111 13 (256 + x1)).1 111 6 = (μ.1 111 6) + 2 := ((sv_n _ (by decide)).trans (sv_s _ _ _ _))
                                          have e_277 : (sv (sv (sv (sv (sv μ 111 8 3) 111 6 ((μ.1 111 6) + 1)) 111 13 x1) 111 6 ((μ.1 111 6) + 2)) 111 13 (256 + x1)).1 111 6 = (μ.1 111 6) + 2 := ((sv_n _ (by decide)).trans (sv_s _ _ _ _))
                                          have e_278 : (sv (sv (sv (sv (sv μ 111 8 3) 111 6 ((μ.1 111 6) + 1)) 111 13 x1) 111 6 ((μ.1 111 6) + 2)) 111 13 (256 + x1)).1 111 8 = 3 := ((sv_n _ (by decide)).trans ((sv_n _ (by decide)).trans ((sv_n _ (by decide)).trans ((sv_n _ (by decide)).trans (sv_s _ _ _ _)))))
                                          have e_279 : wr (sv (sv (sv (sv (sv μ 111 8 3) 111 6 ((μ.1 111 6) + 1)) 111 13 x1) 111 6 ((μ.1 111 6) + 2)) 111 13 (256 + x1)) = wr μ := ((wr_cg (sv_n _ (by decide))).trans ((wr_cg (sv_n _ (by decide))).trans ((wr_cg (sv_n _ (by decide))).trans ((wr_cg (sv_n _ (by decide))).trans (wr_cg (sv_n _ (by decide)))))))
                                          have e_280 : bd (sv (sv (sv (sv (sv μ 111 8 3) 111 6 ((μ.1 111 6) + 1)) 111 13 x1) 111 6 ((μ.1 111 6) + 2)) 111 13 (256 + x1)) = bd μ := ((bd_cg (sv_n _ (by decide)) (sv_n _ (by decide)) (sv_n _ (by decide))).trans ((bd_cg (sv_n _ (by decide)) (sv_n _ (by decide)) (sv_n _ (by decide))).trans ((bd_cg (sv_n _ (by decide)) (sv_n _ (by decide)) (sv_n _ (by decide))).trans ((bd_cg (sv_n _ (by decide)) (sv_n _ (by decide)) (sv_n _ (by decide))).trans (bd_cg (sv_n _ (by decide)) (sv_n _ (by decide)) (sv_n _ (by decide)))))))
                                          have e_281 : wr (sv (sv (sv (sv (sv μ 111 8 3) 111 6 ((μ.1 111 6) + 1)) 111 13 x1) 111 6 ((μ.1 111 6) + 2)) 111 13 (256 + x1)) = wr μ := ((wr_cg (sv_n _ (by decide))).trans ((wr_cg (sv_n _ (by decide))).trans ((wr_cg (sv_n _ (by decide))).trans ((wr_cg (sv_n _ (by decide))).trans (wr_cg (sv_n _ (by decide)))))))
                                          have e_282 : nn (sv (sv (sv (sv (sv μ 111 8 3) 111 6 ((μ.1 111 6) + 1)) 111 13 x1) 111 6 ((μ.1 111 6) + 2)) 111 13 (256 + x1)) = nn μ := ((nn_cg (sv_n _ (by decide)) (sv_n _ (by decide))).trans ((nn_cg (sv_n _ (by decide)) (sv_n _ (by decide))).trans ((nn_cg (sv_n _ (by decide)) (sv_n _ (by decide))).trans ((nn_cg (sv_n _ (by decide)) (sv_n _ (by decide))).trans (nn_cg (sv_n _ (by decide)) (sv_n _ (by decide)))))))
                                          exact xr_v G hret hlk dX12_signs_206 ⟨(FrM.put (FrM.put (FrM.put (FrM.put (FrM.put FrM.rf (by decide)) (by decide)) (by decide)) (by decide)) (by decide)), (fun j hj => ((sv_n _ (fun h9 => hj (by rw [h9.2]; decide))).trans ((sv_n _ (fun h9 => hj (by rw [h9.2]; decide))).trans ((sv_n _ (fun h9 => hj (by rw [h9.2]; decide))).trans ((sv_n _ (fun h9 => hj (by rw [h9.2]; decide))).trans (sv_n _ (fun h9 => hj (by rw [h9.2]; decide)))))))), (by omega), (by omega), (by omega), (by omega)⟩
                                        · refine lv_iload_n hx hb dX12_signs_182 rfl (lv_at hl 2 rfl) ?_
                                          refine lv_bipush (v := iv 37) hx hb dX12_signs_183 rfl ?_
                                          refine xb_icmp_ne (tgt := 192) hx hb (by unfold ir; omega) (by unfold ir; omega) dX12_signs_185 (by decide) (fun c_185 => ?_) (fun c_185 => ?_)
                                          · refine lv_iconst (v := iv 0) hx hb dX12_signs_192 rfl ?_
                                            refine lv_istore_n (lv' := [(3, .int (iv 0)), (2, .int (iv r_9)), (0, .ref (oP ω 111)), (1, .int (iv x1))]) hx hb dX12_signs_193 rfl hl (by decide) rfl (fun ls hl => ?_)
                                            refine lv_iload_n hx hb dX12_signs_194 rfl (lv_at hl 0 rfl) ?_
                                            refine xb_if_ne (tgt := 206) hx hb (x := 0) (by unfold ir; omega) dX12_signs_195 (by decide) (fun c_195 => absurd c_195 (by decide)) (fun c_195 => ?_)
                                            refine lv_aload_n hx hb dX12_signs_198 rfl (lv_at hl 2 rfl) ?_
                                            refine lv_aload_n hx hb dX12_signs_199 rfl (lv_at hl 2 rfl) ?_
                                            refine xa_geti G fd_X12 (a := 111) (x := μ.1 111 9) 9 rfl (by decide) rfl (wm 7 158 rfl rfl) ⟨rfl, rfl, rfl⟩ dX12_signs_200 rfl ((sv_n _ (by decide)).trans ((sv_n _ (by decide)).trans ((sv_n _ (by decide)).trans ((sv_n _ (by decide)).trans (sv_n _ (by decide)))))) ?_
                                            have hr_283 : -2147483648 ≤ μ.1 111 9 ∧ μ.1 111 9 ≤ 2147483647 := by have h9 := G.hr (a := 111) (k := 9) rfl; rw [show (sv (sv (sv (sv (sv μ 111 8 3) 111 6 ((μ.1 111 6) + 1)) 111 13 x1) 111 6 ((μ.1 111 6) + 2)) 111 13 (256 + x1)).1 111 9 = μ.1 111 9 from ((sv_n _ (by decide)).trans ((sv_n _ (by decide)).trans ((sv_n _ (by decide)).trans ((sv_n _ (by decide)).trans (sv_n _ (by decide))))))] at h9; exact h9
                                            have e_284 : (sv (sv (sv (sv (sv μ 111 8 3) 111 6 ((μ.1 111 6) + 1)) 111 13 x1) 111 6 ((μ.1 111 6) + 2)) 111 13 (256 + x1)).1 111 9 = μ.1 111 9 := ((sv_n _ (by decide)).trans ((sv_n _ (by decide)).trans ((sv_n _ (by decide)).trans ((sv_n _ (by decide)).trans (sv_n _ (by decide))))))
                                            refine xc_vV G (b := 111) (rest := []) (As := [.int (iv (μ.1 111 9))]) (c_X12_wrong ω l (sv (sv (sv (sv (sv μ 111 8 3) 111 6 ((μ.1 111 6) + 1)) 111 13 x1) 111 6 ((μ.1 111 6) + 2)) 111 13 (256 + x1)) (μ.1 111 9) (by unfold ir; omega) (by omega)) (wm 9 22 rfl rfl) (wm 9 24 rfl rfl) (wm 0 123 rfl rfl) rfl rfl (by decide) rfl (wm 1 18 rfl rfl) (wm 9 25 rfl rfl) (by decide) hR (by decide) (n := 1) rfl rfl (Nat.le_of_ble_eq_true rfl) hl.1 dX12_signs_203 (fun μ285 ρ d0 H locs hp G => ?_)
                                            obtain ⟨F_286, hp_287, hp_288⟩ := hp
                                            have hw_289 := wr_r (μ := μ285)
                                            have e_290 : μ285.1 111 6 = (μ.1 111 6) + 2 := ((hp_287 6 (by decide)).trans ((sv_n _ (by decide)).trans (sv_s _ _ _ _)))
                                            have e_291 : μ285.1 111 6 = (μ.1 111 6) + 2 := ((hp_287 6 (by decide)).trans ((sv_n _ (by decide)).trans (sv_s _ _ _ _)))
                                            have e_292 : μ285.1 111 8 = 3 := ((hp_287 8 (by decide)).trans ((sv_n _ (by decide)).trans ((sv_n _ (by decide)).trans ((sv_n _ (by decide)).trans ((sv_n _ (by decide)).trans (sv_s _ _ _ _))))))
                                            exact xr_v G hret hlk dX12_signs_206 ⟨(FrM.tr (FrM.put (FrM.put (FrM.put (FrM.put (FrM.put FrM.rf (by decide)) (by decide)) (by decide)) (by decide)) (by decide)) F_286 (by decide)), (fun j hj => ((hp_287 j (fun h9 => hj ((by decide : ∀ x ∈ ([15] : List Int), x ∈ ([6, 8, 13, 15] : List Int)) j h9))).trans ((sv_n _ (fun h9 => hj (by rw [h9.2]; decide))).trans ((sv_n _ (fun h9 => hj (by rw [h9.2]; decide))).trans ((sv_n _ (fun h9 => hj (by rw [h9.2]; decide))).trans ((sv_n _ (fun h9 => hj (by rw [h9.2]; decide))).trans (sv_n _ (fun h9 => hj (by rw [h9.2]; decide))))))))), (by omega), (by omega), (by omega), (by omega)⟩
                                          · refine lv_iconst (v := iv 1) hx hb dX12_signs_188 rfl ?_
                                            refine lv_goto (tgt := 193) hx hb dX12_signs_189 (by decide) ?_
                                            refine lv_istore_n (lv' := [(3, .int (iv 1)), (2, .int (iv r_9)), (0, .ref (oP ω 111)), (1, .int (iv x1))]) hx hb dX12_signs_193 rfl hl (by decide) rfl (fun ls hl => ?_)
                                            refine lv_iload_n hx hb dX12_signs_194 rfl (lv_at hl 0 rfl) ?_
                                            refine xb_if_ne (tgt := 206) hx hb (x := 1) (by unfold ir; omega) dX12_signs_195 (by decide) (fun c_195 => ?_) (fun c_195 => absurd c_195 (by decide))
                                            have e_293 : (sv (sv (sv (sv (sv μ 111 8 3) 111 6 ((μ.1 111 6) + 1)) 111 13 x1) 111 6 ((μ.1 111 6) + 2)) 111 13 (256 + x1)).1 111 6 = (μ.1 111 6) + 2 := ((sv_n _ (by decide)).trans (sv_s _ _ _ _))
                                            have e_294 : (sv (sv (sv (sv (sv μ 111 8 3) 111 6 ((μ.1 111 6) + 1)) 111 13 x1) 111 6 ((μ.1 111 6) + 2)) 111 13 (256 + x1)).1 111 6 = (μ.1 111 6) + 2 := ((sv_n _ (by decide)).trans (sv_s _ _ _ _))
                                            have e_295 : (sv (sv (sv (sv (sv μ 111 8 3) 111 6 ((μ.1 111 6) + 1)) 111 13 x1) 111 6 ((μ.1 111 6) + 2)) 111 13 (256 + x1)).1 111 8 = 3 := ((sv_n _ (by decide)).trans ((sv_n _ (by decide)).trans ((sv_n _ (by decide)).trans ((sv_n _ (by decide)).trans (sv_s _ _ _ _)))))
                                            have e_296 : wr (sv (sv (sv (sv (sv μ 111 8 3) 111 6 ((μ.1 111 6) + 1)) 111 13 x1) 111 6 ((μ.1 111 6) + 2)) 111 13 (256 + x1)) = wr μ := ((wr_cg (sv_n _ (by decide))).trans ((wr_cg (sv_n _ (by decide))).trans ((wr_cg (sv_n _ (by decide))).trans ((wr_cg (sv_n _ (by decide))).trans (wr_cg (sv_n _ (by decide)))))))
                                            have e_297 : bd (sv (sv (sv (sv (sv μ 111 8 3) 111 6 ((μ.1 111 6) + 1)) 111 13 x1) 111 6 ((μ.1 111 6) + 2)) 111 13 (256 + x1)) = bd μ := ((bd_cg (sv_n _ (by decide)) (sv_n _ (by decide)) (sv_n _ (by decide))).trans ((bd_cg (sv_n _ (by decide)) (sv_n _ (by decide)) (sv_n _ (by decide))).trans ((bd_cg (sv_n _ (by decide)) (sv_n _ (by decide)) (sv_n _ (by decide))).trans ((bd_cg (sv_n _ (by decide)) (sv_n _ (by decide)) (sv_n _ (by decide))).trans (bd_cg (sv_n _ (by decide)) (sv_n _ (by decide)) (sv_n _ (by decide)))))))
                                            have e_298 : wr (sv (sv (sv (sv (sv μ 111 8 3) 111 6 ((μ.1 111 6) + 1)) 111 13 x1) 111 6 ((μ.1 111 6) + 2)) 111 13 (256 + x1)) = wr μ := ((wr_cg (sv_n _ (by decide))).trans ((wr_cg (sv_n _ (by decide))).trans ((wr_cg (sv_n _ (by decide))).trans ((wr_cg (sv_n _ (by decide))).trans (wr_cg (sv_n _ (by decide)))))))
                                            have e_299 : nn (sv (sv (sv (sv (sv μ 111 8 3) 111 6 ((μ.1 111 6) + 1)) 111 13 x1) 111 6 ((μ.1 111 6) + 2)) 111 13 (256 + x1)) = nn μ := ((nn_cg (sv_n _ (by decide)) (sv_n _ (by decide))).trans ((nn_cg (sv_n _ (by decide)) (sv_n _ (by decide))).trans ((nn_cg (sv_n _ (by decide)) (sv_n _ (by decide))).trans ((nn_cg (sv_n _ (by decide)) (sv_n _ (by decide))).trans (nn_cg (sv_n _ (by decide)) (sv_n _ (by decide)))))))
                                            exact xr_v G hret hlk dX12_signs_206 ⟨(FrM.put (FrM.put (FrM.put (FrM.put (FrM.put FrM.rf (by decide)) (by decide)) (by decide)) (by decide)) (by decide)), (fun j hj => ((sv_n _ (fun h9 => hj (by rw [h9.2]; decide))).trans ((sv_n _ (fun h9 => hj (by rw [h9.2]; decide))).trans ((sv_n _ (fun h9 => hj (by rw [h9.2]; decide))).trans ((sv_n _ (fun h9 => hj (by rw [h9.2]; decide))).trans (sv_n _ (fun h9 => hj (by rw [h9.2]; decide)))))))), (by omega), (by omega), (by omega), (by omega)⟩
  · refine lv_iload_n hx hb dX12_signs_31 rfl (lv_at hl 2 rfl) ?_
    refine lv_bipush (v := iv 33) hx hb dX12_signs_32 rfl ?_
    refine xb_icmp_eq (tgt := 49) hx hb (by unfold ir; omega) (by unfold ir; omega) dX12_signs_34 (by decide) (fun c_34 => ?_) (fun c_34 => ?_)
    · refine lv_iload_n hx hb dX12_signs_49 rfl (lv_at hl 0 rfl) ?_
      refine lv_bipush (v := iv 61) hx hb dX12_signs_50 rfl ?_
      refine xb_icmp_ne (tgt := 74) hx hb (by unfold ir; omega) (by unfold ir; omega) dX12_signs_52 (by decide) (fun c_52 => ?_) (fun c_52 => ?_)
      · refine lv_iload_n hx hb dX12_signs_74 rfl (lv_at hl 2 rfl) ?_
        refine lv_bipush (v := iv 40) hx hb dX12_signs_75 rfl ?_
        refine xb_icmp_eq (tgt := 188) hx hb (by unfold ir; omega) (by unfold ir; omega) dX12_signs_77 (by decide) (fun c_77 => ?_) (fun c_77 => ?_)
        · refine lv_iconst (v := iv 1) hx hb dX12_signs_188 rfl ?_
          refine lv_goto (tgt := 193) hx hb dX12_signs_189 (by decide) ?_
          refine lv_istore_n (lv' := [(3, .int (iv 1)), (2, .int (iv r_9)), (0, .ref (oP ω 111)), (1, .int (iv x1))]) hx hb dX12_signs_193 rfl hl (by decide) rfl (fun ls hl => ?_)
          refine lv_iload_n hx hb dX12_signs_194 rfl (lv_at hl 0 rfl) ?_
          refine xb_if_ne (tgt := 206) hx hb (x := 1) (by unfold ir; omega) dX12_signs_195 (by decide) (fun c_195 => ?_) (fun c_195 => absurd c_195 (by decide))
          have e_300 : (sv (sv (sv μ 111 8 3) 111 6 ((μ.1 111 6) + 1)) 111 13 x1).1 111 6 = (μ.1 111 6) + 1 := ((sv_n _ (by decide)).trans (sv_s _ _ _ _))
          have e_301 : (sv (sv (sv μ 111 8 3) 111 6 ((μ.1 111 6) + 1)) 111 13 x1).1 111 6 = (μ.1 111 6) + 1 := ((sv_n _ (by decide)).trans (sv_s _ _ _ _))
          have e_302 : (sv (sv (sv μ 111 8 3) 111 6 ((μ.1 111 6) + 1)) 111 13 x1).1 111 8 = 3 := ((sv_n _ (by decide)).trans ((sv_n _ (by decide)).trans (sv_s _ _ _ _)))
          have e_303 : wr (sv (sv (sv μ 111 8 3) 111 6 ((μ.1 111 6) + 1)) 111 13 x1) = wr μ := ((wr_cg (sv_n _ (by decide))).trans ((wr_cg (sv_n _ (by decide))).trans (wr_cg (sv_n _ (by decide)))))
          have e_304 : bd (sv (sv (sv μ 111 8 3) 111 6 ((μ.1 111 6) + 1)) 111 13 x1) = bd μ := ((bd_cg (sv_n _ (by decide)) (sv_n _ (by decide)) (sv_n _ (by decide))).trans ((bd_cg (sv_n _ (by decide)) (sv_n _ (by decide)) (sv_n _ (by decide))).trans (bd_cg (sv_n _ (by decide)) (sv_n _ (by decide)) (sv_n _ (by decide)))))
          have e_305 : wr (sv (sv (sv μ 111 8 3) 111 6 ((μ.1 111 6) + 1)) 111 13 x1) = wr μ := ((wr_cg (sv_n _ (by decide))).trans ((wr_cg (sv_n _ (by decide))).trans (wr_cg (sv_n _ (by decide)))))
          have e_306 : nn (sv (sv (sv μ 111 8 3) 111 6 ((μ.1 111 6) + 1)) 111 13 x1) = nn μ := ((nn_cg (sv_n _ (by decide)) (sv_n _ (by decide))).trans ((nn_cg (sv_n _ (by decide)) (sv_n _ (by decide))).trans (nn_cg (sv_n _ (by decide)) (sv_n _ (by decide)))))
          exact xr_v G hret hlk dX12_signs_206 ⟨(FrM.put (FrM.put (FrM.put FrM.rf (by decide)) (by decide)) (by decide)), (fun j hj => ((sv_n _ (fun h9 => hj (by rw [h9.2]; decide))).trans ((sv_n _ (fun h9 => hj (by rw [h9.2]; decide))).trans (sv_n _ (fun h9 => hj (by rw [h9.2]; decide)))))), (by omega), (by omega), (by omega), (by omega)⟩
        · refine lv_iload_n hx hb dX12_signs_80 rfl (lv_at hl 2 rfl) ?_
          refine lv_bipush (v := iv 41) hx hb dX12_signs_81 rfl ?_
          refine xb_icmp_eq (tgt := 188) hx hb (by unfold ir; omega) (by unfold ir; omega) dX12_signs_83 (by decide) (fun c_83 => ?_) (fun c_83 => ?_)
          · refine lv_iconst (v := iv 1) hx hb dX12_signs_188 rfl ?_
            refine lv_goto (tgt := 193) hx hb dX12_signs_189 (by decide) ?_
            refine lv_istore_n (lv' := [(3, .int (iv 1)), (2, .int (iv r_9)), (0, .ref (oP ω 111)), (1, .int (iv x1))]) hx hb dX12_signs_193 rfl hl (by decide) rfl (fun ls hl => ?_)
            refine lv_iload_n hx hb dX12_signs_194 rfl (lv_at hl 0 rfl) ?_
            refine xb_if_ne (tgt := 206) hx hb (x := 1) (by unfold ir; omega) dX12_signs_195 (by decide) (fun c_195 => ?_) (fun c_195 => absurd c_195 (by decide))
            have e_307 : (sv (sv (sv μ 111 8 3) 111 6 ((μ.1 111 6) + 1)) 111 13 x1).1 111 6 = (μ.1 111 6) + 1 := ((sv_n _ (by decide)).trans (sv_s _ _ _ _))
            have e_308 : (sv (sv (sv μ 111 8 3) 111 6 ((μ.1 111 6) + 1)) 111 13 x1).1 111 6 = (μ.1 111 6) + 1 := ((sv_n _ (by decide)).trans (sv_s _ _ _ _))
            have e_309 : (sv (sv (sv μ 111 8 3) 111 6 ((μ.1 111 6) + 1)) 111 13 x1).1 111 8 = 3 := ((sv_n _ (by decide)).trans ((sv_n _ (by decide)).trans (sv_s _ _ _ _)))
            have e_310 : wr (sv (sv (sv μ 111 8 3) 111 6 ((μ.1 111 6) + 1)) 111 13 x1) = wr μ := ((wr_cg (sv_n _ (by decide))).trans ((wr_cg (sv_n _ (by decide))).trans (wr_cg (sv_n _ (by decide)))))
            have e_311 : bd (sv (sv (sv μ 111 8 3) 111 6 ((μ.1 111 6) + 1)) 111 13 x1) = bd μ := ((bd_cg (sv_n _ (by decide)) (sv_n _ (by decide)) (sv_n _ (by decide))).trans ((bd_cg (sv_n _ (by decide)) (sv_n _ (by decide)) (sv_n _ (by decide))).trans (bd_cg (sv_n _ (by decide)) (sv_n _ (by decide)) (sv_n _ (by decide)))))
            have e_312 : wr (sv (sv (sv μ 111 8 3) 111 6 ((μ.1 111 6) + 1)) 111 13 x1) = wr μ := ((wr_cg (sv_n _ (by decide))).trans ((wr_cg (sv_n _ (by decide))).trans (wr_cg (sv_n _ (by decide)))))
            have e_313 : nn (sv (sv (sv μ 111 8 3) 111 6 ((μ.1 111 6) + 1)) 111 13 x1) = nn μ := ((nn_cg (sv_n _ (by decide)) (sv_n _ (by decide))).trans ((nn_cg (sv_n _ (by decide)) (sv_n _ (by decide))).trans (nn_cg (sv_n _ (by decide)) (sv_n _ (by decide)))))
            exact xr_v G hret hlk dX12_signs_206 ⟨(FrM.put (FrM.put (FrM.put FrM.rf (by decide)) (by decide)) (by decide)), (fun j hj => ((sv_n _ (fun h9 => hj (by rw [h9.2]; decide))).trans ((sv_n _ (fun h9 => hj (by rw [h9.2]; decide))).trans (sv_n _ (fun h9 => hj (by rw [h9.2]; decide)))))), (by omega), (by omega), (by omega), (by omega)⟩
          · refine lv_iload_n hx hb dX12_signs_86 rfl (lv_at hl 2 rfl) ?_
            refine lv_bipush (v := iv 123) hx hb dX12_signs_87 rfl ?_
            refine xb_icmp_eq (tgt := 188) hx hb (by unfold ir; omega) (by unfold ir; omega) dX12_signs_89 (by decide) (fun c_89 => ?_) (fun c_89 => ?_)
            · refine lv_iconst (v := iv 1) hx hb dX12_signs_188 rfl ?_
              refine lv_goto (tgt := 193) hx hb dX12_signs_189 (by decide) ?_
              refine lv_istore_n (lv' := [(3, .int (iv 1)), (2, .int (iv r_9)), (0, .ref (oP ω 111)), (1, .int (iv x1))]) hx hb dX12_signs_193 rfl hl (by decide) rfl (fun ls hl => ?_)
              refine lv_iload_n hx hb dX12_signs_194 rfl (lv_at hl 0 rfl) ?_
              refine xb_if_ne (tgt := 206) hx hb (x := 1) (by unfold ir; omega) dX12_signs_195 (by decide) (fun c_195 => ?_) (fun c_195 => absurd c_195 (by decide))
              have e_314 : (sv (sv (sv μ 111 8 3) 111 6 ((μ.1 111 6) + 1)) 111 13 x1).1 111 6 = (μ.1 111 6) + 1 := ((sv_n _ (by decide)).trans (sv_s _ _ _ _))
              have e_315 : (sv (sv (sv μ 111 8 3) 111 6 ((μ.1 111 6) + 1)) 111 13 x1).1 111 6 = (μ.1 111 6) + 1 := ((sv_n _ (by decide)).trans (sv_s _ _ _ _))
              have e_316 : (sv (sv (sv μ 111 8 3) 111 6 ((μ.1 111 6) + 1)) 111 13 x1).1 111 8 = 3 := ((sv_n _ (by decide)).trans ((sv_n _ (by decide)).trans (sv_s _ _ _ _)))
              have e_317 : wr (sv (sv (sv μ 111 8 3) 111 6 ((μ.1 111 6) + 1)) 111 13 x1) = wr μ := ((wr_cg (sv_n _ (by decide))).trans ((wr_cg (sv_n _ (by decide))).trans (wr_cg (sv_n _ (by decide)))))
              have e_318 : bd (sv (sv (sv μ 111 8 3) 111 6 ((μ.1 111 6) + 1)) 111 13 x1) = bd μ := ((bd_cg (sv_n _ (by decide)) (sv_n _ (by decide)) (sv_n _ (by decide))).trans ((bd_cg (sv_n _ (by decide)) (sv_n _ (by decide)) (sv_n _ (by decide))).trans (bd_cg (sv_n _ (by decide)) (sv_n _ (by decide)) (sv_n _ (by decide)))))
              have e_319 : wr (sv (sv (sv μ 111 8 3) 111 6 ((μ.1 111 6) + 1)) 111 13 x1) = wr μ := ((wr_cg (sv_n _ (by decide))).trans ((wr_cg (sv_n _ (by decide))).trans (wr_cg (sv_n _ (by decide)))))
              have e_320 : nn (sv (sv (sv μ 111 8 3) 111 6 ((μ.1 111 6) + 1)) 111 13 x1) = nn μ := ((nn_cg (sv_n _ (by decide)) (sv_n _ (by decide))).trans ((nn_cg (sv_n _ (by decide)) (sv_n _ (by decide))).trans (nn_cg (sv_n _ (by decide)) (sv_n _ (by decide)))))
              exact xr_v G hret hlk dX12_signs_206 ⟨(FrM.put (FrM.put (FrM.put FrM.rf (by decide)) (by decide)) (by decide)), (fun j hj => ((sv_n _ (fun h9 => hj (by rw [h9.2]; decide))).trans ((sv_n _ (fun h9 => hj (by rw [h9.2]; decide))).trans (sv_n _ (fun h9 => hj (by rw [h9.2]; decide)))))), (by omega), (by omega), (by omega), (by omega)⟩
            · refine lv_iload_n hx hb dX12_signs_92 rfl (lv_at hl 2 rfl) ?_
              refine lv_bipush (v := iv 125) hx hb dX12_signs_93 rfl ?_
              refine xb_icmp_eq (tgt := 188) hx hb (by unfold ir; omega) (by unfold ir; omega) dX12_signs_95 (by decide) (fun c_95 => ?_) (fun c_95 => ?_)
              · refine lv_iconst (v := iv 1) hx hb dX12_signs_188 rfl ?_
                refine lv_goto (tgt := 193) hx hb dX12_signs_189 (by decide) ?_
                refine lv_istore_n (lv' := [(3, .int (iv 1)), (2, .int (iv r_9)), (0, .ref (oP ω 111)), (1, .int (iv x1))]) hx hb dX12_signs_193 rfl hl (by decide) rfl (fun ls hl => ?_)
                refine lv_iload_n hx hb dX12_signs_194 rfl (lv_at hl 0 rfl) ?_
                refine xb_if_ne (tgt := 206) hx hb (x := 1) (by unfold ir; omega) dX12_signs_195 (by decide) (fun c_195 => ?_) (fun c_195 => absurd c_195 (by decide))
                have e_321 : (sv (sv (sv μ 111 8 3) 111 6 ((μ.1 111 6) + 1)) 111 13 x1).1 111 6 = (μ.1 111 6) + 1 := ((sv_n _ (by decide)).trans (sv_s _ _ _ _))
                have e_322 : (sv (sv (sv μ 111 8 3) 111 6 ((μ.1 111 6) + 1)) 111 13 x1).1 111 6 = (μ.1 111 6) + 1 := ((sv_n _ (by decide)).trans (sv_s _ _ _ _))
                have e_323 : (sv (sv (sv μ 111 8 3) 111 6 ((μ.1 111 6) + 1)) 111 13 x1).1 111 8 = 3 := ((sv_n _ (by decide)).trans ((sv_n _ (by decide)).trans (sv_s _ _ _ _)))
                have e_324 : wr (sv (sv (sv μ 111 8 3) 111 6 ((μ.1 111 6) + 1)) 111 13 x1) = wr μ := ((wr_cg (sv_n _ (by decide))).trans ((wr_cg (sv_n _ (by decide))).trans (wr_cg (sv_n _ (by decide)))))
                have e_325 : bd (sv (sv (sv μ 111 8 3) 111 6 ((μ.1 111 6) + 1)) 111 13 x1) = bd μ := ((bd_cg (sv_n _ (by decide)) (sv_n _ (by decide)) (sv_n _ (by decide))).trans ((bd_cg (sv_n _ (by decide)) (sv_n _ (by decide)) (sv_n _ (by decide))).trans (bd_cg (sv_n _ (by decide)) (sv_n _ (by decide)) (sv_n _ (by decide)))))
                have e_326 : wr (sv (sv (sv μ 111 8 3) 111 6 ((μ.1 111 6) + 1)) 111 13 x1) = wr μ := ((wr_cg (sv_n _ (by decide))).trans ((wr_cg (sv_n _ (by decide))).trans (wr_cg (sv_n _ (by decide)))))
                have e_327 : nn (sv (sv (sv μ 111 8 3) 111 6 ((μ.1 111 6) + 1)) 111 13 x1) = nn μ := ((nn_cg (sv_n _ (by decide)) (sv_n _ (by decide))).trans ((nn_cg (sv_n _ (by decide)) (sv_n _ (by decide))).trans (nn_cg (sv_n _ (by decide)) (sv_n _ (by decide)))))
                exact xr_v G hret hlk dX12_signs_206 ⟨(FrM.put (FrM.put (FrM.put FrM.rf (by decide)) (by decide)) (by decide)), (fun j hj => ((sv_n _ (fun h9 => hj (by rw [h9.2]; decide))).trans ((sv_n _ (fun h9 => hj (by rw [h9.2]; decide))).trans (sv_n _ (fun h9 => hj (by rw [h9.2]; decide)))))), (by omega), (by omega), (by omega), (by omega)⟩
              · refine lv_iload_n hx hb dX12_signs_98 rfl (lv_at hl 2 rfl) ?_
                refine lv_bipush (v := iv 91) hx hb dX12_signs_99 rfl ?_
                refine xb_icmp_eq (tgt := 188) hx hb (by unfold ir; omega) (by unfold ir; omega) dX12_signs_101 (by decide) (fun c_101 => ?_) (fun c_101 => ?_)
                · refine lv_iconst (v := iv 1) hx hb dX12_signs_188 rfl ?_
                  refine lv_goto (tgt := 193) hx hb dX12_signs_189 (by decide) ?_
                  refine lv_istore_n (lv' := [(3, .int (iv 1)), (2, .int (iv r_9)), (0, .ref (oP ω 111)), (1, .int (iv x1))]) hx hb dX12_signs_193 rfl hl (by decide) rfl (fun ls hl => ?_)
                  refine lv_iload_n hx hb dX12_signs_194 rfl (lv_at hl 0 rfl) ?_
                  refine xb_if_ne (tgt := 206) hx hb (x := 1) (by unfold ir; omega) dX12_signs_195 (by decide) (fun c_195 => ?_) (fun c_195 => absurd c_195 (by decide))
                  have e_328 : (sv (sv (sv μ 111 8 3) 111 6 ((μ.1 111 6) + 1)) 111 13 x1).1 111 6 = (μ.1 111 6) + 1 := ((sv_n _ (by decide)).trans (sv_s _ _ _ _))
                  have e_329 : (sv (sv (sv μ 111 8 3) 111 6 ((μ.1 111 6) + 1)) 111 13 x1).1 111 6 = (μ.1 111 6) + 1 := ((sv_n _ (by decide)).trans (sv_s _ _ _ _))
                  have e_330 : (sv (sv (sv μ 111 8 3) 111 6 ((μ.1 111 6) + 1)) 111 13 x1).1 111 8 = 3 := ((sv_n _ (by decide)).trans ((sv_n _ (by decide)).trans (sv_s _ _ _ _)))
                  have e_331 : wr (sv (sv (sv μ 111 8 3) 111 6 ((μ.1 111 6) + 1)) 111 13 x1) = wr μ := ((wr_cg (sv_n _ (by decide))).trans ((wr_cg (sv_n _ (by decide))).trans (wr_cg (sv_n _ (by decide)))))
                  have e_332 : bd (sv (sv (sv μ 111 8 3) 111 6 ((μ.1 111 6) + 1)) 111 13 x1) = bd μ := ((bd_cg (sv_n _ (by decide)) (sv_n _ (by decide)) (sv_n _ (by decide))).trans ((bd_cg (sv_n _ (by decide)) (sv_n _ (by decide)) (sv_n _ (by decide))).trans (bd_cg (sv_n _ (by decide)) (sv_n _ (by decide)) (sv_n _ (by decide)))))
                  have e_333 : wr (sv (sv (sv μ 111 8 3) 111 6 ((μ.1 111 6) + 1)) 111 13 x1) = wr μ := ((wr_cg (sv_n _ (by decide))).trans ((wr_cg (sv_n _ (by decide))).trans (wr_cg (sv_n _ (by decide)))))
                  have e_334 : nn (sv (sv (sv μ 111 8 3) 111 6 ((μ.1 111 6) + 1)) 111 13 x1) = nn μ := ((nn_cg (sv_n _ (by decide)) (sv_n _ (by decide))).trans ((nn_cg (sv_n _ (by decide)) (sv_n _ (by decide))).trans (nn_cg (sv_n _ (by decide)) (sv_n _ (by decide)))))
                  exact xr_v G hret hlk dX12_signs_206 ⟨(FrM.put (FrM.put (FrM.put FrM.rf (by decide)) (by decide)) (by decide)), (fun j hj => ((sv_n _ (fun h9 => hj (by rw [h9.2]; decide))).trans ((sv_n _ (fun h9 => hj (by rw [h9.2]; decide))).trans (sv_n _ (fun h9 => hj (by rw [h9.2]; decide)))))), (by omega), (by omega), (by omega), (by omega)⟩
                · refine lv_iload_n hx hb dX12_signs_104 rfl (lv_at hl 2 rfl) ?_
                  refine lv_bipush (v := iv 93) hx hb dX12_signs_105 rfl ?_
                  refine xb_icmp_eq (tgt := 188) hx hb (by unfold ir; omega) (by unfold ir; omega) dX12_signs_107 (by decide) (fun c_107 => ?_) (fun c_107 => ?_)
                  · refine lv_iconst (v := iv 1) hx hb dX12_signs_188 rfl ?_
                    refine lv_goto (tgt := 193) hx hb dX12_signs_189 (by decide) ?_
                    refine lv_istore_n (lv' := [(3, .int (iv 1)), (2, .int (iv r_9)), (0, .ref (oP ω 111)), (1, .int (iv x1))]) hx hb dX12_signs_193 rfl hl (by decide) rfl (fun ls hl => ?_)
                    refine lv_iload_n hx hb dX12_signs_194 rfl (lv_at hl 0 rfl) ?_
                    refine xb_if_ne (tgt := 206) hx hb (x := 1) (by unfold ir; omega) dX12_signs_195 (by decide) (fun c_195 => ?_) (fun c_195 => absurd c_195 (by decide))
                    have e_335 : (sv (sv (sv μ 111 8 3) 111 6 ((μ.1 111 6) + 1)) 111 13 x1).1 111 6 = (μ.1 111 6) + 1 := ((sv_n _ (by decide)).trans (sv_s _ _ _ _))
                    have e_336 : (sv (sv (sv μ 111 8 3) 111 6 ((μ.1 111 6) + 1)) 111 13 x1).1 111 6 = (μ.1 111 6) + 1 := ((sv_n _ (by decide)).trans (sv_s _ _ _ _))
                    have e_337 : (sv (sv (sv μ 111 8 3) 111 6 ((μ.1 111 6) + 1)) 111 13 x1).1 111 8 = 3 := ((sv_n _ (by decide)).trans ((sv_n _ (by decide)).trans (sv_s _ _ _ _)))
                    have e_338 : wr (sv (sv (sv μ 111 8 3) 111 6 ((μ.1 111 6) + 1)) 111 13 x1) = wr μ := ((wr_cg (sv_n _ (by decide))).trans ((wr_cg (sv_n _ (by decide))).trans (wr_cg (sv_n _ (by decide)))))
                    have e_339 : bd (sv (sv (sv μ 111 8 3) 111 6 ((μ.1 111 6) + 1)) 111 13 x1) = bd μ := ((bd_cg (sv_n _ (by decide)) (sv_n _ (by decide)) (sv_n _ (by decide))).trans ((bd_cg (sv_n _ (by decide)) (sv_n _ (by decide)) (sv_n _ (by decide))).trans (bd_cg (sv_n _ (by decide)) (sv_n _ (by decide)) (sv_n _ (by decide)))))
                    have e_340 : wr (sv (sv (sv μ 111 8 3) 111 6 ((μ.1 111 6) + 1)) 111 13 x1) = wr μ := ((wr_cg (sv_n _ (by decide))).trans ((wr_cg (sv_n _ (by decide))).trans (wr_cg (sv_n _ (by decide)))))
                    have e_341 : nn (sv (sv (sv μ 111 8 3) 111 6 ((μ.1 111 6) + 1)) 111 13 x1) = nn μ := ((nn_cg (sv_n _ (by decide)) (sv_n _ (by decide))).trans ((nn_cg (sv_n _ (by decide)) (sv_n _ (by decide))).trans (nn_cg (sv_n _ (by decide)) (sv_n _ (by decide)))))
                    exact xr_v G hret hlk dX12_signs_206 ⟨(FrM.put (FrM.put (FrM.put FrM.rf (by decide)) (by decide)) (by decide)), (fun j hj => ((sv_n _ (fun h9 => hj (by rw [h9.2]; decide))).trans ((sv_n _ (fun h9 => hj (by rw [h9.2]; decide))).trans (sv_n _ (fun h9 => hj (by rw [h9.2]; decide)))))), (by omega), (by omega), (by omega), (by omega)⟩
                  · refine lv_iload_n hx hb dX12_signs_110 rfl (lv_at hl 2 rfl) ?_
                    refine lv_bipush (v := iv 44) hx hb dX12_signs_111 rfl ?_
                    refine xb_icmp_eq (tgt := 188) hx hb (by unfold ir; omega) (by unfold ir; omega) dX12_signs_113 (by decide) (fun c_113 => ?_) (fun c_113 => ?_)
                    · refine lv_iconst (v := iv 1) hx hb dX12_signs_188 rfl ?_
                      refine lv_goto (tgt := 193) hx hb dX12_signs_189 (by decide) ?_
                      refine lv_istore_n (lv' := [(3, .int (iv 1)), (2, .int (iv r_9)), (0, .ref (oP ω 111)), (1, .int (iv x1))]) hx hb dX12_signs_193 rfl hl (by decide) rfl (fun ls hl => ?_)
                      refine lv_iload_n hx hb dX12_signs_194 rfl (lv_at hl 0 rfl) ?_
                      refine xb_if_ne (tgt := 206) hx hb (x := 1) (by unfold ir; omega) dX12_signs_195 (by decide) (fun c_195 => ?_) (fun c_195 => absurd c_195 (by decide))
                      have e_342 : (sv (sv (sv μ 111 8 3) 111 6 ((μ.1 111 6) + 1)) 111 13 x1).1 111 6 = (μ.1 111 6) + 1 := ((sv_n _ (by decide)).trans (sv_s _ _ _ _))
                      have e_343 : (sv (sv (sv μ 111 8 3) 111 6 ((μ.1 111 6) + 1)) 111 13 x1).1 111 6 = (μ.1 111 6) + 1 := ((sv_n _ (by decide)).trans (sv_s _ _ _ _))
                      have e_344 : (sv (sv (sv μ 111 8 3) 111 6 ((μ.1 111 6) + 1)) 111 13 x1).1 111 8 = 3 := ((sv_n _ (by decide)).trans ((sv_n _ (by decide)).trans (sv_s _ _ _ _)))
                      have e_345 : wr (sv (sv (sv μ 111 8 3) 111 6 ((μ.1 111 6) + 1)) 111 13 x1) = wr μ := ((wr_cg (sv_n _ (by decide))).trans ((wr_cg (sv_n _ (by decide))).trans (wr_cg (sv_n _ (by decide)))))
                      have e_346 : bd (sv (sv (sv μ 111 8 3) 111 6 ((μ.1 111 6) + 1)) 111 13 x1) = bd μ := ((bd_cg (sv_n _ (by decide)) (sv_n _ (by decide)) (sv_n _ (by decide))).trans ((bd_cg (sv_n _ (by decide)) (sv_n _ (by decide)) (sv_n _ (by decide))).trans (bd_cg (sv_n _ (by decide)) (sv_n _ (by decide)) (sv_n _ (by decide)))))
                      have e_347 : wr (sv (sv (sv μ 111 8 3) 111 6 ((μ.1 111 6) + 1)) 111 13 x1) = wr μ := ((wr_cg (sv_n _ (by decide))).trans ((wr_cg (sv_n _ (by decide))).trans (wr_cg (sv_n _ (by decide)))))
                      have e_348 : nn (sv (sv (sv μ 111 8 3) 111 6 ((μ.1 111 6) + 1)) 111 13 x1) = nn μ := ((nn_cg (sv_n _ (by decide)) (sv_n _ (by decide))).trans ((nn_cg (sv_n _ (by decide)) (sv_n _ (by decide))).trans (nn_cg (sv_n _ (by decide)) (sv_n _ (by decide)))))
                      exact xr_v G hret hlk dX12_signs_206 ⟨(FrM.put (FrM.put (FrM.put FrM.rf (by decide)) (by decide)) (by decide)), (fun j hj => ((sv_n _ (fun h9 => hj (by rw [h9.2]; decide))).trans ((sv_n _ (fun h9 => hj (by rw [h9.2]; decide))).trans (sv_n _ (fun h9 => hj (by rw [h9.2]; decide)))))), (by omega), (by omega), (by omega), (by omega)⟩
                    · refine lv_iload_n hx hb dX12_signs_116 rfl (lv_at hl 2 rfl) ?_
                      refine lv_bipush (v := iv 59) hx hb dX12_signs_117 rfl ?_
                      refine xb_icmp_eq (tgt := 188) hx hb (by unfold ir; omega) (by unfold ir; omega) dX12_signs_119 (by decide) (fun c_119 => ?_) (fun c_119 => ?_)
                      · refine lv_iconst (v := iv 1) hx hb dX12_signs_188 rfl ?_
                        refine lv_goto (tgt := 193) hx hb dX12_signs_189 (by decide) ?_
                        refine lv_istore_n (lv' := [(3, .int (iv 1)), (2, .int (iv r_9)), (0, .ref (oP ω 111)), (1, .int (iv x1))]) hx hb dX12_signs_193 rfl hl (by decide) rfl (fun ls hl => ?_)
                        refine lv_iload_n hx hb dX12_signs_194 rfl (lv_at hl 0 rfl) ?_
                        refine xb_if_ne (tgt := 206) hx hb (x := 1) (by unfold ir; omega) dX12_signs_195 (by decide) (fun c_195 => ?_) (fun c_195 => absurd c_195 (by decide))
                        have e_349 : (sv (sv (sv μ 111 8 3) 111 6 ((μ.1 111 6) + 1)) 111 13 x1).1 111 6 = (μ.1 111 6) + 1 := ((sv_n _ (by decide)).trans (sv_s _ _ _ _))
                        have e_350 : (sv (sv (sv μ 111 8 3) 111 6 ((μ.1 111 6) + 1)) 111 13 x1).1 111 6 = (μ.1 111 6) + 1 := ((sv_n _ (by decide)).trans (sv_s _ _ _ _))
                        have e_351 : (sv (sv (sv μ 111 8 3) 111 6 ((μ.1 111 6) + 1)) 111 13 x1).1 111 8 = 3 := ((sv_n _ (by decide)).trans ((sv_n _ (by decide)).trans (sv_s _ _ _ _)))
                        have e_352 : wr (sv (sv (sv μ 111 8 3) 111 6 ((μ.1 111 6) + 1)) 111 13 x1) = wr μ := ((wr_cg (sv_n _ (by decide))).trans ((wr_cg (sv_n _ (by decide))).trans (wr_cg (sv_n _ (by decide)))))
                        have e_353 : bd (sv (sv (sv μ 111 8 3) 111 6 ((μ.1 111 6) + 1)) 111 13 x1) = bd μ := ((bd_cg (sv_n _ (by decide)) (sv_n _ (by decide)) (sv_n _ (by decide))).trans ((bd_cg (sv_n _ (by decide)) (sv_n _ (by decide)) (sv_n _ (by decide))).trans (bd_cg (sv_n _ (by decide)) (sv_n _ (by decide)) (sv_n _ (by decide)))))
                        have e_354 : wr (sv (sv (sv μ 111 8 3) 111 6 ((μ.1 111 6) + 1)) 111 13 x1) = wr μ := ((wr_cg (sv_n _ (by decide))).trans ((wr_cg (sv_n _ (by decide))).trans (wr_cg (sv_n _ (by decide)))))
                        have e_355 : nn (sv (sv (sv μ 111 8 3) 111 6 ((μ.1 111 6) + 1)) 111 13 x1) = nn μ := ((nn_cg (sv_n _ (by decide)) (sv_n _ (by decide))).trans ((nn_cg (sv_n _ (by decide)) (sv_n _ (by decide))).trans (nn_cg (sv_n _ (by decide)) (sv_n _ (by decide)))))
                        exact xr_v G hret hlk dX12_signs_206 ⟨(FrM.put (FrM.put (FrM.put FrM.rf (by decide)) (by decide)) (by decide)), (fun j hj => ((sv_n _ (fun h9 => hj (by rw [h9.2]; decide))).trans ((sv_n _ (fun h9 => hj (by rw [h9.2]; decide))).trans (sv_n _ (fun h9 => hj (by rw [h9.2]; decide)))))), (by omega), (by omega), (by omega), (by omega)⟩
                      · refine lv_iload_n hx hb dX12_signs_122 rfl (lv_at hl 2 rfl) ?_
                        refine lv_bipush (v := iv 46) hx hb dX12_signs_123 rfl ?_
                        refine xb_icmp_eq (tgt := 188) hx hb (by unfold ir; omega) (by unfold ir; omega) dX12_signs_125 (by decide) (fun c_125 => ?_) (fun c_125 => ?_)
                        · refine lv_iconst (v := iv 1) hx hb dX12_signs_188 rfl ?_
                          refine lv_goto (tgt := 193) hx hb dX12_signs_189 (by decide) ?_
                          refine lv_istore_n (lv' := [(3, .int (iv 1)), (2, .int (iv r_9)), (0, .ref (oP ω 111)), (1, .int (iv x1))]) hx hb dX12_signs_193 rfl hl (by decide) rfl (fun ls hl => ?_)
                          refine lv_iload_n hx hb dX12_signs_194 rfl (lv_at hl 0 rfl) ?_
                          refine xb_if_ne (tgt := 206) hx hb (x := 1) (by unfold ir; omega) dX12_signs_195 (by decide) (fun c_195 => ?_) (fun c_195 => absurd c_195 (by decide))
                          have e_356 : (sv (sv (sv μ 111 8 3) 111 6 ((μ.1 111 6) + 1)) 111 13 x1).1 111 6 = (μ.1 111 6) + 1 := ((sv_n _ (by decide)).trans (sv_s _ _ _ _))
                          have e_357 : (sv (sv (sv μ 111 8 3) 111 6 ((μ.1 111 6) + 1)) 111 13 x1).1 111 6 = (μ.1 111 6) + 1 := ((sv_n _ (by decide)).trans (sv_s _ _ _ _))
                          have e_358 : (sv (sv (sv μ 111 8 3) 111 6 ((μ.1 111 6) + 1)) 111 13 x1).1 111 8 = 3 := ((sv_n _ (by decide)).trans ((sv_n _ (by decide)).trans (sv_s _ _ _ _)))
                          have e_359 : wr (sv (sv (sv μ 111 8 3) 111 6 ((μ.1 111 6) + 1)) 111 13 x1) = wr μ := ((wr_cg (sv_n _ (by decide))).trans ((wr_cg (sv_n _ (by decide))).trans (wr_cg (sv_n _ (by decide)))))
                          have e_360 : bd (sv (sv (sv μ 111 8 3) 111 6 ((μ.1 111 6) + 1)) 111 13 x1) = bd μ := ((bd_cg (sv_n _ (by decide)) (sv_n _ (by decide)) (sv_n _ (by decide))).trans ((bd_cg (sv_n _ (by decide)) (sv_n _ (by decide)) (sv_n _ (by decide))).trans (bd_cg (sv_n _ (by decide)) (sv_n _ (by decide)) (sv_n _ (by decide)))))
                          have e_361 : wr (sv (sv (sv μ 111 8 3) 111 6 ((μ.1 111 6) + 1)) 111 13 x1) = wr μ := ((wr_cg (sv_n _ (by decide))).trans ((wr_cg (sv_n _ (by decide))).trans (wr_cg (sv_n _ (by decide)))))
                          have e_362 : nn (sv (sv (sv μ 111 8 3) 111 6 ((μ.1 111 6) + 1)) 111 13 x1) = nn μ := ((nn_cg (sv_n _ (by decide)) (sv_n _ (by decide))).trans ((nn_cg (sv_n _ (by decide)) (sv_n _ (by decide))).trans (nn_cg (sv_n _ (by decide)) (sv_n _ (by decide)))))
                          exact xr_v G hret hlk dX12_signs_206 ⟨(FrM.put (FrM.put (FrM.put FrM.rf (by decide)) (by decide)) (by decide)), (fun j hj => ((sv_n _ (fun h9 => hj (by rw [h9.2]; decide))).trans ((sv_n _ (fun h9 => hj (by rw [h9.2]; decide))).trans (sv_n _ (fun h9 => hj (by rw [h9.2]; decide)))))), (by omega), (by omega), (by omega), (by omega)⟩
                        · refine lv_iload_n hx hb dX12_signs_128 rfl (lv_at hl 2 rfl) ?_
                          refine lv_bipush (v := iv 38) hx hb dX12_signs_129 rfl ?_
                          refine xb_icmp_eq (tgt := 188) hx hb (by unfold ir; omega) (by unfold ir; omega) dX12_signs_131 (by decide) (fun c_131 => ?_) (fun c_131 => ?_)
                          · refine lv_iconst (v := iv 1) hx hb dX12_signs_188 rfl ?_
                            refine lv_goto (tgt := 193) hx hb dX12_signs_189 (by decide) ?_
                            refine lv_istore_n (lv' := [(3, .int (iv 1)), (2, .int (iv r_9)), (0, .ref (oP ω 111)), (1, .int (iv x1))]) hx hb dX12_signs_193 rfl hl (by decide) rfl (fun ls hl => ?_)
                            refine lv_iload_n hx hb dX12_signs_194 rfl (lv_at hl 0 rfl) ?_
                            refine xb_if_ne (tgt := 206) hx hb (x := 1) (by unfold ir; omega) dX12_signs_195 (by decide) (fun c_195 => ?_) (fun c_195 => absurd c_195 (by decide))
                            have e_363 : (sv (sv (sv μ 111 8 3) 111 6 ((μ.1 111 6) + 1)) 111 13 x1).1 111 6 = (μ.1 111 6) + 1 := ((sv_n _ (by decide)).trans (sv_s _ _ _ _))
                            have e_364 : (sv (sv (sv μ 111 8 3) 111 6 ((μ.1 111 6) + 1)) 111 13 x1).1 111 6 = (μ.1 111 6) + 1 := ((sv_n _ (by decide)).trans (sv_s _ _ _ _))
                            have e_365 : (sv (sv (sv μ 111 8 3) 111 6 ((μ.1 111 6) + 1)) 111 13 x1).1 111 8 = 3 := ((sv_n _ (by decide)).trans ((sv_n _ (by decide)).trans (sv_s _ _ _ _)))
                            have e_366 : wr (sv (sv (sv μ 111 8 3) 111 6 ((μ.1 111 6) + 1)) 111 13 x1) = wr μ := ((wr_cg (sv_n _ (by decide))).trans ((wr_cg (sv_n _ (by decide))).trans (wr_cg (sv_n _ (by decide)))))
                            have e_367 : bd (sv (sv (sv μ 111 8 3) 111 6 ((μ.1 111 6) + 1)) 111 13 x1) = bd μ := ((bd_cg (sv_n _ (by decide)) (sv_n _ (by decide)) (sv_n _ (by decide))).trans ((bd_cg (sv_n _ (by decide)) (sv_n _ (by decide)) (sv_n _ (by decide))).trans (bd_cg (sv_n _ (by decide)) (sv_n _ (by decide)) (sv_n _ (by decide)))))
                            have e_368 : wr (sv (sv (sv μ 111 8 3) 111 6 ((μ.1 111 6) + 1)) 111 13 x1) = wr μ := ((wr_cg (sv_n _ (by decide))).trans ((wr_cg (sv_n _ (by decide))).trans (wr_cg (sv_n _ (by decide)))))
                            have e_369 : nn (sv (sv (sv μ 111 8 3) 111 6 ((μ.1 111 6) + 1)) 111 13 x1) = nn μ := ((nn_cg (sv_n _ (by decide)) (sv_n _ (by decide))).trans ((nn_cg (sv_n _ (by decide)) (sv_n _ (by decide))).trans (nn_cg (sv_n _ (by decide)) (sv_n _ (by decide)))))
                            exact xr_v G hret hlk dX12_signs_206 ⟨(FrM.put (FrM.put (FrM.put FrM.rf (by decide)) (by decide)) (by decide)), (fun j hj => ((sv_n _ (fun h9 => hj (by rw [h9.2]; decide))).trans ((sv_n _ (fun h9 => hj (by rw [h9.2]; decide))).trans (sv_n _ (fun h9 => hj (by rw [h9.2]; decide)))))), (by omega), (by omega), (by omega), (by omega)⟩
                          · refine lv_iload_n hx hb dX12_signs_134 rfl (lv_at hl 2 rfl) ?_
                            refine lv_bipush (v := iv 33) hx hb dX12_signs_135 rfl ?_
                            refine xb_icmp_eq (tgt := 188) hx hb (by unfold ir; omega) (by unfold ir; omega) dX12_signs_137 (by decide) (fun c_137 => ?_) (fun c_137 => ?_)
                            · refine lv_iconst (v := iv 1) hx hb dX12_signs_188 rfl ?_
                              refine lv_goto (tgt := 193) hx hb dX12_signs_189 (by decide) ?_
                              refine lv_istore_n (lv' := [(3, .int (iv 1)), (2, .int (iv r_9)), (0, .ref (oP ω 111)), (1, .int (iv x1))]) hx hb dX12_signs_193 rfl hl (by decide) rfl (fun ls hl => ?_)
                              refine lv_iload_n hx hb dX12_signs_194 rfl (lv_at hl 0 rfl) ?_
                              refine xb_if_ne (tgt := 206) hx hb (x := 1) (by unfold ir; omega) dX12_signs_195 (by decide) (fun c_195 => ?_) (fun c_195 => absurd c_195 (by decide))
                              have e_370 : (sv (sv (sv μ 111 8 3) 111 6 ((μ.1 111 6) + 1)) 111 13 x1).1 111 6 = (μ.1 111 6) + 1 := ((sv_n _ (by decide)).trans (sv_s _ _ _ _))
                              have e_371 : (sv (sv (sv μ 111 8 3) 111 6 ((μ.1 111 6) + 1)) 111 13 x1).1 111 6 = (μ.1 111 6) + 1 := ((sv_n _ (by decide)).trans (sv_s _ _ _ _))
                              have e_372 : (sv (sv (sv μ 111 8 3) 111 6 ((μ.1 111 6) + 1)) 111 13 x1).1 111 8 = 3 := ((sv_n _ (by decide)).trans ((sv_n _ (by decide)).trans (sv_s _ _ _ _)))
                              have e_373 : wr (sv (sv (sv μ 111 8 3) 111 6 ((μ.1 111 6) + 1)) 111 13 x1) = wr μ := ((wr_cg (sv_n _ (by decide))).trans ((wr_cg (sv_n _ (by decide))).trans (wr_cg (sv_n _ (by decide)))))
                              have e_374 : bd (sv (sv (sv μ 111 8 3) 111 6 ((μ.1 111 6) + 1)) 111 13 x1) = bd μ := ((bd_cg (sv_n _ (by decide)) (sv_n _ (by decide)) (sv_n _ (by decide))).trans ((bd_cg (sv_n _ (by decide)) (sv_n _ (by decide)) (sv_n _ (by decide))).trans (bd_cg (sv_n _ (by decide)) (sv_n _ (by decide)) (sv_n _ (by decide)))))
                              have e_375 : wr (sv (sv (sv μ 111 8 3) 111 6 ((μ.1 111 6) + 1)) 111 13 x1) = wr μ := ((wr_cg (sv_n _ (by decide))).trans ((wr_cg (sv_n _ (by decide))).trans (wr_cg (sv_n _ (by decide)))))
                              have e_376 : nn (sv (sv (sv μ 111 8 3) 111 6 ((μ.1 111 6) + 1)) 111 13 x1) = nn μ := ((nn_cg (sv_n _ (by decide)) (sv_n _ (by decide))).trans ((nn_cg (sv_n _ (by decide)) (sv_n _ (by decide))).trans (nn_cg (sv_n _ (by decide)) (sv_n _ (by decide)))))
                              exact xr_v G hret hlk dX12_signs_206 ⟨(FrM.put (FrM.put (FrM.put FrM.rf (by decide)) (by decide)) (by decide)), (fun j hj => ((sv_n _ (fun h9 => hj (by rw [h9.2]; decide))).trans ((sv_n _ (fun h9 => hj (by rw [h9.2]; decide))).trans (sv_n _ (fun h9 => hj (by rw [h9.2]; decide)))))), (by omega), (by omega), (by omega), (by omega)⟩
                            · refine lv_iload_n hx hb dX12_signs_140 rfl (lv_at hl 2 rfl) ?_
                              refine lv_bipush (v := iv 61) hx hb dX12_signs_141 rfl ?_
                              refine xb_icmp_eq (tgt := 188) hx hb (by unfold ir; omega) (by unfold ir; omega) dX12_signs_143 (by decide) (fun c_143 => ?_) (fun c_143 => ?_)
                              · refine lv_iconst (v := iv 1) hx hb dX12_signs_188 rfl ?_
                                refine lv_goto (tgt := 193) hx hb dX12_signs_189 (by decide) ?_
                                refine lv_istore_n (lv' := [(3, .int (iv 1)), (2, .int (iv r_9)), (0, .ref (oP ω 111)), (1, .int (iv x1))]) hx hb dX12_signs_193 rfl hl (by decide) rfl (fun ls hl => ?_)
                                refine lv_iload_n hx hb dX12_signs_194 rfl (lv_at hl 0 rfl) ?_
                                refine xb_if_ne (tgt := 206) hx hb (x := 1) (by unfold ir; omega) dX12_signs_195 (by decide) (fun c_195 => ?_) (fun c_195 => absurd c_195 (by decide))
                                have e_377 : (sv (sv (sv μ 111 8 3) 111 6 ((μ.1 111 6) + 1)) 111 13 x1).1 111 6 = (μ.1 111 6) + 1 := ((sv_n _ (by decide)).trans (sv_s _ _ _ _))
                                have e_378 : (sv (sv (sv μ 111 8 3) 111 6 ((μ.1 111 6) + 1)) 111 13 x1).1 111 6 = (μ.1 111 6) + 1 := ((sv_n _ (by decide)).trans (sv_s _ _ _ _))
                                have e_379 : (sv (sv (sv μ 111 8 3) 111 6 ((μ.1 111 6) + 1)) 111 13 x1).1 111 8 = 3 := ((sv_n _ (by decide)).trans ((sv_n _ (by decide)).trans (sv_s _ _ _ _)))
                                have e_380 : wr (sv (sv (sv μ 111 8 3) 111 6 ((μ.1 111 6) + 1)) 111 13 x1) = wr μ := ((wr_cg (sv_n _ (by decide))).trans ((wr_cg (sv_n _ (by decide))).trans (wr_cg (sv_n _ (by decide)))))
                                have e_381 : bd (sv (sv (sv μ 111 8 3) 111 6 ((μ.1 111 6) + 1)) 111 13 x1) = bd μ := ((bd_cg (sv_n _ (by decide)) (sv_n _ (by decide)) (sv_n _ (by decide))).trans ((bd_cg (sv_n _ (by decide)) (sv_n _ (by decide)) (sv_n _ (by decide))).trans (bd_cg (sv_n _ (by decide)) (sv_n _ (by decide)) (sv_n _ (by decide)))))
                                have e_382 : wr (sv (sv (sv μ 111 8 3) 111 6 ((μ.1 111 6) + 1)) 111 13 x1) = wr μ := ((wr_cg (sv_n _ (by decide))).trans ((wr_cg (sv_n _ (by decide))).trans (wr_cg (sv_n _ (by decide)))))
                                have e_383 : nn (sv (sv (sv μ 111 8 3) 111 6 ((μ.1 111 6) + 1)) 111 13 x1) = nn μ := ((nn_cg (sv_n _ (by decide)) (sv_n _ (by decide))).trans ((nn_cg (sv_n _ (by decide)) (sv_n _ (by decide))).trans (nn_cg (sv_n _ (by decide)) (sv_n _ (by decide)))))
                                exact xr_v G hret hlk dX12_signs_206 ⟨(FrM.put (FrM.put (FrM.put FrM.rf (by decide)) (by decide)) (by decide)), (fun j hj => ((sv_n _ (fun h9 => hj (by rw [h9.2]; decide))).trans ((sv_n _ (fun h9 => hj (by rw [h9.2]; decide))).trans (sv_n _ (fun h9 => hj (by rw [h9.2]; decide)))))), (by omega), (by omega), (by omega), (by omega)⟩
                              · refine lv_iload_n hx hb dX12_signs_146 rfl (lv_at hl 2 rfl) ?_
                                refine lv_bipush (v := iv 60) hx hb dX12_signs_147 rfl ?_
                                refine xb_icmp_eq (tgt := 188) hx hb (by unfold ir; omega) (by unfold ir; omega) dX12_signs_149 (by decide) (fun c_149 => ?_) (fun c_149 => ?_)
                                · refine lv_iconst (v := iv 1) hx hb dX12_signs_188 rfl ?_
                                  refine lv_goto (tgt := 193) hx hb dX12_signs_189 (by decide) ?_
                                  refine lv_istore_n (lv' := [(3, .int (iv 1)), (2, .int (iv r_9)), (0, .ref (oP ω 111)), (1, .int (iv x1))]) hx hb dX12_signs_193 rfl hl (by decide) rfl (fun ls hl => ?_)
                                  refine lv_iload_n hx hb dX12_signs_194 rfl (lv_at hl 0 rfl) ?_
                                  refine xb_if_ne (tgt := 206) hx hb (x := 1) (by unfold ir; omega) dX12_signs_195 (by decide) (fun c_195 => ?_) (fun c_195 => absurd c_195 (by decide))
                                  have e_384 : (sv (sv (sv μ 111 8 3) 111 6 ((μ.1 111 6) + 1)) 111 13 x1).1 111 6 = (μ.1 111 6) + 1 := ((sv_n _ (by decide)).trans (sv_s _ _ _ _))
                                  have e_385 : (sv (sv (sv μ 111 8 3) 111 6 ((μ.1 111 6) + 1)) 111 13 x1).1 111 6 = (μ.1 111 6) + 1 := ((sv_n _ (by decide)).trans (sv_s _ _ _ _))
                                  have e_386 : (sv (sv (sv μ 111 8 3) 111 6 ((μ.1 111 6) + 1)) 111 13 x1).1 111 8 = 3 := ((sv_n _ (by decide)).trans ((sv_n _ (by decide)).trans (sv_s _ _ _ _)))
                                  have e_387 : wr (sv (sv (sv μ 111 8 3) 111 6 ((μ.1 111 6) + 1)) 111 13 x1) = wr μ := ((wr_cg (sv_n _ (by decide))).trans ((wr_cg (sv_n _ (by decide))).trans (wr_cg (sv_n _ (by decide)))))
                                  have e_388 : bd (sv (sv (sv μ 111 8 3) 111 6 ((μ.1 111 6) + 1)) 111 13 x1) = bd μ := ((bd_cg (sv_n _ (by decide)) (sv_n _ (by decide)) (sv_n _ (by decide))).trans ((bd_cg (sv_n _ (by decide)) (sv_n _ (by decide)) (sv_n _ (by decide))).trans (bd_cg (sv_n _ (by decide)) (sv_n _ (by decide)) (sv_n _ (by decide)))))
                                  have e_389 : wr (sv (sv (sv μ 111 8 3) 111 6 ((μ.1 111 6) + 1)) 111 13 x1) = wr μ := ((wr_cg (sv_n _ (by decide))).trans ((wr_cg (sv_n _ (by decide))).trans (wr_cg (sv_n _ (by decide)))))
                                  have e_390 : nn (sv (sv (sv μ 111 8 3) 111 6 ((μ.1 111 6) + 1)) 111 13 x1) = nn μ := ((nn_cg (sv_n _ (by decide)) (sv_n _ (by decide))).trans ((nn_cg (sv_n _ (by decide)) (sv_n _ (by decide))).trans (nn_cg (sv_n _ (by decide)) (sv_n _ (by decide)))))
                                  exact xr_v G hret hlk dX12_signs_206 ⟨(FrM.put (FrM.put (FrM.put FrM.rf (by decide)) (by decide)) (by decide)), (fun j hj => ((sv_n _ (fun h9 => hj (by rw [h9.2]; decide))).trans ((sv_n _ (fun h9 => hj (by rw [h9.2]; decide))).trans (sv_n _ (fun h9 => hj (by rw [h9.2]; decide)))))), (by omega), (by omega), (by omega), (by omega)⟩
                                · refine lv_iload_n hx hb dX12_signs_152 rfl (lv_at hl 2 rfl) ?_
                                  refine lv_bipush (v := iv 62) hx hb dX12_signs_153 rfl ?_
                                  refine xb_icmp_eq (tgt := 188) hx hb (by unfold ir; omega) (by unfold ir; omega) dX12_signs_155 (by decide) (fun c_155 => ?_) (fun c_155 => ?_)
                                  · refine lv_iconst (v := iv 1) hx hb dX12_signs_188 rfl ?_
                                    refine lv_goto (tgt := 193) hx hb dX12_signs_189 (by decide) ?_
                                    refine lv_istore_n (lv' := [(3, .int (iv 1)), (2, .int (iv r_9)), (0, .ref (oP ω 111)), (1, .int (iv x1))]) hx hb dX12_signs_193 rfl hl (by decide) rfl (fun ls hl => ?_)
                                    refine lv_iload_n hx hb dX12_signs_194 rfl (lv_at hl 0 rfl) ?_
                                    refine xb_if_ne (tgt := 206) hx hb (x := 1) (by unfold ir; omega) dX12_signs_195 (by decide) (fun c_195 => ?_) (fun c_195 => absurd c_195 (by decide))
                                    have e_391 : (sv (sv (sv μ 111 8 3) 111 6 ((μ.1 111 6) + 1)) 111 13 x1).1 111 6 = (μ.1 111 6) + 1 := ((sv_n _ (by decide)).trans (sv_s _ _ _ _))
                                    have e_392 : (sv (sv (sv μ 111 8 3) 111 6 ((μ.1 111 6) + 1)) 111 13 x1).1 111 6 = (μ.1 111 6) + 1 := ((sv_n _ (by decide)).trans (sv_s _ _ _ _))
                                    have e_393 : (sv (sv (sv μ 111 8 3) 111 6 ((μ.1 111 6) + 1)) 111 13 x1).1 111 8 = 3 := ((sv_n _ (by decide)).trans ((sv_n _ (by decide)).trans (sv_s _ _ _ _)))
                                    have e_394 : wr (sv (sv (sv μ 111 8 3) 111 6 ((μ.1 111 6) + 1)) 111 13 x1) = wr μ := ((wr_cg (sv_n _ (by decide))).trans ((wr_cg (sv_n _ (by decide))).trans (wr_cg (sv_n _ (by decide)))))
                                    have e_395 : bd (sv (sv (sv μ 111 8 3) 111 6 ((μ.1 111 6) + 1)) 111 13 x1) = bd μ := ((bd_cg (sv_n _ (by decide)) (sv_n _ (by decide)) (sv_n _ (by decide))).trans ((bd_cg (sv_n _ (by decide)) (sv_n _ (by decide)) (sv_n _ (by decide))).trans (bd_cg (sv_n _ (by decide)) (sv_n _ (by decide)) (sv_n _ (by decide)))))
                                    have e_396 : wr (sv (sv (sv μ 111 8 3) 111 6 ((μ.1 111 6) + 1)) 111 13 x1) = wr μ := ((wr_cg (sv_n _ (by decide))).trans ((wr_cg (sv_n _ (by decide))).trans (wr_cg (sv_n _ (by decide)))))
                                    have e_397 : nn (sv (sv (sv μ 111 8 3) 111 6 ((μ.1 111 6) + 1)) 111 13 x1) = nn μ := ((nn_cg (sv_n _ (by decide)) (sv_n _ (by decide))).trans ((nn_cg (sv_n _ (by decide)) (sv_n _ (by decide))).trans (nn_cg (sv_n _ (by decide)) (sv_n _ (by decide)))))
                                    exact xr_v G hret hlk dX12_signs_206 ⟨(FrM.put (FrM.put (FrM.put FrM.rf (by decide)) (by decide)) (by decide)), (fun j hj => ((sv_n _ (fun h9 => hj (by rw [h9.2]; decide))).trans ((sv_n _ (fun h9 => hj (by rw [h9.2]; decide))).trans (sv_n _ (fun h9 => hj (by rw [h9.2]; decide)))))), (by omega), (by omega), (by omega), (by omega)⟩
                                  · refine lv_iload_n hx hb dX12_signs_158 rfl (lv_at hl 2 rfl) ?_
                                    refine lv_bipush (v := iv 43) hx hb dX12_signs_159 rfl ?_
                                    refine xb_icmp_eq (tgt := 188) hx hb (by unfold ir; omega) (by unfold ir; omega) dX12_signs_161 (by decide) (fun c_161 => ?_) (fun c_161 => ?_)
                                    · refine lv_iconst (v := iv 1) hx hb dX12_signs_188 rfl ?_
                                      refine lv_goto (tgt := 193) hx hb dX12_signs_189 (by decide) ?_
                                      refine lv_istore_n (lv' := [(3, .int (iv 1)), (2, .int (iv r_9)), (0, .ref (oP ω 111)), (1, .int (iv x1))]) hx hb dX12_signs_193 rfl hl (by decide) rfl (fun ls hl => ?_)
                                      refine lv_iload_n hx hb dX12_signs_194 rfl (lv_at hl 0 rfl) ?_
                                      refine xb_if_ne (tgt := 206) hx hb (x := 1) (by unfold ir; omega) dX12_signs_195 (by decide) (fun c_195 => ?_) (fun c_195 => absurd c_195 (by decide))
                                      have e_398 : (sv (sv (sv μ 111 8 3) 111 6 ((μ.1 111 6) + 1)) 111 13 x1).1 111 6 = (μ.1 111 6) + 1 := ((sv_n _ (by decide)).trans (sv_s _ _ _ _))
                                      have e_399 : (sv (sv (sv μ 111 8 3) 111 6 ((μ.1 111 6) + 1)) 111 13 x1).1 111 6 = (μ.1 111 6) + 1 := ((sv_n _ (by decide)).trans (sv_s _ _ _ _))
                                      have e_400 : (sv (sv (sv μ 111 8 3) 111 6 ((μ.1 111 6) + 1)) 111 13 x1).1 111 8 = 3 := ((sv_n _ (by decide)).trans ((sv_n _ (by decide)).trans (sv_s _ _ _ _)))
                                      have e_401 : wr (sv (sv (sv μ 111 8 3) 111 6 ((μ.1 111 6) + 1)) 111 13 x1) = wr μ := ((wr_cg (sv_n _ (by decide))).trans ((wr_cg (sv_n _ (by decide))).trans (wr_cg (sv_n _ (by decide)))))
                                      have e_402 : bd (sv (sv (sv μ 111 8 3) 111 6 ((μ.1 111 6) + 1)) 111 13 x1) = bd μ := ((bd_cg (sv_n _ (by decide)) (sv_n _ (by decide)) (sv_n _ (by decide))).trans ((bd_cg (sv_n _ (by decide)) (sv_n _ (by decide)) (sv_n _ (by decide))).trans (bd_cg (sv_n _ (by decide)) (sv_n _ (by decide)) (sv_n _ (by decide)))))
                                      have e_403 : wr (sv (sv (sv μ 111 8 3) 111 6 ((μ.1 111 6) + 1)) 111 13 x1) = wr μ := ((wr_cg (sv_n _ (by decide))).trans ((wr_cg (sv_n _ (by decide))).trans (wr_cg (sv_n _ (by decide)))))
                                      have e_404 : nn (sv (sv (sv μ 111 8 3) 111 6 ((μ.1 111 6) + 1)) 111 13 x1) = nn μ := ((nn_cg (sv_n _ (by decide)) (sv_n _ (by decide))).trans ((nn_cg (sv_n _ (by decide)) (sv_n _ (by decide))).trans (nn_cg (sv_n _ (by decide)) (sv_n _ (by decide)))))
                                      exact xr_v G hret hlk dX12_signs_206 ⟨(FrM.put (FrM.put (FrM.put FrM.rf (by decide)) (by decide)) (by decide)), (fun j hj => ((sv_n _ (fun h9 => hj (by rw [h9.2]; decide))).trans ((sv_n _ (fun h9 => hj (by rw [h9.2]; decide))).trans (sv_n _ (fun h9 => hj (by rw [h9.2]; decide)))))), (by omega), (by omega), (by omega), (by omega)⟩
                                    · refine lv_iload_n hx hb dX12_signs_164 rfl (lv_at hl 2 rfl) ?_
                                      refine lv_bipush (v := iv 45) hx hb dX12_signs_165 rfl ?_
                                      refine xb_icmp_eq (tgt := 188) hx hb (by unfold ir; omega) (by unfold ir; omega) dX12_signs_167 (by decide) (fun c_167 => ?_) (fun c_167 => ?_)
                                      · refine lv_iconst (v := iv 1) hx hb dX12_signs_188 rfl ?_
                                        refine lv_goto (tgt := 193) hx hb dX12_signs_189 (by decide) ?_
                                        refine lv_istore_n (lv' := [(3, .int (iv 1)), (2, .int (iv r_9)), (0, .ref (oP ω 111)), (1, .int (iv x1))]) hx hb dX12_signs_193 rfl hl (by decide) rfl (fun ls hl => ?_)
                                        refine lv_iload_n hx hb dX12_signs_194 rfl (lv_at hl 0 rfl) ?_
                                        refine xb_if_ne (tgt := 206) hx hb (x := 1) (by unfold ir; omega) dX12_signs_195 (by decide) (fun c_195 => ?_) (fun c_195 => absurd c_195 (by decide))
                                        have e_405 : (sv (sv (sv μ 111 8 3) 111 6 ((μ.1 111 6) + 1)) 111 13 x1).1 111 6 = (μ.1 111 6) + 1 := ((sv_n _ (by decide)).trans (sv_s _ _ _ _))
                                        have e_406 : (sv (sv (sv μ 111 8 3) 111 6 ((μ.1 111 6) + 1)) 111 13 x1).1 111 6 = (μ.1 111 6) + 1 := ((sv_n _ (by decide)).trans (sv_s _ _ _ _))
                                        have e_407 : (sv (sv (sv μ 111 8 3) 111 6 ((μ.1 111 6) + 1)) 111 13 x1).1 111 8 = 3 := ((sv_n _ (by decide)).trans ((sv_n _ (by decide)).trans (sv_s _ _ _ _)))
                                        have e_408 : wr (sv (sv (sv μ 111 8 3) 111 6 ((μ.1 111 6) + 1)) 111 13 x1) = wr μ := ((wr_cg (sv_n _ (by decide))).trans ((wr_cg (sv_n _ (by decide))).trans (wr_cg (sv_n _ (by decide)))))
                                        have e_409 : bd (sv (sv (sv μ 111 8 3) 111 6 ((μ.1 111 6) + 1)) 111 13 x1) = bd μ := ((bd_cg (sv_n _ (by decide)) (sv_n _ (by decide)) (sv_n _ (by decide))).trans ((bd_cg (sv_n _ (by decide)) (sv_n _ (by decide)) (sv_n _ (by decide))).trans (bd_cg (sv_n _ (by decide)) (sv_n _ (by decide)) (sv_n _ (by decide)))))
                                        have e_410 : wr (sv (sv (sv μ 111 8 3) 111 6 ((μ.1 111 6) + 1)) 111 13 x1) = wr μ := ((wr_cg (sv_n _ (by decide))).trans ((wr_cg (sv_n _ (by decide))).trans (wr_cg (sv_n _ (by decide)))))
                                        have e_411 : nn (sv (sv (sv μ 111 8 3) 111 6 ((μ.1 111 6) + 1)) 111 13 x1) = nn μ := ((nn_cg (sv_n _ (by decide)) (sv_n _ (by decide))).trans ((nn_cg (sv_n _ (by decide)) (sv_n _ (by decide))).trans (nn_cg (sv_n _ (by decide)) (sv_n _ (by decide)))))
                                        exact xr_v G hret hlk dX12_signs_206 ⟨(FrM.put (FrM.put (FrM.put FrM.rf (by decide)) (by decide)) (by decide)), (fun j hj => ((sv_n _ (fun h9 => hj (by rw [h9.2]; decide))).trans ((sv_n _ (fun h9 => hj (by rw [h9.2]; decide))).trans (sv_n _ (fun h9 => hj (by rw [h9.2]; decide)))))), (by omega), (by omega), (by omega), (by omega)⟩
                                      · refine lv_iload_n hx hb dX12_signs_170 rfl (lv_at hl 2 rfl) ?_
                                        refine lv_bipush (v := iv 42) hx hb dX12_signs_171 rfl ?_
                                        refine xb_icmp_eq (tgt := 188) hx hb (by unfold ir; omega) (by unfold ir; omega) dX12_signs_173 (by decide) (fun c_173 => ?_) (fun c_173 => ?_)
                                        · refine lv_iconst (v := iv 1) hx hb dX12_signs_188 rfl ?_
                                          refine lv_goto (tgt := 193) hx hb dX12_signs_189 (by decide) ?_
                                          refine lv_istore_n (lv' := [(3, .int (iv 1)), (2, .int (iv r_9)), (0, .ref (oP ω 111)), (1, .int (iv x1))]) hx hb dX12_signs_193 rfl hl (by decide) rfl (fun ls hl => ?_)
                                          refine lv_iload_n hx hb dX12_signs_194 rfl (lv_at hl 0 rfl) ?_
                                          refine xb_if_ne (tgt := 206) hx hb (x := 1) (by unfold ir; omega) dX12_signs_195 (by decide) (fun c_195 => ?_) (fun c_195 => absurd c_195 (by decide))
                                          have e_412 : (sv (sv (sv μ 111 8 3) 111 6 ((μ.1 111 6) + 1)) 111 13 x1).1 111 6 = (μ.1 111 6) + 1 := ((sv_n _ (by decide)).trans (sv_s _ _ _ _))
                                          have e_413 : (sv (sv (sv μ 111 8 3) 111 6 ((μ.1 111 6) + 1)) 111 13 x1).1 111 6 = (μ.1 111 6) + 1 := ((sv_n _ (by decide)).trans (sv_s _ _ _ _))
                                          have e_414 : (sv (sv (sv μ 111 8 3) 111 6 ((μ.1 111 6) + 1)) 111 13 x1).1 111 8 = 3 := ((sv_n _ (by decide)).trans ((sv_n _ (by decide)).trans (sv_s _ _ _ _)))
                                          have e_415 : wr (sv (sv (sv μ 111 8 3) 111 6 ((μ.1 111 6) + 1)) 111 13 x1) = wr μ := ((wr_cg (sv_n _ (by decide))).trans ((wr_cg (sv_n _ (by decide))).trans (wr_cg (sv_n _ (by decide)))))
                                          have e_416 : bd (sv (sv (sv μ 111 8 3) 111 6 ((μ.1 111 6) + 1)) 111 13 x1) = bd μ := ((bd_cg (sv_n _ (by decide)) (sv_n _ (by decide)) (sv_n _ (by decide))).trans ((bd_cg (sv_n _ (by decide)) (sv_n _ (by decide)) (sv_n _ (by decide))).trans (bd_cg (sv_n _ (by decide)) (sv_n _ (by decide)) (sv_n _ (by decide)))))
                                          have e_417 : wr (sv (sv (sv μ 111 8 3) 111 6 ((μ.1 111 6) + 1)) 111 13 x1) = wr μ := ((wr_cg (sv_n _ (by decide))).trans ((wr_cg (sv_n _ (by decide))).trans (wr_cg (sv_n _ (by decide)))))
                                          have e_418 : nn (sv (sv (sv μ 111 8 3) 111 6 ((μ.1 111 6) + 1)) 111 13 x1) = nn μ := ((nn_cg (sv_n _ (by decide)) (sv_n _ (by decide))).trans ((nn_cg (sv_n _ (by decide)) (sv_n _ (by decide))).trans (nn_cg (sv_n _ (by decide)) (sv_n _ (by decide)))))
                                          exact xr_v G hret hlk dX12_signs_206 ⟨(FrM.put (FrM.put (FrM.put FrM.rf (by decide)) (by decide)) (by decide)), (fun j hj => ((sv_n _ (fun h9 => hj (by rw [h9.2]; decide))).trans ((sv_n _ (fun h9 => hj (by rw [h9.2]; decide))).trans (sv_n _ (fun h9 => hj (by rw [h9.2]; decide)))))), (by omega), (by omega), (by omega), (by omega)⟩
                                        · refine lv_iload_n hx hb dX12_signs_176 rfl (lv_at hl 2 rfl) ?_
                                          refine lv_bipush (v := iv 47) hx hb dX12_signs_177 rfl ?_
                                          refine xb_icmp_eq (tgt := 188) hx hb (by unfold ir; omega) (by unfold ir; omega) dX12_signs_179 (by decide) (fun c_179 => ?_) (fun c_179 => ?_)
                                          · refine lv_iconst (v := iv 1) hx hb dX12_signs_188 rfl ?_
                                            refine lv_goto (tgt := 193) hx hb dX12_signs_189 (by decide) ?_
                                            refine lv_istore_n (lv' := [(3, .int (iv 1)), (2, .int (iv r_9)), (0, .ref (oP ω 111)), (1, .int (iv x1))]) hx hb dX12_signs_193 rfl hl (by decide) rfl (fun ls hl => ?_)
                                            refine lv_iload_n hx hb dX12_signs_194 rfl (lv_at hl 0 rfl) ?_
                                            refine xb_if_ne (tgt := 206) hx hb (x := 1) (by unfold ir; omega) dX12_signs_195 (by decide) (fun c_195 => ?_) (fun c_195 => absurd c_195 (by decide))
                                            have e_419 : (sv (sv (sv μ 111 8 3) 111 6 ((μ.1 111 6) + 1)) 111 13 x1).1 111 6 = (μ.1 111 6) + 1 := ((sv_n _ (by decide)).trans (sv_s _ _ _ _))
                                            have e_420 : (sv (sv (sv μ 111 8 3) 111 6 ((μ.1 111 6) + 1)) 111 13 x1).1 111 6 = (μ.1 111 6) + 1 := ((sv_n _ (by decide)).trans (sv_s _ _ _ _))
                                            have e_421 : (sv (sv (sv μ 111 8 3) 111 6 ((μ.1 111 6) + 1)) 111 13 x1).1 111 8 = 3 := ((sv_n _ (by decide)).trans ((sv_n _ (by decide)).trans (sv_s _ _ _ _)))
                                            have e_422 : wr (sv (sv (sv μ 111 8 3) 111 6 ((μ.1 111 6) + 1)) 111 13 x1) = wr μ := ((wr_cg (sv_n _ (by decide))).trans ((wr_cg (sv_n _ (by decide))).trans (wr_cg (sv_n _ (by decide)))))
                                            have e_423 : bd (sv (sv (sv μ 111 8 3) 111 6 ((μ.1 111 6) + 1)) 111 13 x1) = bd μ := ((bd_cg (sv_n _ (by decide)) (sv_n _ (by decide)) (sv_n _ (by decide))).trans ((bd_cg (sv_n _ (by decide)) (sv_n _ (by decide)) (sv_n _ (by decide))).trans (bd_cg (sv_n _ (by decide)) (sv_n _ (by decide)) (sv_n _ (by decide)))))
                                            have e_424 : wr (sv (sv (sv μ 111 8 3) 111 6 ((μ.1 111 6) + 1)) 111 13 x1) = wr μ := ((wr_cg (sv_n _ (by decide))).trans ((wr_cg (sv_n _ (by decide))).trans (wr_cg (sv_n _ (by decide)))))
                                            have e_425 : nn (sv (sv (sv μ 111 8 3) 111 6 ((μ.1 111 6) + 1)) 111 13 x1) = nn μ := ((nn_cg (sv_n _ (by decide)) (sv_n _ (by decide))).trans ((nn_cg (sv_n _ (by decide)) (sv_n _ (by decide))).trans (nn_cg (sv_n _ (by decide)) (sv_n _ (by decide)))))
                                            exact xr_v G hret hlk dX12_signs_206 ⟨(FrM.put (FrM.put (FrM.put FrM.rf (by decide)) (by decide)) (by decide)), (fun j hj => ((sv_n _ (fun h9 => hj (by rw [h9.2]; decide))).trans ((sv_n _ (fun h9 => hj (by rw [h9.2]; decide))).trans (sv_n _ (fun h9 => hj (by rw [h9.2]; decide)))))), (by omega), (by omega), (by omega), (by omega)⟩
                                          · refine lv_iload_n hx hb dX12_signs_182 rfl (lv_at hl 2 rfl) ?_
                                            refine lv_bipush (v := iv 37) hx hb dX12_signs_183 rfl ?_
                                            refine xb_icmp_ne (tgt := 192) hx hb (by unfold ir; omega) (by unfold ir; omega) dX12_signs_185 (by decide) (fun c_185 => ?_) (fun c_185 => ?_)
                                            · refine lv_iconst (v := iv 0) hx hb dX12_signs_192 rfl ?_
                                              refine lv_istore_n (lv' := [(3, .int (iv 0)), (2, .int (iv r_9)), (0, .ref (oP ω 111)), (1, .int (iv x1))]) hx hb dX12_signs_193 rfl hl (by decide) rfl (fun ls hl => ?_)
                                              refine lv_iload_n hx hb dX12_signs_194 rfl (lv_at hl 0 rfl) ?_
                                              refine xb_if_ne (tgt := 206) hx hb (x := 0) (by unfold ir; omega) dX12_signs_195 (by decide) (fun c_195 => absurd c_195 (by decide)) (fun c_195 => ?_)
                                              refine lv_aload_n hx hb dX12_signs_198 rfl (lv_at hl 2 rfl) ?_
                                              refine lv_aload_n hx hb dX12_signs_199 rfl (lv_at hl 2 rfl) ?_
                                              refine xa_geti G fd_X12 (a := 111) (x := μ.1 111 9) 9 rfl (by decide) rfl (wm 7 158 rfl rfl) ⟨rfl, rfl, rfl⟩ dX12_signs_200 rfl ((sv_n _ (by decide)).trans ((sv_n _ (by decide)).trans (sv_n _ (by decide)))) ?_
                                              have hr_426 : -2147483648 ≤ μ.1 111 9 ∧ μ.1 111 9 ≤ 2147483647 := by have h9 := G.hr (a := 111) (k := 9) rfl; rw [show (sv (sv (sv μ 111 8 3) 111 6 ((μ.1 111 6) + 1)) 111 13 x1).1 111 9 = μ.1 111 9 from ((sv_n _ (by decide)).trans ((sv_n _ (by decide)).trans (sv_n _ (by decide))))] at h9; exact h9
                                              have e_427 : (sv (sv (sv μ 111 8 3) 111 6 ((μ.1 111 6) + 1)) 111 13 x1).1 111 9 = μ.1 111 9 := ((sv_n _ (by decide)).trans ((sv_n _ (by decide)).trans (sv_n _ (by decide))))
                                              refine xc_vV G (b := 111) (rest := []) (As := [.int (iv (μ.1 111 9))]) (c_X12_wrong ω l (sv (sv (sv μ 111 8 3) 111 6 ((μ.1 111 6) + 1)) 111 13 x1) (μ.1 111 9) (by unfold ir; omega) (by omega)) (wm 9 22 rfl rfl) (wm 9 24 rfl rfl) (wm 0 123 rfl rfl) rfl rfl (by decide) rfl (wm 1 18 rfl rfl) (wm 9 25 rfl rfl) (by decide) hR (by decide) (n := 1) rfl rfl (Nat.le_of_ble_eq_true rfl) hl.1 dX12_signs_203 (fun μ428 ρ d0 H locs hp G => ?_)
                                              obtain ⟨F_429, hp_430, hp_431⟩ := hp
                                              have hw_432 := wr_r (μ := μ428)
                                              have e_433 : μ428.1 111 6 = (μ.1 111 6) + 1 := ((hp_430 6 (by decide)).trans ((sv_n _ (by decide)).trans (sv_s _ _ _ _)))
                                              have e_434 : μ428.1 111 6 = (μ.1 111 6) + 1 := ((hp_430 6 (by decide)).trans ((sv_n _ (by decide)).trans (sv_s _ _ _ _)))
                                              have e_435 : μ428.1 111 8 = 3 := ((hp_430 8 (by decide)).trans ((sv_n _ (by decide)).trans ((sv_n _ (by decide)).trans (sv_s _ _ _ _))))
                                              exact xr_v G hret hlk dX12_signs_206 ⟨(FrM.tr (FrM.put (FrM.put (FrM.put FrM.rf (by decide)) (by decide)) (by decide)) F_429 (by decide)), (fun j hj => ((hp_430 j (fun h9 => hj ((by decide : ∀ x ∈ ([15] : List Int), x ∈ ([6, 8, 13, 15] : List Int)) j h9))).trans ((sv_n _ (fun h9 => hj (by rw [h9.2]; decide))).trans ((sv_n _ (fun h9 => hj (by rw [h9.2]; decide))).trans (sv_n _ (fun h9 => hj (by rw [h9.2]; decide))))))), (by omega), (by omega), (by omega), (by omega)⟩
                                            · refine lv_iconst (v := iv 1) hx hb dX12_signs_188 rfl ?_
                                              refine lv_goto (tgt := 193) hx hb dX12_signs_189 (by decide) ?_
                                              refine lv_istore_n (lv' := [(3, .int (iv 1)), (2, .int (iv r_9)), (0, .ref (oP ω 111)), (1, .int (iv x1))]) hx hb dX12_signs_193 rfl hl (by decide) rfl (fun ls hl => ?_)
                                              refine lv_iload_n hx hb dX12_signs_194 rfl (lv_at hl 0 rfl) ?_
                                              refine xb_if_ne (tgt := 206) hx hb (x := 1) (by unfold ir; omega) dX12_signs_195 (by decide) (fun c_195 => ?_) (fun c_195 => absurd c_195 (by decide))
                                              have e_436 : (sv (sv (sv μ 111 8 3) 111 6 ((μ.1 111 6) + 1)) 111 13 x1).1 111 6 = (μ.1 111 6) + 1 := ((sv_n _ (by decide)).trans (sv_s _ _ _ _))
                                              have e_437 : (sv (sv (sv μ 111 8 3) 111 6 ((μ.1 111 6) + 1)) 111 13 x1).1 111 6 = (μ.1 111 6) + 1 := ((sv_n _ (by decide)).trans (sv_s _ _ _ _))
                                              have e_438 : (sv (sv (sv μ 111 8 3) 111 6 ((μ.1 111 6) + 1)) 111 13 x1).1 111 8 = 3 := ((sv_n _ (by decide)).trans ((sv_n _ (by decide)).trans (sv_s _ _ _ _)))
                                              have e_439 : wr (sv (sv (sv μ 111 8 3) 111 6 ((μ.1 111 6) + 1)) 111 13 x1) = wr μ := ((wr_cg (sv_n _ (by decide))).trans ((wr_cg (sv_n _ (by decide))).trans (wr_cg (sv_n _ (by decide)))))
                                              have e_440 : bd (sv (sv (sv μ 111 8 3) 111 6 ((μ.1 111 6) + 1)) 111 13 x1) = bd μ := ((bd_cg (sv_n _ (by decide)) (sv_n _ (by decide)) (sv_n _ (by decide))).trans ((bd_cg (sv_n _ (by decide)) (sv_n _ (by decide)) (sv_n _ (by decide))).trans (bd_cg (sv_n _ (by decide)) (sv_n _ (by decide)) (sv_n _ (by decide)))))
                                              have e_441 : wr (sv (sv (sv μ 111 8 3) 111 6 ((μ.1 111 6) + 1)) 111 13 x1) = wr μ := ((wr_cg (sv_n _ (by decide))).trans ((wr_cg (sv_n _ (by decide))).trans (wr_cg (sv_n _ (by decide)))))
                                              have e_442 : nn (sv (sv (sv μ 111 8 3) 111 6 ((μ.1 111 6) + 1)) 111 13 x1) = nn μ := ((nn_cg (sv_n _ (by decide)) (sv_n _ (by decide))).trans ((nn_cg (sv_n _ (by decide)) (sv_n _ (by decide))).trans (nn_cg (sv_n _ (by decide)) (sv_n _ (by decide)))))
                                              exact xr_v G hret hlk dX12_signs_206 ⟨(FrM.put (FrM.put (FrM.put FrM.rf (by decide)) (by decide)) (by decide)), (fun j hj => ((sv_n _ (fun h9 => hj (by rw [h9.2]; decide))).trans ((sv_n _ (fun h9 => hj (by rw [h9.2]; decide))).trans (sv_n _ (fun h9 => hj (by rw [h9.2]; decide)))))), (by omega), (by omega), (by omega), (by omega)⟩
      · refine lv_aload_n hx hb dX12_signs_55 rfl (lv_at hl 1 rfl) ?_
        refine lv_dup hx hb dX12_signs_56 rfl ?_
        refine xa_geti G fd_X12 (a := 111) (x := (μ.1 111 6) + 1) 6 rfl (by decide) rfl (wm 7 155 rfl rfl) ⟨rfl, rfl, rfl⟩ dX12_signs_57 rfl ((sv_n _ (by decide)).trans (sv_s _ _ _ _)) ?_
        have hr_443 : -2147483648 ≤ (μ.1 111 6) + 1 ∧ (μ.1 111 6) + 1 ≤ 2147483647 := by have h9 := G.hr (a := 111) (k := 6) rfl; rw [show (sv (sv (sv μ 111 8 3) 111 6 ((μ.1 111 6) + 1)) 111 13 x1).1 111 6 = (μ.1 111 6) + 1 from ((sv_n _ (by decide)).trans (sv_s _ _ _ _))] at h9; exact h9
        refine lv_iconst (v := iv 1) hx hb dX12_signs_60 rfl ?_
        refine xb_iadd hx hb dX12_signs_61 ?_
        refine xb_ti (y := (μ.1 111 6) + 2) (by omega) ?_
        refine xa_puti G fd_X12 (a := 111) (x := (μ.1 111 6) + 2) 6 (kz := 6) rfl rfl (by decide) rfl (by unfold ir; omega) (wm 7 155 rfl rfl) ⟨rfl, rfl, rfl, rfl⟩ rfl dX12_signs_62 rfl (fun H locs G => ?_)
        refine lv_aload_n hx hb dX12_signs_65 rfl (lv_at hl 1 rfl) ?_
        refine lv_sipush (v := iv 256) hx hb dX12_signs_66 rfl ?_
        refine lv_iload_n hx hb dX12_signs_69 rfl (lv_at hl 2 rfl) ?_
        refine xb_iadd hx hb dX12_signs_70 ?_
        refine xa_puti G fd_X12 (a := 111) (x := 256 + x1) 13 (kz := 13) rfl rfl (by decide) rfl (by unfold ir; omega) (wm 7 162 rfl rfl) ⟨rfl, rfl, rfl, rfl⟩ rfl dX12_signs_71 rfl (fun H locs G => ?_)
        refine lv_iload_n hx hb dX12_signs_74 rfl (lv_at hl 2 rfl) ?_
        refine lv_bipush (v := iv 40) hx hb dX12_signs_75 rfl ?_
        refine xb_icmp_eq (tgt := 188) hx hb (by unfold ir; omega) (by unfold ir; omega) dX12_signs_77 (by decide) (fun c_77 => ?_) (fun c_77 => ?_)
        · refine lv_iconst (v := iv 1) hx hb dX12_signs_188 rfl ?_
          refine lv_goto (tgt := 193) hx hb dX12_signs_189 (by decide) ?_
          refine lv_istore_n (lv' := [(3, .int (iv 1)), (2, .int (iv r_9)), (0, .ref (oP ω 111)), (1, .int (iv x1))]) hx hb dX12_signs_193 rfl hl (by decide) rfl (fun ls hl => ?_)
          refine lv_iload_n hx hb dX12_signs_194 rfl (lv_at hl 0 rfl) ?_
          refine xb_if_ne (tgt := 206) hx hb (x := 1) (by unfold ir; omega) dX12_signs_195 (by decide) (fun c_195 => ?_) (fun c_195 => absurd c_195 (by decide))
          have e_444 : (sv (sv (sv (sv (sv μ 111 8 3) 111 6 ((μ.1 111 6) + 1)) 111 13 x1) 111 6 ((μ.1 111 6) + 2)) 111 13 (256 + x1)).1 111 6 = (μ.1 111 6) + 2 := ((sv_n _ (by decide)).trans (sv_s _ _ _ _))
          have e_445 : (sv (sv (sv (sv (sv μ 111 8 3) 111 6 ((μ.1 111 6) + 1)) 111 13 x1) 111 6 ((μ.1 111 6) + 2)) 111 13 (256 + x1)).1 111 6 = (μ.1 111 6) + 2 := ((sv_n _ (by decide)).trans (sv_s _ _ _ _))
          have e_446 : (sv (sv (sv (sv (sv μ 111 8 3) 111 6 ((μ.1 111 6) + 1)) 111 13 x1) 111 6 ((μ.1 111 6) + 2)) 111 13 (256 + x1)).1 111 8 = 3 := ((sv_n _ (by decide)).trans ((sv_n _ (by decide)).trans ((sv_n _ (by decide)).trans ((sv_n _ (by decide)).trans (sv_s _ _ _ _)))))
          have e_447 : wr (sv (sv (sv (sv (sv μ 111 8 3) 111 6 ((μ.1 111 6) + 1)) 111 13 x1) 111 6 ((μ.1 111 6) + 2)) 111 13 (256 + x1)) = wr μ := ((wr_cg (sv_n _ (by decide))).trans ((wr_cg (sv_n _ (by decide))).trans ((wr_cg (sv_n _ (by decide))).trans ((wr_cg (sv_n _ (by decide))).trans (wr_cg (sv_n _ (by decide)))))))
          have e_448 : bd (sv (sv (sv (sv (sv μ 111 8 3) 111 6 ((μ.1 111 6) + 1)) 111 13 x1) 111 6 ((μ.1 111 6) + 2)) 111 13 (256 + x1)) = bd μ := ((bd_cg (sv_n _ (by decide)) (sv_n _ (by decide)) (sv_n _ (by decide))).trans ((bd_cg (sv_n _ (by decide)) (sv_n _ (by decide)) (sv_n _ (by decide))).trans ((bd_cg (sv_n _ (by decide)) (sv_n _ (by decide)) (sv_n _ (by decide))).trans ((bd_cg (sv_n _ (by decide)) (sv_n _ (by decide)) (sv_n _ (by decide))).trans (bd_cg (sv_n _ (by decide)) (sv_n _ (by decide)) (sv_n _ (by decide)))))))
          have e_449 : wr (sv (sv (sv (sv (sv μ 111 8 3) 111 6 ((μ.1 111 6) + 1)) 111 13 x1) 111 6 ((μ.1 111 6) + 2)) 111 13 (256 + x1)) = wr μ := ((wr_cg (sv_n _ (by decide))).trans ((wr_cg (sv_n _ (by decide))).trans ((wr_cg (sv_n _ (by decide))).trans ((wr_cg (sv_n _ (by decide))).trans (wr_cg (sv_n _ (by decide)))))))
          have e_450 : nn (sv (sv (sv (sv (sv μ 111 8 3) 111 6 ((μ.1 111 6) + 1)) 111 13 x1) 111 6 ((μ.1 111 6) + 2)) 111 13 (256 + x1)) = nn μ := ((nn_cg (sv_n _ (by decide)) (sv_n _ (by decide))).trans ((nn_cg (sv_n _ (by decide)) (sv_n _ (by decide))).trans ((nn_cg (sv_n _ (by decide)) (sv_n _ (by decide))).trans ((nn_cg (sv_n _ (by decide)) (sv_n _ (by decide))).trans (nn_cg (sv_n _ (by decide)) (sv_n _ (by decide)))))))
          exact xr_v G hret hlk dX12_signs_206 ⟨(FrM.put (FrM.put (FrM.put (FrM.put (FrM.put FrM.rf (by decide)) (by decide)) (by decide)) (by decide)) (by decide)), (fun j hj => ((sv_n _ (fun h9 => hj (by rw [h9.2]; decide))).trans ((sv_n _ (fun h9 => hj (by rw [h9.2]; decide))).trans ((sv_n _ (fun h9 => hj (by rw [h9.2]; decide))).trans ((sv_n _ (fun h9 => hj (by rw [h9.2]; decide))).trans (sv_n _ (fun h9 => hj (by rw [h9.2]; decide)))))))), (by omega), (by omega), (by omega), (by omega)⟩
        · refine lv_iload_n hx hb dX12_signs_80 rfl (lv_at hl 2 rfl) ?_
          refine lv_bipush (v := iv 41) hx hb dX12_signs_81 rfl ?_
          refine xb_icmp_eq (tgt := 188) hx hb (by unfold ir; omega) (by unfold ir; omega) dX12_signs_83 (by decide) (fun c_83 => ?_) (fun c_83 => ?_)
          · refine lv_iconst (v := iv 1) hx hb dX12_signs_188 rfl ?_
            refine lv_goto (tgt := 193) hx hb dX12_signs_189 (by decide) ?_
            refine lv_istore_n (lv' := [(3, .int (iv 1)), (2, .int (iv r_9)), (0, .ref (oP ω 111)), (1, .int (iv x1))]) hx hb dX12_signs_193 rfl hl (by decide) rfl (fun ls hl => ?_)
            refine lv_iload_n hx hb dX12_signs_194 rfl (lv_at hl 0 rfl) ?_
            refine xb_if_ne (tgt := 206) hx hb (x := 1) (by unfold ir; omega) dX12_signs_195 (by decide) (fun c_195 => ?_) (fun c_195 => absurd c_195 (by decide))
            have e_451 : (sv (sv (sv (sv (sv μ 111 8 3) 111 6 ((μ.1 111 6) + 1)) 111 13 x1) 111 6 ((μ.1 111 6) + 2)) 111 13 (256 + x1)).1 111 6 = (μ.1 111 6) + 2 := ((sv_n _ (by decide)).trans (sv_s _ _ _ _))
            have e_452 : (sv (sv (sv (sv (sv μ 111 8 3) 111 6 ((μ.1 111 6) + 1)) 111 13 x1) 111 6 ((μ.1 111 6) + 2)) 111 13 (256 + x1)).1 111 6 = (μ.1 111 6) + 2 := ((sv_n _ (by decide)).trans (sv_s _ _ _ _))
            have e_453 : (sv (sv (sv (sv (sv μ 111 8 3) 111 6 ((μ.1 111 6) + 1)) 111 13 x1) 111 6 ((μ.1 111 6) + 2)) 111 13 (256 + x1)).1 111 8 = 3 := ((sv_n _ (by decide)).trans ((sv_n _ (by decide)).trans ((sv_n _ (by decide)).trans ((sv_n _ (by decide)).trans (sv_s _ _ _ _)))))
            have e_454 : wr (sv (sv (sv (sv (sv μ 111 8 3) 111 6 ((μ.1 111 6) + 1)) 111 13 x1) 111 6 ((μ.1 111 6) + 2)) 111 13 (256 + x1)) = wr μ := ((wr_cg (sv_n _ (by decide))).trans ((wr_cg (sv_n _ (by decide))).trans ((wr_cg (sv_n _ (by decide))).trans ((wr_cg (sv_n _ (by decide))).trans (wr_cg (sv_n _ (by decide)))))))
            have e_455 : bd (sv (sv (sv (sv (sv μ 111 8 3) 111 6 ((μ.1 111 6) + 1)) 111 13 x1) 111 6 ((μ.1 111 6) + 2)) 111 13 (256 + x1)) = bd μ := ((bd_cg (sv_n _ (by decide)) (sv_n _ (by decide)) (sv_n _ (by decide))).trans ((bd_cg (sv_n _ (by decide)) (sv_n _ (by decide)) (sv_n _ (by decide))).trans ((bd_cg (sv_n _ (by decide)) (sv_n _ (by decide)) (sv_n _ (by decide))).trans ((bd_cg (sv_n _ (by decide)) (sv_n _ (by decide)) (sv_n _ (by decide))).trans (bd_cg (sv_n _ (by decide)) (sv_n _ (by decide)) (sv_n _ (by decide)))))))
            have e_456 : wr (sv (sv (sv (sv (sv μ 111 8 3) 111 6 ((μ.1 111 6) + 1)) 111 13 x1) 111 6 ((μ.1 111 6) + 2)) 111 13 (256 + x1)) = wr μ := ((wr_cg (sv_n _ (by decide))).trans ((wr_cg (sv_n _ (by decide))).trans ((wr_cg (sv_n _ (by decide))).trans ((wr_cg (sv_n _ (by decide))).trans (wr_cg (sv_n _ (by decide)))))))
            have e_457 : nn (sv (sv (sv (sv (sv μ 111 8 3) 111 6 ((μ.1 111 6) + 1)) 111 13 x1) 111 6 ((μ.1 111 6) + 2)) 111 13 (256 + x1)) = nn μ := ((nn_cg (sv_n _ (by decide)) (sv_n _ (by decide))).trans ((nn_cg (sv_n _ (by decide)) (sv_n _ (by decide))).trans ((nn_cg (sv_n _ (by decide)) (sv_n _ (by decide))).trans ((nn_cg (sv_n _ (by decide)) (sv_n _ (by decide))).trans (nn_cg (sv_n _ (by decide)) (sv_n _ (by decide)))))))
            exact xr_v G hret hlk dX12_signs_206 ⟨(FrM.put (FrM.put (FrM.put (FrM.put (FrM.put FrM.rf (by decide)) (by decide)) (by decide)) (by decide)) (by decide)), (fun j hj => ((sv_n _ (fun h9 => hj (by rw [h9.2]; decide))).trans ((sv_n _ (fun h9 => hj (by rw [h9.2]; decide))).trans ((sv_n _ (fun h9 => hj (by rw [h9.2]; decide))).trans ((sv_n _ (fun h9 => hj (by rw [h9.2]; decide))).trans (sv_n _ (fun h9 => hj (by rw [h9.2]; decide)))))))), (by omega), (by omega), (by omega), (by omega)⟩
          · refine lv_iload_n hx hb dX12_signs_86 rfl (lv_at hl 2 rfl) ?_
            refine lv_bipush (v := iv 123) hx hb dX12_signs_87 rfl ?_
            refine xb_icmp_eq (tgt := 188) hx hb (by unfold ir; omega) (by unfold ir; omega) dX12_signs_89 (by decide) (fun c_89 => ?_) (fun c_89 => ?_)
            · refine lv_iconst (v := iv 1) hx hb dX12_signs_188 rfl ?_
              refine lv_goto (tgt := 193) hx hb dX12_signs_189 (by decide) ?_
              refine lv_istore_n (lv' := [(3, .int (iv 1)), (2, .int (iv r_9)), (0, .ref (oP ω 111)), (1, .int (iv x1))]) hx hb dX12_signs_193 rfl hl (by decide) rfl (fun ls hl => ?_)
              refine lv_iload_n hx hb dX12_signs_194 rfl (lv_at hl 0 rfl) ?_
              refine xb_if_ne (tgt := 206) hx hb (x := 1) (by unfold ir; omega) dX12_signs_195 (by decide) (fun c_195 => ?_) (fun c_195 => absurd c_195 (by decide))
              have e_458 : (sv (sv (sv (sv (sv μ 111 8 3) 111 6 ((μ.1 111 6) + 1)) 111 13 x1) 111 6 ((μ.1 111 6) + 2)) 111 13 (256 + x1)).1 111 6 = (μ.1 111 6) + 2 := ((sv_n _ (by decide)).trans (sv_s _ _ _ _))
              have e_459 : (sv (sv (sv (sv (sv μ 111 8 3) 111 6 ((μ.1 111 6) + 1)) 111 13 x1) 111 6 ((μ.1 111 6) + 2)) 111 13 (256 + x1)).1 111 6 = (μ.1 111 6) + 2 := ((sv_n _ (by decide)).trans (sv_s _ _ _ _))
              have e_460 : (sv (sv (sv (sv (sv μ 111 8 3) 111 6 ((μ.1 111 6) + 1)) 111 13 x1) 111 6 ((μ.1 111 6) + 2)) 111 13 (256 + x1)).1 111 8 = 3 := ((sv_n _ (by decide)).trans ((sv_n _ (by decide)).trans ((sv_n _ (by decide)).trans ((sv_n _ (by decide)).trans (sv_s _ _ _ _)))))
              have e_461 : wr (sv (sv (sv (sv (sv μ 111 8 3) 111 6 ((μ.1 111 6) + 1)) 111 13 x1) 111 6 ((μ.1 111 6) + 2)) 111 13 (256 + x1)) = wr μ := ((wr_cg (sv_n _ (by decide))).trans ((wr_cg (sv_n _ (by decide))).trans ((wr_cg (sv_n _ (by decide))).trans ((wr_cg (sv_n _ (by decide))).trans (wr_cg (sv_n _ (by decide)))))))
              have e_462 : bd (sv (sv (sv (sv (sv μ 111 8 3) 111 6 ((μ.1 111 6) + 1)) 111 13 x1) 111 6 ((μ.1 111 6) + 2)) 111 13 (256 + x1)) = bd μ := ((bd_cg (sv_n _ (by decide)) (sv_n _ (by decide)) (sv_n _ (by decide))).trans ((bd_cg (sv_n _ (by decide)) (sv_n _ (by decide)) (sv_n _ (by decide))).trans ((bd_cg (sv_n _ (by decide)) (sv_n _ (by decide)) (sv_n _ (by decide))).trans ((bd_cg (sv_n _ (by decide)) (sv_n _ (by decide)) (sv_n _ (by decide))).trans (bd_cg (sv_n _ (by decide)) (sv_n _ (by decide)) (sv_n _ (by decide)))))))
              have e_463 : wr (sv (sv (sv (sv (sv μ 111 8 3) 111 6 ((μ.1 111 6) + 1)) 111 13 x1) 111 6 ((μ.1 111 6) + 2)) 111 13 (256 + x1)) = wr μ := ((wr_cg (sv_n _ (by decide))).trans ((wr_cg (sv_n _ (by decide))).trans ((wr_cg (sv_n _ (by decide))).trans ((wr_cg (sv_n _ (by decide))).trans (wr_cg (sv_n _ (by decide)))))))
              have e_464 : nn (sv (sv (sv (sv (sv μ 111 8 3) 111 6 ((μ.1 111 6) + 1)) 111 13 x1) 111 6 ((μ.1 111 6) + 2)) 111 13 (256 + x1)) = nn μ := ((nn_cg (sv_n _ (by decide)) (sv_n _ (by decide))).trans ((nn_cg (sv_n _ (by decide)) (sv_n _ (by decide))).trans ((nn_cg (sv_n _ (by decide)) (sv_n _ (by decide))).trans ((nn_cg (sv_n _ (by decide)) (sv_n _ (by decide))).trans (nn_cg (sv_n _ (by decide)) (sv_n _ (by decide)))))))
              exact xr_v G hret hlk dX12_signs_206 ⟨(FrM.put (FrM.put (FrM.put (FrM.put (FrM.put FrM.rf (by decide)) (by decide)) (by decide)) (by decide)) (by decide)), (fun j hj => ((sv_n _ (fun h9 => hj (by rw [h9.2]; decide))).trans ((sv_n _ (fun h9 => hj (by rw [h9.2]; decide))).trans ((sv_n _ (fun h9 => hj (by rw [h9.2]; decide))).trans ((sv_n _ (fun h9 => hj (by rw [h9.2]; decide))).trans (sv_n _ (fun h9 => hj (by rw [h9.2]; decide)))))))), (by omega), (by omega), (by omega), (by omega)⟩
            · refine lv_iload_n hx hb dX12_signs_92 rfl (lv_at hl 2 rfl) ?_
              refine lv_bipush (v := iv 125) hx hb dX12_signs_93 rfl ?_
              refine xb_icmp_eq (tgt := 188) hx hb (by unfold ir; omega) (by unfold ir; omega) dX12_signs_95 (by decide) (fun c_95 => ?_) (fun c_95 => ?_)
              · refine lv_iconst (v := iv 1) hx hb dX12_signs_188 rfl ?_
                refine lv_goto (tgt := 193) hx hb dX12_signs_189 (by decide) ?_
                refine lv_istore_n (lv' := [(3, .int (iv 1)), (2, .int (iv r_9)), (0, .ref (oP ω 111)), (1, .int (iv x1))]) hx hb dX12_signs_193 rfl hl (by decide) rfl (fun ls hl => ?_)
                refine lv_iload_n hx hb dX12_signs_194 rfl (lv_at hl 0 rfl) ?_
                refine xb_if_ne (tgt := 206) hx hb (x := 1) (by unfold ir; omega) dX12_signs_195 (by decide) (fun c_195 => ?_) (fun c_195 => absurd c_195 (by decide))
                have e_465 : (sv (sv (sv (sv (sv μ 111 8 3) 111 6 ((μ.1 111 6) + 1)) 111 13 x1) 111 6 ((μ.1 111 6) + 2)) 111 13 (256 + x1)).1 111 6 = (μ.1 111 6) + 2 := ((sv_n _ (by decide)).trans (sv_s _ _ _ _))
                have e_466 : (sv (sv (sv (sv (sv μ 111 8 3) 111 6 ((μ.1 111 6) + 1)) 111 13 x1) 111 6 ((μ.1 111 6) + 2)) 111 13 (256 + x1)).1 111 6 = (μ.1 111 6) + 2 := ((sv_n _ (by decide)).trans (sv_s _ _ _ _))
                have e_467 : (sv (sv (sv (sv (sv μ 111 8 3) 111 6 ((μ.1 111 6) + 1)) 111 13 x1) 111 6 ((μ.1 111 6) + 2)) 111 13 (256 + x1)).1 111 8 = 3 := ((sv_n _ (by decide)).trans ((sv_n _ (by decide)).trans ((sv_n _ (by decide)).trans ((sv_n _ (by decide)).trans (sv_s _ _ _ _)))))
                have e_468 : wr (sv (sv (sv (sv (sv μ 111 8 3) 111 6 ((μ.1 111 6) + 1)) 111 13 x1) 111 6 ((μ.1 111 6) + 2)) 111 13 (256 + x1)) = wr μ := ((wr_cg (sv_n _ (by decide))).trans ((wr_cg (sv_n _ (by decide))).trans ((wr_cg (sv_n _ (by decide))).trans ((wr_cg (sv_n _ (by decide))).trans (wr_cg (sv_n _ (by decide)))))))
                have e_469 : bd (sv (sv (sv (sv (sv μ 111 8 3) 111 6 ((μ.1 111 6) + 1)) 111 13 x1) 111 6 ((μ.1 111 6) + 2)) 111 13 (256 + x1)) = bd μ := ((bd_cg (sv_n _ (by decide)) (sv_n _ (by decide)) (sv_n _ (by decide))).trans ((bd_cg (sv_n _ (by decide)) (sv_n _ (by decide)) (sv_n _ (by decide))).trans ((bd_cg (sv_n _ (by decide)) (sv_n _ (by decide)) (sv_n _ (by decide))).trans ((bd_cg (sv_n _ (by decide)) (sv_n _ (by decide)) (sv_n _ (by decide))).trans (bd_cg (sv_n _ (by decide)) (sv_n _ (by decide)) (sv_n _ (by decide)))))))
                have e_470 : wr (sv (sv (sv (sv (sv μ 111 8 3) 111 6 ((μ.1 111 6) + 1)) 111 13 x1) 111 6 ((μ.1 111 6) + 2)) 111 13 (256 + x1)) = wr μ := ((wr_cg (sv_n _ (by decide))).trans ((wr_cg (sv_n _ (by decide))).trans ((wr_cg (sv_n _ (by decide))).trans ((wr_cg (sv_n _ (by decide))).trans (wr_cg (sv_n _ (by decide)))))))
                have e_471 : nn (sv (sv (sv (sv (sv μ 111 8 3) 111 6 ((μ.1 111 6) + 1)) 111 13 x1) 111 6 ((μ.1 111 6) + 2)) 111 13 (256 + x1)) = nn μ := ((nn_cg (sv_n _ (by decide)) (sv_n _ (by decide))).trans ((nn_cg (sv_n _ (by decide)) (sv_n _ (by decide))).trans ((nn_cg (sv_n _ (by decide)) (sv_n _ (by decide))).trans ((nn_cg (sv_n _ (by decide)) (sv_n _ (by decide))).trans (nn_cg (sv_n _ (by decide)) (sv_n _ (by decide)))))))
                exact xr_v G hret hlk dX12_signs_206 ⟨(FrM.put (FrM.put (FrM.put (FrM.put (FrM.put FrM.rf (by decide)) (by decide)) (by decide)) (by decide)) (by decide)), (fun j hj => ((sv_n _ (fun h9 => hj (by rw [h9.2]; decide))).trans ((sv_n _ (fun h9 => hj (by rw [h9.2]; decide))).trans ((sv_n _ (fun h9 => hj (by rw [h9.2]; decide))).trans ((sv_n _ (fun h9 => hj (by rw [h9.2]; decide))).trans (sv_n _ (fun h9 => hj (by rw [h9.2]; decide)))))))), (by omega), (by omega), (by omega), (by omega)⟩
              · refine lv_iload_n hx hb dX12_signs_98 rfl (lv_at hl 2 rfl) ?_
                refine lv_bipush (v := iv 91) hx hb dX12_signs_99 rfl ?_
                refine xb_icmp_eq (tgt := 188) hx hb (by unfold ir; omega) (by unfold ir; omega) dX12_signs_101 (by decide) (fun c_101 => ?_) (fun c_101 => ?_)
                · refine lv_iconst (v := iv 1) hx hb dX12_signs_188 rfl ?_
                  refine lv_goto (tgt := 193) hx hb dX12_signs_189 (by decide) ?_
                  refine lv_istore_n (lv' := [(3, .int (iv 1)), (2, .int (iv r_9)), (0, .ref (oP ω 111)), (1, .int (iv x1))]) hx hb dX12_signs_193 rfl hl (by decide) rfl (fun ls hl => ?_)
                  refine lv_iload_n hx hb dX12_signs_194 rfl (lv_at hl 0 rfl) ?_
                  refine xb_if_ne (tgt := 206) hx hb (x := 1) (by unfold ir; omega) dX12_signs_195 (by decide) (fun c_195 => ?_) (fun c_195 => absurd c_195 (by decide))
                  have e_472 : (sv (sv (sv (sv (sv μ 111 8 3) 111 6 ((μ.1 111 6) + 1)) 111 13 x1) 111 6 ((μ.1 111 6) + 2)) 111 13 (256 + x1)).1 111 6 = (μ.1 111 6) + 2 := ((sv_n _ (by decide)).trans (sv_s _ _ _ _))
                  have e_473 : (sv (sv (sv (sv (sv μ 111 8 3) 111 6 ((μ.1 111 6) + 1)) 111 13 x1) 111 6 ((μ.1 111 6) + 2)) 111 13 (256 + x1)).1 111 6 = (μ.1 111 6) + 2 := ((sv_n _ (by decide)).trans (sv_s _ _ _ _))
                  have e_474 : (sv (sv (sv (sv (sv μ 111 8 3) 111 6 ((μ.1 111 6) + 1)) 111 13 x1) 111 6 ((μ.1 111 6) + 2)) 111 13 (256 + x1)).1 111 8 = 3 := ((sv_n _ (by decide)).trans ((sv_n _ (by decide)).trans ((sv_n _ (by decide)).trans ((sv_n _ (by decide)).trans (sv_s _ _ _ _)))))
                  have e_475 : wr (sv (sv (sv (sv (sv μ 111 8 3) 111 6 ((μ.1 111 6) + 1)) 111 13 x1) 111 6 ((μ.1 111 6) + 2)) 111 13 (256 + x1)) = wr μ := ((wr_cg (sv_n _ (by decide))).trans ((wr_cg (sv_n _ (by decide))).trans ((wr_cg (sv_n _ (by decide))).trans ((wr_cg (sv_n _ (by decide))).trans (wr_cg (sv_n _ (by decide)))))))
                  have e_476 : bd (sv (sv (sv (sv (sv μ 111 8 3) 111 6 ((μ.1 111 6) + 1)) 111 13 x1) 111 6 ((μ.1 111 6) + 2)) 111 13 (256 + x1)) = bd μ := ((bd_cg (sv_n _ (by decide)) (sv_n _ (by decide)) (sv_n _ (by decide))).trans ((bd_cg (sv_n _ (by decide)) (sv_n _ (by decide)) (sv_n _ (by decide))).trans ((bd_cg (sv_n _ (by decide)) (sv_n _ (by decide)) (sv_n _ (by decide))).trans ((bd_cg (sv_n _ (by decide)) (sv_n _ (by decide)) (sv_n _ (by decide))).trans (bd_cg (sv_n _ (by decide)) (sv_n _ (by decide)) (sv_n _ (by decide)))))))
                  have e_477 : wr (sv (sv (sv (sv (sv μ 111 8 3) 111 6 ((μ.1 111 6) + 1)) 111 13 x1) 111 6 ((μ.1 111 6) + 2)) 111 13 (256 + x1)) = wr μ := ((wr_cg (sv_n _ (by decide))).trans ((wr_cg (sv_n _ (by decide))).trans ((wr_cg (sv_n _ (by decide))).trans ((wr_cg (sv_n _ (by decide))).trans (wr_cg (sv_n _ (by decide)))))))
                  have e_478 : nn (sv (sv (sv (sv (sv μ 111 8 3) 111 6 ((μ.1 111 6) + 1)) 111 13 x1) 111 6 ((μ.1 111 6) + 2)) 111 13 (256 + x1)) = nn μ := ((nn_cg (sv_n _ (by decide)) (sv_n _ (by decide))).trans ((nn_cg (sv_n _ (by decide)) (sv_n _ (by decide))).trans ((nn_cg (sv_n _ (by decide)) (sv_n _ (by decide))).trans ((nn_cg (sv_n _ (by decide)) (sv_n _ (by decide))).trans (nn_cg (sv_n _ (by decide)) (sv_n _ (by decide)))))))
                  exact xr_v G hret hlk dX12_signs_206 ⟨(FrM.put (FrM.put (FrM.put (FrM.put (FrM.put FrM.rf (by decide)) (by decide)) (by decide)) (by decide)) (by decide)), (fun j hj => ((sv_n _ (fun h9 => hj (by rw [h9.2]; decide))).trans ((sv_n _ (fun h9 => hj (by rw [h9.2]; decide))).trans ((sv_n _ (fun h9 => hj (by rw [h9.2]; decide))).trans ((sv_n _ (fun h9 => hj (by rw [h9.2]; decide))).trans (sv_n _ (fun h9 => hj (by rw [h9.2]; decide)))))))), (by omega), (by omega), (by omega), (by omega)⟩
                · refine lv_iload_n hx hb dX12_signs_104 rfl (lv_at hl 2 rfl) ?_
                  refine lv_bipush (v := iv 93) hx hb dX12_signs_105 rfl ?_
                  refine xb_icmp_eq (tgt := 188) hx hb (by unfold ir; omega) (by unfold ir; omega) dX12_signs_107 (by decide) (fun c_107 => ?_) (fun c_107 => ?_)
                  · refine lv_iconst (v := iv 1) hx hb dX12_signs_188 rfl ?_
                    refine lv_goto (tgt := 193) hx hb dX12_signs_189 (by decide) ?_
                    refine lv_istore_n (lv' := [(3, .int (iv 1)), (2, .int (iv r_9)), (0, .ref (oP ω 111)), (1, .int (iv x1))]) hx hb dX12_signs_193 rfl hl (by decide) rfl (fun ls hl => ?_)
                    refine lv_iload_n hx hb dX12_signs_194 rfl (lv_at hl 0 rfl) ?_
                    refine xb_if_ne (tgt := 206) hx hb (x := 1) (by unfold ir; omega) dX12_signs_195 (by decide) (fun c_195 => ?_) (fun c_195 => absurd c_195 (by decide))
                    have e_479 : (sv (sv (sv (sv (sv μ 111 8 3) 111 6 ((μ.1 111 6) + 1)) 111 13 x1) 111 6 ((μ.1 111 6) + 2)) 111 13 (256 + x1)).1 111 6 = (μ.1 111 6) + 2 := ((sv_n _ (by decide)).trans (sv_s _ _ _ _))
                    have e_480 : (sv (sv (sv (sv (sv μ 111 8 3) 111 6 ((μ.1 111 6) + 1)) 111 13 x1) 111 6 ((μ.1 111 6) + 2)) 111 13 (256 + x1)).1 111 6 = (μ.1 111 6) + 2 := ((sv_n _ (by decide)).trans (sv_s _ _ _ _))
                    have e_481 : (sv (sv (sv (sv (sv μ 111 8 3) 111 6 ((μ.1 111 6) + 1)) 111 13 x1) 111 6 ((μ.1 111 6) + 2)) 111 13 (256 + x1)).1 111 8 = 3 := ((sv_n _ (by decide)).trans ((sv_n _ (by decide)).trans ((sv_n _ (by decide)).trans ((sv_n _ (by decide)).trans (sv_s _ _ _ _)))))
                    have e_482 : wr (sv (sv (sv (sv (sv μ 111 8 3) 111 6 ((μ.1 111 6) + 1)) 111 13 x1) 111 6 ((μ.1 111 6) + 2)) 111 13 (256 + x1)) = wr μ := ((wr_cg (sv_n _ (by decide))).trans ((wr_cg (sv_n _ (by decide))).trans ((wr_cg (sv_n _ (by decide))).trans ((wr_cg (sv_n _ (by decide))).trans (wr_cg (sv_n _ (by decide)))))))
                    have e_483 : bd (sv (sv (sv (sv (sv μ 111 8 3) 111 6 ((μ.1 111 6) + 1)) 111 13 x1) 111 6 ((μ.1 111 6) + 2)) 111 13 (256 + x1)) = bd μ := ((bd_cg (sv_n _ (by decide)) (sv_n _ (by decide)) (sv_n _ (by decide))).trans ((bd_cg (sv_n _ (by decide)) (sv_n _ (by decide)) (sv_n _ (by decide))).trans ((bd_cg (sv_n _ (by decide)) (sv_n _ (by decide)) (sv_n _ (by decide))).trans ((bd_cg (sv_n _ (by decide)) (sv_n _ (by decide)) (sv_n _ (by decide))).trans (bd_cg (sv_n _ (by decide)) (sv_n _ (by decide)) (sv_n _ (by decide)))))))
                    have e_484 : wr (sv (sv (sv (sv (sv μ 111 8 3) 111 6 ((μ.1 111 6) + 1)) 111 13 x1) 111 6 ((μ.1 111 6) + 2)) 111 13 (256 + x1)) = wr μ := ((wr_cg (sv_n _ (by decide))).trans ((wr_cg (sv_n _ (by decide))).trans ((wr_cg (sv_n _ (by decide))).trans ((wr_cg (sv_n _ (by decide))).trans (wr_cg (sv_n _ (by decide)))))))
                    have e_485 : nn (sv (sv (sv (sv (sv μ 111 8 3) 111 6 ((μ.1 111 6) + 1)) 111 13 x1) 111 6 ((μ.1 111 6) + 2)) 111 13 (256 + x1)) = nn μ := ((nn_cg (sv_n _ (by decide)) (sv_n _ (by decide))).trans ((nn_cg (sv_n _ (by decide)) (sv_n _ (by decide))).trans ((nn_cg (sv_n _ (by decide)) (sv_n _ (by decide))).trans ((nn_cg (sv_n _ (by decide)) (sv_n _ (by decide))).trans (nn_cg (sv_n _ (by decide)) (sv_n _ (by decide)))))))
                    exact xr_v G hret hlk dX12_signs_206 ⟨(FrM.put (FrM.put (FrM.put (FrM.put (FrM.put FrM.rf (by decide)) (by decide)) (by decide)) (by decide)) (by decide)), (fun j hj => ((sv_n _ (fun h9 => hj (by rw [h9.2]; decide))).trans ((sv_n _ (fun h9 => hj (by rw [h9.2]; decide))).trans ((sv_n _ (fun h9 => hj (by rw [h9.2]; decide))).trans ((sv_n _ (fun h9 => hj (by rw [h9.2]; decide))).trans (sv_n _ (fun h9 => hj (by rw [h9.2]; decide)))))))), (by omega), (by omega), (by omega), (by omega)⟩
                  · refine lv_iload_n hx hb dX12_signs_110 rfl (lv_at hl 2 rfl) ?_
                    refine lv_bipush (v := iv 44) hx hb dX12_signs_111 rfl ?_
                    refine xb_icmp_eq (tgt := 188) hx hb (by unfold ir; omega) (by unfold ir; omega) dX12_signs_113 (by decide) (fun c_113 => ?_) (fun c_113 => ?_)
                    · refine lv_iconst (v := iv 1) hx hb dX12_signs_188 rfl ?_
                      refine lv_goto (tgt := 193) hx hb dX12_signs_189 (by decide) ?_
                      refine lv_istore_n (lv' := [(3, .int (iv 1)), (2, .int (iv r_9)), (0, .ref (oP ω 111)), (1, .int (iv x1))]) hx hb dX12_signs_193 rfl hl (by decide) rfl (fun ls hl => ?_)
                      refine lv_iload_n hx hb dX12_signs_194 rfl (lv_at hl 0 rfl) ?_
                      refine xb_if_ne (tgt := 206) hx hb (x := 1) (by unfold ir; omega) dX12_signs_195 (by decide) (fun c_195 => ?_) (fun c_195 => absurd c_195 (by decide))
                      have e_486 : (sv (sv (sv (sv (sv μ 111 8 3) 111 6 ((μ.1 111 6) + 1)) 111 13 x1) 111 6 ((μ.1 111 6) + 2)) 111 13 (256 + x1)).1 111 6 = (μ.1 111 6) + 2 := ((sv_n _ (by decide)).trans (sv_s _ _ _ _))
                      have e_487 : (sv (sv (sv (sv (sv μ 111 8 3) 111 6 ((μ.1 111 6) + 1)) 111 13 x1) 111 6 ((μ.1 111 6) + 2)) 111 13 (256 + x1)).1 111 6 = (μ.1 111 6) + 2 := ((sv_n _ (by decide)).trans (sv_s _ _ _ _))
                      have e_488 : (sv (sv (sv (sv (sv μ 111 8 3) 111 6 ((μ.1 111 6) + 1)) 111 13 x1) 111 6 ((μ.1 111 6) + 2)) 111 13 (256 + x1)).1 111 8 = 3 := ((sv_n _ (by decide)).trans ((sv_n _ (by decide)).trans ((sv_n _ (by decide)).trans ((sv_n _ (by decide)).trans (sv_s _ _ _ _)))))
                      have e_489 : wr (sv (sv (sv (sv (sv μ 111 8 3) 111 6 ((μ.1 111 6) + 1)) 111 13 x1) 111 6 ((μ.1 111 6) + 2)) 111 13 (256 + x1)) = wr μ := ((wr_cg (sv_n _ (by decide))).trans ((wr_cg (sv_n _ (by decide))).trans ((wr_cg (sv_n _ (by decide))).trans ((wr_cg (sv_n _ (by decide))).trans (wr_cg (sv_n _ (by decide)))))))
                      have e_490 : bd (sv (sv (sv (sv (sv μ 111 8 3) 111 6 ((μ.1 111 6) + 1)) 111 13 x1) 111 6 ((μ.1 111 6) + 2)) 111 13 (256 + x1)) = bd μ := ((bd_cg (sv_n _ (by decide)) (sv_n _ (by decide)) (sv_n _ (by decide))).trans ((bd_cg (sv_n _ (by decide)) (sv_n _ (by decide)) (sv_n _ (by decide))).trans ((bd_cg (sv_n _ (by decide)) (sv_n _ (by decide)) (sv_n _ (by decide))).trans ((bd_cg (sv_n _ (by decide)) (sv_n _ (by decide)) (sv_n _ (by decide))).trans (bd_cg (sv_n _ (by decide)) (sv_n _ (by decide)) (sv_n _ (by decide)))))))
                      have e_491 : wr (sv (sv (sv (sv (sv μ 111 8 3) 111 6 ((μ.1 111 6) + 1)) 111 13 x1) 111 6 ((μ.1 111 6) + 2)) 111 13 (256 + x1)) = wr μ := ((wr_cg (sv_n _ (by decide))).trans ((wr_cg (sv_n _ (by decide))).trans ((wr_cg (sv_n _ (by decide))).trans ((wr_cg (sv_n _ (by decide))).trans (wr_cg (sv_n _ (by decide)))))))
                      have e_492 : nn (sv (sv (sv (sv (sv μ 111 8 3) 111 6 ((μ.1 111 6) + 1)) 111 13 x1) 111 6 ((μ.1 111 6) + 2)) 111 13 (256 + x1)) = nn μ := ((nn_cg (sv_n _ (by decide)) (sv_n _ (by decide))).trans ((nn_cg (sv_n _ (by decide)) (sv_n _ (by decide))).trans ((nn_cg (sv_n _ (by decide)) (sv_n _ (by decide))).trans ((nn_cg (sv_n _ (by decide)) (sv_n _ (by decide))).trans (nn_cg (sv_n _ (by decide)) (sv_n _ (by decide)))))))
                      exact xr_v G hret hlk dX12_signs_206 ⟨(FrM.put (FrM.put (FrM.put (FrM.put (FrM.put FrM.rf (by decide)) (by decide)) (by decide)) (by decide)) (by decide)), (fun j hj => ((sv_n _ (fun h9 => hj (by rw [h9.2]; decide))).trans ((sv_n _ (fun h9 => hj (by rw [h9.2]; decide))).trans ((sv_n _ (fun h9 => hj (by rw [h9.2]; decide))).trans ((sv_n _ (fun h9 => hj (by rw [h9.2]; decide))).trans (sv_n _ (fun h9 => hj (by rw [h9.2]; decide)))))))), (by omega), (by omega), (by omega), (by omega)⟩
                    · refine lv_iload_n hx hb dX12_signs_116 rfl (lv_at hl 2 rfl) ?_
                      refine lv_bipush (v := iv 59) hx hb dX12_signs_117 rfl ?_
                      refine xb_icmp_eq (tgt := 188) hx hb (by unfold ir; omega) (by unfold ir; omega) dX12_signs_119 (by decide) (fun c_119 => ?_) (fun c_119 => ?_)
                      · refine lv_iconst (v := iv 1) hx hb dX12_signs_188 rfl ?_
                        refine lv_goto (tgt := 193) hx hb dX12_signs_189 (by decide) ?_
                        refine lv_istore_n (lv' := [(3, .int (iv 1)), (2, .int (iv r_9)), (0, .ref (oP ω 111)), (1, .int (iv x1))]) hx hb dX12_signs_193 rfl hl (by decide) rfl (fun ls hl => ?_)
                        refine lv_iload_n hx hb dX12_signs_194 rfl (lv_at hl 0 rfl) ?_
                        refine xb_if_ne (tgt := 206) hx hb (x := 1) (by unfold ir; omega) dX12_signs_195 (by decide) (fun c_195 => ?_) (fun c_195 => absurd c_195 (by decide))
                        have e_493 : (sv (sv (sv (sv (sv μ 111 8 3) 111 6 ((μ.1 111 6) + 1)) 111 13 x1) 111 6 ((μ.1 111 6) + 2)) 111 13 (256 + x1)).1 111 6 = (μ.1 111 6) + 2 := ((sv_n _ (by decide)).trans (sv_s _ _ _ _))
                        have e_494 : (sv (sv (sv (sv (sv μ 111 8 3) 111 6 ((μ.1 111 6) + 1)) 111 13 x1) 111 6 ((μ.1 111 6) + 2)) 111 13 (256 + x1)).1 111 6 = (μ.1 111 6) + 2 := ((sv_n _ (by decide)).trans (sv_s _ _ _ _))
                        have e_495 : (sv (sv (sv (sv (sv μ 111 8 3) 111 6 ((μ.1 111 6) + 1)) 111 13 x1) 111 6 ((μ.1 111 6) + 2)) 111 13 (256 + x1)).1 111 8 = 3 := ((sv_n _ (by decide)).trans ((sv_n _ (by decide)).trans ((sv_n _ (by decide)).trans ((sv_n _ (by decide)).trans (sv_s _ _ _ _)))))
                        have e_496 : wr (sv (sv (sv (sv (sv μ 111 8 3) 111 6 ((μ.1 111 6) + 1)) 111 13 x1) 111 6 ((μ.1 111 6) + 2)) 111 13 (256 + x1)) = wr μ := ((wr_cg (sv_n _ (by decide))).trans ((wr_cg (sv_n _ (by decide))).trans ((wr_cg (sv_n _ (by decide))).trans ((wr_cg (sv_n _ (by decide))).trans (wr_cg (sv_n _ (by decide)))))))
                        have e_497 : bd (sv (sv (sv (sv (sv μ 111 8 3) 111 6 ((μ.1 111 6) + 1)) 111 13 x1) 111 6 ((μ.1 111 6) + 2)) 111 13 (256 + x1)) = bd μ := ((bd_cg (sv_n _ (by decide)) (sv_n _ (by decide)) (sv_n _ (by decide))).trans ((bd_cg (sv_n _ (by decide)) (sv_n _ (by decide)) (sv_n _ (by decide))).trans ((bd_cg (sv_n _ (by decide)) (sv_n _ (by decide)) (sv_n _ (by decide))).trans ((bd_cg (sv_n _ (by decide)) (sv_n _ (by decide)) (sv_n _ (by decide))).trans (bd_cg (sv_n _ (by decide)) (sv_n _ (by decide)) (sv_n _ (by decide)))))))
                        have e_498 : wr (sv (sv (sv (sv (sv μ 111 8 3) 111 6 ((μ.1 111 6) + 1)) 111 13 x1) 111 6 ((μ.1 111 6) + 2)) 111 13 (256 + x1)) = wr μ := ((wr_cg (sv_n _ (by decide))).trans ((wr_cg (sv_n _ (by decide))).trans ((wr_cg (sv_n _ (by decide))).trans ((wr_cg (sv_n _ (by decide))).trans (wr_cg (sv_n _ (by decide)))))))
                        have e_499 : nn (sv (sv (sv (sv (sv μ 111 8 3) 111 6 ((μ.1 111 6) + 1)) 111 13 x1) 111 6 ((μ.1 111 6) + 2)) 111 13 (256 + x1)) = nn μ := ((nn_cg (sv_n _ (by decide)) (sv_n _ (by decide))).trans ((nn_cg (sv_n _ (by decide)) (sv_n _ (by decide))).trans ((nn_cg (sv_n _ (by decide)) (sv_n _ (by decide))).trans ((nn_cg (sv_n _ (by decide)) (sv_n _ (by decide))).trans (nn_cg (sv_n _ (by decide)) (sv_n _ (by decide)))))))
                        exact xr_v G hret hlk dX12_signs_206 ⟨(FrM.put (FrM.put (FrM.put (FrM.put (FrM.put FrM.rf (by decide)) (by decide)) (by decide)) (by decide)) (by decide)), (fun j hj => ((sv_n _ (fun h9 => hj (by rw [h9.2]; decide))).trans ((sv_n _ (fun h9 => hj (by rw [h9.2]; decide))).trans ((sv_n _ (fun h9 => hj (by rw [h9.2]; decide))).trans ((sv_n _ (fun h9 => hj (by rw [h9.2]; decide))).trans (sv_n _ (fun h9 => hj (by rw [h9.2]; decide)))))))), (by omega), (by omega), (by omega), (by omega)⟩
                      · refine lv_iload_n hx hb dX12_signs_122 rfl (lv_at hl 2 rfl) ?_
                        refine lv_bipush (v := iv 46) hx hb dX12_signs_123 rfl ?_
                        refine xb_icmp_eq (tgt := 188) hx hb (by unfold ir; omega) (by unfold ir; omega) dX12_signs_125 (by decide) (fun c_125 => ?_) (fun c_125 => ?_)
                        · refine lv_iconst (v := iv 1) hx hb dX12_signs_188 rfl ?_
                          refine lv_goto (tgt := 193) hx hb dX12_signs_189 (by decide) ?_
                          refine lv_istore_n (lv' := [(3, .int (iv 1)), (2, .int (iv r_9)), (0, .ref (oP ω 111)), (1, .int (iv x1))]) hx hb dX12_signs_193 rfl hl (by decide) rfl (fun ls hl => ?_)
                          refine lv_iload_n hx hb dX12_signs_194 rfl (lv_at hl 0 rfl) ?_
                          refine xb_if_ne (tgt := 206) hx hb (x := 1) (by unfold ir; omega) dX12_signs_195 (by decide) (fun c_195 => ?_) (fun c_195 => absurd c_195 (by decide))
                          have e_500 : (sv (sv (sv (sv (sv μ 111 8 3) 111 6 ((μ.1 111 6) + 1)) 111 13 x1) 111 6 ((μ.1 111 6) + 2)) 111 13 (256 + x1)).1 111 6 = (μ.1 111 6) + 2 := ((sv_n _ (by decide)).trans (sv_s _ _ _ _))
                          have e_501 : (sv (sv (sv (sv (sv μ 111 8 3) 111 6 ((μ.1 111 6) + 1)) 111 13 x1) 111 6 ((μ.1 111 6) + 2)) 111 13 (256 + x1)).1 111 6 = (μ.1 111 6) + 2 := ((sv_n _ (by decide)).trans (sv_s _ _ _ _))
                          have e_502 : (sv (sv (sv (sv (sv μ 111 8 3) 111 6 ((μ.1 111 6) + 1)) 111 13 x1) 111 6 ((μ.1 111 6) + 2)) 111 13 (256 + x1)).1 111 8 = 3 := ((sv_n _ (by decide)).trans ((sv_n _ (by decide)).trans ((sv_n _ (by decide)).trans ((sv_n _ (by decide)).trans (sv_s _ _ _ _)))))
                          have e_503 : wr (sv (sv (sv (sv (sv μ 111 8 3) 111 6 ((μ.1 111 6) + 1)) 111 13 x1) 111 6 ((μ.1 111 6) + 2)) 111 13 (256 + x1)) = wr μ := ((wr_cg (sv_n _ (by decide))).trans ((wr_cg (sv_n _ (by decide))).trans ((wr_cg (sv_n _ (by decide))).trans ((wr_cg (sv_n _ (by decide))).trans (wr_cg (sv_n _ (by decide)))))))
                          have e_504 : bd (sv (sv (sv (sv (sv μ 111 8 3) 111 6 ((μ.1 111 6) + 1)) 111 13 x1) 111 6 ((μ.1 111 6) + 2)) 111 13 (256 + x1)) = bd μ := ((bd_cg (sv_n _ (by decide)) (sv_n _ (by decide)) (sv_n _ (by decide))).trans ((bd_cg (sv_n _ (by decide)) (sv_n _ (by decide)) (sv_n _ (by decide))).trans ((bd_cg (sv_n _ (by decide)) (sv_n _ (by decide)) (sv_n _ (by decide))).trans ((bd_cg (sv_n _ (by decide)) (sv_n _ (by decide)) (sv_n _ (by decide))).trans (bd_cg (sv_n _ (by decide)) (sv_n _ (by decide)) (sv_n _ (by decide)))))))
                          have e_505 : wr (sv (sv (sv (sv (sv μ 111 8 3) 111 6 ((μ.1 111 6) + 1)) 111 13 x1) 111 6 ((μ.1 111 6) + 2)) 111 13 (256 + x1)) = wr μ := ((wr_cg (sv_n _ (by decide))).trans ((wr_cg (sv_n _ (by decide))).trans ((wr_cg (sv_n _ (by decide))).trans ((wr_cg (sv_n _ (by decide))).trans (wr_cg (sv_n _ (by decide)))))))
                          have e_506 : nn (sv (sv (sv (sv (sv μ 111 8 3) 111 6 ((μ.1 111 6) + 1)) 111 13 x1) 111 6 ((μ.1 111 6) + 2)) 111 13 (256 + x1)) = nn μ := ((nn_cg (sv_n _ (by decide)) (sv_n _ (by decide))).trans ((nn_cg (sv_n _ (by decide)) (sv_n _ (by decide))).trans ((nn_cg (sv_n _ (by decide)) (sv_n _ (by decide))).trans ((nn_cg (sv_n _ (by decide)) (sv_n _ (by decide))).trans (nn_cg (sv_n _ (by decide)) (sv_n _ (by decide)))))))
                          exact xr_v G hret hlk dX12_signs_206 ⟨(FrM.put (FrM.put (FrM.put (FrM.put (FrM.put FrM.rf (by decide)) (by decide)) (by decide)) (by decide)) (by decide)), (fun j hj => ((sv_n _ (fun h9 => hj (by rw [h9.2]; decide))).trans ((sv_n _ (fun h9 => hj (by rw [h9.2]; decide))).trans ((sv_n _ (fun h9 => hj (by rw [h9.2]; decide))).trans ((sv_n _ (fun h9 => hj (by rw [h9.2]; decide))).trans (sv_n _ (fun h9 => hj (by rw [h9.2]; decide)))))))), (by omega), (by omega), (by omega), (by omega)⟩
                        · refine lv_iload_n hx hb dX12_signs_128 rfl (lv_at hl 2 rfl) ?_
                          refine lv_bipush (v := iv 38) hx hb dX12_signs_129 rfl ?_
                          refine xb_icmp_eq (tgt := 188) hx hb (by unfold ir; omega) (by unfold ir; omega) dX12_signs_131 (by decide) (fun c_131 => ?_) (fun c_131 => ?_)
                          · refine lv_iconst (v := iv 1) hx hb dX12_signs_188 rfl ?_
                            refine lv_goto (tgt := 193) hx hb dX12_signs_189 (by decide) ?_
                            refine lv_istore_n (lv' := [(3, .int (iv 1)), (2, .int (iv r_9)), (0, .ref (oP ω 111)), (1, .int (iv x1))]) hx hb dX12_signs_193 rfl hl (by decide) rfl (fun ls hl => ?_)
                            refine lv_iload_n hx hb dX12_signs_194 rfl (lv_at hl 0 rfl) ?_
                            refine xb_if_ne (tgt := 206) hx hb (x := 1) (by unfold ir; omega) dX12_signs_195 (by decide) (fun c_195 => ?_) (fun c_195 => absurd c_195 (by decide))
                            have e_507 : (sv (sv (sv (sv (sv μ 111 8 3) 111 6 ((μ.1 111 6) + 1)) 111 13 x1) 111 6 ((μ.1 111 6) + 2)) 111 13 (256 + x1)).1 111 6 = (μ.1 111 6) + 2 := ((sv_n _ (by decide)).trans (sv_s _ _ _ _))
                            have e_508 : (sv (sv (sv (sv (sv μ 111 8 3) 111 6 ((μ.1 111 6) + 1)) 111 13 x1) 111 6 ((μ.1 111 6) + 2)) 111 13 (256 + x1)).1 111 6 = (μ.1 111 6) + 2 := ((sv_n _ (by decide)).trans (sv_s _ _ _ _))
                            have e_509 : (sv (sv (sv (sv (sv μ 111 8 3) 111 6 ((μ.1 111 6) + 1)) 111 13 x1) 111 6 ((μ.1 111 6) + 2)) 111 13 (256 + x1)).1 111 8 = 3 := ((sv_n _ (by decide)).trans ((sv_n _ (by decide)).trans ((sv_n _ (by decide)).trans ((sv_n _ (by decide)).trans (sv_s _ _ _ _)))))
                            have e_510 : wr (sv (sv (sv (sv (sv μ 111 8 3) 111 6 ((μ.1 111 6) + 1)) 111 13 x1) 111 6 ((μ.1 111 6) + 2)) 111 13 (256 + x1)) = wr μ := ((wr_cg (sv_n _ (by decide))).trans ((wr_cg (sv_n _ (by decide))).trans ((wr_cg (sv_n _ (by decide))).trans ((wr_cg (sv_n _ (by decide))).trans (wr_cg (sv_n _ (by decide)))))))
                            have e_511 : bd (sv (sv (sv (sv (sv μ 111 8 3) 111 6 ((μ.1 111 6) + 1)) 111 13 x1) 111 6 ((μ.1 111 6) + 2)) 111 13 (256 + x1)) = bd μ := ((bd_cg (sv_n _ (by decide)) (sv_n _ (by decide)) (sv_n _ (by decide))).trans ((bd_cg (sv_n _ (by decide)) (sv_n _ (by decide)) (sv_n _ (by decide))).trans ((bd_cg (sv_n _ (by decide)) (sv_n _ (by decide)) (sv_n _ (by decide))).trans ((bd_cg (sv_n _ (by decide)) (sv_n _ (by decide)) (sv_n _ (by decide))).trans (bd_cg (sv_n _ (by decide)) (sv_n _ (by decide)) (sv_n _ (by decide)))))))
                            have e_512 : wr (sv (sv (sv (sv (sv μ 111 8 3) 111 6 ((μ.1 111 6) + 1)) 111 13 x1) 111 6 ((μ.1 111 6) + 2)) 111 13 (256 + x1)) = wr μ := ((wr_cg (sv_n _ (by decide))).trans ((wr_cg (sv_n _ (by decide))).trans ((wr_cg (sv_n _ (by decide))).trans ((wr_cg (sv_n _ (by decide))).trans (wr_cg (sv_n _ (by decide)))))))
                            have e_513 : nn (sv (sv (sv (sv (sv μ 111 8 3) 111 6 ((μ.1 111 6) + 1)) 111 13 x1) 111 6 ((μ.1 111 6) + 2)) 111 13 (256 + x1)) = nn μ := ((nn_cg (sv_n _ (by decide)) (sv_n _ (by decide))).trans ((nn_cg (sv_n _ (by decide)) (sv_n _ (by decide))).trans ((nn_cg (sv_n _ (by decide)) (sv_n _ (by decide))).trans ((nn_cg (sv_n _ (by decide)) (sv_n _ (by decide))).trans (nn_cg (sv_n _ (by decide)) (sv_n _ (by decide)))))))
                            exact xr_v G hret hlk dX12_signs_206 ⟨(FrM.put (FrM.put (FrM.put (FrM.put (FrM.put FrM.rf (by decide)) (by decide)) (by decide)) (by decide)) (by decide)), (fun j hj => ((sv_n _ (fun h9 => hj (by rw [h9.2]; decide))).trans ((sv_n _ (fun h9 => hj (by rw [h9.2]; decide))).trans ((sv_n _ (fun h9 => hj (by rw [h9.2]; decide))).trans ((sv_n _ (fun h9 => hj (by rw [h9.2]; decide))).trans (sv_n _ (fun h9 => hj (by rw [h9.2]; decide)))))))), (by omega), (by omega), (by omega), (by omega)⟩
                          · refine lv_iload_n hx hb dX12_signs_134 rfl (lv_at hl 2 rfl) ?_
                            refine lv_bipush (v := iv 33) hx hb dX12_signs_135 rfl ?_
                            refine xb_icmp_eq (tgt := 188) hx hb (by unfold ir; omega) (by unfold ir; omega) dX12_signs_137 (by decide) (fun c_137 => ?_) (fun c_137 => ?_)
                            · refine lv_iconst (v := iv 1) hx hb dX12_signs_188 rfl ?_
                              refine lv_goto (tgt := 193) hx hb dX12_signs_189 (by decide) ?_
                              refine lv_istore_n (lv' := [(3, .int (iv 1)), (2, .int (iv r_9)), (0, .ref (oP ω 111)), (1, .int (iv x1))]) hx hb dX12_signs_193 rfl hl (by decide) rfl (fun ls hl => ?_)
                              refine lv_iload_n hx hb dX12_signs_194 rfl (lv_at hl 0 rfl) ?_
                              refine xb_if_ne (tgt := 206) hx hb (x := 1) (by unfold ir; omega) dX12_signs_195 (by decide) (fun c_195 => ?_) (fun c_195 => absurd c_195 (by decide))
                              have e_514 : (sv (sv (sv (sv (sv μ 111 8 3) 111 6 ((μ.1 111 6) + 1)) 111 13 x1) 111 6 ((μ.1 111 6) + 2)) 111 13 (256 + x1)).1 111 6 = (μ.1 111 6) + 2 := ((sv_n _ (by decide)).trans (sv_s _ _ _ _))
                              have e_515 : (sv (sv (sv (sv (sv μ 111 8 3) 111 6 ((μ.1 111 6) + 1)) 111 13 x1) 111 6 ((μ.1 111 6) + 2)) 111 13 (256 + x1)).1 111 6 = (μ.1 111 6) + 2 := ((sv_n _ (by decide)).trans (sv_s _ _ _ _))
                              have e_516 : (sv (sv (sv (sv (sv μ 111 8 3) 111 6 ((μ.1 111 6) + 1)) 111 13 x1) 111 6 ((μ.1 111 6) + 2)) 111 13 (256 + x1)).1 111 8 = 3 := ((sv_n _ (by decide)).trans ((sv_n _ (by decide)).trans ((sv_n _ (by decide)).trans ((sv_n _ (by decide)).trans (sv_s _ _ _ _)))))
                              have e_517 : wr (sv (sv (sv (sv (sv μ 111 8 3) 111 6 ((μ.1 111 6) + 1)) 111 13 x1) 111 6 ((μ.1 111 6) + 2)) 111 13 (256 + x1)) = wr μ := ((wr_cg (sv_n _ (by decide))).trans ((wr_cg (sv_n _ (by decide))).trans ((wr_cg (sv_n _ (by decide))).trans ((wr_cg (sv_n _ (by decide))).trans (wr_cg (sv_n _ (by decide)))))))
                              have e_518 : bd (sv (sv (sv (sv (sv μ 111 8 3) 111 6 ((μ.1 111 6) + 1)) 111 13 x1) 111 6 ((μ.1 111 6) + 2)) 111 13 (256 + x1)) = bd μ := ((bd_cg (sv_n _ (by decide)) (sv_n _ (by decide)) (sv_n _ (by decide))).trans ((bd_cg (sv_n _ (by decide)) (sv_n _ (by decide)) (sv_n _ (by decide))).trans ((bd_cg (sv_n _ (by decide)) (sv_n _ (by decide)) (sv_n _ (by decide))).trans ((bd_cg (sv_n _ (by decide)) (sv_n _ (by decide)) (sv_n _ (by decide))).trans (bd_cg (sv_n _ (by decide)) (sv_n _ (by decide)) (sv_n _ (by decide)))))))
                              have e_519 : wr (sv (sv (sv (sv (sv μ 111 8 3) 111 6 ((μ.1 111 6) + 1)) 111 13 x1) 111 6 ((μ.1 111 6) + 2)) 111 13 (256 + x1)) = wr μ := ((wr_cg (sv_n _ (by decide))).trans ((wr_cg (sv_n _ (by decide))).trans ((wr_cg (sv_n _ (by decide))).trans ((wr_cg (sv_n _ (by decide))).trans (wr_cg (sv_n _ (by decide)))))))
                              have e_520 : nn (sv (sv (sv (sv (sv μ 111 8 3) 111 6 ((μ.1 111 6) + 1)) 111 13 x1) 111 6 ((μ.1 111 6) + 2)) 111 13 (256 + x1)) = nn μ := ((nn_cg (sv_n _ (by decide)) (sv_n _ (by decide))).trans ((nn_cg (sv_n _ (by decide)) (sv_n _ (by decide))).trans ((nn_cg (sv_n _ (by decide)) (sv_n _ (by decide))).trans ((nn_cg (sv_n _ (by decide)) (sv_n _ (by decide))).trans (nn_cg (sv_n _ (by decide)) (sv_n _ (by decide)))))))
                              exact xr_v G hret hlk dX12_signs_206 ⟨(FrM.put (FrM.put (FrM.put (FrM.put (FrM.put FrM.rf (by decide)) (by decide)) (by decide)) (by decide)) (by decide)), (fun j hj => ((sv_n _ (fun h9 => hj (by rw [h9.2]; decide))).trans ((sv_n _ (fun h9 => hj (by rw [h9.2]; decide))).trans ((sv_n _ (fun h9 => hj (by rw [h9.2]; decide))).trans ((sv_n _ (fun h9 => hj (by rw [h9.2]; decide))).trans (sv_n _ (fun h9 => hj (by rw [h9.2]; decide)))))))), (by omega), (by omega), (by omega), (by omega)⟩
                            · refine lv_iload_n hx hb dX12_signs_140 rfl (lv_at hl 2 rfl) ?_
                              refine lv_bipush (v := iv 61) hx hb dX12_signs_141 rfl ?_
                              refine xb_icmp_eq (tgt := 188) hx hb (by unfold ir; omega) (by unfold ir; omega) dX12_signs_143 (by decide) (fun c_143 => ?_) (fun c_143 => ?_)
                              · refine lv_iconst (v := iv 1) hx hb dX12_signs_188 rfl ?_
                                refine lv_goto (tgt := 193) hx hb dX12_signs_189 (by decide) ?_
                                refine lv_istore_n (lv' := [(3, .int (iv 1)), (2, .int (iv r_9)), (0, .ref (oP ω 111)), (1, .int (iv x1))]) hx hb dX12_signs_193 rfl hl (by decide) rfl (fun ls hl => ?_)
                                refine lv_iload_n hx hb dX12_signs_194 rfl (lv_at hl 0 rfl) ?_
                                refine xb_if_ne (tgt := 206) hx hb (x := 1) (by unfold ir; omega) dX12_signs_195 (by decide) (fun c_195 => ?_) (fun c_195 => absurd c_195 (by decide))
                                have e_521 : (sv (sv (sv (sv (sv μ 111 8 3) 111 6 ((μ.1 111 6) + 1)) 111 13 x1) 111 6 ((μ.1 111 6) + 2)) 111 13 (256 + x1)).1 111 6 = (μ.1 111 6) + 2 := ((sv_n _ (by decide)).trans (sv_s _ _ _ _))
                                have e_522 : (sv (sv (sv (sv (sv μ 111 8 3) 111 6 ((μ.1 111 6) + 1)) 111 13 x1) 111 6 ((μ.1 111 6) + 2)) 111 13 (256 + x1)).1 111 6 = (μ.1 111 6) + 2 := ((sv_n _ (by decide)).trans (sv_s _ _ _ _))
                                have e_523 : (sv (sv (sv (sv (sv μ 111 8 3) 111 6 ((μ.1 111 6) + 1)) 111 13 x1) 111 6 ((μ.1 111 6) + 2)) 111 13 (256 + x1)).1 111 8 = 3 := ((sv_n _ (by decide)).trans ((sv_n _ (by decide)).trans ((sv_n _ (by decide)).trans ((sv_n _ (by decide)).trans (sv_s _ _ _ _)))))
                                have e_524 : wr (sv (sv (sv (sv (sv μ 111 8 3) 111 6 ((μ.1 111 6) + 1)) 111 13 x1) 111 6 ((μ.1 111 6) + 2)) 111 13 (256 + x1)) = wr μ := ((wr_cg (sv_n _ (by decide))).trans ((wr_cg (sv_n _ (by decide))).trans ((wr_cg (sv_n _ (by decide))).trans ((wr_cg (sv_n _ (by decide))).trans (wr_cg (sv_n _ (by decide)))))))
                                have e_525 : bd (sv (sv (sv (sv (sv μ 111 8 3) 111 6 ((μ.1 111 6) + 1)) 111 13 x1) 111 6 ((μ.1 111 6) + 2)) 111 13 (256 + x1)) = bd μ := ((bd_cg (sv_n _ (by decide)) (sv_n _ (by decide)) (sv_n _ (by decide))).trans ((bd_cg (sv_n _ (by decide)) (sv_n _ (by decide)) (sv_n _ (by decide))).trans ((bd_cg (sv_n _ (by decide)) (sv_n _ (by decide)) (sv_n _ (by decide))).trans ((bd_cg (sv_n _ (by decide)) (sv_n _ (by decide)) (sv_n _ (by decide))).trans (bd_cg (sv_n _ (by decide)) (sv_n _ (by decide)) (sv_n _ (by decide)))))))
                                have e_526 : wr (sv (sv (sv (sv (sv μ 111 8 3) 111 6 ((μ.1 111 6) + 1)) 111 13 x1) 111 6 ((μ.1 111 6) + 2)) 111 13 (256 + x1)) = wr μ := ((wr_cg (sv_n _ (by decide))).trans ((wr_cg (sv_n _ (by decide))).trans ((wr_cg (sv_n _ (by decide))).trans ((wr_cg (sv_n _ (by decide))).trans (wr_cg (sv_n _ (by decide)))))))
                                have e_527 : nn (sv (sv (sv (sv (sv μ 111 8 3) 111 6 ((μ.1 111 6) + 1)) 111 13 x1) 111 6 ((μ.1 111 6) + 2)) 111 13 (256 + x1)) = nn μ := ((nn_cg (sv_n _ (by decide)) (sv_n _ (by decide))).trans ((nn_cg (sv_n _ (by decide)) (sv_n _ (by decide))).trans ((nn_cg (sv_n _ (by decide)) (sv_n _ (by decide))).trans ((nn_cg (sv_n _ (by decide)) (sv_n _ (by decide))).trans (nn_cg (sv_n _ (by decide)) (sv_n _ (by decide)))))))
                                exact xr_v G hret hlk dX12_signs_206 ⟨(FrM.put (FrM.put (FrM.put (FrM.put (FrM.put FrM.rf (by decide)) (by decide)) (by decide)) (by decide)) (by decide)), (fun j hj => ((sv_n _ (fun h9 => hj (by rw [h9.2]; decide))).trans ((sv_n _ (fun h9 => hj (by rw [h9.2]; decide))).trans ((sv_n _ (fun h9 => hj (by rw [h9.2]; decide))).trans ((sv_n _ (fun h9 => hj (by rw [h9.2]; decide))).trans (sv_n _ (fun h9 => hj (by rw [h9.2]; decide)))))))), (by omega), (by omega), (by omega), (by omega)⟩
                              · refine lv_iload_n hx hb dX12_signs_146 rfl (lv_at hl 2 rfl) ?_
                                refine lv_bipush (v := iv 60) hx hb dX12_signs_147 rfl ?_
                                refine xb_icmp_eq (tgt := 188) hx hb (by unfold ir; omega) (by unfold ir; omega) dX12_signs_149 (by decide) (fun c_149 => ?_) (fun c_149 => ?_)
                                · refine lv_iconst (v := iv 1) hx hb dX12_signs_188 rfl ?_
                                  refine lv_goto (tgt := 193) hx hb dX12_signs_189 (by decide) ?_
                                  refine lv_istore_n (lv' := [(3, .int (iv 1)), (2, .int (iv r_9)), (0, .ref (oP ω 111)), (1, .int (iv x1))]) hx hb dX12_signs_193 rfl hl (by decide) rfl (fun ls hl => ?_)
                                  refine lv_iload_n hx hb dX12_signs_194 rfl (lv_at hl 0 rfl) ?_
                                  refine xb_if_ne (tgt := 206) hx hb (x := 1) (by unfold ir; omega) dX12_signs_195 (by decide) (fun c_195 => ?_) (fun c_195 => absurd c_195 (by decide))
                                  have e_528 : (sv (sv (sv (sv (sv μ 111 8 3) 111 6 ((μ.1 111 6) + 1)) 111 13 x1) 111 6 ((μ.1 111 6) + 2)) 111 13 (256 + x1)).1 111 6 = (μ.1 111 6) + 2 := ((sv_n _ (by decide)).trans (sv_s _ _ _ _))
                                  have e_529 : (sv (sv (sv (sv (sv μ 111 8 3) 111 6 ((μ.1 111 6) + 1)) 111 13 x1) 111 6 ((μ.1 111 6) + 2)) 111 13 (256 + x1)).1 111 6 = (μ.1 111 6) + 2 := ((sv_n _ (by decide)).trans (sv_s _ _ _ _))
                                  have e_530 : (sv (sv (sv (sv (sv μ 111 8 3) 111 6 ((μ.1 111 6) + 1)) 111 13 x1) 111 6 ((μ.1 111 6) + 2)) 111 13 (256 + x1)).1 111 8 = 3 := ((sv_n _ (by decide)).trans ((sv_n _ (by decide)).trans ((sv_n _ (by decide)).trans ((sv_n _ (by decide)).trans (sv_s _ _ _ _)))))
                                  have e_531 : wr (sv (sv (sv (sv (sv μ 111 8 3) 111 6 ((μ.1 111 6) + 1)) 111 13 x1) 111 6 ((μ.1 111 6) + 2)) 111 13 (256 + x1)) = wr μ := ((wr_cg (sv_n _ (by decide))).trans ((wr_cg (sv_n _ (by decide))).trans ((wr_cg (sv_n _ (by decide))).trans ((wr_cg (sv_n _ (by decide))).trans (wr_cg (sv_n _ (by decide)))))))
                                  have e_532 : bd (sv (sv (sv (sv (sv μ 111 8 3) 111 6 ((μ.1 111 6) + 1)) 111 13 x1) 111 6 ((μ.1 111 6) + 2)) 111 13 (256 + x1)) = bd μ := ((bd_cg (sv_n _ (by decide)) (sv_n _ (by decide)) (sv_n _ (by decide))).trans ((bd_cg (sv_n _ (by decide)) (sv_n _ (by decide)) (sv_n _ (by decide))).trans ((bd_cg (sv_n _ (by decide)) (sv_n _ (by decide)) (sv_n _ (by decide))).trans ((bd_cg (sv_n _ (by decide)) (sv_n _ (by decide)) (sv_n _ (by decide))).trans (bd_cg (sv_n _ (by decide)) (sv_n _ (by decide)) (sv_n _ (by decide)))))))
                                  have e_533 : wr (sv (sv (sv (sv (sv μ 111 8 3) 111 6 ((μ.1 111 6) + 1)) 111 13 x1) 111 6 ((μ.1 111 6) + 2)) 111 13 (256 + x1)) = wr μ := ((wr_cg (sv_n _ (by decide))).trans ((wr_cg (sv_n _ (by decide))).trans ((wr_cg (sv_n _ (by decide))).trans ((wr_cg (sv_n _ (by decide))).trans (wr_cg (sv_n _ (by decide)))))))
                                  have e_534 : nn (sv (sv (sv (sv (sv μ 111 8 3) 111 6 ((μ.1 111 6) + 1)) 111 13 x1) 111 6 ((μ.1 111 6) + 2)) 111 13 (256 + x1)) = nn μ := ((nn_cg (sv_n _ (by decide)) (sv_n _ (by decide))).trans ((nn_cg (sv_n _ (by decide)) (sv_n _ (by decide))).trans ((nn_cg (sv_n _ (by decide)) (sv_n _ (by decide))).trans ((nn_cg (sv_n _ (by decide)) (sv_n _ (by decide))).trans (nn_cg (sv_n _ (by decide)) (sv_n _ (by decide)))))))
                                  exact xr_v G hret hlk dX12_signs_206 ⟨(FrM.put (FrM.put (FrM.put (FrM.put (FrM.put FrM.rf (by decide)) (by decide)) (by decide)) (by decide)) (by decide)), (fun j hj => ((sv_n _ (fun h9 => hj (by rw [h9.2]; decide))).trans ((sv_n _ (fun h9 => hj (by rw [h9.2]; decide))).trans ((sv_n _ (fun h9 => hj (by rw [h9.2]; decide))).trans ((sv_n _ (fun h9 => hj (by rw [h9.2]; decide))).trans (sv_n _ (fun h9 => hj (by rw [h9.2]; decide)))))))), (by omega), (by omega), (by omega), (by omega)⟩
                                · refine lv_iload_n hx hb dX12_signs_152 rfl (lv_at hl 2 rfl) ?_
                                  refine lv_bipush (v := iv 62) hx hb dX12_signs_153 rfl ?_
                                  refine xb_icmp_eq (tgt := 188) hx hb (by unfold ir; omega) (by unfold ir; omega) dX12_signs_155 (by decide) (fun c_155 => ?_) (fun c_155 => ?_)
                                  · refine lv_iconst (v := iv 1) hx hb dX12_signs_188 rfl ?_
                                    refine lv_goto (tgt := 193) hx hb dX12_signs_189 (by decide) ?_
                                    refine lv_istore_n (lv' := [(3, .int (iv 1)), (2, .int (iv r_9)), (0, .ref (oP ω 111)), (1, .int (iv x1))]) hx hb dX12_signs_193 rfl hl (by decide) rfl (fun ls hl => ?_)
                                    refine lv_iload_n hx hb dX12_signs_194 rfl (lv_at hl 0 rfl) ?_
                                    refine xb_if_ne (tgt := 206) hx hb (x := 1) (by unfold ir; omega) dX12_signs_195 (by decide) (fun c_195 => ?_) (fun c_195 => absurd c_195 (by decide))
                                    have e_535 : (sv (sv (sv (sv (sv μ 111 8 3) 111 6 ((μ.1 111 6) + 1)) 111 13 x1) 111 6 ((μ.1 111 6) + 2)) 111 13 (256 + x1)).1 111 6 = (μ.1 111 6) + 2 := ((sv_n _ (by decide)).trans (sv_s _ _ _ _))
                                    have e_536 : (sv (sv (sv (sv (sv μ 111 8 3) 111 6 ((μ.1 111 6) + 1)) 111 13 x1) 111 6 ((μ.1 111 6) + 2)) 111 13 (256 + x1)).1 111 6 = (μ.1 111 6) + 2 := ((sv_n _ (by decide)).trans (sv_s _ _ _ _))
                                    have e_537 : (sv (sv (sv (sv (sv μ 111 8 3) 111 6 ((μ.1 111 6) + 1)) 111 13 x1) 111 6 ((μ.1 111 6) + 2)) 111 13 (256 + x1)).1 111 8 = 3 := ((sv_n _ (by decide)).trans ((sv_n _ (by decide)).trans ((sv_n _ (by decide)).trans ((sv_n _ (by decide)).trans (sv_s _ _ _ _)))))
                                    have e_538 : wr (sv (sv (sv (sv (sv μ 111 8 3) 111 6 ((μ.1 111 6) + 1)) 111 13 x1) 111 6 ((μ.1 111 6) + 2)) 111 13 (256 + x1)) = wr μ := ((wr_cg (sv_n _ (by decide))).trans ((wr_cg (sv_n _ (by decide))).trans ((wr_cg (sv_n _ (by decide))).trans ((wr_cg (sv_n _ (by decide))).trans (wr_cg (sv_n _ (by decide)))))))
                                    have e_539 : bd (sv (sv (sv (sv (sv μ 111 8 3) 111 6 ((μ.1 111 6) + 1)) 111 13 x1) 111 6 ((μ.1 111 6) + 2)) 111 13 (256 + x1)) = bd μ := ((bd_cg (sv_n _ (by decide)) (sv_n _ (by decide)) (sv_n _ (by decide))).trans ((bd_cg (sv_n _ (by decide)) (sv_n _ (by decide)) (sv_n _ (by decide))).trans ((bd_cg (sv_n _ (by decide)) (sv_n _ (by decide)) (sv_n _ (by decide))).trans ((bd_cg (sv_n _ (by decide)) (sv_n _ (by decide)) (sv_n _ (by decide))).trans (bd_cg (sv_n _ (by decide)) (sv_n _ (by decide)) (sv_n _ (by decide)))))))
                                    have e_540 : wr (sv (sv (sv (sv (sv μ 111 8 3) 111 6 ((μ.1 111 6) + 1)) 111 13 x1) 111 6 ((μ.1 111 6) + 2)) 111 13 (256 + x1)) = wr μ := ((wr_cg (sv_n _ (by decide))).trans ((wr_cg (sv_n _ (by decide))).trans ((wr_cg (sv_n _ (by decide))).trans ((wr_cg (sv_n _ (by decide))).trans (wr_cg (sv_n _ (by decide)))))))
                                    have e_541 : nn (sv (sv (sv (sv (sv μ 111 8 3) 111 6 ((μ.1 111 6) + 1)) 111 13 x1) 111 6 ((μ.1 111 6) + 2)) 111 13 (256 + x1)) = nn μ := ((nn_cg (sv_n _ (by decide)) (sv_n _ (by decide))).trans ((nn_cg (sv_n _ (by decide)) (sv_n _ (by decide))).trans ((nn_cg (sv_n _ (by decide)) (sv_n _ (by decide))).trans ((nn_cg (sv_n _ (by decide)) (sv_n _ (by decide))).trans (nn_cg (sv_n _ (by decide)) (sv_n _ (by decide)))))))
                                    exact xr_v G hret hlk dX12_signs_206 ⟨(FrM.put (FrM.put (FrM.put (FrM.put (FrM.put FrM.rf (by decide)) (by decide)) (by decide)) (by decide)) (by decide)), (fun j hj => ((sv_n _ (fun h9 => hj (by rw [h9.2]; decide))).trans ((sv_n _ (fun h9 => hj (by rw [h9.2]; decide))).trans ((sv_n _ (fun h9 => hj (by rw [h9.2]; decide))).trans ((sv_n _ (fun h9 => hj (by rw [h9.2]; decide))).trans (sv_n _ (fun h9 => hj (by rw [h9.2]; decide)))))))), (by omega), (by omega), (by omega), (by omega)⟩
                                  · refine lv_iload_n hx hb dX12_signs_158 rfl (lv_at hl 2 rfl) ?_
                                    refine lv_bipush (v := iv 43) hx hb dX12_signs_159 rfl ?_
                                    refine xb_icmp_eq (tgt := 188) hx hb (by unfold ir; omega) (by unfold ir; omega) dX12_signs_161 (by decide) (fun c_161 => ?_) (fun c_161 => ?_)
                                    · refine lv_iconst (v := iv 1) hx hb dX12_signs_188 rfl ?_
                                      refine lv_goto (tgt := 193) hx hb dX12_signs_189 (by decide) ?_
                                      refine lv_istore_n (lv' := [(3, .int (iv 1)), (2, .int (iv r_9)), (0, .ref (oP ω 111)), (1, .int (iv x1))]) hx hb dX12_signs_193 rfl hl (by decide) rfl (fun ls hl => ?_)
                                      refine lv_iload_n hx hb dX12_signs_194 rfl (lv_at hl 0 rfl) ?_
                                      refine xb_if_ne (tgt := 206) hx hb (x := 1) (by unfold ir; omega) dX12_signs_195 (by decide) (fun c_195 => ?_) (fun c_195 => absurd c_195 (by decide))
                                      have e_542 : (sv (sv (sv (sv (sv μ 111 8 3) 111 6 ((μ.1 111 6) + 1)) 111 13 x1) 111 6 ((μ.1 111 6) + 2)) 111 13 (256 + x1)).1 111 6 = (μ.1 111 6) + 2 := ((sv_n _ (by decide)).trans (sv_s _ _ _ _))
                                      have e_543 : (sv (sv (sv (sv (sv μ 111 8 3) 111 6 ((μ.1 111 6) + 1)) 111 13 x1) 111 6 ((μ.1 111 6) + 2)) 111 13 (256 + x1)).1 111 6 = (μ.1 111 6) + 2 := ((sv_n _ (by decide)).trans (sv_s _ _ _ _))
                                      have e_544 : (sv (sv (sv (sv (sv μ 111 8 3) 111 6 ((μ.1 111 6) + 1)) 111 13 x1) 111 6 ((μ.1 111 6) + 2)) 111 13 (256 + x1)).1 111 8 = 3 := ((sv_n _ (by decide)).trans ((sv_n _ (by decide)).trans ((sv_n _ (by decide)).trans ((sv_n _ (by decide)).trans (sv_s _ _ _ _)))))
                                      have e_545 : wr (sv (sv (sv (sv (sv μ 111 8 3) 111 6 ((μ.1 111 6) + 1)) 111 13 x1) 111 6 ((μ.1 111 6) + 2)) 111 13 (256 + x1)) = wr μ := ((wr_cg (sv_n _ (by decide))).trans ((wr_cg (sv_n _ (by decide))).trans ((wr_cg (sv_n _ (by decide))).trans ((wr_cg (sv_n _ (by decide))).trans (wr_cg (sv_n _ (by decide)))))))
                                      have e_546 : bd (sv (sv (sv (sv (sv μ 111 8 3) 111 6 ((μ.1 111 6) + 1)) 111 13 x1) 111 6 ((μ.1 111 6) + 2)) 111 13 (256 + x1)) = bd μ := ((bd_cg (sv_n _ (by decide)) (sv_n _ (by decide)) (sv_n _ (by decide))).trans ((bd_cg (sv_n _ (by decide)) (sv_n _ (by decide)) (sv_n _ (by decide))).trans ((bd_cg (sv_n _ (by decide)) (sv_n _ (by decide)) (sv_n _ (by decide))).trans ((bd_cg (sv_n _ (by decide)) (sv_n _ (by decide)) (sv_n _ (by decide))).trans (bd_cg (sv_n _ (by decide)) (sv_n _ (by decide)) (sv_n _ (by decide)))))))
                                      have e_547 : wr (sv (sv (sv (sv (sv μ 111 8 3) 111 6 ((μ.1 111 6) + 1)) 111 13 x1) 111 6 ((μ.1 111 6) + 2)) 111 13 (256 + x1)) = wr μ := ((wr_cg (sv_n _ (by decide))).trans ((wr_cg (sv_n _ (by decide))).trans ((wr_cg (sv_n _ (by decide))).trans ((wr_cg (sv_n _ (by decide))).trans (wr_cg (sv_n _ (by decide)))))))
                                      have e_548 : nn (sv (sv (sv (sv (sv μ 111 8 3) 111 6 ((μ.1 111 6) + 1)) 111 13 x1) 111 6 ((μ.1 111 6) + 2)) 111 13 (256 + x1)) = nn μ := ((nn_cg (sv_n _ (by decide)) (sv_n _ (by decide))).trans ((nn_cg (sv_n _ (by decide)) (sv_n _ (by decide))).trans ((nn_cg (sv_n _ (by decide)) (sv_n _ (by decide))).trans ((nn_cg (sv_n _ (by decide)) (sv_n _ (by decide))).trans (nn_cg (sv_n _ (by decide)) (sv_n _ (by decide)))))))
                                      exact xr_v G hret hlk dX12_signs_206 ⟨(FrM.put (FrM.put (FrM.put (FrM.put (FrM.put FrM.rf (by decide)) (by decide)) (by decide)) (by decide)) (by decide)), (fun j hj => ((sv_n _ (fun h9 => hj (by rw [h9.2]; decide))).trans ((sv_n _ (fun h9 => hj (by rw [h9.2]; decide))).trans ((sv_n _ (fun h9 => hj (by rw [h9.2]; decide))).trans ((sv_n _ (fun h9 => hj (by rw [h9.2]; decide))).trans (sv_n _ (fun h9 => hj (by rw [h9.2]; decide)))))))), (by omega), (by omega), (by omega), (by omega)⟩
                                    · refine lv_iload_n hx hb dX12_signs_164 rfl (lv_at hl 2 rfl) ?_
                                      refine lv_bipush (v := iv 45) hx hb dX12_signs_165 rfl ?_
                                      refine xb_icmp_eq (tgt := 188) hx hb (by unfold ir; omega) (by unfold ir; omega) dX12_signs_167 (by decide) (fun c_167 => ?_) (fun c_167 => ?_)
                                      · refine lv_iconst (v := iv 1) hx hb dX12_signs_188 rfl ?_
                                        refine lv_goto (tgt := 193) hx hb dX12_signs_189 (by decide) ?_
                                        refine lv_istore_n (lv' := [(3, .int (iv 1)), (2, .int (iv r_9)), (0, .ref (oP ω 111)), (1, .int (iv x1))]) hx hb dX12_signs_193 rfl hl (by decide) rfl (fun ls hl => ?_)
                                        refine lv_iload_n hx hb dX12_signs_194 rfl (lv_at hl 0 rfl) ?_
                                        refine xb_if_ne (tgt := 206) hx hb (x := 1) (by unfold ir; omega) dX12_signs_195 (by decide) (fun c_195 => ?_) (fun c_195 => absurd c_195 (by decide))
                                        have e_549 : (sv (sv (sv (sv (sv μ 111 8 3) 111 6 ((μ.1 111 6) + 1)) 111 13 x1) 111 6 ((μ.1 111 6) + 2)) 111 13 (256 + x1)).1 111 6 = (μ.1 111 6) + 2 := ((sv_n _ (by decide)).trans (sv_s _ _ _ _))
                                        have e_550 : (sv (sv (sv (sv (sv μ 111 8 3) 111 6 ((μ.1 111 6) + 1)) 111 13 x1) 111 6 ((μ.1 111 6) + 2)) 111 13 (256 + x1)).1 111 6 = (μ.1 111 6) + 2 := ((sv_n _ (by decide)).trans (sv_s _ _ _ _))
                                        have e_551 : (sv (sv (sv (sv (sv μ 111 8 3) 111 6 ((μ.1 111 6) + 1)) 111 13 x1) 111 6 ((μ.1 111 6) + 2)) 111 13 (256 + x1)).1 111 8 = 3 := ((sv_n _ (by decide)).trans ((sv_n _ (by decide)).trans ((sv_n _ (by decide)).trans ((sv_n _ (by decide)).trans (sv_s _ _ _ _)))))
                                        have e_552 : wr (sv (sv (sv (sv (sv μ 111 8 3) 111 6 ((μ.1 111 6) + 1)) 111 13 x1) 111 6 ((μ.1 111 6) + 2)) 111 13 (256 + x1)) = wr μ := ((wr_cg (sv_n _ (by decide))).trans ((wr_cg (sv_n _ (by decide))).trans ((wr_cg (sv_n _ (by decide))).trans ((wr_cg (sv_n _ (by decide))).trans (wr_cg (sv_n _ (by decide)))))))
                                        have e_553 : bd (sv (sv (sv (sv (sv μ 111 8 3) 111 6 ((μ.1 111 6) + 1)) 111 13 x1) 111 6 ((μ.1 111 6) + 2)) 111 13 (256 + x1)) = bd μ := ((bd_cg (sv_n _ (by decide)) (sv_n _ (by decide)) (sv_n _ (by decide))).trans ((bd_cg (sv_n _ (by decide)) (sv_n _ (by decide)) (sv_n _ (by decide))).trans ((bd_cg (sv_n _ (by decide)) (sv_n _ (by decide)) (sv_n _ (by decide))).trans ((bd_cg (sv_n _ (by decide)) (sv_n _ (by decide)) (sv_n _ (by decide))).trans (bd_cg (sv_n _ (by decide)) (sv_n _ (by decide)) (sv_n _ (by decide)))))))
                                        have e_554 : wr (sv (sv (sv (sv (sv μ 111 8 3) 111 6 ((μ.1 111 6) + 1)) 111 13 x1) 111 6 ((μ.1 111 6) + 2)) 111 13 (256 + x1)) = wr μ := ((wr_cg (sv_n _ (by decide))).trans ((wr_cg (sv_n _ (by decide))).trans ((wr_cg (sv_n _ (by decide))).trans ((wr_cg (sv_n _ (by decide))).trans (wr_cg (sv_n _ (by decide)))))))
                                        have e_555 : nn (sv (sv (sv (sv (sv μ 111 8 3) 111 6 ((μ.1 111 6) + 1)) 111 13 x1) 111 6 ((μ.1 111 6) + 2)) 111 13 (256 + x1)) = nn μ := ((nn_cg (sv_n _ (by decide)) (sv_n _ (by decide))).trans ((nn_cg (sv_n _ (by decide)) (sv_n _ (by decide))).trans ((nn_cg (sv_n _ (by decide)) (sv_n _ (by decide))).trans ((nn_cg (sv_n _ (by decide)) (sv_n _ (by decide))).trans (nn_cg (sv_n _ (by decide)) (sv_n _ (by decide)))))))
                                        exact xr_v G hret hlk dX12_signs_206 ⟨(FrM.put (FrM.put (FrM.put (FrM.put (FrM.put FrM.rf (by decide)) (by decide)) (by decide)) (by decide)) (by decide)), (fun j hj => ((sv_n _ (fun h9 => hj (by rw [h9.2]; decide))).trans ((sv_n _ (fun h9 => hj (by rw [h9.2]; decide))).trans ((sv_n _ (fun h9 => hj (by rw [h9.2]; decide))).trans ((sv_n _ (fun h9 => hj (by rw [h9.2]; decide))).trans (sv_n _ (fun h9 => hj (by rw [h9.2]; decide)))))))), (by omega), (by omega), (by omega), (by omega)⟩
                                      · refine lv_iload_n hx hb dX12_signs_170 rfl (lv_at hl 2 rfl) ?_
                                        refine lv_bipush (v := iv 42) hx hb dX12_signs_171 rfl ?_
                                        refine xb_icmp_eq (tgt := 188) hx hb (by unfold ir; omega) (by unfold ir; omega) dX12_signs_173 (by decide) (fun c_173 => ?_) (fun c_173 => ?_)
                                        · refine lv_iconst (v := iv 1) hx hb dX12_signs_188 rfl ?_
                                          refine lv_goto (tgt := 193) hx hb dX12_signs_189 (by decide) ?_
                                          refine lv_istore_n (lv' := [(3, .int (iv 1)), (2, .int (iv r_9)), (0, .ref (oP ω 111)), (1, .int (iv x1))]) hx hb dX12_signs_193 rfl hl (by decide) rfl (fun ls hl => ?_)
                                          refine lv_iload_n hx hb dX12_signs_194 rfl (lv_at hl 0 rfl) ?_
                                          refine xb_if_ne (tgt := 206) hx hb (x := 1) (by unfold ir; omega) dX12_signs_195 (by decide) (fun c_195 => ?_) (fun c_195 => absurd c_195 (by decide))
                                          have e_556 : (sv (sv (sv (sv (sv μ 111 8 3) 111 6 ((μ.1 111 6) + 1)) 111 13 x1) 111 6 ((μ.1 111 6) + 2)) 111 13 (256 + x1)).1 111 6 = (μ.1 111 6) + 2 := ((sv_n _ (by decide)).trans (sv_s _ _ _ _))
                                          have e_557 : (sv (sv (sv (sv (sv μ 111 8 3) 111 6 ((μ.1 111 6) + 1)) 111 13 x1) 111 6 ((μ.1 111 6) + 2)) 111 13 (256 + x1)).1 111 6 = (μ.1 111 6) + 2 := ((sv_n _ (by decide)).trans (sv_s _ _ _ _))
                                          have e_558 : (sv (sv (sv (sv (sv μ 111 8 3) 111 6 ((μ.1 111 6) + 1)) 111 13 x1) 111 6 ((μ.1 111 6) + 2)) 111 13 (256 + x1)).1 111 8 = 3 := ((sv_n _ (by decide)).trans ((sv_n _ (by decide)).trans ((sv_n _ (by decide)).trans ((sv_n _ (by decide)).trans (sv_s _ _ _ _)))))
                                          have e_559 : wr (sv (sv (sv (sv (sv μ 111 8 3) 111 6 ((μ.1 111 6) + 1)) 111 13 x1) 111 6 ((μ.1 111 6) + 2)) 111 13 (256 + x1)) = wr μ := ((wr_cg (sv_n _ (by decide))).trans ((wr_cg (sv_n _ (by decide))).trans ((wr_cg (sv_n _ (by decide))).trans ((wr_cg (sv_n _ (by decide))).trans (wr_cg (sv_n _ (by decide)))))))
                                          have e_560 : bd (sv (sv (sv (sv (sv μ 111 8 3) 111 6 ((μ.1 111 6) + 1)) 111 13 x1) 111 6 ((μ.1 111 6) + 2)) 111 13 (256 + x1)) = bd μ := ((bd_cg (sv_n _ (by decide)) (sv_n _ (by decide)) (sv_n _ (by decide))).trans ((bd_cg (sv_n _ (by decide)) (sv_n _ (by decide)) (sv_n _ (by decide))).trans ((bd_cg (sv_n _ (by decide)) (sv_n _ (by decide)) (sv_n _ (by decide))).trans ((bd_cg (sv_n _ (by decide)) (sv_n _ (by decide)) (sv_n _ (by decide))).trans (bd_cg (sv_n _ (by decide)) (sv_n _ (by decide)) (sv_n _ (by decide)))))))
                                          have e_561 : wr (sv (sv (sv (sv (sv μ 111 8 3) 111 6 ((μ.1 111 6) + 1)) 111 13 x1) 111 6 ((μ.1 111 6) + 2)) 111 13 (256 + x1)) = wr μ := ((wr_cg (sv_n _ (by decide))).trans ((wr_cg (sv_n _ (by decide))).trans ((wr_cg (sv_n _ (by decide))).trans ((wr_cg (sv_n _ (by decide))).trans (wr_cg (sv_n _ (by decide)))))))
                                          have e_562 : nn (sv (sv (sv (sv (sv μ 111 8 3) 111 6 ((μ.1 111 6) + 1)) 111 13 x1) 111 6 ((μ.1 111 6) + 2)) 111 13 (256 + x1)) = nn μ := ((nn_cg (sv_n _ (by decide)) (sv_n _ (by decide))).trans ((nn_cg (sv_n _ (by decide)) (sv_n _ (by decide))).trans ((nn_cg (sv_n _ (by decide)) (sv_n _ (by decide))).trans ((nn_cg (sv_n _ (by decide)) (sv_n _ (by decide))).trans (nn_cg (sv_n _ (by decide)) (sv_n _ (by decide)))))))
                                          exact xr_v G hret hlk dX12_signs_206 ⟨(FrM.put (FrM.put (FrM.put (FrM.put (FrM.put FrM.rf (by decide)) (by decide)) (by decide)) (by decide)) (by decide)), (fun j hj => ((sv_n _ (fun h9 => hj (by rw [h9.2]; decide))).trans ((sv_n _ (fun h9 => hj (by rw [h9.2]; decide))).trans ((sv_n _ (fun h9 => hj (by rw [h9.2]; decide))).trans ((sv_n _ (fun h9 => hj (by rw [h9.2]; decide))).trans (sv_n _ (fun h9 => hj (by rw [h9.2]; decide)))))))), (by omega), (by omega), (by omega), (by omega)⟩
                                        · refine lv_iload_n hx hb dX12_signs_176 rfl (lv_at hl 2 rfl) ?_
                                          refine lv_bipush (v := iv 47) hx hb dX12_signs_177 rfl ?_
                                          refine xb_icmp_eq (tgt := 188) hx hb (by unfold ir; omega) (by unfold ir; omega) dX12_signs_179 (by decide) (fun c_179 => ?_) (fun c_179 => ?_)
                                          · refine lv_iconst (v := iv 1) hx hb dX12_signs_188 rfl ?_
                                            refine lv_goto (tgt := 193) hx hb dX12_signs_189 (by decide) ?_
                                            refine lv_istore_n (lv' := [(3, .int (iv 1)), (2, .int (iv r_9)), (0, .ref (oP ω 111)), (1, .int (iv x1))]) hx hb dX12_signs_193 rfl hl (by decide) rfl (fun ls hl => ?_)
                                            refine lv_iload_n hx hb dX12_signs_194 rfl (lv_at hl 0 rfl) ?_
                                            refine xb_if_ne (tgt := 206) hx hb (x := 1) (by unfold ir; omega) dX12_signs_195 (by decide) (fun c_195 => ?_) (fun c_195 => absurd c_195 (by decide))
                                            have e_563 : (sv (sv (sv (sv (sv μ 111 8 3) 111 6 ((μ.1 111 6) + 1)) 111 13 x1) 111 6 ((μ.1 111 6) + 2)) 111 13 (256 + x1)).1 111 6 = (μ.1 111 6) + 2 := ((sv_n _ (by decide)).trans (sv_s _ _ _ _))
                                            have e_564 : (sv (sv (sv (sv (sv μ 111 8 3) 111 6 ((μ.1 111 6) + 1)) 111 13 x1) 111 6 ((μ.1 111 6) + 2)) 111 13 (256 + x1)).1 111 6 = (μ.1 111 6) + 2 := ((sv_n _ (by decide)).trans (sv_s _ _ _ _))
                                            have e_565 : (sv (sv (sv (sv (sv μ 111 8 3) 111 6 ((μ.1 111 6) + 1)) 111 13 x1) 111 6 ((μ.1 111 6) + 2)) 111 13 (256 + x1)).1 111 8 = 3 := ((sv_n _ (by decide)).trans ((sv_n _ (by decide)).trans ((sv_n _ (by decide)).trans ((sv_n _ (by decide)).trans (sv_s _ _ _ _)))))
                                            have e_566 : wr (sv (sv (sv (sv (sv μ 111 8 3) 111 6 ((μ.1 111 6) + 1)) 111 13 x1) 111 6 ((μ.1 111 6) + 2)) 111 13 (256 + x1)) = wr μ := ((wr_cg (sv_n _ (by decide))).trans ((wr_cg (sv_n _ (by decide))).trans ((wr_cg (sv_n _ (by decide))).trans ((wr_cg (sv_n _ (by decide))).trans (wr_cg (sv_n _ (by decide)))))))
                                            have e_567 : bd (sv (sv (sv (sv (sv μ 111 8 3) 111 6 ((μ.1 111 6) + 1)) 111 13 x1) 111 6 ((μ.1 111 6) + 2)) 111 13 (256 + x1)) = bd μ := ((bd_cg (sv_n _ (by decide)) (sv_n _ (by decide)) (sv_n _ (by decide))).trans ((bd_cg (sv_n _ (by decide)) (sv_n _ (by decide)) (sv_n _ (by decide))).trans ((bd_cg (sv_n _ (by decide)) (sv_n _ (by decide)) (sv_n _ (by decide))).trans ((bd_cg (sv_n _ (by decide)) (sv_n _ (by decide)) (sv_n _ (by decide))).trans (bd_cg (sv_n _ (by decide)) (sv_n _ (by decide)) (sv_n _ (by decide)))))))
                                            have e_568 : wr (sv (sv (sv (sv (sv μ 111 8 3) 111 6 ((μ.1 111 6) + 1)) 111 13 x1) 111 6 ((μ.1 111 6) + 2)) 111 13 (256 + x1)) = wr μ := ((wr_cg (sv_n _ (by decide))).trans ((wr_cg (sv_n _ (by decide))).trans ((wr_cg (sv_n _ (by decide))).trans ((wr_cg (sv_n _ (by decide))).trans (wr_cg (sv_n _ (by decide)))))))
                                            have e_569 : nn (sv (sv (sv (sv (sv μ 111 8 3) 111 6 ((μ.1 111 6) + 1)) 111 13 x1) 111 6 ((μ.1 111 6) + 2)) 111 13 (256 + x1)) = nn μ := ((nn_cg (sv_n _ (by decide)) (sv_n _ (by decide))).trans ((nn_cg (sv_n _ (by decide)) (sv_n _ (by decide))).trans ((nn_cg (sv_n _ (by decide)) (sv_n _ (by decide))).trans ((nn_cg (sv_n _ (by decide)) (sv_n _ (by decide))).trans (nn_cg (sv_n _ (by decide)) (sv_n _ (by decide)))))))
                                            exact xr_v G hret hlk dX12_signs_206 ⟨(FrM.put (FrM.put (FrM.put (FrM.put (FrM.put FrM.rf (by decide)) (by decide)) (by decide)) (by decide)) (by decide)), (fun j hj => ((sv_n _ (fun h9 => hj (by rw [h9.2]; decide))).trans ((sv_n _ (fun h9 => hj (by rw [h9.2]; decide))).trans ((sv_n _ (fun h9 => hj (by rw [h9.2]; decide))).trans ((sv_n _ (fun h9 => hj (by rw [h9.2]; decide))).trans (sv_n _ (fun h9 => hj (by rw [h9.2]; decide)))))))), (by omega), (by omega), (by omega), (by omega)⟩
                                          · refine lv_iload_n hx hb dX12_signs_182 rfl (lv_at hl 2 rfl) ?_
                                            refine lv_bipush (v := iv 37) hx hb dX12_signs_183 rfl ?_
                                            refine xb_icmp_ne (tgt := 192) hx hb (by unfold ir; omega) (by unfold ir; omega) dX12_signs_185 (by decide) (fun c_185 => ?_) (fun c_185 => ?_)
                                            · refine lv_iconst (v := iv 0) hx hb dX12_signs_192 rfl ?_
                                              refine lv_istore_n (lv' := [(3, .int (iv 0)), (2, .int (iv r_9)), (0, .ref (oP ω 111)), (1, .int (iv x1))]) hx hb dX12_signs_193 rfl hl (by decide) rfl (fun ls hl => ?_)
                                              refine lv_iload_n hx hb dX12_signs_194 rfl (lv_at hl 0 rfl) ?_
                                              refine xb_if_ne (tgt := 206) hx hb (x := 0) (by unfold ir; omega) dX12_signs_195 (by decide) (fun c_195 => absurd c_195 (by decide)) (fun c_195 => ?_)
                                              refine lv_aload_n hx hb dX12_signs_198 rfl (lv_at hl 2 rfl) ?_
                                              refine lv_aload_n hx hb dX12_signs_199 rfl (lv_at hl 2 rfl) ?_
                                              refine xa_geti G fd_X12 (a := 111) (x := μ.1 111 9) 9 rfl (by decide) rfl (wm 7 158 rfl rfl) ⟨rfl, rfl, rfl⟩ dX12_signs_200 rfl ((sv_n _ (by decide)).trans ((sv_n _ (by decide)).trans ((sv_n _ (by decide)).trans ((sv_n _ (by decide)).trans (sv_n _ (by decide)))))) ?_
                                              have hr_570 : -2147483648 ≤ μ.1 111 9 ∧ μ.1 111 9 ≤ 2147483647 := by have h9 := G.hr (a := 111) (k := 9) rfl; rw [show (sv (sv (sv (sv (sv μ 111 8 3) 111 6 ((μ.1 111 6) + 1)) 111 13 x1) 111 6 ((μ.1 111 6) + 2)) 111 13 (256 + x1)).1 111 9 = μ.1 111 9 from ((sv_n _ (by decide)).trans ((sv_n _ (by decide)).trans ((sv_n _ (by decide)).trans ((sv_n _ (by decide)).trans (sv_n _ (by decide))))))] at h9; exact h9
                                              have e_571 : (sv (sv (sv (sv (sv μ 111 8 3) 111 6 ((μ.1 111 6) + 1)) 111 13 x1) 111 6 ((μ.1 111 6) + 2)) 111 13 (256 + x1)).1 111 9 = μ.1 111 9 := ((sv_n _ (by decide)).trans ((sv_n _ (by decide)).trans ((sv_n _ (by decide)).trans ((sv_n _ (by decide)).trans (sv_n _ (by decide))))))
                                              refine xc_vV G (b := 111) (rest := []) (As := [.int (iv (μ.1 111 9))]) (c_X12_wrong ω l (sv (sv (sv (sv (sv μ 111 8 3) 111 6 ((μ.1 111 6) + 1)) 111 13 x1) 111 6 ((μ.1 111 6) + 2)) 111 13 (256 + x1)) (μ.1 111 9) (by unfold ir; omega) (by omega)) (wm 9 22 rfl rfl) (wm 9 24 rfl rfl) (wm 0 123 rfl rfl) rfl rfl (by decide) rfl (wm 1 18 rfl rfl) (wm 9 25 rfl rfl) (by decide) hR (by decide) (n := 1) rfl rfl (Nat.le_of_ble_eq_true rfl) hl.1 dX12_signs_203 (fun μ572 ρ d0 H locs hp G => ?_)
                                              obtain ⟨F_573, hp_574, hp_575⟩ := hp
                                              have hw_576 := wr_r (μ := μ572)
                                              have e_577 : μ572.1 111 6 = (μ.1 111 6) + 2 := ((hp_574 6 (by decide)).trans ((sv_n _ (by decide)).trans (sv_s _ _ _ _)))
                                              have e_578 : μ572.1 111 6 = (μ.1 111 6) + 2 := ((hp_574 6 (by decide)).trans ((sv_n _ (by decide)).trans (sv_s _ _ _ _)))
                                              have e_579 : μ572.1 111 8 = 3 := ((hp_574 8 (by decide)).trans ((sv_n _ (by decide)).trans ((sv_n _ (by decide)).trans ((sv_n _ (by decide)).trans ((sv_n _ (by decide)).trans (sv_s _ _ _ _))))))
                                              exact xr_v G hret hlk dX12_signs_206 ⟨(FrM.tr (FrM.put (FrM.put (FrM.put (FrM.put (FrM.put FrM.rf (by decide)) (by decide)) (by decide)) (by decide)) (by decide)) F_573 (by decide)), (fun j hj => ((hp_574 j (fun h9 => hj ((by decide : ∀ x ∈ ([15] : List Int), x ∈ ([6, 8, 13, 15] : List Int)) j h9))).trans ((sv_n _ (fun h9 => hj (by rw [h9.2]; decide))).trans ((sv_n _ (fun h9 => hj (by rw [h9.2]; decide))).trans ((sv_n _ (fun h9 => hj (by rw [h9.2]; decide))).trans ((sv_n _ (fun h9 => hj (by rw [h9.2]; decide))).trans (sv_n _ (fun h9 => hj (by rw [h9.2]; decide))))))))), (by omega), (by omega), (by omega), (by omega)⟩
                                            · refine lv_iconst (v := iv 1) hx hb dX12_signs_188 rfl ?_
                                              refine lv_goto (tgt := 193) hx hb dX12_signs_189 (by decide) ?_
                                              refine lv_istore_n (lv' := [(3, .int (iv 1)), (2, .int (iv r_9)), (0, .ref (oP ω 111)), (1, .int (iv x1))]) hx hb dX12_signs_193 rfl hl (by decide) rfl (fun ls hl => ?_)
                                              refine lv_iload_n hx hb dX12_signs_194 rfl (lv_at hl 0 rfl) ?_
                                              refine xb_if_ne (tgt := 206) hx hb (x := 1) (by unfold ir; omega) dX12_signs_195 (by decide) (fun c_195 => ?_) (fun c_195 => absurd c_195 (by decide))
                                              have e_580 : (sv (sv (sv (sv (sv μ 111 8 3) 111 6 ((μ.1 111 6) + 1)) 111 13 x1) 111 6 ((μ.1 111 6) + 2)) 111 13 (256 + x1)).1 111 6 = (μ.1 111 6) + 2 := ((sv_n _ (by decide)).trans (sv_s _ _ _ _))
                                              have e_581 : (sv (sv (sv (sv (sv μ 111 8 3) 111 6 ((μ.1 111 6) + 1)) 111 13 x1) 111 6 ((μ.1 111 6) + 2)) 111 13 (256 + x1)).1 111 6 = (μ.1 111 6) + 2 := ((sv_n _ (by decide)).trans (sv_s _ _ _ _))
                                              have e_582 : (sv (sv (sv (sv (sv μ 111 8 3) 111 6 ((μ.1 111 6) + 1)) 111 13 x1) 111 6 ((μ.1 111 6) + 2)) 111 13 (256 + x1)).1 111 8 = 3 := ((sv_n _ (by decide)).trans ((sv_n _ (by decide)).trans ((sv_n _ (by decide)).trans ((sv_n _ (by decide)).trans (sv_s _ _ _ _)))))
                                              have e_583 : wr (sv (sv (sv (sv (sv μ 111 8 3) 111 6 ((μ.1 111 6) + 1)) 111 13 x1) 111 6 ((μ.1 111 6) + 2)) 111 13 (256 + x1)) = wr μ := ((wr_cg (sv_n _ (by decide))).trans ((wr_cg (sv_n _ (by decide))).trans ((wr_cg (sv_n _ (by decide))).trans ((wr_cg (sv_n _ (by decide))).trans (wr_cg (sv_n _ (by decide)))))))
                                              have e_584 : bd (sv (sv (sv (sv (sv μ 111 8 3) 111 6 ((μ.1 111 6) + 1)) 111 13 x1) 111 6 ((μ.1 111 6) + 2)) 111 13 (256 + x1)) = bd μ := ((bd_cg (sv_n _ (by decide)) (sv_n _ (by decide)) (sv_n _ (by decide))).trans ((bd_cg (sv_n _ (by decide)) (sv_n _ (by decide)) (sv_n _ (by decide))).trans ((bd_cg (sv_n _ (by decide)) (sv_n _ (by decide)) (sv_n _ (by decide))).trans ((bd_cg (sv_n _ (by decide)) (sv_n _ (by decide)) (sv_n _ (by decide))).trans (bd_cg (sv_n _ (by decide)) (sv_n _ (by decide)) (sv_n _ (by decide)))))))
                                              have e_585 : wr (sv (sv (sv (sv (sv μ 111 8 3) 111 6 ((μ.1 111 6) + 1)) 111 13 x1) 111 6 ((μ.1 111 6) + 2)) 111 13 (256 + x1)) = wr μ := ((wr_cg (sv_n _ (by decide))).trans ((wr_cg (sv_n _ (by decide))).trans ((wr_cg (sv_n _ (by decide))).trans ((wr_cg (sv_n _ (by decide))).trans (wr_cg (sv_n _ (by decide)))))))
                                              have e_586 : nn (sv (sv (sv (sv (sv μ 111 8 3) 111 6 ((μ.1 111 6) + 1)) 111 13 x1) 111 6 ((μ.1 111 6) + 2)) 111 13 (256 + x1)) = nn μ := ((nn_cg (sv_n _ (by decide)) (sv_n _ (by decide))).trans ((nn_cg (sv_n _ (by decide)) (sv_n _ (by decide))).trans ((nn_cg (sv_n _ (by decide)) (sv_n _ (by decide))).trans ((nn_cg (sv_n _ (by decide)) (sv_n _ (by decide))).trans (nn_cg (sv_n _ (by decide)) (sv_n _ (by decide)))))))
                                              exact xr_v G hret hlk dX12_signs_206 ⟨(FrM.put (FrM.put (FrM.put (FrM.put (FrM.put FrM.rf (by decide)) (by decide)) (by decide)) (by decide)) (by decide)), (fun j hj => ((sv_n _ (fun h9 => hj (by rw [h9.2]; decide))).trans ((sv_n _ (fun h9 => hj (by rw [h9.2]; decide))).trans ((sv_n _ (fun h9 => hj (by rw [h9.2]; decide))).trans ((sv_n _ (fun h9 => hj (by rw [h9.2]; decide))).trans (sv_n _ (fun h9 => hj (by rw [h9.2]; decide)))))))), (by omega), (by omega), (by omega), (by omega)⟩
    · refine lv_iload_n hx hb dX12_signs_37 rfl (lv_at hl 2 rfl) ?_
      refine lv_bipush (v := iv 60) hx hb dX12_signs_38 rfl ?_
      refine xb_icmp_eq (tgt := 49) hx hb (by unfold ir; omega) (by unfold ir; omega) dX12_signs_40 (by decide) (fun c_40 => ?_) (fun c_40 => ?_)
      · refine lv_iload_n hx hb dX12_signs_49 rfl (lv_at hl 0 rfl) ?_
        refine lv_bipush (v := iv 61) hx hb dX12_signs_50 rfl ?_
        refine xb_icmp_ne (tgt := 74) hx hb (by unfold ir; omega) (by unfold ir; omega) dX12_signs_52 (by decide) (fun c_52 => ?_) (fun c_52 => ?_)
        · refine lv_iload_n hx hb dX12_signs_74 rfl (lv_at hl 2 rfl) ?_
          refine lv_bipush (v := iv 40) hx hb dX12_signs_75 rfl ?_
          refine xb_icmp_eq (tgt := 188) hx hb (by unfold ir; omega) (by unfold ir; omega) dX12_signs_77 (by decide) (fun c_77 => ?_) (fun c_77 => ?_)
          · refine lv_iconst (v := iv 1) hx hb dX12_signs_188 rfl ?_
            refine lv_goto (tgt := 193) hx hb dX12_signs_189 (by decide) ?_
            refine lv_istore_n (lv' := [(3, .int (iv 1)), (2, .int (iv r_9)), (0, .ref (oP ω 111)), (1, .int (iv x1))]) hx hb dX12_signs_193 rfl hl (by decide) rfl (fun ls hl => ?_)
            refine lv_iload_n hx hb dX12_signs_194 rfl (lv_at hl 0 rfl) ?_
            refine xb_if_ne (tgt := 206) hx hb (x := 1) (by unfold ir; omega) dX12_signs_195 (by decide) (fun c_195 => ?_) (fun c_195 => absurd c_195 (by decide))
            have e_587 : (sv (sv (sv μ 111 8 3) 111 6 ((μ.1 111 6) + 1)) 111 13 x1).1 111 6 = (μ.1 111 6) + 1 := ((sv_n _ (by decide)).trans (sv_s _ _ _ _))
            have e_588 : (sv (sv (sv μ 111 8 3) 111 6 ((μ.1 111 6) + 1)) 111 13 x1).1 111 6 = (μ.1 111 6) + 1 := ((sv_n _ (by decide)).trans (sv_s _ _ _ _))
            have e_589 : (sv (sv (sv μ 111 8 3) 111 6 ((μ.1 111 6) + 1)) 111 13 x1).1 111 8 = 3 := ((sv_n _ (by decide)).trans ((sv_n _ (by decide)).trans (sv_s _ _ _ _)))
            have e_590 : wr (sv (sv (sv μ 111 8 3) 111 6 ((μ.1 111 6) + 1)) 111 13 x1) = wr μ := ((wr_cg (sv_n _ (by decide))).trans ((wr_cg (sv_n _ (by decide))).trans (wr_cg (sv_n _ (by decide)))))
            have e_591 : bd (sv (sv (sv μ 111 8 3) 111 6 ((μ.1 111 6) + 1)) 111 13 x1) = bd μ := ((bd_cg (sv_n _ (by decide)) (sv_n _ (by decide)) (sv_n _ (by decide))).trans ((bd_cg (sv_n _ (by decide)) (sv_n _ (by decide)) (sv_n _ (by decide))).trans (bd_cg (sv_n _ (by decide)) (sv_n _ (by decide)) (sv_n _ (by decide)))))
            have e_592 : wr (sv (sv (sv μ 111 8 3) 111 6 ((μ.1 111 6) + 1)) 111 13 x1) = wr μ := ((wr_cg (sv_n _ (by decide))).trans ((wr_cg (sv_n _ (by decide))).trans (wr_cg (sv_n _ (by decide)))))
            have e_593 : nn (sv (sv (sv μ 111 8 3) 111 6 ((μ.1 111 6) + 1)) 111 13 x1) = nn μ := ((nn_cg (sv_n _ (by decide)) (sv_n _ (by decide))).trans ((nn_cg (sv_n _ (by decide)) (sv_n _ (by decide))).trans (nn_cg (sv_n _ (by decide)) (sv_n _ (by decide)))))
            exact xr_v G hret hlk dX12_signs_206 ⟨(FrM.put (FrM.put (FrM.put FrM.rf (by decide)) (by decide)) (by decide)), (fun j hj => ((sv_n _ (fun h9 => hj (by rw [h9.2]; decide))).trans ((sv_n _ (fun h9 => hj (by rw [h9.2]; decide))).trans (sv_n _ (fun h9 => hj (by rw [h9.2]; decide)))))), (by omega), (by omega), (by omega), (by omega)⟩
          · refine lv_iload_n hx hb dX12_signs_80 rfl (lv_at hl 2 rfl) ?_
            refine lv_bipush (v := iv 41) hx hb dX12_signs_81 rfl ?_
            refine xb_icmp_eq (tgt := 188) hx hb (by unfold ir; omega) (by unfold ir; omega) dX12_signs_83 (by decide) (fun c_83 => ?_) (fun c_83 => ?_)
            · refine lv_iconst (v := iv 1) hx hb dX12_signs_188 rfl ?_
              refine lv_goto (tgt := 193) hx hb dX12_signs_189 (by decide) ?_
              refine lv_istore_n (lv' := [(3, .int (iv 1)), (2, .int (iv r_9)), (0, .ref (oP ω 111)), (1, .int (iv x1))]) hx hb dX12_signs_193 rfl hl (by decide) rfl (fun ls hl => ?_)
              refine lv_iload_n hx hb dX12_signs_194 rfl (lv_at hl 0 rfl) ?_
              refine xb_if_ne (tgt := 206) hx hb (x := 1) (by unfold ir; omega) dX12_signs_195 (by decide) (fun c_195 => ?_) (fun c_195 => absurd c_195 (by decide))
              have e_594 : (sv (sv (sv μ 111 8 3) 111 6 ((μ.1 111 6) + 1)) 111 13 x1).1 111 6 = (μ.1 111 6) + 1 := ((sv_n _ (by decide)).trans (sv_s _ _ _ _))
              have e_595 : (sv (sv (sv μ 111 8 3) 111 6 ((μ.1 111 6) + 1)) 111 13 x1).1 111 6 = (μ.1 111 6) + 1 := ((sv_n _ (by decide)).trans (sv_s _ _ _ _))
              have e_596 : (sv (sv (sv μ 111 8 3) 111 6 ((μ.1 111 6) + 1)) 111 13 x1).1 111 8 = 3 := ((sv_n _ (by decide)).trans ((sv_n _ (by decide)).trans (sv_s _ _ _ _)))
              have e_597 : wr (sv (sv (sv μ 111 8 3) 111 6 ((μ.1 111 6) + 1)) 111 13 x1) = wr μ := ((wr_cg (sv_n _ (by decide))).trans ((wr_cg (sv_n _ (by decide))).trans (wr_cg (sv_n _ (by decide)))))
              have e_598 : bd (sv (sv (sv μ 111 8 3) 111 6 ((μ.1 111 6) + 1)) 111 13 x1) = bd μ := ((bd_cg (sv_n _ (by decide)) (sv_n _ (by decide)) (sv_n _ (by decide))).trans ((bd_cg (sv_n _ (by decide)) (sv_n _ (by decide)) (sv_n _ (by decide))).trans (bd_cg (sv_n _ (by decide)) (sv_n _ (by decide)) (sv_n _ (by decide)))))
              have e_599 : wr (sv (sv (sv μ 111 8 3) 111 6 ((μ.1 111 6) + 1)) 111 13 x1) = wr μ := ((wr_cg (sv_n _ (by decide))).trans ((wr_cg (sv_n _ (by decide))).trans (wr_cg (sv_n _ (by decide)))))
              have e_600 : nn (sv (sv (sv μ 111 8 3) 111 6 ((μ.1 111 6) + 1)) 111 13 x1) = nn μ := ((nn_cg (sv_n _ (by decide)) (sv_n _ (by decide))).trans ((nn_cg (sv_n _ (by decide)) (sv_n _ (by decide))).trans (nn_cg (sv_n _ (by decide)) (sv_n _ (by decide)))))
              exact xr_v G hret hlk dX12_signs_206 ⟨(FrM.put (FrM.put (FrM.put FrM.rf (by decide)) (by decide)) (by decide)), (fun j hj => ((sv_n _ (fun h9 => hj (by rw [h9.2]; decide))).trans ((sv_n _ (fun h9 => hj (by rw [h9.2]; decide))).trans (sv_n _ (fun h9 => hj (by rw [h9.2]; decide)))))), (by omega), (by omega), (by omega), (by omega)⟩
            · refine lv_iload_n hx hb dX12_signs_86 rfl (lv_at hl 2 rfl) ?_
              refine lv_bipush (v := iv 123) hx hb dX12_signs_87 rfl ?_
              refine xb_icmp_eq (tgt := 188) hx hb (by unfold ir; omega) (by unfold ir; omega) dX12_signs_89 (by decide) (fun c_89 => ?_) (fun c_89 => ?_)
              · refine lv_iconst (v := iv 1) hx hb dX12_signs_188 rfl ?_
                refine lv_goto (tgt := 193) hx hb dX12_signs_189 (by decide) ?_
                refine lv_istore_n (lv' := [(3, .int (iv 1)), (2, .int (iv r_9)), (0, .ref (oP ω 111)), (1, .int (iv x1))]) hx hb dX12_signs_193 rfl hl (by decide) rfl (fun ls hl => ?_)
                refine lv_iload_n hx hb dX12_signs_194 rfl (lv_at hl 0 rfl) ?_
                refine xb_if_ne (tgt := 206) hx hb (x := 1) (by unfold ir; omega) dX12_signs_195 (by decide) (fun c_195 => ?_) (fun c_195 => absurd c_195 (by decide))
                have e_601 : (sv (sv (sv μ 111 8 3) 111 6 ((μ.1 111 6) + 1)) 111 13 x1).1 111 6 = (μ.1 111 6) + 1 := ((sv_n _ (by decide)).trans (sv_s _ _ _ _))
                have e_602 : (sv (sv (sv μ 111 8 3) 111 6 ((μ.1 111 6) + 1)) 111 13 x1).1 111 6 = (μ.1 111 6) + 1 := ((sv_n _ (by decide)).trans (sv_s _ _ _ _))
                have e_603 : (sv (sv (sv μ 111 8 3) 111 6 ((μ.1 111 6) + 1)) 111 13 x1).1 111 8 = 3 := ((sv_n _ (by decide)).trans ((sv_n _ (by decide)).trans (sv_s _ _ _ _)))
                have e_604 : wr (sv (sv (sv μ 111 8 3) 111 6 ((μ.1 111 6) + 1)) 111 13 x1) = wr μ := ((wr_cg (sv_n _ (by decide))).trans ((wr_cg (sv_n _ (by decide))).trans (wr_cg (sv_n _ (by decide)))))
                have e_605 : bd (sv (sv (sv μ 111 8 3) 111 6 ((μ.1 111 6) + 1)) 111 13 x1) = bd μ := ((bd_cg (sv_n _ (by decide)) (sv_n _ (by decide)) (sv_n _ (by decide))).trans ((bd_cg (sv_n _ (by decide)) (sv_n _ (by decide)) (sv_n _ (by decide))).trans (bd_cg (sv_n _ (by decide)) (sv_n _ (by decide)) (sv_n _ (by decide)))))
                have e_606 : wr (sv (sv (sv μ 111 8 3) 111 6 ((μ.1 111 6) + 1)) 111 13 x1) = wr μ := ((wr_cg (sv_n _ (by decide))).trans ((wr_cg (sv_n _ (by decide))).trans (wr_cg (sv_n _ (by decide)))))
                have e_607 : nn (sv (sv (sv μ 111 8 3) 111 6 ((μ.1 111 6) + 1)) 111 13 x1) = nn μ := ((nn_cg (sv_n _ (by decide)) (sv_n _ (by decide))).trans ((nn_cg (sv_n _ (by decide)) (sv_n _ (by decide))).trans (nn_cg (sv_n _ (by decide)) (sv_n _ (by decide)))))
                exact xr_v G hret hlk dX12_signs_206 ⟨(FrM.put (FrM.put (FrM.put FrM.rf (by decide)) (by decide)) (by decide)), (fun j hj => ((sv_n _ (fun h9 => hj (by rw [h9.2]; decide))).trans ((sv_n _ (fun h9 => hj (by rw [h9.2]; decide))).trans (sv_n _ (fun h9 => hj (by rw [h9.2]; decide)))))), (by omega), (by omega), (by omega), (by omega)⟩
              · refine lv_iload_n hx hb dX12_signs_92 rfl (lv_at hl 2 rfl) ?_
                refine lv_bipush (v := iv 125) hx hb dX12_signs_93 rfl ?_
                refine xb_icmp_eq (tgt := 188) hx hb (by unfold ir; omega) (by unfold ir; omega) dX12_signs_95 (by decide) (fun c_95 => ?_) (fun c_95 => ?_)
                · refine lv_iconst (v := iv 1) hx hb dX12_signs_188 rfl ?_
                  refine lv_goto (tgt := 193) hx hb dX12_signs_189 (by decide) ?_
                  refine lv_istore_n (lv' := [(3, .int (iv 1)), (2, .int (iv r_9)), (0, .ref (oP ω 111)), (1, .int (iv x1))]) hx hb dX12_signs_193 rfl hl (by decide) rfl (fun ls hl => ?_)
                  refine lv_iload_n hx hb dX12_signs_194 rfl (lv_at hl 0 rfl) ?_
                  refine xb_if_ne (tgt := 206) hx hb (x := 1) (by unfold ir; omega) dX12_signs_195 (by decide) (fun c_195 => ?_) (fun c_195 => absurd c_195 (by decide))
                  have e_608 : (sv (sv (sv μ 111 8 3) 111 6 ((μ.1 111 6) + 1)) 111 13 x1).1 111 6 = (μ.1 111 6) + 1 := ((sv_n _ (by decide)).trans (sv_s _ _ _ _))
                  have e_609 : (sv (sv (sv μ 111 8 3) 111 6 ((μ.1 111 6) + 1)) 111 13 x1).1 111 6 = (μ.1 111 6) + 1 := ((sv_n _ (by decide)).trans (sv_s _ _ _ _))
                  have e_610 : (sv (sv (sv μ 111 8 3) 111 6 ((μ.1 111 6) + 1)) 111 13 x1).1 111 8 = 3 := ((sv_n _ (by decide)).trans ((sv_n _ (by decide)).trans (sv_s _ _ _ _)))
                  have e_611 : wr (sv (sv (sv μ 111 8 3) 111 6 ((μ.1 111 6) + 1)) 111 13 x1) = wr μ := ((wr_cg (sv_n _ (by decide))).trans ((wr_cg (sv_n _ (by decide))).trans (wr_cg (sv_n _ (by decide)))))
                  have e_612 : bd (sv (sv (sv μ 111 8 3) 111 6 ((μ.1 111 6) + 1)) 111 13 x1) = bd μ := ((bd_cg (sv_n _ (by decide)) (sv_n _ (by decide)) (sv_n _ (by decide))).trans ((bd_cg (sv_n _ (by decide)) (sv_n _ (by decide)) (sv_n _ (by decide))).trans (bd_cg (sv_n _ (by decide)) (sv_n _ (by decide)) (sv_n _ (by decide)))))
                  have e_613 : wr (sv (sv (sv μ 111 8 3) 111 6 ((μ.1 111 6) + 1)) 111 13 x1) = wr μ := ((wr_cg (sv_n _ (by decide))).trans ((wr_cg (sv_n _ (by decide))).trans (wr_cg (sv_n _ (by decide)))))
                  have e_614 : nn (sv (sv (sv μ 111 8 3) 111 6 ((μ.1 111 6) + 1)) 111 13 x1) = nn μ := ((nn_cg (sv_n _ (by decide)) (sv_n _ (by decide))).trans ((nn_cg (sv_n _ (by decide)) (sv_n _ (by decide))).trans (nn_cg (sv_n _ (by decide)) (sv_n _ (by decide)))))
                  exact xr_v G hret hlk dX12_signs_206 ⟨(FrM.put (FrM.put (FrM.put FrM.rf (by decide)) (by decide)) (by decide)), (fun j hj => ((sv_n _ (fun h9 => hj (by rw [h9.2]; decide))).trans ((sv_n _ (fun h9 => hj (by rw [h9.2]; decide))).trans (sv_n _ (fun h9 => hj (by rw [h9.2]; decide)))))), (by omega), (by omega), (by omega), (by omega)⟩
                · refine lv_iload_n hx hb dX12_signs_98 rfl (lv_at hl 2 rfl) ?_
                  refine lv_bipush (v := iv 91) hx hb dX12_signs_99 rfl ?_
                  refine xb_icmp_eq (tgt := 188) hx hb (by unfold ir; omega) (by unfold ir; omega) dX12_signs_101 (by decide) (fun c_101 => ?_) (fun c_101 => ?_)
                  · refine lv_iconst (v := iv 1) hx hb dX12_signs_188 rfl ?_
                    refine lv_goto (tgt := 193) hx hb dX12_signs_189 (by decide) ?_
                    refine lv_istore_n (lv' := [(3, .int (iv 1)), (2, .int (iv r_9)), (0, .ref (oP ω 111)), (1, .int (iv x1))]) hx hb dX12_signs_193 rfl hl (by decide) rfl (fun ls hl => ?_)
                    refine lv_iload_n hx hb dX12_signs_194 rfl (lv_at hl 0 rfl) ?_
                    refine xb_if_ne (tgt := 206) hx hb (x := 1) (by unfold ir; omega) dX12_signs_195 (by decide) (fun c_195 => ?_) (fun c_195 => absurd c_195 (by decide))
                    have e_615 : (sv (sv (sv μ 111 8 3) 111 6 ((μ.1 111 6) + 1)) 111 13 x1).1 111 6 = (μ.1 111 6) + 1 := ((sv_n _ (by decide)).trans (sv_s _ _ _ _))
                    have e_616 : (sv (sv (sv μ 111 8 3) 111 6 ((μ.1 111 6) + 1)) 111 13 x1).1 111 6 = (μ.1 111 6) + 1 := ((sv_n _ (by decide)).trans (sv_s _ _ _ _))
                    have e_617 : (sv (sv (sv μ 111 8 3) 111 6 ((μ.1 111 6) + 1)) 111 13 x1).1 111 8 = 3 := ((sv_n _ (by decide)).trans ((sv_n _ (by decide)).trans (sv_s _ _ _ _)))
                    have e_618 : wr (sv (sv (sv μ 111 8 3) 111 6 ((μ.1 111 6) + 1)) 111 13 x1) = wr μ := ((wr_cg (sv_n _ (by decide))).trans ((wr_cg (sv_n _ (by decide))).trans (wr_cg (sv_n _ (by decide)))))
                    have e_619 : bd (sv (sv (sv μ 111 8 3) 111 6 ((μ.1 111 6) + 1)) 111 13 x1) = bd μ := ((bd_cg (sv_n _ (by decide)) (sv_n _ (by decide)) (sv_n _ (by decide))).trans ((bd_cg (sv_n _ (by decide)) (sv_n _ (by decide)) (sv_n _ (by decide))).trans (bd_cg (sv_n _ (by decide)) (sv_n _ (by decide)) (sv_n _ (by decide)))))
                    have e_620 : wr (sv (sv (sv μ 111 8 3) 111 6 ((μ.1 111 6) + 1)) 111 13 x1) = wr μ := ((wr_cg (sv_n _ (by decide))).trans ((wr_cg (sv_n _ (by decide))).trans (wr_cg (sv_n _ (by decide)))))
                    have e_621 : nn (sv (sv (sv μ 111 8 3) 111 6 ((μ.1 111 6) + 1)) 111 13 x1) = nn μ := ((nn_cg (sv_n _ (by decide)) (sv_n _ (by decide))).trans ((nn_cg (sv_n _ (by decide)) (sv_n _ (by decide))).trans (nn_cg (sv_n _ (by decide)) (sv_n _ (by decide)))))
                    exact xr_v G hret hlk dX12_signs_206 ⟨(FrM.put (FrM.put (FrM.put FrM.rf (by decide)) (by decide)) (by decide)), (fun j hj => ((sv_n _ (fun h9 => hj (by rw [h9.2]; decide))).trans ((sv_n _ (fun h9 => hj (by rw [h9.2]; decide))).trans (sv_n _ (fun h9 => hj (by rw [h9.2]; decide)))))), (by omega), (by omega), (by omega), (by omega)⟩
                  · refine lv_iload_n hx hb dX12_signs_104 rfl (lv_at hl 2 rfl) ?_
                    refine lv_bipush (v := iv 93) hx hb dX12_signs_105 rfl ?_
                    refine xb_icmp_eq (tgt := 188) hx hb (by unfold ir; omega) (by unfold ir; omega) dX12_signs_107 (by decide) (fun c_107 => ?_) (fun c_107 => ?_)
                    · refine lv_iconst (v := iv 1) hx hb dX12_signs_188 rfl ?_
                      refine lv_goto (tgt := 193) hx hb dX12_signs_189 (by decide) ?_
                      refine lv_istore_n (lv' := [(3, .int (iv 1)), (2, .int (iv r_9)), (0, .ref (oP ω 111)), (1, .int (iv x1))]) hx hb dX12_signs_193 rfl hl (by decide) rfl (fun ls hl => ?_)
                      refine lv_iload_n hx hb dX12_signs_194 rfl (lv_at hl 0 rfl) ?_
                      refine xb_if_ne (tgt := 206) hx hb (x := 1) (by unfold ir; omega) dX12_signs_195 (by decide) (fun c_195 => ?_) (fun c_195 => absurd c_195 (by decide))
                      have e_622 : (sv (sv (sv μ 111 8 3) 111 6 ((μ.1 111 6) + 1)) 111 13 x1).1 111 6 = (μ.1 111 6) + 1 := ((sv_n _ (by decide)).trans (sv_s _ _ _ _))
                      have e_623 : (sv (sv (sv μ 111 8 3) 111 6 ((μ.1 111 6) + 1)) 111 13 x1).1 111 6 = (μ.1 111 6) + 1 := ((sv_n _ (by decide)).trans (sv_s _ _ _ _))
                      have e_624 : (sv (sv (sv μ 111 8 3) 111 6 ((μ.1 111 6) + 1)) 111 13 x1).1 111 8 = 3 := ((sv_n _ (by decide)).trans ((sv_n _ (by decide)).trans (sv_s _ _ _ _)))
                      have e_625 : wr (sv (sv (sv μ 111 8 3) 111 6 ((μ.1 111 6) + 1)) 111 13 x1) = wr μ := ((wr_cg (sv_n _ (by decide))).trans ((wr_cg (sv_n _ (by decide))).trans (wr_cg (sv_n _ (by decide)))))
                      have e_626 : bd (sv (sv (sv μ 111 8 3) 111 6 ((μ.1 111 6) + 1)) 111 13 x1) = bd μ := ((bd_cg (sv_n _ (by decide)) (sv_n _ (by decide)) (sv_n _ (by decide))).trans ((bd_cg (sv_n _ (by decide)) (sv_n _ (by decide)) (sv_n _ (by decide))).trans (bd_cg (sv_n _ (by decide)) (sv_n _ (by decide)) (sv_n _ (by decide)))))
                      have e_627 : wr (sv (sv (sv μ 111 8 3) 111 6 ((μ.1 111 6) + 1)) 111 13 x1) = wr μ := ((wr_cg (sv_n _ (by decide))).trans ((wr_cg (sv_n _ (by decide))).trans (wr_cg (sv_n _ (by decide)))))
                      have e_628 : nn (sv (sv (sv μ 111 8 3) 111 6 ((μ.1 111 6) + 1)) 111 13 x1) = nn μ := ((nn_cg (sv_n _ (by decide)) (sv_n _ (by decide))).trans ((nn_cg (sv_n _ (by decide)) (sv_n _ (by decide))).trans (nn_cg (sv_n _ (by decide)) (sv_n _ (by decide)))))
                      exact xr_v G hret hlk dX12_signs_206 ⟨(FrM.put (FrM.put (FrM.put FrM.rf (by decide)) (by decide)) (by decide)), (fun j hj => ((sv_n _ (fun h9 => hj (by rw [h9.2]; decide))).trans ((sv_n _ (fun h9 => hj (by rw [h9.2]; decide))).trans (sv_n _ (fun h9 => hj (by rw [h9.2]; decide)))))), (by omega), (by omega), (by omega), (by omega)⟩
                    · refine lv_iload_n hx hb dX12_signs_110 rfl (lv_at hl 2 rfl) ?_
                      refine lv_bipush (v := iv 44) hx hb dX12_signs_111 rfl ?_
                      refine xb_icmp_eq (tgt := 188) hx hb (by unfold ir; omega) (by unfold ir; omega) dX12_signs_113 (by decide) (fun c_113 => ?_) (fun c_113 => ?_)
                      · refine lv_iconst (v := iv 1) hx hb dX12_signs_188 rfl ?_
                        refine lv_goto (tgt := 193) hx hb dX12_signs_189 (by decide) ?_
                        refine lv_istore_n (lv' := [(3, .int (iv 1)), (2, .int (iv r_9)), (0, .ref (oP ω 111)), (1, .int (iv x1))]) hx hb dX12_signs_193 rfl hl (by decide) rfl (fun ls hl => ?_)
                        refine lv_iload_n hx hb dX12_signs_194 rfl (lv_at hl 0 rfl) ?_
                        refine xb_if_ne (tgt := 206) hx hb (x := 1) (by unfold ir; omega) dX12_signs_195 (by decide) (fun c_195 => ?_) (fun c_195 => absurd c_195 (by decide))
                        have e_629 : (sv (sv (sv μ 111 8 3) 111 6 ((μ.1 111 6) + 1)) 111 13 x1).1 111 6 = (μ.1 111 6) + 1 := ((sv_n _ (by decide)).trans (sv_s _ _ _ _))
                        have e_630 : (sv (sv (sv μ 111 8 3) 111 6 ((μ.1 111 6) + 1)) 111 13 x1).1 111 6 = (μ.1 111 6) + 1 := ((sv_n _ (by decide)).trans (sv_s _ _ _ _))
                        have e_631 : (sv (sv (sv μ 111 8 3) 111 6 ((μ.1 111 6) + 1)) 111 13 x1).1 111 8 = 3 := ((sv_n _ (by decide)).trans ((sv_n _ (by decide)).trans (sv_s _ _ _ _)))
                        have e_632 : wr (sv (sv (sv μ 111 8 3) 111 6 ((μ.1 111 6) + 1)) 111 13 x1) = wr μ := ((wr_cg (sv_n _ (by decide))).trans ((wr_cg (sv_n _ (by decide))).trans (wr_cg (sv_n _ (by decide)))))
                        have e_633 : bd (sv (sv (sv μ 111 8 3) 111 6 ((μ.1 111 6) + 1)) 111 13 x1) = bd μ := ((bd_cg (sv_n _ (by decide)) (sv_n _ (by decide)) (sv_n _ (by decide))).trans ((bd_cg (sv_n _ (by decide)) (sv_n _ (by decide)) (sv_n _ (by decide))).trans (bd_cg (sv_n _ (by decide)) (sv_n _ (by decide)) (sv_n _ (by decide)))))
                        have e_634 : wr (sv (sv (sv μ 111 8 3) 111 6 ((μ.1 111 6) + 1)) 111 13 x1) = wr μ := ((wr_cg (sv_n _ (by decide))).trans ((wr_cg (sv_n _ (by decide))).trans (wr_cg (sv_n _ (by decide)))))
                        have e_635 : nn (sv (sv (sv μ 111 8 3) 111 6 ((μ.1 111 6) + 1)) 111 13 x1) = nn μ := ((nn_cg (sv_n _ (by decide)) (sv_n _ (by decide))).trans ((nn_cg (sv_n _ (by decide)) (sv_n _ (by decide))).trans (nn_cg (sv_n _ (by decide)) (sv_n _ (by decide)))))
                        exact xr_v G hret hlk dX12_signs_206 ⟨(FrM.put (FrM.put (FrM.put FrM.rf (by decide)) (by decide)) (by decide)), (fun j hj => ((sv_n _ (fun h9 => hj (by rw [h9.2]; decide))).trans ((sv_n _ (fun h9 => hj (by rw [h9.2]; decide))).trans (sv_n _ (fun h9 => hj (by rw [h9.2]; decide)))))), (by omega), (by omega), (by omega), (by omega)⟩
                      · refine lv_iload_n hx hb dX12_signs_116 rfl (lv_at hl 2 rfl) ?_
                        refine lv_bipush (v := iv 59) hx hb dX12_signs_117 rfl ?_
                        refine xb_icmp_eq (tgt := 188) hx hb (by unfold ir; omega) (by unfold ir; omega) dX12_signs_119 (by decide) (fun c_119 => ?_) (fun c_119 => ?_)
                        · refine lv_iconst (v := iv 1) hx hb dX12_signs_188 rfl ?_
                          refine lv_goto (tgt := 193) hx hb dX12_signs_189 (by decide) ?_
                          refine lv_istore_n (lv' := [(3, .int (iv 1)), (2, .int (iv r_9)), (0, .ref (oP ω 111)), (1, .int (iv x1))]) hx hb dX12_signs_193 rfl hl (by decide) rfl (fun ls hl => ?_)
                          refine lv_iload_n hx hb dX12_signs_194 rfl (lv_at hl 0 rfl) ?_
                          refine xb_if_ne (tgt := 206) hx hb (x := 1) (by unfold ir; omega) dX12_signs_195 (by decide) (fun c_195 => ?_) (fun c_195 => absurd c_195 (by decide))
                          have e_636 : (sv (sv (sv μ 111 8 3) 111 6 ((μ.1 111 6) + 1)) 111 13 x1).1 111 6 = (μ.1 111 6) + 1 := ((sv_n _ (by decide)).trans (sv_s _ _ _ _))
                          have e_637 : (sv (sv (sv μ 111 8 3) 111 6 ((μ.1 111 6) + 1)) 111 13 x1).1 111 6 = (μ.1 111 6) + 1 := ((sv_n _ (by decide)).trans (sv_s _ _ _ _))
                          have e_638 : (sv (sv (sv μ 111 8 3) 111 6 ((μ.1 111 6) + 1)) 111 13 x1).1 111 8 = 3 := ((sv_n _ (by decide)).trans ((sv_n _ (by decide)).trans (sv_s _ _ _ _)))
                          have e_639 : wr (sv (sv (sv μ 111 8 3) 111 6 ((μ.1 111 6) + 1)) 111 13 x1) = wr μ := ((wr_cg (sv_n _ (by decide))).trans ((wr_cg (sv_n _ (by decide))).trans (wr_cg (sv_n _ (by decide)))))
                          have e_640 : bd (sv (sv (sv μ 111 8 3) 111 6 ((μ.1 111 6) + 1)) 111 13 x1) = bd μ := ((bd_cg (sv_n _ (by decide)) (sv_n _ (by decide)) (sv_n _ (by decide))).trans ((bd_cg (sv_n _ (by decide)) (sv_n _ (by decide)) (sv_n _ (by decide))).trans (bd_cg (sv_n _ (by decide)) (sv_n _ (by decide)) (sv_n _ (by decide)))))
                          have e_641 : wr (sv (sv (sv μ 111 8 3) 111 6 ((μ.1 111 6) + 1)) 111 13 x1) = wr μ := ((wr_cg (sv_n _ (by decide))).trans ((wr_cg (sv_n _ (by decide))).trans (wr_cg (sv_n _ (by decide)))))
                          have e_642 : nn (sv (sv (sv μ 111 8 3) 111 6 ((μ.1 111 6) + 1)) 111 13 x1) = nn μ := ((nn_cg (sv_n _ (by decide)) (sv_n _ (by decide))).trans ((nn_cg (sv_n _ (by decide)) (sv_n _ (by decide))).trans (nn_cg (sv_n _ (by decide)) (sv_n _ (by decide)))))
                          exact xr_v G hret hlk dX12_signs_206 ⟨(FrM.put (FrM.put (FrM.put FrM.rf (by decide)) (by decide)) (by decide)), (fun j hj => ((sv_n _ (fun h9 => hj (by rw [h9.2]; decide))).trans ((sv_n _ (fun h9 => hj (by rw [h9.2]; decide))).trans (sv_n _ (fun h9 => hj (by rw [h9.2]; decide)))))), (by omega), (by omega), (by omega), (by omega)⟩
                        · refine lv_iload_n hx hb dX12_signs_122 rfl (lv_at hl 2 rfl) ?_
                          refine lv_bipush (v := iv 46) hx hb dX12_signs_123 rfl ?_
                          refine xb_icmp_eq (tgt := 188) hx hb (by unfold ir; omega) (by unfold ir; omega) dX12_signs_125 (by decide) (fun c_125 => ?_) (fun c_125 => ?_)
                          · refine lv_iconst (v := iv 1) hx hb dX12_signs_188 rfl ?_
                            refine lv_goto (tgt := 193) hx hb dX12_signs_189 (by decide) ?_
                            refine lv_istore_n (lv' := [(3, .int (iv 1)), (2, .int (iv r_9)), (0, .ref (oP ω 111)), (1, .int (iv x1))]) hx hb dX12_signs_193 rfl hl (by decide) rfl (fun ls hl => ?_)
                            refine lv_iload_n hx hb dX12_signs_194 rfl (lv_at hl 0 rfl) ?_
                            refine xb_if_ne (tgt := 206) hx hb (x := 1) (by unfold ir; omega) dX12_signs_195 (by decide) (fun c_195 => ?_) (fun c_195 => absurd c_195 (by decide))
                            have e_643 : (sv (sv (sv μ 111 8 3) 111 6 ((μ.1 111 6) + 1)) 111 13 x1).1 111 6 = (μ.1 111 6) + 1 := ((sv_n _ (by decide)).trans (sv_s _ _ _ _))
                            have e_644 : (sv (sv (sv μ 111 8 3) 111 6 ((μ.1 111 6) + 1)) 111 13 x1).1 111 6 = (μ.1 111 6) + 1 := ((sv_n _ (by decide)).trans (sv_s _ _ _ _))
                            have e_645 : (sv (sv (sv μ 111 8 3) 111 6 ((μ.1 111 6) + 1)) 111 13 x1).1 111 8 = 3 := ((sv_n _ (by decide)).trans ((sv_n _ (by decide)).trans (sv_s _ _ _ _)))
                            have e_646 : wr (sv (sv (sv μ 111 8 3) 111 6 ((μ.1 111 6) + 1)) 111 13 x1) = wr μ := ((wr_cg (sv_n _ (by decide))).trans ((wr_cg (sv_n _ (by decide))).trans (wr_cg (sv_n _ (by decide)))))
                            have e_647 : bd (sv (sv (sv μ 111 8 3) 111 6 ((μ.1 111 6) + 1)) 111 13 x1) = bd μ := ((bd_cg (sv_n _ (by decide)) (sv_n _ (by decide)) (sv_n _ (by decide))).trans ((bd_cg (sv_n _ (by decide)) (sv_n _ (by decide)) (sv_n _ (by decide))).trans (bd_cg (sv_n _ (by decide)) (sv_n _ (by decide)) (sv_n _ (by decide)))))
                            have e_648 : wr (sv (sv (sv μ 111 8 3) 111 6 ((μ.1 111 6) + 1)) 111 13 x1) = wr μ := ((wr_cg (sv_n _ (by decide))).trans ((wr_cg (sv_n _ (by decide))).trans (wr_cg (sv_n _ (by decide)))))
                            have e_649 : nn (sv (sv (sv μ 111 8 3) 111 6 ((μ.1 111 6) + 1)) 111 13 x1) = nn μ := ((nn_cg (sv_n _ (by decide)) (sv_n _ (by decide))).trans ((nn_cg (sv_n _ (by decide)) (sv_n _ (by decide))).trans (nn_cg (sv_n _ (by decide)) (sv_n _ (by decide)))))
                            exact xr_v G hret hlk dX12_signs_206 ⟨(FrM.put (FrM.put (FrM.put FrM.rf (by decide)) (by decide)) (by decide)), (fun j hj => ((sv_n _ (fun h9 => hj (by rw [h9.2]; decide))).trans ((sv_n _ (fun h9 => hj (by rw [h9.2]; decide))).trans (sv_n _ (fun h9 => hj (by rw [h9.2]; decide)))))), (by omega), (by omega), (by omega), (by omega)⟩
                          · refine lv_iload_n hx hb dX12_signs_128 rfl (lv_at hl 2 rfl) ?_
                            refine lv_bipush (v := iv 38) hx hb dX12_signs_129 rfl ?_
                            refine xb_icmp_eq (tgt := 188) hx hb (by unfold ir; omega) (by unfold ir; omega) dX12_signs_131 (by decide) (fun c_131 => ?_) (fun c_131 => ?_)
                            · refine lv_iconst (v := iv 1) hx hb dX12_signs_188 rfl ?_
                              refine lv_goto (tgt := 193) hx hb dX12_signs_189 (by decide) ?_
                              refine lv_istore_n (lv' := [(3, .int (iv 1)), (2, .int (iv r_9)), (0, .ref (oP ω 111)), (1, .int (iv x1))]) hx hb dX12_signs_193 rfl hl (by decide) rfl (fun ls hl => ?_)
                              refine lv_iload_n hx hb dX12_signs_194 rfl (lv_at hl 0 rfl) ?_
                              refine xb_if_ne (tgt := 206) hx hb (x := 1) (by unfold ir; omega) dX12_signs_195 (by decide) (fun c_195 => ?_) (fun c_195 => absurd c_195 (by decide))
                              have e_650 : (sv (sv (sv μ 111 8 3) 111 6 ((μ.1 111 6) + 1)) 111 13 x1).1 111 6 = (μ.1 111 6) + 1 := ((sv_n _ (by decide)).trans (sv_s _ _ _ _))
                              have e_651 : (sv (sv (sv μ 111 8 3) 111 6 ((μ.1 111 6) + 1)) 111 13 x1).1 111 6 = (μ.1 111 6) + 1 := ((sv_n _ (by decide)).trans (sv_s _ _ _ _))
                              have e_652 : (sv (sv (sv μ 111 8 3) 111 6 ((μ.1 111 6) + 1)) 111 13 x1).1 111 8 = 3 := ((sv_n _ (by decide)).trans ((sv_n _ (by decide)).trans (sv_s _ _ _ _)))
                              have e_653 : wr (sv (sv (sv μ 111 8 3) 111 6 ((μ.1 111 6) + 1)) 111 13 x1) = wr μ := ((wr_cg (sv_n _ (by decide))).trans ((wr_cg (sv_n _ (by decide))).trans (wr_cg (sv_n _ (by decide)))))
                              have e_654 : bd (sv (sv (sv μ 111 8 3) 111 6 ((μ.1 111 6) + 1)) 111 13 x1) = bd μ := ((bd_cg (sv_n _ (by decide)) (sv_n _ (by decide)) (sv_n _ (by decide))).trans ((bd_cg (sv_n _ (by decide)) (sv_n _ (by decide)) (sv_n _ (by decide))).trans (bd_cg (sv_n _ (by decide)) (sv_n _ (by decide)) (sv_n _ (by decide)))))
                              have e_655 : wr (sv (sv (sv μ 111 8 3) 111 6 ((μ.1 111 6) + 1)) 111 13 x1) = wr μ := ((wr_cg (sv_n _ (by decide))).trans ((wr_cg (sv_n _ (by decide))).trans (wr_cg (sv_n _ (by decide)))))
                              have e_656 : nn (sv (sv (sv μ 111 8 3) 111 6 ((μ.1 111 6) + 1)) 111 13 x1) = nn μ := ((nn_cg (sv_n _ (by decide)) (sv_n _ (by decide))).trans ((nn_cg (sv_n _ (by decide)) (sv_n _ (by decide))).trans (nn_cg (sv_n _ (by decide)) (sv_n _ (by decide)))))
                              exact xr_v G hret hlk dX12_signs_206 ⟨(FrM.put (FrM.put (FrM.put FrM.rf (by decide)) (by decide)) (by decide)), (fun j hj => ((sv_n _ (fun h9 => hj (by rw [h9.2]; decide))).trans ((sv_n _ (fun h9 => hj (by rw [h9.2]; decide))).trans (sv_n _ (fun h9 => hj (by rw [h9.2]; decide)))))), (by omega), (by omega), (by omega), (by omega)⟩
                            · refine lv_iload_n hx hb dX12_signs_134 rfl (lv_at hl 2 rfl) ?_
                              refine lv_bipush (v := iv 33) hx hb dX12_signs_135 rfl ?_
                              refine xb_icmp_eq (tgt := 188) hx hb (by unfold ir; omega) (by unfold ir; omega) dX12_signs_137 (by decide) (fun c_137 => ?_) (fun c_137 => ?_)
                              · refine lv_iconst (v := iv 1) hx hb dX12_signs_188 rfl ?_
                                refine lv_goto (tgt := 193) hx hb dX12_signs_189 (by decide) ?_
                                refine lv_istore_n (lv' := [(3, .int (iv 1)), (2, .int (iv r_9)), (0, .ref (oP ω 111)), (1, .int (iv x1))]) hx hb dX12_signs_193 rfl hl (by decide) rfl (fun ls hl => ?_)
                                refine lv_iload_n hx hb dX12_signs_194 rfl (lv_at hl 0 rfl) ?_
                                refine xb_if_ne (tgt := 206) hx hb (x := 1) (by unfold ir; omega) dX12_signs_195 (by decide) (fun c_195 => ?_) (fun c_195 => absurd c_195 (by decide))
                                have e_657 : (sv (sv (sv μ 111 8 3) 111 6 ((μ.1 111 6) + 1)) 111 13 x1).1 111 6 = (μ.1 111 6) + 1 := ((sv_n _ (by decide)).trans (sv_s _ _ _ _))
                                have e_658 : (sv (sv (sv μ 111 8 3) 111 6 ((μ.1 111 6) + 1)) 111 13 x1).1 111 6 = (μ.1 111 6) + 1 := ((sv_n _ (by decide)).trans (sv_s _ _ _ _))
                                have e_659 : (sv (sv (sv μ 111 8 3) 111 6 ((μ.1 111 6) + 1)) 111 13 x1).1 111 8 = 3 := ((sv_n _ (by decide)).trans ((sv_n _ (by decide)).trans (sv_s _ _ _ _)))
                                have e_660 : wr (sv (sv (sv μ 111 8 3) 111 6 ((μ.1 111 6) + 1)) 111 13 x1) = wr μ := ((wr_cg (sv_n _ (by decide))).trans ((wr_cg (sv_n _ (by decide))).trans (wr_cg (sv_n _ (by decide)))))
                                have e_661 : bd (sv (sv (sv μ 111 8 3) 111 6 ((μ.1 111 6) + 1)) 111 13 x1) = bd μ := ((bd_cg (sv_n _ (by decide)) (sv_n _ (by decide)) (sv_n _ (by decide))).trans ((bd_cg (sv_n _ (by decide)) (sv_n _ (by decide)) (sv_n _ (by decide))).trans (bd_cg (sv_n _ (by decide)) (sv_n _ (by decide)) (sv_n _ (by decide)))))
                                have e_662 : wr (sv (sv (sv μ 111 8 3) 111 6 ((μ.1 111 6) + 1)) 111 13 x1) = wr μ := ((wr_cg (sv_n _ (by decide))).trans ((wr_cg (sv_n _ (by decide))).trans (wr_cg (sv_n _ (by decide)))))
                                have e_663 : nn (sv (sv (sv μ 111 8 3) 111 6 ((μ.1 111 6) + 1)) 111 13 x1) = nn μ := ((nn_cg (sv_n _ (by decide)) (sv_n _ (by decide))).trans ((nn_cg (sv_n _ (by decide)) (sv_n _ (by decide))).trans (nn_cg (sv_n _ (by decide)) (sv_n _ (by decide)))))
                                exact xr_v G hret hlk dX12_signs_206 ⟨(FrM.put (FrM.put (FrM.put FrM.rf (by decide)) (by decide)) (by decide)), (fun j hj => ((sv_n _ (fun h9 => hj (by rw [h9.2]; decide))).trans ((sv_n _ (fun h9 => hj (by rw [h9.2]; decide))).trans (sv_n _ (fun h9 => hj (by rw [h9.2]; decide)))))), (by omega), (by omega), (by omega), (by omega)⟩
                              · refine lv_iload_n hx hb dX12_signs_140 rfl (lv_at hl 2 rfl) ?_
                                refine lv_bipush (v := iv 61) hx hb dX12_signs_141 rfl ?_
                                refine xb_icmp_eq (tgt := 188) hx hb (by unfold ir; omega) (by unfold ir; omega) dX12_signs_143 (by decide) (fun c_143 => ?_) (fun c_143 => ?_)
                                · refine lv_iconst (v := iv 1) hx hb dX12_signs_188 rfl ?_
                                  refine lv_goto (tgt := 193) hx hb dX12_signs_189 (by decide) ?_
                                  refine lv_istore_n (lv' := [(3, .int (iv 1)), (2, .int (iv r_9)), (0, .ref (oP ω 111)), (1, .int (iv x1))]) hx hb dX12_signs_193 rfl hl (by decide) rfl (fun ls hl => ?_)
                                  refine lv_iload_n hx hb dX12_signs_194 rfl (lv_at hl 0 rfl) ?_
                                  refine xb_if_ne (tgt := 206) hx hb (x := 1) (by unfold ir; omega) dX12_signs_195 (by decide) (fun c_195 => ?_) (fun c_195 => absurd c_195 (by decide))
                                  have e_664 : (sv (sv (sv μ 111 8 3) 111 6 ((μ.1 111 6) + 1)) 111 13 x1).1 111 6 = (μ.1 111 6) + 1 := ((sv_n _ (by decide)).trans (sv_s _ _ _ _))
                                  have e_665 : (sv (sv (sv μ 111 8 3) 111 6 ((μ.1 111 6) + 1)) 111 13 x1).1 111 6 = (μ.1 111 6) + 1 := ((sv_n _ (by decide)).trans (sv_s _ _ _ _))
                                  have e_666 : (sv (sv (sv μ 111 8 3) 111 6 ((μ.1 111 6) + 1)) 111 13 x1).1 111 8 = 3 := ((sv_n _ (by decide)).trans ((sv_n _ (by decide)).trans (sv_s _ _ _ _)))
                                  have e_667 : wr (sv (sv (sv μ 111 8 3) 111 6 ((μ.1 111 6) + 1)) 111 13 x1) = wr μ := ((wr_cg (sv_n _ (by decide))).trans ((wr_cg (sv_n _ (by decide))).trans (wr_cg (sv_n _ (by decide)))))
                                  have e_668 : bd (sv (sv (sv μ 111 8 3) 111 6 ((μ.1 111 6) + 1)) 111 13 x1) = bd μ := ((bd_cg (sv_n _ (by decide)) (sv_n _ (by decide)) (sv_n _ (by decide))).trans ((bd_cg (sv_n _ (by decide)) (sv_n _ (by decide)) (sv_n _ (by decide))).trans (bd_cg (sv_n _ (by decide)) (sv_n _ (by decide)) (sv_n _ (by decide)))))
                                  have e_669 : wr (sv (sv (sv μ 111 8 3) 111 6 ((μ.1 111 6) + 1)) 111 13 x1) = wr μ := ((wr_cg (sv_n _ (by decide))).trans ((wr_cg (sv_n _ (by decide))).trans (wr_cg (sv_n _ (by decide)))))
                                  have e_670 : nn (sv (sv (sv μ 111 8 3) 111 6 ((μ.1 111 6) + 1)) 111 13 x1) = nn μ := ((nn_cg (sv_n _ (by decide)) (sv_n _ (by decide))).trans ((nn_cg (sv_n _ (by decide)) (sv_n _ (by decide))).trans (nn_cg (sv_n _ (by decide)) (sv_n _ (by decide)))))
                                  exact xr_v G hret hlk dX12_signs_206 ⟨(FrM.put (FrM.put (FrM.put FrM.rf (by decide)) (by decide)) (by decide)), (fun j hj => ((sv_n _ (fun h9 => hj (by rw [h9.2]; decide))).trans ((sv_n _ (fun h9 => hj (by rw [h9.2]; decide))).trans (sv_n _ (fun h9 => hj (by rw [h9.2]; decide)))))), (by omega), (by omega), (by omega), (by omega)⟩
                                · refine lv_iload_n hx hb dX12_signs_146 rfl (lv_at hl 2 rfl) ?_
                                  refine lv_bipush (v := iv 60) hx hb dX12_signs_147 rfl ?_
                                  refine xb_icmp_eq (tgt := 188) hx hb (by unfold ir; omega) (by unfold ir; omega) dX12_signs_149 (by decide) (fun c_149 => ?_) (fun c_149 => ?_)
                                  · refine lv_iconst (v := iv 1) hx hb dX12_signs_188 rfl ?_
                                    refine lv_goto (tgt := 193) hx hb dX12_signs_189 (by decide) ?_
                                    refine lv_istore_n (lv' := [(3, .int (iv 1)), (2, .int (iv r_9)), (0, .ref (oP ω 111)), (1, .int (iv x1))]) hx hb dX12_signs_193 rfl hl (by decide) rfl (fun ls hl => ?_)
                                    refine lv_iload_n hx hb dX12_signs_194 rfl (lv_at hl 0 rfl) ?_
                                    refine xb_if_ne (tgt := 206) hx hb (x := 1) (by unfold ir; omega) dX12_signs_195 (by decide) (fun c_195 => ?_) (fun c_195 => absurd c_195 (by decide))
                                    have e_671 : (sv (sv (sv μ 111 8 3) 111 6 ((μ.1 111 6) + 1)) 111 13 x1).1 111 6 = (μ.1 111 6) + 1 := ((sv_n _ (by decide)).trans (sv_s _ _ _ _))
                                    have e_672 : (sv (sv (sv μ 111 8 3) 111 6 ((μ.1 111 6) + 1)) 111 13 x1).1 111 6 = (μ.1 111 6) + 1 := ((sv_n _ (by decide)).trans (sv_s _ _ _ _))
                                    have e_673 : (sv (sv (sv μ 111 8 3) 111 6 ((μ.1 111 6) + 1)) 111 13 x1).1 111 8 = 3 := ((sv_n _ (by decide)).trans ((sv_n _ (by decide)).trans (sv_s _ _ _ _)))
                                    have e_674 : wr (sv (sv (sv μ 111 8 3) 111 6 ((μ.1 111 6) + 1)) 111 13 x1) = wr μ := ((wr_cg (sv_n _ (by decide))).trans ((wr_cg (sv_n _ (by decide))).trans (wr_cg (sv_n _ (by decide)))))
                                    have e_675 : bd (sv (sv (sv μ 111 8 3) 111 6 ((μ.1 111 6) + 1)) 111 13 x1) = bd μ := ((bd_cg (sv_n _ (by decide)) (sv_n _ (by decide)) (sv_n _ (by decide))).trans ((bd_cg (sv_n _ (by decide)) (sv_n _ (by decide)) (sv_n _ (by decide))).trans (bd_cg (sv_n _ (by decide)) (sv_n _ (by decide)) (sv_n _ (by decide)))))
                                    have e_676 : wr (sv (sv (sv μ 111 8 3) 111 6 ((μ.1 111 6) + 1)) 111 13 x1) = wr μ := ((wr_cg (sv_n _ (by decide))).trans ((wr_cg (sv_n _ (by decide))).trans (wr_cg (sv_n _ (by decide)))))
                                    have e_677 : nn (sv (sv (sv μ 111 8 3) 111 6 ((μ.1 111 6) + 1)) 111 13 x1) = nn μ := ((nn_cg (sv_n _ (by decide)) (sv_n _ (by decide))).trans ((nn_cg (sv_n _ (by decide)) (sv_n _ (by decide))).trans (nn_cg (sv_n _ (by decide)) (sv_n _ (by decide)))))
                                    exact xr_v G hret hlk dX12_signs_206 ⟨(FrM.put (FrM.put (FrM.put FrM.rf (by decide)) (by decide)) (by decide)), (fun j hj => ((sv_n _ (fun h9 => hj (by rw [h9.2]; decide))).trans ((sv_n _ (fun h9 => hj (by rw [h9.2]; decide))).trans (sv_n _ (fun h9 => hj (by rw [h9.2]; decide)))))), (by omega), (by omega), (by omega), (by omega)⟩
                                  · refine lv_iload_n hx hb dX12_signs_152 rfl (lv_at hl 2 rfl) ?_
                                    refine lv_bipush (v := iv 62) hx hb dX12_signs_153 rfl ?_
                                    refine xb_icmp_eq (tgt := 188) hx hb (by unfold ir; omega) (by unfold ir; omega) dX12_signs_155 (by decide) (fun c_155 => ?_) (fun c_155 => ?_)
                                    · refine lv_iconst (v := iv 1) hx hb dX12_signs_188 rfl ?_
                                      refine lv_goto (tgt := 193) hx hb dX12_signs_189 (by decide) ?_
                                      refine lv_istore_n (lv' := [(3, .int (iv 1)), (2, .int (iv r_9)), (0, .ref (oP ω 111)), (1, .int (iv x1))]) hx hb dX12_signs_193 rfl hl (by decide) rfl (fun ls hl => ?_)
                                      refine lv_iload_n hx hb dX12_signs_194 rfl (lv_at hl 0 rfl) ?_
                                      refine xb_if_ne (tgt := 206) hx hb (x := 1) (by unfold ir; omega) dX12_signs_195 (by decide) (fun c_195 => ?_) (fun c_195 => absurd c_195 (by decide))
                                      have e_678 : (sv (sv (sv μ 111 8 3) 111 6 ((μ.1 111 6) + 1)) 111 13 x1).1 111 6 = (μ.1 111 6) + 1 := ((sv_n _ (by decide)).trans (sv_s _ _ _ _))
                                      have e_679 : (sv (sv (sv μ 111 8 3) 111 6 ((μ.1 111 6) + 1)) 111 13 x1).1 111 6 = (μ.1 111 6) + 1 := ((sv_n _ (by decide)).trans (sv_s _ _ _ _))
                                      have e_680 : (sv (sv (sv μ 111 8 3) 111 6 ((μ.1 111 6) + 1)) 111 13 x1).1 111 8 = 3 := ((sv_n _ (by decide)).trans ((sv_n _ (by decide)).trans (sv_s _ _ _ _)))
                                      have e_681 : wr (sv (sv (sv μ 111 8 3) 111 6 ((μ.1 111 6) + 1)) 111 13 x1) = wr μ := ((wr_cg (sv_n _ (by decide))).trans ((wr_cg (sv_n _ (by decide))).trans (wr_cg (sv_n _ (by decide)))))
                                      have e_682 : bd (sv (sv (sv μ 111 8 3) 111 6 ((μ.1 111 6) + 1)) 111 13 x1) = bd μ := ((bd_cg (sv_n _ (by decide)) (sv_n _ (by decide)) (sv_n _ (by decide))).trans ((bd_cg (sv_n _ (by decide)) (sv_n _ (by decide)) (sv_n _ (by decide))).trans (bd_cg (sv_n _ (by decide)) (sv_n _ (by decide)) (sv_n _ (by decide)))))
                                      have e_683 : wr (sv (sv (sv μ 111 8 3) 111 6 ((μ.1 111 6) + 1)) 111 13 x1) = wr μ := ((wr_cg (sv_n _ (by decide))).trans ((wr_cg (sv_n _ (by decide))).trans (wr_cg (sv_n _ (by decide)))))
                                      have e_684 : nn (sv (sv (sv μ 111 8 3) 111 6 ((μ.1 111 6) + 1)) 111 13 x1) = nn μ := ((nn_cg (sv_n _ (by decide)) (sv_n _ (by decide))).trans ((nn_cg (sv_n _ (by decide)) (sv_n _ (by decide))).trans (nn_cg (sv_n _ (by decide)) (sv_n _ (by decide)))))
                                      exact xr_v G hret hlk dX12_signs_206 ⟨(FrM.put (FrM.put (FrM.put FrM.rf (by decide)) (by decide)) (by decide)), (fun j hj => ((sv_n _ (fun h9 => hj (by rw [h9.2]; decide))).trans ((sv_n _ (fun h9 => hj (by rw [h9.2]; decide))).trans (sv_n _ (fun h9 => hj (by rw [h9.2]; decide)))))), (by omega), (by omega), (by omega), (by omega)⟩
                                    · refine lv_iload_n hx hb dX12_signs_158 rfl (lv_at hl 2 rfl) ?_
                                      refine lv_bipush (v := iv 43) hx hb dX12_signs_159 rfl ?_
                                      refine xb_icmp_eq (tgt := 188) hx hb (by unfold ir; omega) (by unfold ir; omega) dX12_signs_161 (by decide) (fun c_161 => ?_) (fun c_161 => ?_)
                                      · refine lv_iconst (v := iv 1) hx hb dX12_signs_188 rfl ?_
                                        refine lv_goto (tgt := 193) hx hb dX12_signs_189 (by decide) ?_
                                        refine lv_istore_n (lv' := [(3, .int (iv 1)), (2, .int (iv r_9)), (0, .ref (oP ω 111)), (1, .int (iv x1))]) hx hb dX12_signs_193 rfl hl (by decide) rfl (fun ls hl => ?_)
                                        refine lv_iload_n hx hb dX12_signs_194 rfl (lv_at hl 0 rfl) ?_
                                        refine xb_if_ne (tgt := 206) hx hb (x := 1) (by unfold ir; omega) dX12_signs_195 (by decide) (fun c_195 => ?_) (fun c_195 => absurd c_195 (by decide))
                                        have e_685 : (sv (sv (sv μ 111 8 3) 111 6 ((μ.1 111 6) + 1)) 111 13 x1).1 111 6 = (μ.1 111 6) + 1 := ((sv_n _ (by decide)).trans (sv_s _ _ _ _))
                                        have e_686 : (sv (sv (sv μ 111 8 3) 111 6 ((μ.1 111 6) + 1)) 111 13 x1).1 111 6 = (μ.1 111 6) + 1 := ((sv_n _ (by decide)).trans (sv_s _ _ _ _))
                                        have e_687 : (sv (sv (sv μ 111 8 3) 111 6 ((μ.1 111 6) + 1)) 111 13 x1).1 111 8 = 3 := ((sv_n _ (by decide)).trans ((sv_n _ (by decide)).trans (sv_s _ _ _ _)))
                                        have e_688 : wr (sv (sv (sv μ 111 8 3) 111 6 ((μ.1 111 6) + 1)) 111 13 x1) = wr μ := ((wr_cg (sv_n _ (by decide))).trans ((wr_cg (sv_n _ (by decide))).trans (wr_cg (sv_n _ (by decide)))))
                                        have e_689 : bd (sv (sv (sv μ 111 8 3) 111 6 ((μ.1 111 6) + 1)) 111 13 x1) = bd μ := ((bd_cg (sv_n _ (by decide)) (sv_n _ (by decide)) (sv_n _ (by decide))).trans ((bd_cg (sv_n _ (by decide)) (sv_n _ (by decide)) (sv_n _ (by decide))).trans (bd_cg (sv_n _ (by decide)) (sv_n _ (by decide)) (sv_n _ (by decide)))))
                                        have e_690 : wr (sv (sv (sv μ 111 8 3) 111 6 ((μ.1 111 6) + 1)) 111 13 x1) = wr μ := ((wr_cg (sv_n _ (by decide))).trans ((wr_cg (sv_n _ (by decide))).trans (wr_cg (sv_n _ (by decide)))))
                                        have e_691 : nn (sv (sv (sv μ 111 8 3) 111 6 ((μ.1 111 6) + 1)) 111 13 x1) = nn μ := ((nn_cg (sv_n _ (by decide)) (sv_n _ (by decide))).trans ((nn_cg (sv_n _ (by decide)) (sv_n _ (by decide))).trans (nn_cg (sv_n _ (by decide)) (sv_n _ (by decide)))))
                                        exact xr_v G hret hlk dX12_signs_206 ⟨(FrM.put (FrM.put (FrM.put FrM.rf (by decide)) (by decide)) (by decide)), (fun j hj => ((sv_n _ (fun h9 => hj (by rw [h9.2]; decide))).trans ((sv_n _ (fun h9 => hj (by rw [h9.2]; decide))).trans (sv_n _ (fun h9 => hj (by rw [h9.2]; decide)))))), (by omega), (by omega), (by omega), (by omega)⟩
                                      · refine lv_iload_n hx hb dX12_signs_164 rfl (lv_at hl 2 rfl) ?_
                                        refine lv_bipush (v := iv 45) hx hb dX12_signs_165 rfl ?_
                                        refine xb_icmp_eq (tgt := 188) hx hb (by unfold ir; omega) (by unfold ir; omega) dX12_signs_167 (by decide) (fun c_167 => ?_) (fun c_167 => ?_)
                                        · refine lv_iconst (v := iv 1) hx hb dX12_signs_188 rfl ?_
                                          refine lv_goto (tgt := 193) hx hb dX12_signs_189 (by decide) ?_
                                          refine lv_istore_n (lv' := [(3, .int (iv 1)), (2, .int (iv r_9)), (0, .ref (oP ω 111)), (1, .int (iv x1))]) hx hb dX12_signs_193 rfl hl (by decide) rfl (fun ls hl => ?_)
                                          refine lv_iload_n hx hb dX12_signs_194 rfl (lv_at hl 0 rfl) ?_
                                          refine xb_if_ne (tgt := 206) hx hb (x := 1) (by unfold ir; omega) dX12_signs_195 (by decide) (fun c_195 => ?_) (fun c_195 => absurd c_195 (by decide))
                                          have e_692 : (sv (sv (sv μ 111 8 3) 111 6 ((μ.1 111 6) + 1)) 111 13 x1).1 111 6 = (μ.1 111 6) + 1 := ((sv_n _ (by decide)).trans (sv_s _ _ _ _))
                                          have e_693 : (sv (sv (sv μ 111 8 3) 111 6 ((μ.1 111 6) + 1)) 111 13 x1).1 111 6 = (μ.1 111 6) + 1 := ((sv_n _ (by decide)).trans (sv_s _ _ _ _))
                                          have e_694 : (sv (sv (sv μ 111 8 3) 111 6 ((μ.1 111 6) + 1)) 111 13 x1).1 111 8 = 3 := ((sv_n _ (by decide)).trans ((sv_n _ (by decide)).trans (sv_s _ _ _ _)))
                                          have e_695 : wr (sv (sv (sv μ 111 8 3) 111 6 ((μ.1 111 6) + 1)) 111 13 x1) = wr μ := ((wr_cg (sv_n _ (by decide))).trans ((wr_cg (sv_n _ (by decide))).trans (wr_cg (sv_n _ (by decide)))))
                                          have e_696 : bd (sv (sv (sv μ 111 8 3) 111 6 ((μ.1 111 6) + 1)) 111 13 x1) = bd μ := ((bd_cg (sv_n _ (by decide)) (sv_n _ (by decide)) (sv_n _ (by decide))).trans ((bd_cg (sv_n _ (by decide)) (sv_n _ (by decide)) (sv_n _ (by decide))).trans (bd_cg (sv_n _ (by decide)) (sv_n _ (by decide)) (sv_n _ (by decide)))))
                                          have e_697 : wr (sv (sv (sv μ 111 8 3) 111 6 ((μ.1 111 6) + 1)) 111 13 x1) = wr μ := ((wr_cg (sv_n _ (by decide))).trans ((wr_cg (sv_n _ (by decide))).trans (wr_cg (sv_n _ (by decide)))))
                                          have e_698 : nn (sv (sv (sv μ 111 8 3) 111 6 ((μ.1 111 6) + 1)) 111 13 x1) = nn μ := ((nn_cg (sv_n _ (by decide)) (sv_n _ (by decide))).trans ((nn_cg (sv_n _ (by decide)) (sv_n _ (by decide))).trans (nn_cg (sv_n _ (by decide)) (sv_n _ (by decide)))))
                                          exact xr_v G hret hlk dX12_signs_206 ⟨(FrM.put (FrM.put (FrM.put FrM.rf (by decide)) (by decide)) (by decide)), (fun j hj => ((sv_n _ (fun h9 => hj (by rw [h9.2]; decide))).trans ((sv_n _ (fun h9 => hj (by rw [h9.2]; decide))).trans (sv_n _ (fun h9 => hj (by rw [h9.2]; decide)))))), (by omega), (by omega), (by omega), (by omega)⟩
                                        · refine lv_iload_n hx hb dX12_signs_170 rfl (lv_at hl 2 rfl) ?_
                                          refine lv_bipush (v := iv 42) hx hb dX12_signs_171 rfl ?_
                                          refine xb_icmp_eq (tgt := 188) hx hb (by unfold ir; omega) (by unfold ir; omega) dX12_signs_173 (by decide) (fun c_173 => ?_) (fun c_173 => ?_)
                                          · refine lv_iconst (v := iv 1) hx hb dX12_signs_188 rfl ?_
                                            refine lv_goto (tgt := 193) hx hb dX12_signs_189 (by decide) ?_
                                            refine lv_istore_n (lv' := [(3, .int (iv 1)), (2, .int (iv r_9)), (0, .ref (oP ω 111)), (1, .int (iv x1))]) hx hb dX12_signs_193 rfl hl (by decide) rfl (fun ls hl => ?_)
                                            refine lv_iload_n hx hb dX12_signs_194 rfl (lv_at hl 0 rfl) ?_
                                            refine xb_if_ne (tgt := 206) hx hb (x := 1) (by unfold ir; omega) dX12_signs_195 (by decide) (fun c_195 => ?_) (fun c_195 => absurd c_195 (by decide))
                                            have e_699 : (sv (sv (sv μ 111 8 3) 111 6 ((μ.1 111 6) + 1)) 111 13 x1).1 111 6 = (μ.1 111 6) + 1 := ((sv_n _ (by decide)).trans (sv_s _ _ _ _))
                                            have e_700 : (sv (sv (sv μ 111 8 3) 111 6 ((μ.1 111 6) + 1)) 111 13 x1).1 111 6 = (μ.1 111 6) + 1 := ((sv_n _ (by decide)).trans (sv_s _ _ _ _))
                                            have e_701 : (sv (sv (sv μ 111 8 3) 111 6 ((μ.1 111 6) + 1)) 111 13 x1).1 111 8 = 3 := ((sv_n _ (by decide)).trans ((sv_n _ (by decide)).trans (sv_s _ _ _ _)))
                                            have e_702 : wr (sv (sv (sv μ 111 8 3) 111 6 ((μ.1 111 6) + 1)) 111 13 x1) = wr μ := ((wr_cg (sv_n _ (by decide))).trans ((wr_cg (sv_n _ (by decide))).trans (wr_cg (sv_n _ (by decide)))))
                                            have e_703 : bd (sv (sv (sv μ 111 8 3) 111 6 ((μ.1 111 6) + 1)) 111 13 x1) = bd μ := ((bd_cg (sv_n _ (by decide)) (sv_n _ (by decide)) (sv_n _ (by decide))).trans ((bd_cg (sv_n _ (by decide)) (sv_n _ (by decide)) (sv_n _ (by decide))).trans (bd_cg (sv_n _ (by decide)) (sv_n _ (by decide)) (sv_n _ (by decide)))))
                                            have e_704 : wr (sv (sv (sv μ 111 8 3) 111 6 ((μ.1 111 6) + 1)) 111 13 x1) = wr μ := ((wr_cg (sv_n _ (by decide))).trans ((wr_cg (sv_n _ (by decide))).trans (wr_cg (sv_n _ (by decide)))))
                                            have e_705 : nn (sv (sv (sv μ 111 8 3) 111 6 ((μ.1 111 6) + 1)) 111 13 x1) = nn μ := ((nn_cg (sv_n _ (by decide)) (sv_n _ (by decide))).trans ((nn_cg (sv_n _ (by decide)) (sv_n _ (by decide))).trans (nn_cg (sv_n _ (by decide)) (sv_n _ (by decide)))))
                                            exact xr_v G hret hlk dX12_signs_206 ⟨(FrM.put (FrM.put (FrM.put FrM.rf (by decide)) (by decide)) (by decide)), (fun j hj => ((sv_n _ (fun h9 => hj (by rw [h9.2]; decide))).trans ((sv_n _ (fun h9 => hj (by rw [h9.2]; decide))).trans (sv_n _ (fun h9 => hj (by rw [h9.2]; decide)))))), (by omega), (by omega), (by omega), (by omega)⟩
                                          · refine lv_iload_n hx hb dX12_signs_176 rfl (lv_at hl 2 rfl) ?_
                                            refine lv_bipush (v := iv 47) hx hb dX12_signs_177 rfl ?_
                                            refine xb_icmp_eq (tgt := 188) hx hb (by unfold ir; omega) (by unfold ir; omega) dX12_signs_179 (by decide) (fun c_179 => ?_) (fun c_179 => ?_)
                                            · refine lv_iconst (v := iv 1) hx hb dX12_signs_188 rfl ?_
                                              refine lv_goto (tgt := 193) hx hb dX12_signs_189 (by decide) ?_
                                              refine lv_istore_n (lv' := [(3, .int (iv 1)), (2, .int (iv r_9)), (0, .ref (oP ω 111)), (1, .int (iv x1))]) hx hb dX12_signs_193 rfl hl (by decide) rfl (fun ls hl => ?_)
                                              refine lv_iload_n hx hb dX12_signs_194 rfl (lv_at hl 0 rfl) ?_
                                              refine xb_if_ne (tgt := 206) hx hb (x := 1) (by unfold ir; omega) dX12_signs_195 (by decide) (fun c_195 => ?_) (fun c_195 => absurd c_195 (by decide))
                                              have e_706 : (sv (sv (sv μ 111 8 3) 111 6 ((μ.1 111 6) + 1)) 111 13 x1).1 111 6 = (μ.1 111 6) + 1 := ((sv_n _ (by decide)).trans (sv_s _ _ _ _))
                                              have e_707 : (sv (sv (sv μ 111 8 3) 111 6 ((μ.1 111 6) + 1)) 111 13 x1).1 111 6 = (μ.1 111 6) + 1 := ((sv_n _ (by decide)).trans (sv_s _ _ _ _))
                                              have e_708 : (sv (sv (sv μ 111 8 3) 111 6 ((μ.1 111 6) + 1)) 111 13 x1).1 111 8 = 3 := ((sv_n _ (by decide)).trans ((sv_n _ (by decide)).trans (sv_s _ _ _ _)))
                                              have e_709 : wr (sv (sv (sv μ 111 8 3) 111 6 ((μ.1 111 6) + 1)) 111 13 x1) = wr μ := ((wr_cg (sv_n _ (by decide))).trans ((wr_cg (sv_n _ (by decide))).trans (wr_cg (sv_n _ (by decide)))))
                                              have e_710 : bd (sv (sv (sv μ 111 8 3) 111 6 ((μ.1 111 6) + 1)) 111 13 x1) = bd μ := ((bd_cg (sv_n _ (by decide)) (sv_n _ (by decide)) (sv_n _ (by decide))).trans ((bd_cg (sv_n _ (by decide)) (sv_n _ (by decide)) (sv_n _ (by decide))).trans (bd_cg (sv_n _ (by decide)) (sv_n _ (by decide)) (sv_n _ (by decide)))))
                                              have e_711 : wr (sv (sv (sv μ 111 8 3) 111 6 ((μ.1 111 6) + 1)) 111 13 x1) = wr μ := ((wr_cg (sv_n _ (by decide))).trans ((wr_cg (sv_n _ (by decide))).trans (wr_cg (sv_n _ (by decide)))))
                                              have e_712 : nn (sv (sv (sv μ 111 8 3) 111 6 ((μ.1 111 6) + 1)) 111 13 x1) = nn μ := ((nn_cg (sv_n _ (by decide)) (sv_n _ (by decide))).trans ((nn_cg (sv_n _ (by decide)) (sv_n _ (by decide))).trans (nn_cg (sv_n _ (by decide)) (sv_n _ (by decide)))))
                                              exact xr_v G hret hlk dX12_signs_206 ⟨(FrM.put (FrM.put (FrM.put FrM.rf (by decide)) (by decide)) (by decide)), (fun j hj => ((sv_n _ (fun h9 => hj (by rw [h9.2]; decide))).trans ((sv_n _ (fun h9 => hj (by rw [h9.2]; decide))).trans (sv_n _ (fun h9 => hj (by rw [h9.2]; decide)))))), (by omega), (by omega), (by omega), (by omega)⟩
                                            · refine lv_iload_n hx hb dX12_signs_182 rfl (lv_at hl 2 rfl) ?_
                                              refine lv_bipush (v := iv 37) hx hb dX12_signs_183 rfl ?_
                                              refine xb_icmp_ne (tgt := 192) hx hb (by unfold ir; omega) (by unfold ir; omega) dX12_signs_185 (by decide) (fun c_185 => ?_) (fun c_185 => ?_)
                                              · refine lv_iconst (v := iv 0) hx hb dX12_signs_192 rfl ?_
                                                refine lv_istore_n (lv' := [(3, .int (iv 0)), (2, .int (iv r_9)), (0, .ref (oP ω 111)), (1, .int (iv x1))]) hx hb dX12_signs_193 rfl hl (by decide) rfl (fun ls hl => ?_)
                                                refine lv_iload_n hx hb dX12_signs_194 rfl (lv_at hl 0 rfl) ?_
                                                refine xb_if_ne (tgt := 206) hx hb (x := 0) (by unfold ir; omega) dX12_signs_195 (by decide) (fun c_195 => absurd c_195 (by decide)) (fun c_195 => ?_)
                                                refine lv_aload_n hx hb dX12_signs_198 rfl (lv_at hl 2 rfl) ?_
                                                refine lv_aload_n hx hb dX12_signs_199 rfl (lv_at hl 2 rfl) ?_
                                                refine xa_geti G fd_X12 (a := 111) (x := μ.1 111 9) 9 rfl (by decide) rfl (wm 7 158 rfl rfl) ⟨rfl, rfl, rfl⟩ dX12_signs_200 rfl ((sv_n _ (by decide)).trans ((sv_n _ (by decide)).trans (sv_n _ (by decide)))) ?_
                                                have hr_713 : -2147483648 ≤ μ.1 111 9 ∧ μ.1 111 9 ≤ 2147483647 := by have h9 := G.hr (a := 111) (k := 9) rfl; rw [show (sv (sv (sv μ 111 8 3) 111 6 ((μ.1 111 6) + 1)) 111 13 x1).1 111 9 = μ.1 111 9 from ((sv_n _ (by decide)).trans ((sv_n _ (by decide)).trans (sv_n _ (by decide))))] at h9; exact h9
                                                have e_714 : (sv (sv (sv μ 111 8 3) 111 6 ((μ.1 111 6) + 1)) 111 13 x1).1 111 9 = μ.1 111 9 := ((sv_n _ (by decide)).trans ((sv_n _ (by decide)).trans (sv_n _ (by decide))))
                                                refine xc_vV G (b := 111) (rest := []) (As := [.int (iv (μ.1 111 9))]) (c_X12_wrong ω l (sv (sv (sv μ 111 8 3) 111 6 ((μ.1 111 6) + 1)) 111 13 x1) (μ.1 111 9) (by unfold ir; omega) (by omega)) (wm 9 22 rfl rfl) (wm 9 24 rfl rfl) (wm 0 123 rfl rfl) rfl rfl (by decide) rfl (wm 1 18 rfl rfl) (wm 9 25 rfl rfl) (by decide) hR (by decide) (n := 1) rfl rfl (Nat.le_of_ble_eq_true rfl) hl.1 dX12_signs_203 (fun μ715 ρ d0 H locs hp G => ?_)
                                                obtain ⟨F_716, hp_717, hp_718⟩ := hp
                                                have hw_719 := wr_r (μ := μ715)
                                                have e_720 : μ715.1 111 6 = (μ.1 111 6) + 1 := ((hp_717 6 (by decide)).trans ((sv_n _ (by decide)).trans (sv_s _ _ _ _)))
                                                have e_721 : μ715.1 111 6 = (μ.1 111 6) + 1 := ((hp_717 6 (by decide)).trans ((sv_n _ (by decide)).trans (sv_s _ _ _ _)))
                                                have e_722 : μ715.1 111 8 = 3 := ((hp_717 8 (by decide)).trans ((sv_n _ (by decide)).trans ((sv_n _ (by decide)).trans (sv_s _ _ _ _))))
                                                exact xr_v G hret hlk dX12_signs_206 ⟨(FrM.tr (FrM.put (FrM.put (FrM.put FrM.rf (by decide)) (by decide)) (by decide)) F_716 (by decide)), (fun j hj => ((hp_717 j (fun h9 => hj ((by decide : ∀ x ∈ ([15] : List Int), x ∈ ([6, 8, 13, 15] : List Int)) j h9))).trans ((sv_n _ (fun h9 => hj (by rw [h9.2]; decide))).trans ((sv_n _ (fun h9 => hj (by rw [h9.2]; decide))).trans (sv_n _ (fun h9 => hj (by rw [h9.2]; decide))))))), (by omega), (by omega), (by omega), (by omega)⟩
                                              · refine lv_iconst (v := iv 1) hx hb dX12_signs_188 rfl ?_
                                                refine lv_goto (tgt := 193) hx hb dX12_signs_189 (by decide) ?_
                                                refine lv_istore_n (lv' := [(3, .int (iv 1)), (2, .int (iv r_9)), (0, .ref (oP ω 111)), (1, .int (iv x1))]) hx hb dX12_signs_193 rfl hl (by decide) rfl (fun ls hl => ?_)
                                                refine lv_iload_n hx hb dX12_signs_194 rfl (lv_at hl 0 rfl) ?_
                                                refine xb_if_ne (tgt := 206) hx hb (x := 1) (by unfold ir; omega) dX12_signs_195 (by decide) (fun c_195 => ?_) (fun c_195 => absurd c_195 (by decide))
                                                have e_723 : (sv (sv (sv μ 111 8 3) 111 6 ((μ.1 111 6) + 1)) 111 13 x1).1 111 6 = (μ.1 111 6) + 1 := ((sv_n _ (by decide)).trans (sv_s _ _ _ _))
                                                have e_724 : (sv (sv (sv μ 111 8 3) 111 6 ((μ.1 111 6) + 1)) 111 13 x1).1 111 6 = (μ.1 111 6) + 1 := ((sv_n _ (by decide)).trans (sv_s _ _ _ _))
                                                have e_725 : (sv (sv (sv μ 111 8 3) 111 6 ((μ.1 111 6) + 1)) 111 13 x1).1 111 8 = 3 := ((sv_n _ (by decide)).trans ((sv_n _ (by decide)).trans (sv_s _ _ _ _)))
                                                have e_726 : wr (sv (sv (sv μ 111 8 3) 111 6 ((μ.1 111 6) + 1)) 111 13 x1) = wr μ := ((wr_cg (sv_n _ (by decide))).trans ((wr_cg (sv_n _ (by decide))).trans (wr_cg (sv_n _ (by decide)))))
                                                have e_727 : bd (sv (sv (sv μ 111 8 3) 111 6 ((μ.1 111 6) + 1)) 111 13 x1) = bd μ := ((bd_cg (sv_n _ (by decide)) (sv_n _ (by decide)) (sv_n _ (by decide))).trans ((bd_cg (sv_n _ (by decide)) (sv_n _ (by decide)) (sv_n _ (by decide))).trans (bd_cg (sv_n _ (by decide)) (sv_n _ (by decide)) (sv_n _ (by decide)))))
                                                have e_728 : wr (sv (sv (sv μ 111 8 3) 111 6 ((μ.1 111 6) + 1)) 111 13 x1) = wr μ := ((wr_cg (sv_n _ (by decide))).trans ((wr_cg (sv_n _ (by decide))).trans (wr_cg (sv_n _ (by decide)))))
                                                have e_729 : nn (sv (sv (sv μ 111 8 3) 111 6 ((μ.1 111 6) + 1)) 111 13 x1) = nn μ := ((nn_cg (sv_n _ (by decide)) (sv_n _ (by decide))).trans ((nn_cg (sv_n _ (by decide)) (sv_n _ (by decide))).trans (nn_cg (sv_n _ (by decide)) (sv_n _ (by decide)))))
                                                exact xr_v G hret hlk dX12_signs_206 ⟨(FrM.put (FrM.put (FrM.put FrM.rf (by decide)) (by decide)) (by decide)), (fun j hj => ((sv_n _ (fun h9 => hj (by rw [h9.2]; decide))).trans ((sv_n _ (fun h9 => hj (by rw [h9.2]; decide))).trans (sv_n _ (fun h9 => hj (by rw [h9.2]; decide)))))), (by omega), (by omega), (by omega), (by omega)⟩
        · refine lv_aload_n hx hb dX12_signs_55 rfl (lv_at hl 1 rfl) ?_
          refine lv_dup hx hb dX12_signs_56 rfl ?_
          refine xa_geti G fd_X12 (a := 111) (x := (μ.1 111 6) + 1) 6 rfl (by decide) rfl (wm 7 155 rfl rfl) ⟨rfl, rfl, rfl⟩ dX12_signs_57 rfl ((sv_n _ (by decide)).trans (sv_s _ _ _ _)) ?_
          have hr_730 : -2147483648 ≤ (μ.1 111 6) + 1 ∧ (μ.1 111 6) + 1 ≤ 2147483647 := by have h9 := G.hr (a := 111) (k := 6) rfl; rw [show (sv (sv (sv μ 111 8 3) 111 6 ((μ.1 111 6) + 1)) 111 13 x1).1 111 6 = (μ.1 111 6) + 1 from ((sv_n _ (by decide)).trans (sv_s _ _ _ _))] at h9; exact h9
          refine lv_iconst (v := iv 1) hx hb dX12_signs_60 rfl ?_
          refine xb_iadd hx hb dX12_signs_61 ?_
          refine xb_ti (y := (μ.1 111 6) + 2) (by omega) ?_
          refine xa_puti G fd_X12 (a := 111) (x := (μ.1 111 6) + 2) 6 (kz := 6) rfl rfl (by decide) rfl (by unfold ir; omega) (wm 7 155 rfl rfl) ⟨rfl, rfl, rfl, rfl⟩ rfl dX12_signs_62 rfl (fun H locs G => ?_)
          refine lv_aload_n hx hb dX12_signs_65 rfl (lv_at hl 1 rfl) ?_
          refine lv_sipush (v := iv 256) hx hb dX12_signs_66 rfl ?_
          refine lv_iload_n hx hb dX12_signs_69 rfl (lv_at hl 2 rfl) ?_
          refine xb_iadd hx hb dX12_signs_70 ?_
          refine xa_puti G fd_X12 (a := 111) (x := 256 + x1) 13 (kz := 13) rfl rfl (by decide) rfl (by unfold ir; omega) (wm 7 162 rfl rfl) ⟨rfl, rfl, rfl, rfl⟩ rfl dX12_signs_71 rfl (fun H locs G => ?_)
          refine lv_iload_n hx hb dX12_signs_74 rfl (lv_at hl 2 rfl) ?_
          refine lv_bipush (v := iv 40) hx hb dX12_signs_75 rfl ?_
          refine xb_icmp_eq (tgt := 188) hx hb (by unfold ir; omega) (by unfold ir; omega) dX12_signs_77 (by decide) (fun c_77 => ?_) (fun c_77 => ?_)
          · refine lv_iconst (v := iv 1) hx hb dX12_signs_188 rfl ?_
            refine lv_goto (tgt := 193) hx hb dX12_signs_189 (by decide) ?_
            refine lv_istore_n (lv' := [(3, .int (iv 1)), (2, .int (iv r_9)), (0, .ref (oP ω 111)), (1, .int (iv x1))]) hx hb dX12_signs_193 rfl hl (by decide) rfl (fun ls hl => ?_)
            refine lv_iload_n hx hb dX12_signs_194 rfl (lv_at hl 0 rfl) ?_
            refine xb_if_ne (tgt := 206) hx hb (x := 1) (by unfold ir; omega) dX12_signs_195 (by decide) (fun c_195 => ?_) (fun c_195 => absurd c_195 (by decide))
            have e_731 : (sv (sv (sv (sv (sv μ 111 8 3) 111 6 ((μ.1 111 6) + 1)) 111 13 x1) 111 6 ((μ.1 111 6) + 2)) 111 13 (256 + x1)).1 111 6 = (μ.1 111 6) + 2 := ((sv_n _ (by decide)).trans (sv_s _ _ _ _))
            have e_732 : (sv (sv (sv (sv (sv μ 111 8 3) 111 6 ((μ.1 111 6) + 1)) 111 13 x1) 111 6 ((μ.1 111 6) + 2)) 111 13 (256 + x1)).1 111 6 = (μ.1 111 6) + 2 := ((sv_n _ (by decide)).trans (sv_s _ _ _ _))
            have e_733 : (sv (sv (sv (sv (sv μ 111 8 3) 111 6 ((μ.1 111 6) + 1)) 111 13 x1) 111 6 ((μ.1 111 6) + 2)) 111 13 (256 + x1)).1 111 8 = 3 := ((sv_n _ (by decide)).trans ((sv_n _ (by decide)).trans ((sv_n _ (by decide)).trans ((sv_n _ (by decide)).trans (sv_s _ _ _ _)))))
            have e_734 : wr (sv (sv (sv (sv (sv μ 111 8 3) 111 6 ((μ.1 111 6) + 1)) 111 13 x1) 111 6 ((μ.1 111 6) + 2)) 111 13 (256 + x1)) = wr μ := ((wr_cg (sv_n _ (by decide))).trans ((wr_cg (sv_n _ (by decide))).trans ((wr_cg (sv_n _ (by decide))).trans ((wr_cg (sv_n _ (by decide))).trans (wr_cg (sv_n _ (by decide)))))))
            have e_735 : bd (sv (sv (sv (sv (sv μ 111 8 3) 111 6 ((μ.1 111 6) + 1)) 111 13 x1) 111 6 ((μ.1 111 6) + 2)) 111 13 (256 + x1)) = bd μ := ((bd_cg (sv_n _ (by decide)) (sv_n _ (by decide)) (sv_n _ (by decide))).trans ((bd_cg (sv_n _ (by decide)) (sv_n _ (by decide)) (sv_n _ (by decide))).trans ((bd_cg (sv_n _ (by decide)) (sv_n _ (by decide)) (sv_n _ (by decide))).trans ((bd_cg (sv_n _ (by decide)) (sv_n _ (by decide)) (sv_n _ (by decide))).trans (bd_cg (sv_n _ (by decide)) (sv_n _ (by decide)) (sv_n _ (by decide)))))))
            have e_736 : wr (sv (sv (sv (sv (sv μ 111 8 3) 111 6 ((μ.1 111 6) + 1)) 111 13 x1) 111 6 ((μ.1 111 6) + 2)) 111 13 (256 + x1)) = wr μ := ((wr_cg (sv_n _ (by decide))).trans ((wr_cg (sv_n _ (by decide))).trans ((wr_cg (sv_n _ (by decide))).trans ((wr_cg (sv_n _ (by decide))).trans (wr_cg (sv_n _ (by decide)))))))
            have e_737 : nn (sv (sv (sv (sv (sv μ 111 8 3) 111 6 ((μ.1 111 6) + 1)) 111 13 x1) 111 6 ((μ.1 111 6) + 2)) 111 13 (256 + x1)) = nn μ := ((nn_cg (sv_n _ (by decide)) (sv_n _ (by decide))).trans ((nn_cg (sv_n _ (by decide)) (sv_n _ (by decide))).trans ((nn_cg (sv_n _ (by decide)) (sv_n _ (by decide))).trans ((nn_cg (sv_n _ (by decide)) (sv_n _ (by decide))).trans (nn_cg (sv_n _ (by decide)) (sv_n _ (by decide)))))))
            exact xr_v G hret hlk dX12_signs_206 ⟨(FrM.put (FrM.put (FrM.put (FrM.put (FrM.put FrM.rf (by decide)) (by decide)) (by decide)) (by decide)) (by decide)), (fun j hj => ((sv_n _ (fun h9 => hj (by rw [h9.2]; decide))).trans ((sv_n _ (fun h9 => hj (by rw [h9.2]; decide))).trans ((sv_n _ (fun h9 => hj (by rw [h9.2]; decide))).trans ((sv_n _ (fun h9 => hj (by rw [h9.2]; decide))).trans (sv_n _ (fun h9 => hj (by rw [h9.2]; decide)))))))), (by omega), (by omega), (by omega), (by omega)⟩
          · refine lv_iload_n hx hb dX12_signs_80 rfl (lv_at hl 2 rfl) ?_
            refine lv_bipush (v := iv 41) hx hb dX12_signs_81 rfl ?_
            refine xb_icmp_eq (tgt := 188) hx hb (by unfold ir; omega) (by unfold ir; omega) dX12_signs_83 (by decide) (fun c_83 => ?_) (fun c_83 => ?_)
            · refine lv_iconst (v := iv 1) hx hb dX12_signs_188 rfl ?_
              refine lv_goto (tgt := 193) hx hb dX12_signs_189 (by decide) ?_
              refine lv_istore_n (lv' := [(3, .int (iv 1)), (2, .int (iv r_9)), (0, .ref (oP ω 111)), (1, .int (iv x1))]) hx hb dX12_signs_193 rfl hl (by decide) rfl (fun ls hl => ?_)
              refine lv_iload_n hx hb dX12_signs_194 rfl (lv_at hl 0 rfl) ?_
              refine xb_if_ne (tgt := 206) hx hb (x := 1) (by unfold ir; omega) dX12_signs_195 (by decide) (fun c_195 => ?_) (fun c_195 => absurd c_195 (by decide))
              have e_738 : (sv (sv (sv (sv (sv μ 111 8 3) 111 6 ((μ.1 111 6) + 1)) 111 13 x1) 111 6 ((μ.1 111 6) + 2)) 111 13 (256 + x1)).1 111 6 = (μ.1 111 6) + 2 := ((sv_n _ (by decide)).trans (sv_s _ _ _ _))
              have e_739 : (sv (sv (sv (sv (sv μ 111 8 3) 111 6 ((μ.1 111 6) + 1)) 111 13 x1) 111 6 ((μ.1 111 6) + 2)) 111 13 (256 + x1)).1 111 6 = (μ.1 111 6) + 2 := ((sv_n _ (by decide)).trans (sv_s _ _ _ _))
              have e_740 : (sv (sv (sv (sv (sv μ 111 8 3) 111 6 ((μ.1 111 6) + 1)) 111 13 x1) 111 6 ((μ.1 111 6) + 2)) 111 13 (256 + x1)).1 111 8 = 3 := ((sv_n _ (by decide)).trans ((sv_n _ (by decide)).trans ((sv_n _ (by decide)).trans ((sv_n _ (by decide)).trans (sv_s _ _ _ _)))))
              have e_741 : wr (sv (sv (sv (sv (sv μ 111 8 3) 111 6 ((μ.1 111 6) + 1)) 111 13 x1) 111 6 ((μ.1 111 6) + 2)) 111 13 (256 + x1)) = wr μ := ((wr_cg (sv_n _ (by decide))).trans ((wr_cg (sv_n _ (by decide))).trans ((wr_cg (sv_n _ (by decide))).trans ((wr_cg (sv_n _ (by decide))).trans (wr_cg (sv_n _ (by decide)))))))
              have e_742 : bd (sv (sv (sv (sv (sv μ 111 8 3) 111 6 ((μ.1 111 6) + 1)) 111 13 x1) 111 6 ((μ.1 111 6) + 2)) 111 13 (256 + x1)) = bd μ := ((bd_cg (sv_n _ (by decide)) (sv_n _ (by decide)) (sv_n _ (by decide))).trans ((bd_cg (sv_n _ (by decide)) (sv_n _ (by decide)) (sv_n _ (by decide))).trans ((bd_cg (sv_n _ (by decide)) (sv_n _ (by decide)) (sv_n _ (by decide))).trans ((bd_cg (sv_n _ (by decide)) (sv_n _ (by decide)) (sv_n _ (by decide))).trans (bd_cg (sv_n _ (by decide)) (sv_n _ (by decide)) (sv_n _ (by decide)))))))
              have e_743 : wr (sv (sv (sv (sv (sv μ 111 8 3) 111 6 ((μ.1 111 6) + 1)) 111 13 x1) 111 6 ((μ.1 111 6) + 2)) 111 13 (256 + x1)) = wr μ := ((wr_cg (sv_n _ (by decide))).trans ((wr_cg (sv_n _ (by decide))).trans ((wr_cg (sv_n _ (by decide))).trans ((wr_cg (sv_n _ (by decide))).trans (wr_cg (sv_n _ (by decide)))))))
              have e_744 : nn (sv (sv (sv (sv (sv μ 111 8 3) 111 6 ((μ.1 111 6) + 1)) 111 13 x1) 111 6 ((μ.1 111 6) + 2)) 111 13 (256 + x1)) = nn μ := ((nn_cg (sv_n _ (by decide)) (sv_n _ (by decide))).trans ((nn_cg (sv_n _ (by decide)) (sv_n _ (by decide))).trans ((nn_cg (sv_n _ (by decide)) (sv_n _ (by decide))).trans ((nn_cg (sv_n _ (by decide)) (sv_n _ (by decide))).trans (nn_cg (sv_n _ (by decide)) (sv_n _ (by decide)))))))
              exact xr_v G hret hlk dX12_signs_206 ⟨(FrM.put (FrM.put (FrM.put (FrM.put (FrM.put FrM.rf (by decide)) (by decide)) (by decide)) (by decide)) (by decide)), (fun j hj => ((sv_n _ (fun h9 => hj (by rw [h9.2]; decide))).trans ((sv_n _ (fun h9 => hj (by rw [h9.2]; decide))).trans ((sv_n _ (fun h9 => hj (by rw [h9.2]; decide))).trans ((sv_n _ (fun h9 => hj (by rw [h9.2]; decide))).trans (sv_n _ (fun h9 => hj (by rw [h9.2]; decide)))))))), (by omega), (by omega), (by omega), (by omega)⟩
            · refine lv_iload_n hx hb dX12_signs_86 rfl (lv_at hl 2 rfl) ?_
              refine lv_bipush (v := iv 123) hx hb dX12_signs_87 rfl ?_
              refine xb_icmp_eq (tgt := 188) hx hb (by unfold ir; omega) (by unfold ir; omega) dX12_signs_89 (by decide) (fun c_89 => ?_) (fun c_89 => ?_)
              · refine lv_iconst (v := iv 1) hx hb dX12_signs_188 rfl ?_
                refine lv_goto (tgt := 193) hx hb dX12_signs_189 (by decide) ?_
                refine lv_istore_n (lv' := [(3, .int (iv 1)), (2, .int (iv r_9)), (0, .ref (oP ω 111)), (1, .int (iv x1))]) hx hb dX12_signs_193 rfl hl (by decide) rfl (fun ls hl => ?_)
                refine lv_iload_n hx hb dX12_signs_194 rfl (lv_at hl 0 rfl) ?_
                refine xb_if_ne (tgt := 206) hx hb (x := 1) (by unfold ir; omega) dX12_signs_195 (by decide) (fun c_195 => ?_) (fun c_195 => absurd c_195 (by decide))
                have e_745 : (sv (sv (sv (sv (sv μ 111 8 3) 111 6 ((μ.1 111 6) + 1)) 111 13 x1) 111 6 ((μ.1 111 6) + 2)) 111 13 (256 + x1)).1 111 6 = (μ.1 111 6) + 2 := ((sv_n _ (by decide)).trans (sv_s _ _ _ _))
                have e_746 : (sv (sv (sv (sv (sv μ 111 8 3) 111 6 ((μ.1 111 6) + 1)) 111 13 x1) 111 6 ((μ.1 111 6) + 2)) 111 13 (256 + x1)).1 111 6 = (μ.1 111 6) + 2 := ((sv_n _ (by decide)).trans (sv_s _ _ _ _))
                have e_747 : (sv (sv (sv (sv (sv μ 111 8 3) 111 6 ((μ.1 111 6) + 1)) 111 13 x1) 111 6 ((μ.1 111 6) + 2)) 111 13 (256 + x1)).1 111 8 = 3 := ((sv_n _ (by decide)).trans ((sv_n _ (by decide)).trans ((sv_n _ (by decide)).trans ((sv_n _ (by decide)).trans (sv_s _ _ _ _)))))
                have e_748 : wr (sv (sv (sv (sv (sv μ 111 8 3) 111 6 ((μ.1 111 6) + 1)) 111 13 x1) 111 6 ((μ.1 111 6) + 2)) 111 13 (256 + x1)) = wr μ := ((wr_cg (sv_n _ (by decide))).trans ((wr_cg (sv_n _ (by decide))).trans ((wr_cg (sv_n _ (by decide))).trans ((wr_cg (sv_n _ (by decide))).trans (wr_cg (sv_n _ (by decide)))))))
                have e_749 : bd (sv (sv (sv (sv (sv μ 111 8 3) 111 6 ((μ.1 111 6) + 1)) 111 13 x1) 111 6 ((μ.1 111 6) + 2)) 111 13 (256 + x1)) = bd μ := ((bd_cg (sv_n _ (by decide)) (sv_n _ (by decide)) (sv_n _ (by decide))).trans ((bd_cg (sv_n _ (by decide)) (sv_n _ (by decide)) (sv_n _ (by decide))).trans ((bd_cg (sv_n _ (by decide)) (sv_n _ (by decide)) (sv_n _ (by decide))).trans ((bd_cg (sv_n _ (by decide)) (sv_n _ (by decide)) (sv_n _ (by decide))).trans (bd_cg (sv_n _ (by decide)) (sv_n _ (by decide)) (sv_n _ (by decide)))))))
                have e_750 : wr (sv (sv (sv (sv (sv μ 111 8 3) 111 6 ((μ.1 111 6) + 1)) 111 13 x1) 111 6 ((μ.1 111 6) + 2)) 111 13 (256 + x1)) = wr μ := ((wr_cg (sv_n _ (by decide))).trans ((wr_cg (sv_n _ (by decide))).trans ((wr_cg (sv_n _ (by decide))).trans ((wr_cg (sv_n _ (by decide))).trans (wr_cg (sv_n _ (by decide)))))))
                have e_751 : nn (sv (sv (sv (sv (sv μ 111 8 3) 111 6 ((μ.1 111 6) + 1)) 111 13 x1) 111 6 ((μ.1 111 6) + 2)) 111 13 (256 + x1)) = nn μ := ((nn_cg (sv_n _ (by decide)) (sv_n _ (by decide))).trans ((nn_cg (sv_n _ (by decide)) (sv_n _ (by decide))).trans ((nn_cg (sv_n _ (by decide)) (sv_n _ (by decide))).trans ((nn_cg (sv_n _ (by decide)) (sv_n _ (by decide))).trans (nn_cg (sv_n _ (by decide)) (sv_n _ (by decide)))))))
                exact xr_v G hret hlk dX12_signs_206 ⟨(FrM.put (FrM.put (FrM.put (FrM.put (FrM.put FrM.rf (by decide)) (by decide)) (by decide)) (by decide)) (by decide)), (fun j hj => ((sv_n _ (fun h9 => hj (by rw [h9.2]; decide))).trans ((sv_n _ (fun h9 => hj (by rw [h9.2]; decide))).trans ((sv_n _ (fun h9 => hj (by rw [h9.2]; decide))).trans ((sv_n _ (fun h9 => hj (by rw [h9.2]; decide))).trans (sv_n _ (fun h9 => hj (by rw [h9.2]; decide)))))))), (by omega), (by omega), (by omega), (by omega)⟩
              · refine lv_iload_n hx hb dX12_signs_92 rfl (lv_at hl 2 rfl) ?_
                refine lv_bipush (v := iv 125) hx hb dX12_signs_93 rfl ?_
                refine xb_icmp_eq (tgt := 188) hx hb (by unfold ir; omega) (by unfold ir; omega) dX12_signs_95 (by decide) (fun c_95 => ?_) (fun c_95 => ?_)
                · refine lv_iconst (v := iv 1) hx hb dX12_signs_188 rfl ?_
                  refine lv_goto (tgt := 193) hx hb dX12_signs_189 (by decide) ?_
                  refine lv_istore_n (lv' := [(3, .int (iv 1)), (2, .int (iv r_9)), (0, .ref (oP ω 111)), (1, .int (iv x1))]) hx hb dX12_signs_193 rfl hl (by decide) rfl (fun ls hl => ?_)
                  refine lv_iload_n hx hb dX12_signs_194 rfl (lv_at hl 0 rfl) ?_
                  refine xb_if_ne (tgt := 206) hx hb (x := 1) (by unfold ir; omega) dX12_signs_195 (by decide) (fun c_195 => ?_) (fun c_195 => absurd c_195 (by decide))
                  have e_752 : (sv (sv (sv (sv (sv μ 111 8 3) 111 6 ((μ.1 111 6) + 1)) 111 13 x1) 111 6 ((μ.1 111 6) + 2)) 111 13 (256 + x1)).1 111 6 = (μ.1 111 6) + 2 := ((sv_n _ (by decide)).trans (sv_s _ _ _ _))
                  have e_753 : (sv (sv (sv (sv (sv μ 111 8 3) 111 6 ((μ.1 111 6) + 1)) 111 13 x1) 111 6 ((μ.1 111 6) + 2)) 111 13 (256 + x1)).1 111 6 = (μ.1 111 6) + 2 := ((sv_n _ (by decide)).trans (sv_s _ _ _ _))
                  have e_754 : (sv (sv (sv (sv (sv μ 111 8 3) 111 6 ((μ.1 111 6) + 1)) 111 13 x1) 111 6 ((μ.1 111 6) + 2)) 111 13 (256 + x1)).1 111 8 = 3 := ((sv_n _ (by decide)).trans ((sv_n _ (by decide)).trans ((sv_n _ (by decide)).trans ((sv_n _ (by decide)).trans (sv_s _ _ _ _)))))
                  have e_755 : wr (sv (sv (sv (sv (sv μ 111 8 3) 111 6 ((μ.1 111 6) + 1)) 111 13 x1) 111 6 ((μ.1 111 6) + 2)) 111 13 (256 + x1)) = wr μ := ((wr_cg (sv_n _ (by decide))).trans ((wr_cg (sv_n _ (by decide))).trans ((wr_cg (sv_n _ (by decide))).trans ((wr_cg (sv_n _ (by decide))).trans (wr_cg (sv_n _ (by decide)))))))
                  have e_756 : bd (sv (sv (sv (sv (sv μ 111 8 3) 111 6 ((μ.1 111 6) + 1)) 111 13 x1) 111 6 ((μ.1 111 6) + 2)) 111 13 (256 + x1)) = bd μ := ((bd_cg (sv_n _ (by decide)) (sv_n _ (by decide)) (sv_n _ (by decide))).trans ((bd_cg (sv_n _ (by decide)) (sv_n _ (by decide)) (sv_n _ (by decide))).trans ((bd_cg (sv_n _ (by decide)) (sv_n _ (by decide)) (sv_n _ (by decide))).trans ((bd_cg (sv_n _ (by decide)) (sv_n _ (by decide)) (sv_n _ (by decide))).trans (bd_cg (sv_n _ (by decide)) (sv_n _ (by decide)) (sv_n _ (by decide)))))))
                  have e_757 : wr (sv (sv (sv (sv (sv μ 111 8 3) 111 6 ((μ.1 111 6) + 1)) 111 13 x1) 111 6 ((μ.1 111 6) + 2)) 111 13 (256 + x1)) = wr μ := ((wr_cg (sv_n _ (by decide))).trans ((wr_cg (sv_n _ (by decide))).trans ((wr_cg (sv_n _ (by decide))).trans ((wr_cg (sv_n _ (by decide))).trans (wr_cg (sv_n _ (by decide)))))))
                  have e_758 : nn (sv (sv (sv (sv (sv μ 111 8 3) 111 6 ((μ.1 111 6) + 1)) 111 13 x1) 111 6 ((μ.1 111 6) + 2)) 111 13 (256 + x1)) = nn μ := ((nn_cg (sv_n _ (by decide)) (sv_n _ (by decide))).trans ((nn_cg (sv_n _ (by decide)) (sv_n _ (by decide))).trans ((nn_cg (sv_n _ (by decide)) (sv_n _ (by decide))).trans ((nn_cg (sv_n _ (by decide)) (sv_n _ (by decide))).trans (nn_cg (sv_n _ (by decide)) (sv_n _ (by decide)))))))
                  exact xr_v G hret hlk dX12_signs_206 ⟨(FrM.put (FrM.put (FrM.put (FrM.put (FrM.put FrM.rf (by decide)) (by decide)) (by decide)) (by decide)) (by decide)), (fun j hj => ((sv_n _ (fun h9 => hj (by rw [h9.2]; decide))).trans ((sv_n _ (fun h9 => hj (by rw [h9.2]; decide))).trans ((sv_n _ (fun h9 => hj (by rw [h9.2]; decide))).trans ((sv_n _ (fun h9 => hj (by rw [h9.2]; decide))).trans (sv_n _ (fun h9 => hj (by rw [h9.2]; decide)))))))), (by omega), (by omega), (by omega), (by omega)⟩
                · refine lv_iload_n hx hb dX12_signs_98 rfl (lv_at hl 2 rfl) ?_
                  refine lv_bipush (v := iv 91) hx hb dX12_signs_99 rfl ?_
                  refine xb_icmp_eq (tgt := 188) hx hb (by unfold ir; omega) (by unfold ir; omega) dX12_signs_101 (by decide) (fun c_101 => ?_) (fun c_101 => ?_)
                  · refine lv_iconst (v := iv 1) hx hb dX12_signs_188 rfl ?_
                    refine lv_goto (tgt := 193) hx hb dX12_signs_189 (by decide) ?_
                    refine lv_istore_n (lv' := [(3, .int (iv 1)), (2, .int (iv r_9)), (0, .ref (oP ω 111)), (1, .int (iv x1))]) hx hb dX12_signs_193 rfl hl (by decide) rfl (fun ls hl => ?_)
                    refine lv_iload_n hx hb dX12_signs_194 rfl (lv_at hl 0 rfl) ?_
                    refine xb_if_ne (tgt := 206) hx hb (x := 1) (by unfold ir; omega) dX12_signs_195 (by decide) (fun c_195 => ?_) (fun c_195 => absurd c_195 (by decide))
                    have e_759 : (sv (sv (sv (sv (sv μ 111 8 3) 111 6 ((μ.1 111 6) + 1)) 111 13 x1) 111 6 ((μ.1 111 6) + 2)) 111 13 (256 + x1)).1 111 6 = (μ.1 111 6) + 2 := ((sv_n _ (by decide)).trans (sv_s _ _ _ _))
                    have e_760 : (sv (sv (sv (sv (sv μ 111 8 3) 111 6 ((μ.1 111 6) + 1)) 111 13 x1) 111 6 ((μ.1 111 6) + 2)) 111 13 (256 + x1)).1 111 6 = (μ.1 111 6) + 2 := ((sv_n _ (by decide)).trans (sv_s _ _ _ _))
                    have e_761 : (sv (sv (sv (sv (sv μ 111 8 3) 111 6 ((μ.1 111 6) + 1)) 111 13 x1) 111 6 ((μ.1 111 6) + 2)) 111 13 (256 + x1)).1 111 8 = 3 := ((sv_n _ (by decide)).trans ((sv_n _ (by decide)).trans ((sv_n _ (by decide)).trans ((sv_n _ (by decide)).trans (sv_s _ _ _ _)))))
                    have e_762 : wr (sv (sv (sv (sv (sv μ 111 8 3) 111 6 ((μ.1 111 6) + 1)) 111 13 x1) 111 6 ((μ.1 111 6) + 2)) 111 13 (256 + x1)) = wr μ := ((wr_cg (sv_n _ (by decide))).trans ((wr_cg (sv_n _ (by decide))).trans ((wr_cg (sv_n _ (by decide))).trans ((wr_cg (sv_n _ (by decide))).trans (wr_cg (sv_n _ (by decide)))))))
                    have e_763 : bd (sv (sv (sv (sv (sv μ 111 8 3) 111 6 ((μ.1 111 6) + 1)) 111 13 x1) 111 6 ((μ.1 111 6) + 2)) 111 13 (256 + x1)) = bd μ := ((bd_cg (sv_n _ (by decide)) (sv_n _ (by decide)) (sv_n _ (by decide))).trans ((bd_cg (sv_n _ (by decide)) (sv_n _ (by decide)) (sv_n _ (by decide))).trans ((bd_cg (sv_n _ (by decide)) (sv_n _ (by decide)) (sv_n _ (by decide))).trans ((bd_cg (sv_n _ (by decide)) (sv_n _ (by decide)) (sv_n _ (by decide))).trans (bd_cg (sv_n _ (by decide)) (sv_n _ (by decide)) (sv_n _ (by decide)))))))
                    have e_764 : wr (sv (sv (sv (sv (sv μ 111 8 3) 111 6 ((μ.1 111 6) + 1)) 111 13 x1) 111 6 ((μ.1 111 6) + 2)) 111 13 (256 + x1)) = wr μ := ((wr_cg (sv_n _ (by decide))).trans ((wr_cg (sv_n _ (by decide))).trans ((wr_cg (sv_n _ (by decide))).trans ((wr_cg (sv_n _ (by decide))).trans (wr_cg (sv_n _ (by decide)))))))
                    have e_765 : nn (sv (sv (sv (sv (sv μ 111 8 3) 111 6 ((μ.1 111 6) + 1)) 111 13 x1) 111 6 ((μ.1 111 6) + 2)) 111 13 (256 + x1)) = nn μ := ((nn_cg (sv_n _ (by decide)) (sv_n _ (by decide))).trans ((nn_cg (sv_n _ (by decide)) (sv_n _ (by decide))).trans ((nn_cg (sv_n _ (by decide)) (sv_n _ (by decide))).trans ((nn_cg (sv_n _ (by decide)) (sv_n _ (by decide))).trans (nn_cg (sv_n _ (by decide)) (sv_n _ (by decide)))))))
                    exact xr_v G hret hlk dX12_signs_206 ⟨(FrM.put (FrM.put (FrM.put (FrM.put (FrM.put FrM.rf (by decide)) (by decide)) (by decide)) (by decide)) (by decide)), (fun j hj => ((sv_n _ (fun h9 => hj (by rw [h9.2]; decide))).trans ((sv_n _ (fun h9 => hj (by rw [h9.2]; decide))).trans ((sv_n _ (fun h9 => hj (by rw [h9.2]; decide))).trans ((sv_n _ (fun h9 => hj (by rw [h9.2]; decide))).trans (sv_n _ (fun h9 => hj (by rw [h9.2]; decide)))))))), (by omega), (by omega), (by omega), (by omega)⟩
                  · refine lv_iload_n hx hb dX12_signs_104 rfl (lv_at hl 2 rfl) ?_
                    refine lv_bipush (v := iv 93) hx hb dX12_signs_105 rfl ?_
                    refine xb_icmp_eq (tgt := 188) hx hb (by unfold ir; omega) (by unfold ir; omega) dX12_signs_107 (by decide) (fun c_107 => ?_) (fun c_107 => ?_)
                    · refine lv_iconst (v := iv 1) hx hb dX12_signs_188 rfl ?_
                      refine lv_goto (tgt := 193) hx hb dX12_signs_189 (by decide) ?_
                      refine lv_istore_n (lv' := [(3, .int (iv 1)), (2, .int (iv r_9)), (0, .ref (oP ω 111)), (1, .int (iv x1))]) hx hb dX12_signs_193 rfl hl (by decide) rfl (fun ls hl => ?_)
                      refine lv_iload_n hx hb dX12_signs_194 rfl (lv_at hl 0 rfl) ?_
                      refine xb_if_ne (tgt := 206) hx hb (x := 1) (by unfold ir; omega) dX12_signs_195 (by decide) (fun c_195 => ?_) (fun c_195 => absurd c_195 (by decide))
                      have e_766 : (sv (sv (sv (sv (sv μ 111 8 3) 111 6 ((μ.1 111 6) + 1)) 111 13 x1) 111 6 ((μ.1 111 6) + 2)) 111 13 (256 + x1)).1 111 6 = (μ.1 111 6) + 2 := ((sv_n _ (by decide)).trans (sv_s _ _ _ _))
                      have e_767 : (sv (sv (sv (sv (sv μ 111 8 3) 111 6 ((μ.1 111 6) + 1)) 111 13 x1) 111 6 ((μ.1 111 6) + 2)) 111 13 (256 + x1)).1 111 6 = (μ.1 111 6) + 2 := ((sv_n _ (by decide)).trans (sv_s _ _ _ _))
                      have e_768 : (sv (sv (sv (sv (sv μ 111 8 3) 111 6 ((μ.1 111 6) + 1)) 111 13 x1) 111 6 ((μ.1 111 6) + 2)) 111 13 (256 + x1)).1 111 8 = 3 := ((sv_n _ (by decide)).trans ((sv_n _ (by decide)).trans ((sv_n _ (by decide)).trans ((sv_n _ (by decide)).trans (sv_s _ _ _ _)))))
                      have e_769 : wr (sv (sv (sv (sv (sv μ 111 8 3) 111 6 ((μ.1 111 6) + 1)) 111 13 x1) 111 6 ((μ.1 111 6) + 2)) 111 13 (256 + x1)) = wr μ := ((wr_cg (sv_n _ (by decide))).trans ((wr_cg (sv_n _ (by decide))).trans ((wr_cg (sv_n _ (by decide))).trans ((wr_cg (sv_n _ (by decide))).trans (wr_cg (sv_n _ (by decide)))))))
                      have e_770 : bd (sv (sv (sv (sv (sv μ 111 8 3) 111 6 ((μ.1 111 6) + 1)) 111 13 x1) 111 6 ((μ.1 111 6) + 2)) 111 13 (256 + x1)) = bd μ := ((bd_cg (sv_n _ (by decide)) (sv_n _ (by decide)) (sv_n _ (by decide))).trans ((bd_cg (sv_n _ (by decide)) (sv_n _ (by decide)) (sv_n _ (by decide))).trans ((bd_cg (sv_n _ (by decide)) (sv_n _ (by decide)) (sv_n _ (by decide))).trans ((bd_cg (sv_n _ (by decide)) (sv_n _ (by decide)) (sv_n _ (by decide))).trans (bd_cg (sv_n _ (by decide)) (sv_n _ (by decide)) (sv_n _ (by decide)))))))
                      have e_771 : wr (sv (sv (sv (sv (sv μ 111 8 3) 111 6 ((μ.1 111 6) + 1)) 111 13 x1) 111 6 ((μ.1 111 6) + 2)) 111 13 (256 + x1)) = wr μ := ((wr_cg (sv_n _ (by decide))).trans ((wr_cg (sv_n _ (by decide))).trans ((wr_cg (sv_n _ (by decide))).trans ((wr_cg (sv_n _ (by decide))).trans (wr_cg (sv_n _ (by decide)))))))
                      have e_772 : nn (sv (sv (sv (sv (sv μ 111 8 3) 111 6 ((μ.1 111 6) + 1)) 111 13 x1) 111 6 ((μ.1 111 6) + 2)) 111 13 (256 + x1)) = nn μ := ((nn_cg (sv_n _ (by decide)) (sv_n _ (by decide))).trans ((nn_cg (sv_n _ (by decide)) (sv_n _ (by decide))).trans ((nn_cg (sv_n _ (by decide)) (sv_n _ (by decide))).trans ((nn_cg (sv_n _ (by decide)) (sv_n _ (by decide))).trans (nn_cg (sv_n _ (by decide)) (sv_n _ (by decide)))))))
                      exact xr_v G hret hlk dX12_signs_206 ⟨(FrM.put (FrM.put (FrM.put (FrM.put (FrM.put FrM.rf (by decide)) (by decide)) (by decide)) (by decide)) (by decide)), (fun j hj => ((sv_n _ (fun h9 => hj (by rw [h9.2]; decide))).trans ((sv_n _ (fun h9 => hj (by rw [h9.2]; decide))).trans ((sv_n _ (fun h9 => hj (by rw [h9.2]; decide))).trans ((sv_n _ (fun h9 => hj (by rw [h9.2]; decide))).trans (sv_n _ (fun h9 => hj (by rw [h9.2]; decide)))))))), (by omega), (by omega), (by omega), (by omega)⟩
                    · refine lv_iload_n hx hb dX12_signs_110 rfl (lv_at hl 2 rfl) ?_
                      refine lv_bipush (v := iv 44) hx hb dX12_signs_111 rfl ?_
                      refine xb_icmp_eq (tgt := 188) hx hb (by unfold ir; omega) (by unfold ir; omega) dX12_signs_113 (by decide) (fun c_113 => ?_) (fun c_113 => ?_)
                      · refine lv_iconst (v := iv 1) hx hb dX12_signs_188 rfl ?_
                        refine lv_goto (tgt := 193) hx hb dX12_signs_189 (by decide) ?_
                        refine lv_istore_n (lv' := [(3, .int (iv 1)), (2, .int (iv r_9)), (0, .ref (oP ω 111)), (1, .int (iv x1))]) hx hb dX12_signs_193 rfl hl (by decide) rfl (fun ls hl => ?_)
                        refine lv_iload_n hx hb dX12_signs_194 rfl (lv_at hl 0 rfl) ?_
                        refine xb_if_ne (tgt := 206) hx hb (x := 1) (by unfold ir; omega) dX12_signs_195 (by decide) (fun c_195 => ?_) (fun c_195 => absurd c_195 (by decide))
                        have e_773 : (sv (sv (sv (sv (sv μ 111 8 3) 111 6 ((μ.1 111 6) + 1)) 111 13 x1) 111 6 ((μ.1 111 6) + 2)) 111 13 (256 + x1)).1 111 6 = (μ.1 111 6) + 2 := ((sv_n _ (by decide)).trans (sv_s _ _ _ _))
                        have e_774 : (sv (sv (sv (sv (sv μ 111 8 3) 111 6 ((μ.1 111 6) + 1)) 111 13 x1) 111 6 ((μ.1 111 6) + 2)) 111 13 (256 + x1)).1 111 6 = (μ.1 111 6) + 2 := ((sv_n _ (by decide)).trans (sv_s _ _ _ _))
                        have e_775 : (sv (sv (sv (sv (sv μ 111 8 3) 111 6 ((μ.1 111 6) + 1)) 111 13 x1) 111 6 ((μ.1 111 6) + 2)) 111 13 (256 + x1)).1 111 8 = 3 := ((sv_n _ (by decide)).trans ((sv_n _ (by decide)).trans ((sv_n _ (by decide)).trans ((sv_n _ (by decide)).trans (sv_s _ _ _ _)))))
                        have e_776 : wr (sv (sv (sv (sv (sv μ 111 8 3) 111 6 ((μ.1 111 6) + 1)) 111 13 x1) 111 6 ((μ.1 111 6) + 2)) 111 13 (256 + x1)) = wr μ := ((wr_cg (sv_n _ (by decide))).trans ((wr_cg (sv_n _ (by decide))).trans ((wr_cg (sv_n _ (by decide))).trans ((wr_cg (sv_n _ (by decide))).trans (wr_cg (sv_n _ (by decide)))))))
                        have e_777 : bd (sv (sv (sv (sv (sv μ 111 8 3) 111 6 ((μ.1 111 6) + 1)) 111 13 x1) 111 6 ((μ.1 111 6) + 2)) 111 13 (256 + x1)) = bd μ := ((bd_cg (sv_n _ (by decide)) (sv_n _ (by decide)) (sv_n _ (by decide))).trans ((bd_cg (sv_n _ (by decide)) (sv_n _ (by decide)) (sv_n _ (by decide))).trans ((bd_cg (sv_n _ (by decide)) (sv_n _ (by decide)) (sv_n _ (by decide))).trans ((bd_cg (sv_n _ (by decide)) (sv_n _ (by decide)) (sv_n _ (by decide))).trans (bd_cg (sv_n _ (by decide)) (sv_n _ (by decide)) (sv_n _ (by decide)))))))
                        have e_778 : wr (sv (sv (sv (sv (sv μ 111 8 3) 111 6 ((μ.1 111 6) + 1)) 111 13 x1) 111 6 ((μ.1 111 6) + 2)) 111 13 (256 + x1)) = wr μ := ((wr_cg (sv_n _ (by decide))).trans ((wr_cg (sv_n _ (by decide))).trans ((wr_cg (sv_n _ (by decide))).trans ((wr_cg (sv_n _ (by decide))).trans (wr_cg (sv_n _ (by decide)))))))
                        have e_779 : nn (sv (sv (sv (sv (sv μ 111 8 3) 111 6 ((μ.1 111 6) + 1)) 111 13 x1) 111 6 ((μ.1 111 6) + 2)) 111 13 (256 + x1)) = nn μ := ((nn_cg (sv_n _ (by decide)) (sv_n _ (by decide))).trans ((nn_cg (sv_n _ (by decide)) (sv_n _ (by decide))).trans ((nn_cg (sv_n _ (by decide)) (sv_n _ (by decide))).trans ((nn_cg (sv_n _ (by decide)) (sv_n _ (by decide))).trans (nn_cg (sv_n _ (by decide)) (sv_n _ (by decide)))))))
                        exact xr_v G hret hlk dX12_signs_206 ⟨(FrM.put (FrM.put (FrM.put (FrM.put (FrM.put FrM.rf (by decide)) (by decide)) (by decide)) (by decide)) (by decide)), (fun j hj => ((sv_n _ (fun h9 => hj (by rw [h9.2]; decide))).trans ((sv_n _ (fun h9 => hj (by rw [h9.2]; decide))).trans ((sv_n _ (fun h9 => hj (by rw [h9.2]; decide))).trans ((sv_n _ (fun h9 => hj (by rw [h9.2]; decide))).trans (sv_n _ (fun h9 => hj (by rw [h9.2]; decide)))))))), (by omega), (by omega), (by omega), (by omega)⟩
                      · refine lv_iload_n hx hb dX12_signs_116 rfl (lv_at hl 2 rfl) ?_
                        refine lv_bipush (v := iv 59) hx hb dX12_signs_117 rfl ?_
                        refine xb_icmp_eq (tgt := 188) hx hb (by unfold ir; omega) (by unfold ir; omega) dX12_signs_119 (by decide) (fun c_119 => ?_) (fun c_119 => ?_)
                        · refine lv_iconst (v := iv 1) hx hb dX12_signs_188 rfl ?_
                          refine lv_goto (tgt := 193) hx hb dX12_signs_189 (by decide) ?_
                          refine lv_istore_n (lv' := [(3, .int (iv 1)), (2, .int (iv r_9)), (0, .ref (oP ω 111)), (1, .int (iv x1))]) hx hb dX12_signs_193 rfl hl (by decide) rfl (fun ls hl => ?_)
                          refine lv_iload_n hx hb dX12_signs_194 rfl (lv_at hl 0 rfl) ?_
                          refine xb_if_ne (tgt := 206) hx hb (x := 1) (by unfold ir; omega) dX12_signs_195 (by decide) (fun c_195 => ?_) (fun c_195 => absurd c_195 (by decide))
                          have e_780 : (sv (sv (sv (sv (sv μ 111 8 3) 111 6 ((μ.1 111 6) + 1)) 111 13 x1) 111 6 ((μ.1 111 6) + 2)) 111 13 (256 + x1)).1 111 6 = (μ.1 111 6) + 2 := ((sv_n _ (by decide)).trans (sv_s _ _ _ _))
                          have e_781 : (sv (sv (sv (sv (sv μ 111 8 3) 111 6 ((μ.1 111 6) + 1)) 111 13 x1) 111 6 ((μ.1 111 6) + 2)) 111 13 (256 + x1)).1 111 6 = (μ.1 111 6) + 2 := ((sv_n _ (by decide)).trans (sv_s _ _ _ _))
                          have e_782 : (sv (sv (sv (sv (sv μ 111 8 3) 111 6 ((μ.1 111 6) + 1)) 111 13 x1) 111 6 ((μ.1 111 6) + 2)) 111 13 (256 + x1)).1 111 8 = 3 := ((sv_n _ (by decide)).trans ((sv_n _ (by decide)).trans ((sv_n _ (by decide)).trans ((sv_n _ (by decide)).trans (sv_s _ _ _ _)))))
                          have e_783 : wr (sv (sv (sv (sv (sv μ 111 8 3) 111 6 ((μ.1 111 6) + 1)) 111 13 x1) 111 6 ((μ.1 111 6) + 2)) 111 13 (256 + x1)) = wr μ := ((wr_cg (sv_n _ (by decide))).trans ((wr_cg (sv_n _ (by decide))).trans ((wr_cg (sv_n _ (by decide))).trans ((wr_cg (sv_n _ (by decide))).trans (wr_cg (sv_n _ (by decide)))))))
                          have e_784 : bd (sv (sv (sv (sv (sv μ 111 8 3) 111 6 ((μ.1 111 6) + 1)) 111 13 x1) 111 6 ((μ.1 111 6) + 2)) 111 13 (256 + x1)) = bd μ := ((bd_cg (sv_n _ (by decide)) (sv_n _ (by decide)) (sv_n _ (by decide))).trans ((bd_cg (sv_n _ (by decide)) (sv_n _ (by decide)) (sv_n _ (by decide))).trans ((bd_cg (sv_n _ (by decide)) (sv_n _ (by decide)) (sv_n _ (by decide))).trans ((bd_cg (sv_n _ (by decide)) (sv_n _ (by decide)) (sv_n _ (by decide))).trans (bd_cg (sv_n _ (by decide)) (sv_n _ (by decide)) (sv_n _ (by decide)))))))
                          have e_785 : wr (sv (sv (sv (sv (sv μ 111 8 3) 111 6 ((μ.1 111 6) + 1)) 111 13 x1) 111 6 ((μ.1 111 6) + 2)) 111 13 (256 + x1)) = wr μ := ((wr_cg (sv_n _ (by decide))).trans ((wr_cg (sv_n _ (by decide))).trans ((wr_cg (sv_n _ (by decide))).trans ((wr_cg (sv_n _ (by decide))).trans (wr_cg (sv_n _ (by decide)))))))
                          have e_786 : nn (sv (sv (sv (sv (sv μ 111 8 3) 111 6 ((μ.1 111 6) + 1)) 111 13 x1) 111 6 ((μ.1 111 6) + 2)) 111 13 (256 + x1)) = nn μ := ((nn_cg (sv_n _ (by decide)) (sv_n _ (by decide))).trans ((nn_cg (sv_n _ (by decide)) (sv_n _ (by decide))).trans ((nn_cg (sv_n _ (by decide)) (sv_n _ (by decide))).trans ((nn_cg (sv_n _ (by decide)) (sv_n _ (by decide))).trans (nn_cg (sv_n _ (by decide)) (sv_n _ (by decide)))))))
                          exact xr_v G hret hlk dX12_signs_206 ⟨(FrM.put (FrM.put (FrM.put (FrM.put (FrM.put FrM.rf (by decide)) (by decide)) (by decide)) (by decide)) (by decide)), (fun j hj => ((sv_n _ (fun h9 => hj (by rw [h9.2]; decide))).trans ((sv_n _ (fun h9 => hj (by rw [h9.2]; decide))).trans ((sv_n _ (fun h9 => hj (by rw [h9.2]; decide))).trans ((sv_n _ (fun h9 => hj (by rw [h9.2]; decide))).trans (sv_n _ (fun h9 => hj (by rw [h9.2]; decide)))))))), (by omega), (by omega), (by omega), (by omega)⟩
                        · refine lv_iload_n hx hb dX12_signs_122 rfl (lv_at hl 2 rfl) ?_
                          refine lv_bipush (v := iv 46) hx hb dX12_signs_123 rfl ?_
                          refine xb_icmp_eq (tgt := 188) hx hb (by unfold ir; omega) (by unfold ir; omega) dX12_signs_125 (by decide) (fun c_125 => ?_) (fun c_125 => ?_)
                          · refine lv_iconst (v := iv 1) hx hb dX12_signs_188 rfl ?_
                            refine lv_goto (tgt := 193) hx hb dX12_signs_189 (by decide) ?_
                            refine lv_istore_n (lv' := [(3, .int (iv 1)), (2, .int (iv r_9)), (0, .ref (oP ω 111)), (1, .int (iv x1))]) hx hb dX12_signs_193 rfl hl (by decide) rfl (fun ls hl => ?_)
                            refine lv_iload_n hx hb dX12_signs_194 rfl (lv_at hl 0 rfl) ?_
                            refine xb_if_ne (tgt := 206) hx hb (x := 1) (by unfold ir; omega) dX12_signs_195 (by decide) (fun c_195 => ?_) (fun c_195 => absurd c_195 (by decide))
                            have e_787 : (sv (sv (sv (sv (sv μ 111 8 3) 111 6 ((μ.1 111 6) + 1)) 111 13 x1) 111 6 ((μ.1 111 6) + 2)) 111 13 (256 + x1)).1 111 6 = (μ.1 111 6) + 2 := ((sv_n _ (by decide)).trans (sv_s _ _ _ _))
                            have e_788 : (sv (sv (sv (sv (sv μ 111 8 3) 111 6 ((μ.1 111 6) + 1)) 111 13 x1) 111 6 ((μ.1 111 6) + 2)) 111 13 (256 + x1)).1 111 6 = (μ.1 111 6) + 2 := ((sv_n _ (by decide)).trans (sv_s _ _ _ _))
                            have e_789 : (sv (sv (sv (sv (sv μ 111 8 3) 111 6 ((μ.1 111 6) + 1)) 111 13 x1) 111 6 ((μ.1 111 6) + 2)) 111 13 (256 + x1)).1 111 8 = 3 := ((sv_n _ (by decide)).trans ((sv_n _ (by decide)).trans ((sv_n _ (by decide)).trans ((sv_n _ (by decide)).trans (sv_s _ _ _ _)))))
                            have e_790 : wr (sv (sv (sv (sv (sv μ 111 8 3) 111 6 ((μ.1 111 6) + 1)) 111 13 x1) 111 6 ((μ.1 111 6) + 2)) 111 13 (256 + x1)) = wr μ := ((wr_cg (sv_n _ (by decide))).trans ((wr_cg (sv_n _ (by decide))).trans ((wr_cg (sv_n _ (by decide))).trans ((wr_cg (sv_n _ (by decide))).trans (wr_cg (sv_n _ (by decide)))))))
                            have e_791 : bd (sv (sv (sv (sv (sv μ 111 8 3) 111 6 ((μ.1 111 6) + 1)) 111 13 x1) 111 6 ((μ.1 111 6) + 2)) 111 13 (256 + x1)) = bd μ := ((bd_cg (sv_n _ (by decide)) (sv_n _ (by decide)) (sv_n _ (by decide))).trans ((bd_cg (sv_n _ (by decide)) (sv_n _ (by decide)) (sv_n _ (by decide))).trans ((bd_cg (sv_n _ (by decide)) (sv_n _ (by decide)) (sv_n _ (by decide))).trans ((bd_cg (sv_n _ (by decide)) (sv_n _ (by decide)) (sv_n _ (by decide))).trans (bd_cg (sv_n _ (by decide)) (sv_n _ (by decide)) (sv_n _ (by decide)))))))
                            have e_792 : wr (sv (sv (sv (sv (sv μ 111 8 3) 111 6 ((μ.1 111 6) + 1)) 111 13 x1) 111 6 ((μ.1 111 6) + 2)) 111 13 (256 + x1)) = wr μ := ((wr_cg (sv_n _ (by decide))).trans ((wr_cg (sv_n _ (by decide))).trans ((wr_cg (sv_n _ (by decide))).trans ((wr_cg (sv_n _ (by decide))).trans (wr_cg (sv_n _ (by decide)))))))
                            have e_793 : nn (sv (sv (sv (sv (sv μ 111 8 3) 111 6 ((μ.1 111 6) + 1)) 111 13 x1) 111 6 ((μ.1 111 6) + 2)) 111 13 (256 + x1)) = nn μ := ((nn_cg (sv_n _ (by decide)) (sv_n _ (by decide))).trans ((nn_cg (sv_n _ (by decide)) (sv_n _ (by decide))).trans ((nn_cg (sv_n _ (by decide)) (sv_n _ (by decide))).trans ((nn_cg (sv_n _ (by decide)) (sv_n _ (by decide))).trans (nn_cg (sv_n _ (by decide)) (sv_n _ (by decide)))))))
                            exact xr_v G hret hlk dX12_signs_206 ⟨(FrM.put (FrM.put (FrM.put (FrM.put (FrM.put FrM.rf (by decide)) (by decide)) (by decide)) (by decide)) (by decide)), (fun j hj => ((sv_n _ (fun h9 => hj (by rw [h9.2]; decide))).trans ((sv_n _ (fun h9 => hj (by rw [h9.2]; decide))).trans ((sv_n _ (fun h9 => hj (by rw [h9.2]; decide))).trans ((sv_n _ (fun h9 => hj (by rw [h9.2]; decide))).trans (sv_n _ (fun h9 => hj (by rw [h9.2]; decide)))))))), (by omega), (by omega), (by omega), (by omega)⟩
                          · refine lv_iload_n hx hb dX12_signs_128 rfl (lv_at hl 2 rfl) ?_
                            refine lv_bipush (v := iv 38) hx hb dX12_signs_129 rfl ?_
                            refine xb_icmp_eq (tgt := 188) hx hb (by unfold ir; omega) (by unfold ir; omega) dX12_signs_131 (by decide) (fun c_131 => ?_) (fun c_131 => ?_)
                            · refine lv_iconst (v := iv 1) hx hb dX12_signs_188 rfl ?_
                              refine lv_goto (tgt := 193) hx hb dX12_signs_189 (by decide) ?_
                              refine lv_istore_n (lv' := [(3, .int (iv 1)), (2, .int (iv r_9)), (0, .ref (oP ω 111)), (1, .int (iv x1))]) hx hb dX12_signs_193 rfl hl (by decide) rfl (fun ls hl => ?_)
                              refine lv_iload_n hx hb dX12_signs_194 rfl (lv_at hl 0 rfl) ?_
                              refine xb_if_ne (tgt := 206) hx hb (x := 1) (by unfold ir; omega) dX12_signs_195 (by decide) (fun c_195 => ?_) (fun c_195 => absurd c_195 (by decide))
                              have e_794 : (sv (sv (sv (sv (sv μ 111 8 3) 111 6 ((μ.1 111 6) + 1)) 111 13 x1) 111 6 ((μ.1 111 6) + 2)) 111 13 (256 + x1)).1 111 6 = (μ.1 111 6) + 2 := ((sv_n _ (by decide)).trans (sv_s _ _ _ _))
                              have e_795 : (sv (sv (sv (sv (sv μ 111 8 3) 111 6 ((μ.1 111 6) + 1)) 111 13 x1) 111 6 ((μ.1 111 6) + 2)) 111 13 (256 + x1)).1 111 6 = (μ.1 111 6) + 2 := ((sv_n _ (by decide)).trans (sv_s _ _ _ _))
                              have e_796 : (sv (sv (sv (sv (sv μ 111 8 3) 111 6 ((μ.1 111 6) + 1)) 111 13 x1) 111 6 ((μ.1 111 6) + 2)) 111 13 (256 + x1)).1 111 8 = 3 := ((sv_n _ (by decide)).trans ((sv_n _ (by decide)).trans ((sv_n _ (by decide)).trans ((sv_n _ (by decide)).trans (sv_s _ _ _ _)))))
                              have e_797 : wr (sv (sv (sv (sv (sv μ 111 8 3) 111 6 ((μ.1 111 6) + 1)) 111 13 x1) 111 6 ((μ.1 111 6) + 2)) 111 13 (256 + x1)) = wr μ := ((wr_cg (sv_n _ (by decide))).trans ((wr_cg (sv_n _ (by decide))).trans ((wr_cg (sv_n _ (by decide))).trans ((wr_cg (sv_n _ (by decide))).trans (wr_cg (sv_n _ (by decide)))))))
                              have e_798 : bd (sv (sv (sv (sv (sv μ 111 8 3) 111 6 ((μ.1 111 6) + 1)) 111 13 x1) 111 6 ((μ.1 111 6) + 2)) 111 13 (256 + x1)) = bd μ := ((bd_cg (sv_n _ (by decide)) (sv_n _ (by decide)) (sv_n _ (by decide))).trans ((bd_cg (sv_n _ (by decide)) (sv_n _ (by decide)) (sv_n _ (by decide))).trans ((bd_cg (sv_n _ (by decide)) (sv_n _ (by decide)) (sv_n _ (by decide))).trans ((bd_cg (sv_n _ (by decide)) (sv_n _ (by decide)) (sv_n _ (by decide))).trans (bd_cg (sv_n _ (by decide)) (sv_n _ (by decide)) (sv_n _ (by decide)))))))
                              have e_799 : wr (sv (sv (sv (sv (sv μ 111 8 3) 111 6 ((μ.1 111 6) + 1)) 111 13 x1) 111 6 ((μ.1 111 6) + 2)) 111 13 (256 + x1)) = wr μ := ((wr_cg (sv_n _ (by decide))).trans ((wr_cg (sv_n _ (by decide))).trans ((wr_cg (sv_n _ (by decide))).trans ((wr_cg (sv_n _ (by decide))).trans (wr_cg (sv_n _ (by decide)))))))
                              have e_800 : nn (sv (sv (sv (sv (sv μ 111 8 3) 111 6 ((μ.1 111 6) + 1)) 111 13 x1) 111 6 ((μ.1 111 6) + 2)) 111 13 (256 + x1)) = nn μ := ((nn_cg (sv_n _ (by decide)) (sv_n _ (by decide))).trans ((nn_cg (sv_n _ (by decide)) (sv_n _ (by decide))).trans ((nn_cg (sv_n _ (by decide)) (sv_n _ (by decide))).trans ((nn_cg (sv_n _ (by decide)) (sv_n _ (by decide))).trans (nn_cg (sv_n _ (by decide)) (sv_n _ (by decide)))))))
                              exact xr_v G hret hlk dX12_signs_206 ⟨(FrM.put (FrM.put (FrM.put (FrM.put (FrM.put FrM.rf (by decide)) (by decide)) (by decide)) (by decide)) (by decide)), (fun j hj => ((sv_n _ (fun h9 => hj (by rw [h9.2]; decide))).trans ((sv_n _ (fun h9 => hj (by rw [h9.2]; decide))).trans ((sv_n _ (fun h9 => hj (by rw [h9.2]; decide))).trans ((sv_n _ (fun h9 => hj (by rw [h9.2]; decide))).trans (sv_n _ (fun h9 => hj (by rw [h9.2]; decide)))))))), (by omega), (by omega), (by omega), (by omega)⟩
                            · refine lv_iload_n hx hb dX12_signs_134 rfl (lv_at hl 2 rfl) ?_
                              refine lv_bipush (v := iv 33) hx hb dX12_signs_135 rfl ?_
                              refine xb_icmp_eq (tgt := 188) hx hb (by unfold ir; omega) (by unfold ir; omega) dX12_signs_137 (by decide) (fun c_137 => ?_) (fun c_137 => ?_)
                              · refine lv_iconst (v := iv 1) hx hb dX12_signs_188 rfl ?_
                                refine lv_goto (tgt := 193) hx hb dX12_signs_189 (by decide) ?_
                                refine lv_istore_n (lv' := [(3, .int (iv 1)), (2, .int (iv r_9)), (0, .ref (oP ω 111)), (1, .int (iv x1))]) hx hb dX12_signs_193 rfl hl (by decide) rfl (fun ls hl => ?_)
                                refine lv_iload_n hx hb dX12_signs_194 rfl (lv_at hl 0 rfl) ?_
                                refine xb_if_ne (tgt := 206) hx hb (x := 1) (by unfold ir; omega) dX12_signs_195 (by decide) (fun c_195 => ?_) (fun c_195 => absurd c_195 (by decide))
                                have e_801 : (sv (sv (sv (sv (sv μ 111 8 3) 111 6 ((μ.1 111 6) + 1)) 111 13 x1) 111 6 ((μ.1 111 6) + 2)) 111 13 (256 + x1)).1 111 6 = (μ.1 111 6) + 2 := ((sv_n _ (by decide)).trans (sv_s _ _ _ _))
                                have e_802 : (sv (sv (sv (sv (sv μ 111 8 3) 111 6 ((μ.1 111 6) + 1)) 111 13 x1) 111 6 ((μ.1 111 6) + 2)) 111 13 (256 + x1)).1 111 6 = (μ.1 111 6) + 2 := ((sv_n _ (by decide)).trans (sv_s _ _ _ _))
                                have e_803 : (sv (sv (sv (sv (sv μ 111 8 3) 111 6 ((μ.1 111 6) + 1)) 111 13 x1) 111 6 ((μ.1 111 6) + 2)) 111 13 (256 + x1)).1 111 8 = 3 := ((sv_n _ (by decide)).trans ((sv_n _ (by decide)).trans ((sv_n _ (by decide)).trans ((sv_n _ (by decide)).trans (sv_s _ _ _ _)))))
                                have e_804 : wr (sv (sv (sv (sv (sv μ 111 8 3) 111 6 ((μ.1 111 6) + 1)) 111 13 x1) 111 6 ((μ.1 111 6) + 2)) 111 13 (256 + x1)) = wr μ := ((wr_cg (sv_n _ (by decide))).trans ((wr_cg (sv_n _ (by decide))).trans ((wr_cg (sv_n _ (by decide))).trans ((wr_cg (sv_n _ (by decide))).trans (wr_cg (sv_n _ (by decide)))))))
                                have e_805 : bd (sv (sv (sv (sv (sv μ 111 8 3) 111 6 ((μ.1 111 6) + 1)) 111 13 x1) 111 6 ((μ.1 111 6) + 2)) 111 13 (256 + x1)) = bd μ := ((bd_cg (sv_n _ (by decide)) (sv_n _ (by decide)) (sv_n _ (by decide))).trans ((bd_cg (sv_n _ (by decide)) (sv_n _ (by decide)) (sv_n _ (by decide))).trans ((bd_cg (sv_n _ (by decide)) (sv_n _ (by decide)) (sv_n _ (by decide))).trans ((bd_cg (sv_n _ (by decide)) (sv_n _ (by decide)) (sv_n _ (by decide))).trans (bd_cg (sv_n _ (by decide)) (sv_n _ (by decide)) (sv_n _ (by decide)))))))
                                have e_806 : wr (sv (sv (sv (sv (sv μ 111 8 3) 111 6 ((μ.1 111 6) + 1)) 111 13 x1) 111 6 ((μ.1 111 6) + 2)) 111 13 (256 + x1)) = wr μ := ((wr_cg (sv_n _ (by decide))).trans ((wr_cg (sv_n _ (by decide))).trans ((wr_cg (sv_n _ (by decide))).trans ((wr_cg (sv_n _ (by decide))).trans (wr_cg (sv_n _ (by decide)))))))
                                have e_807 : nn (sv (sv (sv (sv (sv μ 111 8 3) 111 6 ((μ.1 111 6) + 1)) 111 13 x1) 111 6 ((μ.1 111 6) + 2)) 111 13 (256 + x1)) = nn μ := ((nn_cg (sv_n _ (by decide)) (sv_n _ (by decide))).trans ((nn_cg (sv_n _ (by decide)) (sv_n _ (by decide))).trans ((nn_cg (sv_n _ (by decide)) (sv_n _ (by decide))).trans ((nn_cg (sv_n _ (by decide)) (sv_n _ (by decide))).trans (nn_cg (sv_n _ (by decide)) (sv_n _ (by decide)))))))
                                exact xr_v G hret hlk dX12_signs_206 ⟨(FrM.put (FrM.put (FrM.put (FrM.put (FrM.put FrM.rf (by decide)) (by decide)) (by decide)) (by decide)) (by decide)), (fun j hj => ((sv_n _ (fun h9 => hj (by rw [h9.2]; decide))).trans ((sv_n _ (fun h9 => hj (by rw [h9.2]; decide))).trans ((sv_n _ (fun h9 => hj (by rw [h9.2]; decide))).trans ((sv_n _ (fun h9 => hj (by rw [h9.2]; decide))).trans (sv_n _ (fun h9 => hj (by rw [h9.2]; decide)))))))), (by omega), (by omega), (by omega), (by omega)⟩
                              · refine lv_iload_n hx hb dX12_signs_140 rfl (lv_at hl 2 rfl) ?_
                                refine lv_bipush (v := iv 61) hx hb dX12_signs_141 rfl ?_
                                refine xb_icmp_eq (tgt := 188) hx hb (by unfold ir; omega) (by unfold ir; omega) dX12_signs_143 (by decide) (fun c_143 => ?_) (fun c_143 => ?_)
                                · refine lv_iconst (v := iv 1) hx hb dX12_signs_188 rfl ?_
                                  refine lv_goto (tgt := 193) hx hb dX12_signs_189 (by decide) ?_
                                  refine lv_istore_n (lv' := [(3, .int (iv 1)), (2, .int (iv r_9)), (0, .ref (oP ω 111)), (1, .int (iv x1))]) hx hb dX12_signs_193 rfl hl (by decide) rfl (fun ls hl => ?_)
                                  refine lv_iload_n hx hb dX12_signs_194 rfl (lv_at hl 0 rfl) ?_
                                  refine xb_if_ne (tgt := 206) hx hb (x := 1) (by unfold ir; omega) dX12_signs_195 (by decide) (fun c_195 => ?_) (fun c_195 => absurd c_195 (by decide))
                                  have e_808 : (sv (sv (sv (sv (sv μ 111 8 3) 111 6 ((μ.1 111 6) + 1)) 111 13 x1) 111 6 ((μ.1 111 6) + 2)) 111 13 (256 + x1)).1 111 6 = (μ.1 111 6) + 2 := ((sv_n _ (by decide)).trans (sv_s _ _ _ _))
                                  have e_809 : (sv (sv (sv (sv (sv μ 111 8 3) 111 6 ((μ.1 111 6) + 1)) 111 13 x1) 111 6 ((μ.1 111 6) + 2)) 111 13 (256 + x1)).1 111 6 = (μ.1 111 6) + 2 := ((sv_n _ (by decide)).trans (sv_s _ _ _ _))
                                  have e_810 : (sv (sv (sv (sv (sv μ 111 8 3) 111 6 ((μ.1 111 6) + 1)) 111 13 x1) 111 6 ((μ.1 111 6) + 2)) 111 13 (256 + x1)).1 111 8 = 3 := ((sv_n _ (by decide)).trans ((sv_n _ (by decide)).trans ((sv_n _ (by decide)).trans ((sv_n _ (by decide)).trans (sv_s _ _ _ _)))))
                                  have e_811 : wr (sv (sv (sv (sv (sv μ 111 8 3) 111 6 ((μ.1 111 6) + 1)) 111 13 x1) 111 6 ((μ.1 111 6) + 2)) 111 13 (256 + x1)) = wr μ := ((wr_cg (sv_n _ (by decide))).trans ((wr_cg (sv_n _ (by decide))).trans ((wr_cg (sv_n _ (by decide))).trans ((wr_cg (sv_n _ (by decide))).trans (wr_cg (sv_n _ (by decide)))))))
                                  have e_812 : bd (sv (sv (sv (sv (sv μ 111 8 3) 111 6 ((μ.1 111 6) + 1)) 111 13 x1) 111 6 ((μ.1 111 6) + 2)) 111 13 (256 + x1)) = bd μ := ((bd_cg (sv_n _ (by decide)) (sv_n _ (by decide)) (sv_n _ (by decide))).trans ((bd_cg (sv_n _ (by decide)) (sv_n _ (by decide)) (sv_n _ (by decide))).trans ((bd_cg (sv_n _ (by decide)) (sv_n _ (by decide)) (sv_n _ (by decide))).trans ((bd_cg (sv_n _ (by decide)) (sv_n _ (by decide)) (sv_n _ (by decide))).trans (bd_cg (sv_n _ (by decide)) (sv_n _ (by decide)) (sv_n _ (by decide)))))))
                                  have e_813 : wr (sv (sv (sv (sv (sv μ 111 8 3) 111 6 ((μ.1 111 6) + 1)) 111 13 x1) 111 6 ((μ.1 111 6) + 2)) 111 13 (256 + x1)) = wr μ := ((wr_cg (sv_n _ (by decide))).trans ((wr_cg (sv_n _ (by decide))).trans ((wr_cg (sv_n _ (by decide))).trans ((wr_cg (sv_n _ (by decide))).trans (wr_cg (sv_n _ (by decide)))))))
                                  have e_814 : nn (sv (sv (sv (sv (sv μ 111 8 3) 111 6 ((μ.1 111 6) + 1)) 111 13 x1) 111 6 ((μ.1 111 6) + 2)) 111 13 (256 + x1)) = nn μ := ((nn_cg (sv_n _ (by decide)) (sv_n _ (by decide))).trans ((nn_cg (sv_n _ (by decide)) (sv_n _ (by decide))).trans ((nn_cg (sv_n _ (by decide)) (sv_n _ (by decide))).trans ((nn_cg (sv_n _ (by decide)) (sv_n _ (by decide))).trans (nn_cg (sv_n _ (by decide)) (sv_n _ (by decide)))))))
                                  exact xr_v G hret hlk dX12_signs_206 ⟨(FrM.put (FrM.put (FrM.put (FrM.put (FrM.put FrM.rf (by decide)) (by decide)) (by decide)) (by decide)) (by decide)), (fun j hj => ((sv_n _ (fun h9 => hj (by rw [h9.2]; decide))).trans ((sv_n _ (fun h9 => hj (by rw [h9.2]; decide))).trans ((sv_n _ (fun h9 => hj (by rw [h9.2]; decide))).trans ((sv_n _ (fun h9 => hj (by rw [h9.2]; decide))).trans (sv_n _ (fun h9 => hj (by rw [h9.2]; decide)))))))), (by omega), (by omega), (by omega), (by omega)⟩
                                · refine lv_iload_n hx hb dX12_signs_146 rfl (lv_at hl 2 rfl) ?_
                                  refine lv_bipush (v := iv 60) hx hb dX12_signs_147 rfl ?_
                                  refine xb_icmp_eq (tgt := 188) hx hb (by unfold ir; omega) (by unfold ir; omega) dX12_signs_149 (by decide) (fun c_149 => ?_) (fun c_149 => ?_)
                                  · refine lv_iconst (v := iv 1) hx hb dX12_signs_188 rfl ?_
                                    refine lv_goto (tgt := 193) hx hb dX12_signs_189 (by decide) ?_
                                    refine lv_istore_n (lv' := [(3, .int (iv 1)), (2, .int (iv r_9)), (0, .ref (oP ω 111)), (1, .int (iv x1))]) hx hb dX12_signs_193 rfl hl (by decide) rfl (fun ls hl => ?_)
                                    refine lv_iload_n hx hb dX12_signs_194 rfl (lv_at hl 0 rfl) ?_
                                    refine xb_if_ne (tgt := 206) hx hb (x := 1) (by unfold ir; omega) dX12_signs_195 (by decide) (fun c_195 => ?_) (fun c_195 => absurd c_195 (by decide))
                                    have e_815 : (sv (sv (sv (sv (sv μ 111 8 3) 111 6 ((μ.1 111 6) + 1)) 111 13 x1) 111 6 ((μ.1 111 6) + 2)) 111 13 (256 + x1)).1 111 6 = (μ.1 111 6) + 2 := ((sv_n _ (by decide)).trans (sv_s _ _ _ _))
                                    have e_816 : (sv (sv (sv (sv (sv μ 111 8 3) 111 6 ((μ.1 111 6) + 1)) 111 13 x1) 111 6 ((μ.1 111 6) + 2)) 111 13 (256 + x1)).1 111 6 = (μ.1 111 6) + 2 := ((sv_n _ (by decide)).trans (sv_s _ _ _ _))
                                    have e_817 : (sv (sv (sv (sv (sv μ 111 8 3) 111 6 ((μ.1 111 6) + 1)) 111 13 x1) 111 6 ((μ.1 111 6) + 2)) 111 13 (256 + x1)).1 111 8 = 3 := ((sv_n _ (by decide)).trans ((sv_n _ (by decide)).trans ((sv_n _ (by decide)).trans ((sv_n _ (by decide)).trans (sv_s _ _ _ _)))))
                                    have e_818 : wr (sv (sv (sv (sv (sv μ 111 8 3) 111 6 ((μ.1 111 6) + 1)) 111 13 x1) 111 6 ((μ.1 111 6) + 2)) 111 13 (256 + x1)) = wr μ := ((wr_cg (sv_n _ (by decide))).trans ((wr_cg (sv_n _ (by decide))).trans ((wr_cg (sv_n _ (by decide))).trans ((wr_cg (sv_n _ (by decide))).trans (wr_cg (sv_n _ (by decide)))))))
                                    have e_819 : bd (sv (sv (sv (sv (sv μ 111 8 3) 111 6 ((μ.1 111 6) + 1)) 111 13 x1) 111 6 ((μ.1 111 6) + 2)) 111 13 (256 + x1)) = bd μ := ((bd_cg (sv_n _ (by decide)) (sv_n _ (by decide)) (sv_n _ (by decide))).trans ((bd_cg (sv_n _ (by decide)) (sv_n _ (by decide)) (sv_n _ (by decide))).trans ((bd_cg (sv_n _ (by decide)) (sv_n _ (by decide)) (sv_n _ (by decide))).trans ((bd_cg (sv_n _ (by decide)) (sv_n _ (by decide)) (sv_n _ (by decide))).trans (bd_cg (sv_n _ (by decide)) (sv_n _ (by decide)) (sv_n _ (by decide)))))))
                                    have e_820 : wr (sv (sv (sv (sv (sv μ 111 8 3) 111 6 ((μ.1 111 6) + 1)) 111 13 x1) 111 6 ((μ.1 111 6) + 2)) 111 13 (256 + x1)) = wr μ := ((wr_cg (sv_n _ (by decide))).trans ((wr_cg (sv_n _ (by decide))).trans ((wr_cg (sv_n _ (by decide))).trans ((wr_cg (sv_n _ (by decide))).trans (wr_cg (sv_n _ (by decide)))))))
                                    have e_821 : nn (sv (sv (sv (sv (sv μ 111 8 3) 111 6 ((μ.1 111 6) + 1)) 111 13 x1) 111 6 ((μ.1 111 6) + 2)) 111 13 (256 + x1)) = nn μ := ((nn_cg (sv_n _ (by decide)) (sv_n _ (by decide))).trans ((nn_cg (sv_n _ (by decide)) (sv_n _ (by decide))).trans ((nn_cg (sv_n _ (by decide)) (sv_n _ (by decide))).trans ((nn_cg (sv_n _ (by decide)) (sv_n _ (by decide))).trans (nn_cg (sv_n _ (by decide)) (sv_n _ (by decide)))))))
                                    exact xr_v G hret hlk dX12_signs_206 ⟨(FrM.put (FrM.put (FrM.put (FrM.put (FrM.put FrM.rf (by decide)) (by decide)) (by decide)) (by decide)) (by decide)), (fun j hj => ((sv_n _ (fun h9 => hj (by rw [h9.2]; decide))).trans ((sv_n _ (fun h9 => hj (by rw [h9.2]; decide))).trans ((sv_n _ (fun h9 => hj (by rw [h9.2]; decide))).trans ((sv_n _ (fun h9 => hj (by rw [h9.2]; decide))).trans (sv_n _ (fun h9 => hj (by rw [h9.2]; decide)))))))), (by omega), (by omega), (by omega), (by omega)⟩
                                  · refine lv_iload_n hx hb dX12_signs_152 rfl (lv_at hl 2 rfl) ?_
                                    refine lv_bipush (v := iv 62) hx hb dX12_signs_153 rfl ?_
                                    refine xb_icmp_eq (tgt := 188) hx hb (by unfold ir; omega) (by unfold ir; omega) dX12_signs_155 (by decide) (fun c_155 => ?_) (fun c_155 => ?_)
                                    · refine lv_iconst (v := iv 1) hx hb dX12_signs_188 rfl ?_
                                      refine lv_goto (tgt := 193) hx hb dX12_signs_189 (by decide) ?_
                                      refine lv_istore_n (lv' := [(3, .int (iv 1)), (2, .int (iv r_9)), (0, .ref (oP ω 111)), (1, .int (iv x1))]) hx hb dX12_signs_193 rfl hl (by decide) rfl (fun ls hl => ?_)
                                      refine lv_iload_n hx hb dX12_signs_194 rfl (lv_at hl 0 rfl) ?_
                                      refine xb_if_ne (tgt := 206) hx hb (x := 1) (by unfold ir; omega) dX12_signs_195 (by decide) (fun c_195 => ?_) (fun c_195 => absurd c_195 (by decide))
                                      have e_822 : (sv (sv (sv (sv (sv μ 111 8 3) 111 6 ((μ.1 111 6) + 1)) 111 13 x1) 111 6 ((μ.1 111 6) + 2)) 111 13 (256 + x1)).1 111 6 = (μ.1 111 6) + 2 := ((sv_n _ (by decide)).trans (sv_s _ _ _ _))
                                      have e_823 : (sv (sv (sv (sv (sv μ 111 8 3) 111 6 ((μ.1 111 6) + 1)) 111 13 x1) 111 6 ((μ.1 111 6) + 2)) 111 13 (256 + x1)).1 111 6 = (μ.1 111 6) + 2 := ((sv_n _ (by decide)).trans (sv_s _ _ _ _))
                                      have e_824 : (sv (sv (sv (sv (sv μ 111 8 3) 111 6 ((μ.1 111 6) + 1)) 111 13 x1) 111 6 ((μ.1 111 6) + 2)) 111 13 (256 + x1)).1 111 8 = 3 := ((sv_n _ (by decide)).trans ((sv_n _ (by decide)).trans ((sv_n _ (by decide)).trans ((sv_n _ (by decide)).trans (sv_s _ _ _ _)))))
                                      have e_825 : wr (sv (sv (sv (sv (sv μ 111 8 3) 111 6 ((μ.1 111 6) + 1)) 111 13 x1) 111 6 ((μ.1 111 6) + 2)) 111 13 (256 + x1)) = wr μ := ((wr_cg (sv_n _ (by decide))).trans ((wr_cg (sv_n _ (by decide))).trans ((wr_cg (sv_n _ (by decide))).trans ((wr_cg (sv_n _ (by decide))).trans (wr_cg (sv_n _ (by decide)))))))
                                      have e_826 : bd (sv (sv (sv (sv (sv μ 111 8 3) 111 6 ((μ.1 111 6) + 1)) 111 13 x1) 111 6 ((μ.1 111 6) + 2)) 111 13 (256 + x1)) = bd μ := ((bd_cg (sv_n _ (by decide)) (sv_n _ (by decide)) (sv_n _ (by decide))).trans ((bd_cg (sv_n _ (by decide)) (sv_n _ (by decide)) (sv_n _ (by decide))).trans ((bd_cg (sv_n _ (by decide)) (sv_n _ (by decide)) (sv_n _ (by decide))).trans ((bd_cg (sv_n _ (by decide)) (sv_n _ (by decide)) (sv_n _ (by decide))).trans (bd_cg (sv_n _ (by decide)) (sv_n _ (by decide)) (sv_n _ (by decide)))))))
                                      have e_827 : wr (sv (sv (sv (sv (sv μ 111 8 3) 111 6 ((μ.1 111 6) + 1)) 111 13 x1) 111 6 ((μ.1 111 6) + 2)) 111 13 (256 + x1)) = wr μ := ((wr_cg (sv_n _ (by decide))).trans ((wr_cg (sv_n _ (by decide))).trans ((wr_cg (sv_n _ (by decide))).trans ((wr_cg (sv_n _ (by decide))).trans (wr_cg (sv_n _ (by decide)))))))
                                      have e_828 : nn (sv (sv (sv (sv (sv μ 111 8 3) 111 6 ((μ.1 111 6) + 1)) 111 13 x1) 111 6 ((μ.1 111 6) + 2)) 111 13 (256 + x1)) = nn μ := ((nn_cg (sv_n _ (by decide)) (sv_n _ (by decide))).trans ((nn_cg (sv_n _ (by decide)) (sv_n _ (by decide))).trans ((nn_cg (sv_n _ (by decide)) (sv_n _ (by decide))).trans ((nn_cg (sv_n _ (by decide)) (sv_n _ (by decide))).trans (nn_cg (sv_n _ (by decide)) (sv_n _ (by decide)))))))
                                      exact xr_v G hret hlk dX12_signs_206 ⟨(FrM.put (FrM.put (FrM.put (FrM.put (FrM.put FrM.rf (by decide)) (by decide)) (by decide)) (by decide)) (by decide)), (fun j hj => ((sv_n _ (fun h9 => hj (by rw [h9.2]; decide))).trans ((sv_n _ (fun h9 => hj (by rw [h9.2]; decide))).trans ((sv_n _ (fun h9 => hj (by rw [h9.2]; decide))).trans ((sv_n _ (fun h9 => hj (by rw [h9.2]; decide))).trans (sv_n _ (fun h9 => hj (by rw [h9.2]; decide)))))))), (by omega), (by omega), (by omega), (by omega)⟩
                                    · refine lv_iload_n hx hb dX12_signs_158 rfl (lv_at hl 2 rfl) ?_
                                      refine lv_bipush (v := iv 43) hx hb dX12_signs_159 rfl ?_
                                      refine xb_icmp_eq (tgt := 188) hx hb (by unfold ir; omega) (by unfold ir; omega) dX12_signs_161 (by decide) (fun c_161 => ?_) (fun c_161 => ?_)
                                      · refine lv_iconst (v := iv 1) hx hb dX12_signs_188 rfl ?_
                                        refine lv_goto (tgt := 193) hx hb dX12_signs_189 (by decide) ?_
                                        refine lv_istore_n (lv' := [(3, .int (iv 1)), (2, .int (iv r_9)), (0, .ref (oP ω 111)), (1, .int (iv x1))]) hx hb dX12_signs_193 rfl hl (by decide) rfl (fun ls hl => ?_)
                                        refine lv_iload_n hx hb dX12_signs_194 rfl (lv_at hl 0 rfl) ?_
                                        refine xb_if_ne (tgt := 206) hx hb (x := 1) (by unfold ir; omega) dX12_signs_195 (by decide) (fun c_195 => ?_) (fun c_195 => absurd c_195 (by decide))
                                        have e_829 : (sv (sv (sv (sv (sv μ 111 8 3) 111 6 ((μ.1 111 6) + 1)) 111 13 x1) 111 6 ((μ.1 111 6) + 2)) 111 13 (256 + x1)).1 111 6 = (μ.1 111 6) + 2 := ((sv_n _ (by decide)).trans (sv_s _ _ _ _))
                                        have e_830 : (sv (sv (sv (sv (sv μ 111 8 3) 111 6 ((μ.1 111 6) + 1)) 111 13 x1) 111 6 ((μ.1 111 6) + 2)) 111 13 (256 + x1)).1 111 6 = (μ.1 111 6) + 2 := ((sv_n _ (by decide)).trans (sv_s _ _ _ _))
                                        have e_831 : (sv (sv (sv (sv (sv μ 111 8 3) 111 6 ((μ.1 111 6) + 1)) 111 13 x1) 111 6 ((μ.1 111 6) + 2)) 111 13 (256 + x1)).1 111 8 = 3 := ((sv_n _ (by decide)).trans ((sv_n _ (by decide)).trans ((sv_n _ (by decide)).trans ((sv_n _ (by decide)).trans (sv_s _ _ _ _)))))
                                        have e_832 : wr (sv (sv (sv (sv (sv μ 111 8 3) 111 6 ((μ.1 111 6) + 1)) 111 13 x1) 111 6 ((μ.1 111 6) + 2)) 111 13 (256 + x1)) = wr μ := ((wr_cg (sv_n _ (by decide))).trans ((wr_cg (sv_n _ (by decide))).trans ((wr_cg (sv_n _ (by decide))).trans ((wr_cg (sv_n _ (by decide))).trans (wr_cg (sv_n _ (by decide)))))))
                                        have e_833 : bd (sv (sv (sv (sv (sv μ 111 8 3) 111 6 ((μ.1 111 6) + 1)) 111 13 x1) 111 6 ((μ.1 111 6) + 2)) 111 13 (256 + x1)) = bd μ := ((bd_cg (sv_n _ (by decide)) (sv_n _ (by decide)) (sv_n _ (by decide))).trans ((bd_cg (sv_n _ (by decide)) (sv_n _ (by decide)) (sv_n _ (by decide))).trans ((bd_cg (sv_n _ (by decide)) (sv_n _ (by decide)) (sv_n _ (by decide))).trans ((bd_cg (sv_n _ (by decide)) (sv_n _ (by decide)) (sv_n _ (by decide))).trans (bd_cg (sv_n _ (by decide)) (sv_n _ (by decide)) (sv_n _ (by decide)))))))
                                        have e_834 : wr (sv (sv (sv (sv (sv μ 111 8 3) 111 6 ((μ.1 111 6) + 1)) 111 13 x1) 111 6 ((μ.1 111 6) + 2)) 111 13 (256 + x1)) = wr μ := ((wr_cg (sv_n _ (by decide))).trans ((wr_cg (sv_n _ (by decide))).trans ((wr_cg (sv_n _ (by decide))).trans ((wr_cg (sv_n _ (by decide))).trans (wr_cg (sv_n _ (by decide)))))))
                                        have e_835 : nn (sv (sv (sv (sv (sv μ 111 8 3) 111 6 ((μ.1 111 6) + 1)) 111 13 x1) 111 6 ((μ.1 111 6) + 2)) 111 13 (256 + x1)) = nn μ := ((nn_cg (sv_n _ (by decide)) (sv_n _ (by decide))).trans ((nn_cg (sv_n _ (by decide)) (sv_n _ (by decide))).trans ((nn_cg (sv_n _ (by decide)) (sv_n _ (by decide))).trans ((nn_cg (sv_n _ (by decide)) (sv_n _ (by decide))).trans (nn_cg (sv_n _ (by decide)) (sv_n _ (by decide)))))))
                                        exact xr_v G hret hlk dX12_signs_206 ⟨(FrM.put (FrM.put (FrM.put (FrM.put (FrM.put FrM.rf (by decide)) (by decide)) (by decide)) (by decide)) (by decide)), (fun j hj => ((sv_n _ (fun h9 => hj (by rw [h9.2]; decide))).trans ((sv_n _ (fun h9 => hj (by rw [h9.2]; decide))).trans ((sv_n _ (fun h9 => hj (by rw [h9.2]; decide))).trans ((sv_n _ (fun h9 => hj (by rw [h9.2]; decide))).trans (sv_n _ (fun h9 => hj (by rw [h9.2]; decide)))))))), (by omega), (by omega), (by omega), (by omega)⟩
                                      · refine lv_iload_n hx hb dX12_signs_164 rfl (lv_at hl 2 rfl) ?_
                                        refine lv_bipush (v := iv 45) hx hb dX12_signs_165 rfl ?_
                                        refine xb_icmp_eq (tgt := 188) hx hb (by unfold ir; omega) (by unfold ir; omega) dX12_signs_167 (by decide) (fun c_167 => ?_) (fun c_167 => ?_)
                                        · refine lv_iconst (v := iv 1) hx hb dX12_signs_188 rfl ?_
                                          refine lv_goto (tgt := 193) hx hb dX12_signs_189 (by decide) ?_
                                          refine lv_istore_n (lv' := [(3, .int (iv 1)), (2, .int (iv r_9)), (0, .ref (oP ω 111)), (1, .int (iv x1))]) hx hb dX12_signs_193 rfl hl (by decide) rfl (fun ls hl => ?_)
                                          refine lv_iload_n hx hb dX12_signs_194 rfl (lv_at hl 0 rfl) ?_
                                          refine xb_if_ne (tgt := 206) hx hb (x := 1) (by unfold ir; omega) dX12_signs_195 (by decide) (fun c_195 => ?_) (fun c_195 => absurd c_195 (by decide))
                                          have e_836 : (sv (sv (sv (sv (sv μ 111 8 3) 111 6 ((μ.1 111 6) + 1)) 111 13 x1) 111 6 ((μ.1 111 6) + 2)) 111 13 (256 + x1)).1 111 6 = (μ.1 111 6) + 2 := ((sv_n _ (by decide)).trans (sv_s _ _ _ _))
                                          have e_837 : (sv (sv (sv (sv (sv μ 111 8 3) 111 6 ((μ.1 111 6) + 1)) 111 13 x1) 111 6 ((μ.1 111 6) + 2)) 111 13 (256 + x1)).1 111 6 = (μ.1 111 6) + 2 := ((sv_n _ (by decide)).trans (sv_s _ _ _ _))
                                          have e_838 : (sv (sv (sv (sv (sv μ 111 8 3) 111 6 ((μ.1 111 6) + 1)) 111 13 x1) 111 6 ((μ.1 111 6) + 2)) 111 13 (256 + x1)).1 111 8 = 3 := ((sv_n _ (by decide)).trans ((sv_n _ (by decide)).trans ((sv_n _ (by decide)).trans ((sv_n _ (by decide)).trans (sv_s _ _ _ _)))))
                                          have e_839 : wr (sv (sv (sv (sv (sv μ 111 8 3) 111 6 ((μ.1 111 6) + 1)) 111 13 x1) 111 6 ((μ.1 111 6) + 2)) 111 13 (256 + x1)) = wr μ := ((wr_cg (sv_n _ (by decide))).trans ((wr_cg (sv_n _ (by decide))).trans ((wr_cg (sv_n _ (by decide))).trans ((wr_cg (sv_n _ (by decide))).trans (wr_cg (sv_n _ (by decide)))))))
                                          have e_840 : bd (sv (sv (sv (sv (sv μ 111 8 3) 111 6 ((μ.1 111 6) + 1)) 111 13 x1) 111 6 ((μ.1 111 6) + 2)) 111 13 (256 + x1)) = bd μ := ((bd_cg (sv_n _ (by decide)) (sv_n _ (by decide)) (sv_n _ (by decide))).trans ((bd_cg (sv_n _ (by decide)) (sv_n _ (by decide)) (sv_n _ (by decide))).trans ((bd_cg (sv_n _ (by decide)) (sv_n _ (by decide)) (sv_n _ (by decide))).trans ((bd_cg (sv_n _ (by decide)) (sv_n _ (by decide)) (sv_n _ (by decide))).trans (bd_cg (sv_n _ (by decide)) (sv_n _ (by decide)) (sv_n _ (by decide)))))))
                                          have e_841 : wr (sv (sv (sv (sv (sv μ 111 8 3) 111 6 ((μ.1 111 6) + 1)) 111 13 x1) 111 6 ((μ.1 111 6) + 2)) 111 13 (256 + x1)) = wr μ := ((wr_cg (sv_n _ (by decide))).trans ((wr_cg (sv_n _ (by decide))).trans ((wr_cg (sv_n _ (by decide))).trans ((wr_cg (sv_n _ (by decide))).trans (wr_cg (sv_n _ (by decide)))))))
                                          have e_842 : nn (sv (sv (sv (sv (sv μ 111 8 3) 111 6 ((μ.1 111 6) + 1)) 111 13 x1) 111 6 ((μ.1 111 6) + 2)) 111 13 (256 + x1)) = nn μ := ((nn_cg (sv_n _ (by decide)) (sv_n _ (by decide))).trans ((nn_cg (sv_n _ (by decide)) (sv_n _ (by decide))).trans ((nn_cg (sv_n _ (by decide)) (sv_n _ (by decide))).trans ((nn_cg (sv_n _ (by decide)) (sv_n _ (by decide))).trans (nn_cg (sv_n _ (by decide)) (sv_n _ (by decide)))))))
                                          exact xr_v G hret hlk dX12_signs_206 ⟨(FrM.put (FrM.put (FrM.put (FrM.put (FrM.put FrM.rf (by decide)) (by decide)) (by decide)) (by decide)) (by decide)), (fun j hj => ((sv_n _ (fun h9 => hj (by rw [h9.2]; decide))).trans ((sv_n _ (fun h9 => hj (by rw [h9.2]; decide))).trans ((sv_n _ (fun h9 => hj (by rw [h9.2]; decide))).trans ((sv_n _ (fun h9 => hj (by rw [h9.2]; decide))).trans (sv_n _ (fun h9 => hj (by rw [h9.2]; decide)))))))), (by omega), (by omega), (by omega), (by omega)⟩
                                        · refine lv_iload_n hx hb dX12_signs_170 rfl (lv_at hl 2 rfl) ?_
                                          refine lv_bipush (v := iv 42) hx hb dX12_signs_171 rfl ?_
                                          refine xb_icmp_eq (tgt := 188) hx hb (by unfold ir; omega) (by unfold ir; omega) dX12_signs_173 (by decide) (fun c_173 => ?_) (fun c_173 => ?_)
                                          · refine lv_iconst (v := iv 1) hx hb dX12_signs_188 rfl ?_
                                            refine lv_goto (tgt := 193) hx hb dX12_signs_189 (by decide) ?_
                                            refine lv_istore_n (lv' := [(3, .int (iv 1)), (2, .int (iv r_9)), (0, .ref (oP ω 111)), (1, .int (iv x1))]) hx hb dX12_signs_193 rfl hl (by decide) rfl (fun ls hl => ?_)
                                            refine lv_iload_n hx hb dX12_signs_194 rfl (lv_at hl 0 rfl) ?_
                                            refine xb_if_ne (tgt := 206) hx hb (x := 1) (by unfold ir; omega) dX12_signs_195 (by decide) (fun c_195 => ?_) (fun c_195 => absurd c_195 (by decide))
                                            have e_843 : (sv (sv (sv (sv (sv μ 111 8 3) 111 6 ((μ.1 111 6) + 1)) 111 13 x1) 111 6 ((μ.1 111 6) + 2)) 111 13 (256 + x1)).1 111 6 = (μ.1 111 6) + 2 := ((sv_n _ (by decide)).trans (sv_s _ _ _ _))
                                            have e_844 : (sv (sv (sv (sv (sv μ 111 8 3) 111 6 ((μ.1 111 6) + 1)) 111 13 x1) 111 6 ((μ.1 111 6) + 2)) 111 13 (256 + x1)).1 111 6 = (μ.1 111 6) + 2 := ((sv_n _ (by decide)).trans (sv_s _ _ _ _))
                                            have e_845 : (sv (sv (sv (sv (sv μ 111 8 3) 111 6 ((μ.1 111 6) + 1)) 111 13 x1) 111 6 ((μ.1 111 6) + 2)) 111 13 (256 + x1)).1 111 8 = 3 := ((sv_n _ (by decide)).trans ((sv_n _ (by decide)).trans ((sv_n _ (by decide)).trans ((sv_n _ (by decide)).trans (sv_s _ _ _ _)))))
                                            have e_846 : wr (sv (sv (sv (sv (sv μ 111 8 3) 111 6 ((μ.1 111 6) + 1)) 111 13 x1) 111 6 ((μ.1 111 6) + 2)) 111 13 (256 + x1)) = wr μ := ((wr_cg (sv_n _ (by decide))).trans ((wr_cg (sv_n _ (by decide))).trans ((wr_cg (sv_n _ (by decide))).trans ((wr_cg (sv_n _ (by decide))).trans (wr_cg (sv_n _ (by decide)))))))
                                            have e_847 : bd (sv (sv (sv (sv (sv μ 111 8 3) 111 6 ((μ.1 111 6) + 1)) 111 13 x1) 111 6 ((μ.1 111 6) + 2)) 111 13 (256 + x1)) = bd μ := ((bd_cg (sv_n _ (by decide)) (sv_n _ (by decide)) (sv_n _ (by decide))).trans ((bd_cg (sv_n _ (by decide)) (sv_n _ (by decide)) (sv_n _ (by decide))).trans ((bd_cg (sv_n _ (by decide)) (sv_n _ (by decide)) (sv_n _ (by decide))).trans ((bd_cg (sv_n _ (by decide)) (sv_n _ (by decide)) (sv_n _ (by decide))).trans (bd_cg (sv_n _ (by decide)) (sv_n _ (by decide)) (sv_n _ (by decide)))))))
                                            have e_848 : wr (sv (sv (sv (sv (sv μ 111 8 3) 111 6 ((μ.1 111 6) + 1)) 111 13 x1) 111 6 ((μ.1 111 6) + 2)) 111 13 (256 + x1)) = wr μ := ((wr_cg (sv_n _ (by decide))).trans ((wr_cg (sv_n _ (by decide))).trans ((wr_cg (sv_n _ (by decide))).trans ((wr_cg (sv_n _ (by decide))).trans (wr_cg (sv_n _ (by decide)))))))
                                            have e_849 : nn (sv (sv (sv (sv (sv μ 111 8 3) 111 6 ((μ.1 111 6) + 1)) 111 13 x1) 111 6 ((μ.1 111 6) + 2)) 111 13 (256 + x1)) = nn μ := ((nn_cg (sv_n _ (by decide)) (sv_n _ (by decide))).trans ((nn_cg (sv_n _ (by decide)) (sv_n _ (by decide))).trans ((nn_cg (sv_n _ (by decide)) (sv_n _ (by decide))).trans ((nn_cg (sv_n _ (by decide)) (sv_n _ (by decide))).trans (nn_cg (sv_n _ (by decide)) (sv_n _ (by decide)))))))
                                            exact xr_v G hret hlk dX12_signs_206 ⟨(FrM.put (FrM.put (FrM.put (FrM.put (FrM.put FrM.rf (by decide)) (by decide)) (by decide)) (by decide)) (by decide)), (fun j hj => ((sv_n _ (fun h9 => hj (by rw [h9.2]; decide))).trans ((sv_n _ (fun h9 => hj (by rw [h9.2]; decide))).trans ((sv_n _ (fun h9 => hj (by rw [h9.2]; decide))).trans ((sv_n _ (fun h9 => hj (by rw [h9.2]; decide))).trans (sv_n _ (fun h9 => hj (by rw [h9.2]; decide)))))))), (by omega), (by omega), (by omega), (by omega)⟩
                                          · refine lv_iload_n hx hb dX12_signs_176 rfl (lv_at hl 2 rfl) ?_
                                            refine lv_bipush (v := iv 47) hx hb dX12_signs_177 rfl ?_
                                            refine xb_icmp_eq (tgt := 188) hx hb (by unfold ir; omega) (by unfold ir; omega) dX12_signs_179 (by decide) (fun c_179 => ?_) (fun c_179 => ?_)
                                            · refine lv_iconst (v := iv 1) hx hb dX12_signs_188 rfl ?_
                                              refine lv_goto (tgt := 193) hx hb dX12_signs_189 (by decide) ?_
                                              refine lv_istore_n (lv' := [(3, .int (iv 1)), (2, .int (iv r_9)), (0, .ref (oP ω 111)), (1, .int (iv x1))]) hx hb dX12_signs_193 rfl hl (by decide) rfl (fun ls hl => ?_)
                                              refine lv_iload_n hx hb dX12_signs_194 rfl (lv_at hl 0 rfl) ?_
                                              refine xb_if_ne (tgt := 206) hx hb (x := 1) (by unfold ir; omega) dX12_signs_195 (by decide) (fun c_195 => ?_) (fun c_195 => absurd c_195 (by decide))
                                              have e_850 : (sv (sv (sv (sv (sv μ 111 8 3) 111 6 ((μ.1 111 6) + 1)) 111 13 x1) 111 6 ((μ.1 111 6) + 2)) 111 13 (256 + x1)).1 111 6 = (μ.1 111 6) + 2 := ((sv_n _ (by decide)).trans (sv_s _ _ _ _))
                                              have e_851 : (sv (sv (sv (sv (sv μ 111 8 3) 111 6 ((μ.1 111 6) + 1)) 111 13 x1) 111 6 ((μ.1 111 6) + 2)) 111 13 (256 + x1)).1 111 6 = (μ.1 111 6) + 2 := ((sv_n _ (by decide)).trans (sv_s _ _ _ _))
                                              have e_852 : (sv (sv (sv (sv (sv μ 111 8 3) 111 6 ((μ.1 111 6) + 1)) 111 13 x1) 111 6 ((μ.1 111 6) + 2)) 111 13 (256 + x1)).1 111 8 = 3 := ((sv_n _ (by decide)).trans ((sv_n _ (by decide)).trans ((sv_n _ (by decide)).trans ((sv_n _ (by decide)).trans (sv_s _ _ _ _)))))
                                              have e_853 : wr (sv (sv (sv (sv (sv μ 111 8 3) 111 6 ((μ.1 111 6) + 1)) 111 13 x1) 111 6 ((μ.1 111 6) + 2)) 111 13 (256 + x1)) = wr μ := ((wr_cg (sv_n _ (by decide))).trans ((wr_cg (sv_n _ (by decide))).trans ((wr_cg (sv_n _ (by decide))).trans ((wr_cg (sv_n _ (by decide))).trans (wr_cg (sv_n _ (by decide)))))))
                                              have e_854 : bd (sv (sv (sv (sv (sv μ 111 8 3) 111 6 ((μ.1 111 6) + 1)) 111 13 x1) 111 6 ((μ.1 111 6) + 2)) 111 13 (256 + x1)) = bd μ := ((bd_cg (sv_n _ (by decide)) (sv_n _ (by decide)) (sv_n _ (by decide))).trans ((bd_cg (sv_n _ (by decide)) (sv_n _ (by decide)) (sv_n _ (by decide))).trans ((bd_cg (sv_n _ (by decide)) (sv_n _ (by decide)) (sv_n _ (by decide))).trans ((bd_cg (sv_n _ (by decide)) (sv_n _ (by decide)) (sv_n _ (by decide))).trans (bd_cg (sv_n _ (by decide)) (sv_n _ (by decide)) (sv_n _ (by decide)))))))
                                              have e_855 : wr (sv (sv (sv (sv (sv μ 111 8 3) 111 6 ((μ.1 111 6) + 1)) 111 13 x1) 111 6 ((μ.1 111 6) + 2)) 111 13 (256 + x1)) = wr μ := ((wr_cg (sv_n _ (by decide))).trans ((wr_cg (sv_n _ (by decide))).trans ((wr_cg (sv_n _ (by decide))).trans ((wr_cg (sv_n _ (by decide))).trans (wr_cg (sv_n _ (by decide)))))))
                                              have e_856 : nn (sv (sv (sv (sv (sv μ 111 8 3) 111 6 ((μ.1 111 6) + 1)) 111 13 x1) 111 6 ((μ.1 111 6) + 2)) 111 13 (256 + x1)) = nn μ := ((nn_cg (sv_n _ (by decide)) (sv_n _ (by decide))).trans ((nn_cg (sv_n _ (by decide)) (sv_n _ (by decide))).trans ((nn_cg (sv_n _ (by decide)) (sv_n _ (by decide))).trans ((nn_cg (sv_n _ (by decide)) (sv_n _ (by decide))).trans (nn_cg (sv_n _ (by decide)) (sv_n _ (by decide)))))))
                                              exact xr_v G hret hlk dX12_signs_206 ⟨(FrM.put (FrM.put (FrM.put (FrM.put (FrM.put FrM.rf (by decide)) (by decide)) (by decide)) (by decide)) (by decide)), (fun j hj => ((sv_n _ (fun h9 => hj (by rw [h9.2]; decide))).trans ((sv_n _ (fun h9 => hj (by rw [h9.2]; decide))).trans ((sv_n _ (fun h9 => hj (by rw [h9.2]; decide))).trans ((sv_n _ (fun h9 => hj (by rw [h9.2]; decide))).trans (sv_n _ (fun h9 => hj (by rw [h9.2]; decide)))))))), (by omega), (by omega), (by omega), (by omega)⟩
                                            · refine lv_iload_n hx hb dX12_signs_182 rfl (lv_at hl 2 rfl) ?_
                                              refine lv_bipush (v := iv 37) hx hb dX12_signs_183 rfl ?_
                                              refine xb_icmp_ne (tgt := 192) hx hb (by unfold ir; omega) (by unfold ir; omega) dX12_signs_185 (by decide) (fun c_185 => ?_) (fun c_185 => ?_)
                                              · refine lv_iconst (v := iv 0) hx hb dX12_signs_192 rfl ?_
                                                refine lv_istore_n (lv' := [(3, .int (iv 0)), (2, .int (iv r_9)), (0, .ref (oP ω 111)), (1, .int (iv x1))]) hx hb dX12_signs_193 rfl hl (by decide) rfl (fun ls hl => ?_)
                                                refine lv_iload_n hx hb dX12_signs_194 rfl (lv_at hl 0 rfl) ?_
                                                refine xb_if_ne (tgt := 206) hx hb (x := 0) (by unfold ir; omega) dX12_signs_195 (by decide) (fun c_195 => absurd c_195 (by decide)) (fun c_195 => ?_)
                                                refine lv_aload_n hx hb dX12_signs_198 rfl (lv_at hl 2 rfl) ?_
                                                refine lv_aload_n hx hb dX12_signs_199 rfl (lv_at hl 2 rfl) ?_
                                                refine xa_geti G fd_X12 (a := 111) (x := μ.1 111 9) 9 rfl (by decide) rfl (wm 7 158 rfl rfl) ⟨rfl, rfl, rfl⟩ dX12_signs_200 rfl ((sv_n _ (by decide)).trans ((sv_n _ (by decide)).trans ((sv_n _ (by decide)).trans ((sv_n _ (by decide)).trans (sv_n _ (by decide)))))) ?_
                                                have hr_857 : -2147483648 ≤ μ.1 111 9 ∧ μ.1 111 9 ≤ 2147483647 := by have h9 := G.hr (a := 111) (k := 9) rfl; rw [show (sv (sv (sv (sv (sv μ 111 8 3) 111 6 ((μ.1 111 6) + 1)) 111 13 x1) 111 6 ((μ.1 111 6) + 2)) 111 13 (256 + x1)).1 111 9 = μ.1 111 9 from ((sv_n _ (by decide)).trans ((sv_n _ (by decide)).trans ((sv_n _ (by decide)).trans ((sv_n _ (by decide)).trans (sv_n _ (by decide))))))] at h9; exact h9
                                                have e_858 : (sv (sv (sv (sv (sv μ 111 8 3) 111 6 ((μ.1 111 6) + 1)) 111 13 x1) 111 6 ((μ.1 111 6) + 2)) 111 13 (256 + x1)).1 111 9 = μ.1 111 9 := ((sv_n _ (by decide)).trans ((sv_n _ (by decide)).trans ((sv_n _ (by decide)).trans ((sv_n _ (by decide)).trans (sv_n _ (by decide))))))
                                                refine xc_vV G (b := 111) (rest := []) (As := [.int (iv (μ.1 111 9))]) (c_X12_wrong ω l (sv (sv (sv (sv (sv μ 111 8 3) 111 6 ((μ.1 111 6) + 1)) 111 13 x1) 111 6 ((μ.1 111 6) + 2)) 111 13 (256 + x1)) (μ.1 111 9) (by unfold ir; omega) (by omega)) (wm 9 22 rfl rfl) (wm 9 24 rfl rfl) (wm 0 123 rfl rfl) rfl rfl (by decide) rfl (wm 1 18 rfl rfl) (wm 9 25 rfl rfl) (by decide) hR (by decide) (n := 1) rfl rfl (Nat.le_of_ble_eq_true rfl) hl.1 dX12_signs_203 (fun μ859 ρ d0 H locs hp G => ?_)
                                                obtain ⟨F_860, hp_861, hp_862⟩ := hp
                                                have hw_863 := wr_r (μ := μ859)
                                                have e_864 : μ859.1 111 6 = (μ.1 111 6) + 2 := ((hp_861 6 (by decide)).trans ((sv_n _ (by decide)).trans (sv_s _ _ _ _)))
                                                have e_865 : μ859.1 111 6 = (μ.1 111 6) + 2 := ((hp_861 6 (by decide)).trans ((sv_n _ (by decide)).trans (sv_s _ _ _ _)))
                                                have e_866 : μ859.1 111 8 = 3 := ((hp_861 8 (by decide)).trans ((sv_n _ (by decide)).trans ((sv_n _ (by decide)).trans ((sv_n _ (by decide)).trans ((sv_n _ (by decide)).trans (sv_s _ _ _ _))))))
                                                exact xr_v G hret hlk dX12_signs_206 ⟨(FrM.tr (FrM.put (FrM.put (FrM.put (FrM.put (FrM.put FrM.rf (by decide)) (by decide)) (by decide)) (by decide)) (by decide)) F_860 (by decide)), (fun j hj => ((hp_861 j (fun h9 => hj ((by decide : ∀ x ∈ ([15] : List Int), x ∈ ([6, 8, 13, 15] : List Int)) j h9))).trans ((sv_n _ (fun h9 => hj (by rw [h9.2]; decide))).trans ((sv_n _ (fun h9 => hj (by rw [h9.2]; decide))).trans ((sv_n _ (fun h9 => hj (by rw [h9.2]; decide))).trans ((sv_n _ (fun h9 => hj (by rw [h9.2]; decide))).trans (sv_n _ (fun h9 => hj (by rw [h9.2]; decide))))))))), (by omega), (by omega), (by omega), (by omega)⟩
                                              · refine lv_iconst (v := iv 1) hx hb dX12_signs_188 rfl ?_
                                                refine lv_goto (tgt := 193) hx hb dX12_signs_189 (by decide) ?_
                                                refine lv_istore_n (lv' := [(3, .int (iv 1)), (2, .int (iv r_9)), (0, .ref (oP ω 111)), (1, .int (iv x1))]) hx hb dX12_signs_193 rfl hl (by decide) rfl (fun ls hl => ?_)
                                                refine lv_iload_n hx hb dX12_signs_194 rfl (lv_at hl 0 rfl) ?_
                                                refine xb_if_ne (tgt := 206) hx hb (x := 1) (by unfold ir; omega) dX12_signs_195 (by decide) (fun c_195 => ?_) (fun c_195 => absurd c_195 (by decide))
                                                have e_867 : (sv (sv (sv (sv (sv μ 111 8 3) 111 6 ((μ.1 111 6) + 1)) 111 13 x1) 111 6 ((μ.1 111 6) + 2)) 111 13 (256 + x1)).1 111 6 = (μ.1 111 6) + 2 := ((sv_n _ (by decide)).trans (sv_s _ _ _ _))
                                                have e_868 : (sv (sv (sv (sv (sv μ 111 8 3) 111 6 ((μ.1 111 6) + 1)) 111 13 x1) 111 6 ((μ.1 111 6) + 2)) 111 13 (256 + x1)).1 111 6 = (μ.1 111 6) + 2 := ((sv_n _ (by decide)).trans (sv_s _ _ _ _))
                                                have e_869 : (sv (sv (sv (sv (sv μ 111 8 3) 111 6 ((μ.1 111 6) + 1)) 111 13 x1) 111 6 ((μ.1 111 6) + 2)) 111 13 (256 + x1)).1 111 8 = 3 := ((sv_n _ (by decide)).trans ((sv_n _ (by decide)).trans ((sv_n _ (by decide)).trans ((sv_n _ (by decide)).trans (sv_s _ _ _ _)))))
                                                have e_870 : wr (sv (sv (sv (sv (sv μ 111 8 3) 111 6 ((μ.1 111 6) + 1)) 111 13 x1) 111 6 ((μ.1 111 6) + 2)) 111 13 (256 + x1)) = wr μ := ((wr_cg (sv_n _ (by decide))).trans ((wr_cg (sv_n _ (by decide))).trans ((wr_cg (sv_n _ (by decide))).trans ((wr_cg (sv_n _ (by decide))).trans (wr_cg (sv_n _ (by decide)))))))
                                                have e_871 : bd (sv (sv (sv (sv (sv μ 111 8 3) 111 6 ((μ.1 111 6) + 1)) 111 13 x1) 111 6 ((μ.1 111 6) + 2)) 111 13 (256 + x1)) = bd μ := ((bd_cg (sv_n _ (by decide)) (sv_n _ (by decide)) (sv_n _ (by decide))).trans ((bd_cg (sv_n _ (by decide)) (sv_n _ (by decide)) (sv_n _ (by decide))).trans ((bd_cg (sv_n _ (by decide)) (sv_n _ (by decide)) (sv_n _ (by decide))).trans ((bd_cg (sv_n _ (by decide)) (sv_n _ (by decide)) (sv_n _ (by decide))).trans (bd_cg (sv_n _ (by decide)) (sv_n _ (by decide)) (sv_n _ (by decide)))))))
                                                have e_872 : wr (sv (sv (sv (sv (sv μ 111 8 3) 111 6 ((μ.1 111 6) + 1)) 111 13 x1) 111 6 ((μ.1 111 6) + 2)) 111 13 (256 + x1)) = wr μ := ((wr_cg (sv_n _ (by decide))).trans ((wr_cg (sv_n _ (by decide))).trans ((wr_cg (sv_n _ (by decide))).trans ((wr_cg (sv_n _ (by decide))).trans (wr_cg (sv_n _ (by decide)))))))
                                                have e_873 : nn (sv (sv (sv (sv (sv μ 111 8 3) 111 6 ((μ.1 111 6) + 1)) 111 13 x1) 111 6 ((μ.1 111 6) + 2)) 111 13 (256 + x1)) = nn μ := ((nn_cg (sv_n _ (by decide)) (sv_n _ (by decide))).trans ((nn_cg (sv_n _ (by decide)) (sv_n _ (by decide))).trans ((nn_cg (sv_n _ (by decide)) (sv_n _ (by decide))).trans ((nn_cg (sv_n _ (by decide)) (sv_n _ (by decide))).trans (nn_cg (sv_n _ (by decide)) (sv_n _ (by decide)))))))
                                                exact xr_v G hret hlk dX12_signs_206 ⟨(FrM.put (FrM.put (FrM.put (FrM.put (FrM.put FrM.rf (by decide)) (by decide)) (by decide)) (by decide)) (by decide)), (fun j hj => ((sv_n _ (fun h9 => hj (by rw [h9.2]; decide))).trans ((sv_n _ (fun h9 => hj (by rw [h9.2]; decide))).trans ((sv_n _ (fun h9 => hj (by rw [h9.2]; decide))).trans ((sv_n _ (fun h9 => hj (by rw [h9.2]; decide))).trans (sv_n _ (fun h9 => hj (by rw [h9.2]; decide)))))))), (by omega), (by omega), (by omega), (by omega)⟩
      · refine lv_iload_n hx hb dX12_signs_43 rfl (lv_at hl 2 rfl) ?_
        refine lv_bipush (v := iv 62) hx hb dX12_signs_44 rfl ?_
        refine xb_icmp_ne (tgt := 74) hx hb (by unfold ir; omega) (by unfold ir; omega) dX12_signs_46 (by decide) (fun c_46 => ?_) (fun c_46 => ?_)
        · refine lv_iload_n hx hb dX12_signs_74 rfl (lv_at hl 2 rfl) ?_
          refine lv_bipush (v := iv 40) hx hb dX12_signs_75 rfl ?_
          refine xb_icmp_eq (tgt := 188) hx hb (by unfold ir; omega) (by unfold ir; omega) dX12_signs_77 (by decide) (fun c_77 => ?_) (fun c_77 => ?_)
          · refine lv_iconst (v := iv 1) hx hb dX12_signs_188 rfl ?_
            refine lv_goto (tgt := 193) hx hb dX12_signs_189 (by decide) ?_
            refine lv_istore_n (lv' := [(3, .int (iv 1)), (2, .int (iv r_9)), (0, .ref (oP ω 111)), (1, .int (iv x1))]) hx hb dX12_signs_193 rfl hl (by decide) rfl (fun ls hl => ?_)
            refine lv_iload_n hx hb dX12_signs_194 rfl (lv_at hl 0 rfl) ?_
            refine xb_if_ne (tgt := 206) hx hb (x := 1) (by unfold ir; omega) dX12_signs_195 (by decide) (fun c_195 => ?_) (fun c_195 => absurd c_195 (by decide))
            have e_874 : (sv (sv (sv μ 111 8 3) 111 6 ((μ.1 111 6) + 1)) 111 13 x1).1 111 6 = (μ.1 111 6) + 1 := ((sv_n _ (by decide)).trans (sv_s _ _ _ _))
            have e_875 : (sv (sv (sv μ 111 8 3) 111 6 ((μ.1 111 6) + 1)) 111 13 x1).1 111 6 = (μ.1 111 6) + 1 := ((sv_n _ (by decide)).trans (sv_s _ _ _ _))
            have e_876 : (sv (sv (sv μ 111 8 3) 111 6 ((μ.1 111 6) + 1)) 111 13 x1).1 111 8 = 3 := ((sv_n _ (by decide)).trans ((sv_n _ (by decide)).trans (sv_s _ _ _ _)))
            have e_877 : wr (sv (sv (sv μ 111 8 3) 111 6 ((μ.1 111 6) + 1)) 111 13 x1) = wr μ := ((wr_cg (sv_n _ (by decide))).trans ((wr_cg (sv_n _ (by decide))).trans (wr_cg (sv_n _ (by decide)))))
            have e_878 : bd (sv (sv (sv μ 111 8 3) 111 6 ((μ.1 111 6) + 1)) 111 13 x1) = bd μ := ((bd_cg (sv_n _ (by decide)) (sv_n _ (by decide)) (sv_n _ (by decide))).trans ((bd_cg (sv_n _ (by decide)) (sv_n _ (by decide)) (sv_n _ (by decide))).trans (bd_cg (sv_n _ (by decide)) (sv_n _ (by decide)) (sv_n _ (by decide)))))
            have e_879 : wr (sv (sv (sv μ 111 8 3) 111 6 ((μ.1 111 6) + 1)) 111 13 x1) = wr μ := ((wr_cg (sv_n _ (by decide))).trans ((wr_cg (sv_n _ (by decide))).trans (wr_cg (sv_n _ (by decide)))))
            have e_880 : nn (sv (sv (sv μ 111 8 3) 111 6 ((μ.1 111 6) + 1)) 111 13 x1) = nn μ := ((nn_cg (sv_n _ (by decide)) (sv_n _ (by decide))).trans ((nn_cg (sv_n _ (by decide)) (sv_n _ (by decide))).trans (nn_cg (sv_n _ (by decide)) (sv_n _ (by decide)))))
            exact xr_v G hret hlk dX12_signs_206 ⟨(FrM.put (FrM.put (FrM.put FrM.rf (by decide)) (by decide)) (by decide)), (fun j hj => ((sv_n _ (fun h9 => hj (by rw [h9.2]; decide))).trans ((sv_n _ (fun h9 => hj (by rw [h9.2]; decide))).trans (sv_n _ (fun h9 => hj (by rw [h9.2]; decide)))))), (by omega), (by omega), (by omega), (by omega)⟩
          · refine lv_iload_n hx hb dX12_signs_80 rfl (lv_at hl 2 rfl) ?_
            refine lv_bipush (v := iv 41) hx hb dX12_signs_81 rfl ?_
            refine xb_icmp_eq (tgt := 188) hx hb (by unfold ir; omega) (by unfold ir; omega) dX12_signs_83 (by decide) (fun c_83 => ?_) (fun c_83 => ?_)
            · refine lv_iconst (v := iv 1) hx hb dX12_signs_188 rfl ?_
              refine lv_goto (tgt := 193) hx hb dX12_signs_189 (by decide) ?_
              refine lv_istore_n (lv' := [(3, .int (iv 1)), (2, .int (iv r_9)), (0, .ref (oP ω 111)), (1, .int (iv x1))]) hx hb dX12_signs_193 rfl hl (by decide) rfl (fun ls hl => ?_)
              refine lv_iload_n hx hb dX12_signs_194 rfl (lv_at hl 0 rfl) ?_
              refine xb_if_ne (tgt := 206) hx hb (x := 1) (by unfold ir; omega) dX12_signs_195 (by decide) (fun c_195 => ?_) (fun c_195 => absurd c_195 (by decide))
              have e_881 : (sv (sv (sv μ 111 8 3) 111 6 ((μ.1 111 6) + 1)) 111 13 x1).1 111 6 = (μ.1 111 6) + 1 := ((sv_n _ (by decide)).trans (sv_s _ _ _ _))
              have e_882 : (sv (sv (sv μ 111 8 3) 111 6 ((μ.1 111 6) + 1)) 111 13 x1).1 111 6 = (μ.1 111 6) + 1 := ((sv_n _ (by decide)).trans (sv_s _ _ _ _))
              have e_883 : (sv (sv (sv μ 111 8 3) 111 6 ((μ.1 111 6) + 1)) 111 13 x1).1 111 8 = 3 := ((sv_n _ (by decide)).trans ((sv_n _ (by decide)).trans (sv_s _ _ _ _)))
              have e_884 : wr (sv (sv (sv μ 111 8 3) 111 6 ((μ.1 111 6) + 1)) 111 13 x1) = wr μ := ((wr_cg (sv_n _ (by decide))).trans ((wr_cg (sv_n _ (by decide))).trans (wr_cg (sv_n _ (by decide)))))
              have e_885 : bd (sv (sv (sv μ 111 8 3) 111 6 ((μ.1 111 6) + 1)) 111 13 x1) = bd μ := ((bd_cg (sv_n _ (by decide)) (sv_n _ (by decide)) (sv_n _ (by decide))).trans ((bd_cg (sv_n _ (by decide)) (sv_n _ (by decide)) (sv_n _ (by decide))).trans (bd_cg (sv_n _ (by decide)) (sv_n _ (by decide)) (sv_n _ (by decide)))))
              have e_886 : wr (sv (sv (sv μ 111 8 3) 111 6 ((μ.1 111 6) + 1)) 111 13 x1) = wr μ := ((wr_cg (sv_n _ (by decide))).trans ((wr_cg (sv_n _ (by decide))).trans (wr_cg (sv_n _ (by decide)))))
              have e_887 : nn (sv (sv (sv μ 111 8 3) 111 6 ((μ.1 111 6) + 1)) 111 13 x1) = nn μ := ((nn_cg (sv_n _ (by decide)) (sv_n _ (by decide))).trans ((nn_cg (sv_n _ (by decide)) (sv_n _ (by decide))).trans (nn_cg (sv_n _ (by decide)) (sv_n _ (by decide)))))
              exact xr_v G hret hlk dX12_signs_206 ⟨(FrM.put (FrM.put (FrM.put FrM.rf (by decide)) (by decide)) (by decide)), (fun j hj => ((sv_n _ (fun h9 => hj (by rw [h9.2]; decide))).trans ((sv_n _ (fun h9 => hj (by rw [h9.2]; decide))).trans (sv_n _ (fun h9 => hj (by rw [h9.2]; decide)))))), (by omega), (by omega), (by omega), (by omega)⟩
            · refine lv_iload_n hx hb dX12_signs_86 rfl (lv_at hl 2 rfl) ?_
              refine lv_bipush (v := iv 123) hx hb dX12_signs_87 rfl ?_
              refine xb_icmp_eq (tgt := 188) hx hb (by unfold ir; omega) (by unfold ir; omega) dX12_signs_89 (by decide) (fun c_89 => ?_) (fun c_89 => ?_)
              · refine lv_iconst (v := iv 1) hx hb dX12_signs_188 rfl ?_
                refine lv_goto (tgt := 193) hx hb dX12_signs_189 (by decide) ?_
                refine lv_istore_n (lv' := [(3, .int (iv 1)), (2, .int (iv r_9)), (0, .ref (oP ω 111)), (1, .int (iv x1))]) hx hb dX12_signs_193 rfl hl (by decide) rfl (fun ls hl => ?_)
                refine lv_iload_n hx hb dX12_signs_194 rfl (lv_at hl 0 rfl) ?_
                refine xb_if_ne (tgt := 206) hx hb (x := 1) (by unfold ir; omega) dX12_signs_195 (by decide) (fun c_195 => ?_) (fun c_195 => absurd c_195 (by decide))
                have e_888 : (sv (sv (sv μ 111 8 3) 111 6 ((μ.1 111 6) + 1)) 111 13 x1).1 111 6 = (μ.1 111 6) + 1 := ((sv_n _ (by decide)).trans (sv_s _ _ _ _))
                have e_889 : (sv (sv (sv μ 111 8 3) 111 6 ((μ.1 111 6) + 1)) 111 13 x1).1 111 6 = (μ.1 111 6) + 1 := ((sv_n _ (by decide)).trans (sv_s _ _ _ _))
                have e_890 : (sv (sv (sv μ 111 8 3) 111 6 ((μ.1 111 6) + 1)) 111 13 x1).1 111 8 = 3 := ((sv_n _ (by decide)).trans ((sv_n _ (by decide)).trans (sv_s _ _ _ _)))
                have e_891 : wr (sv (sv (sv μ 111 8 3) 111 6 ((μ.1 111 6) + 1)) 111 13 x1) = wr μ := ((wr_cg (sv_n _ (by decide))).trans ((wr_cg (sv_n _ (by decide))).trans (wr_cg (sv_n _ (by decide)))))
                have e_892 : bd (sv (sv (sv μ 111 8 3) 111 6 ((μ.1 111 6) + 1)) 111 13 x1) = bd μ := ((bd_cg (sv_n _ (by decide)) (sv_n _ (by decide)) (sv_n _ (by decide))).trans ((bd_cg (sv_n _ (by decide)) (sv_n _ (by decide)) (sv_n _ (by decide))).trans (bd_cg (sv_n _ (by decide)) (sv_n _ (by decide)) (sv_n _ (by decide)))))
                have e_893 : wr (sv (sv (sv μ 111 8 3) 111 6 ((μ.1 111 6) + 1)) 111 13 x1) = wr μ := ((wr_cg (sv_n _ (by decide))).trans ((wr_cg (sv_n _ (by decide))).trans (wr_cg (sv_n _ (by decide)))))
                have e_894 : nn (sv (sv (sv μ 111 8 3) 111 6 ((μ.1 111 6) + 1)) 111 13 x1) = nn μ := ((nn_cg (sv_n _ (by decide)) (sv_n _ (by decide))).trans ((nn_cg (sv_n _ (by decide)) (sv_n _ (by decide))).trans (nn_cg (sv_n _ (by decide)) (sv_n _ (by decide)))))
                exact xr_v G hret hlk dX12_signs_206 ⟨(FrM.put (FrM.put (FrM.put FrM.rf (by decide)) (by decide)) (by decide)), (fun j hj => ((sv_n _ (fun h9 => hj (by rw [h9.2]; decide))).trans ((sv_n _ (fun h9 => hj (by rw [h9.2]; decide))).trans (sv_n _ (fun h9 => hj (by rw [h9.2]; decide)))))), (by omega), (by omega), (by omega), (by omega)⟩
              · refine lv_iload_n hx hb dX12_signs_92 rfl (lv_at hl 2 rfl) ?_
                refine lv_bipush (v := iv 125) hx hb dX12_signs_93 rfl ?_
                refine xb_icmp_eq (tgt := 188) hx hb (by unfold ir; omega) (by unfold ir; omega) dX12_signs_95 (by decide) (fun c_95 => ?_) (fun c_95 => ?_)
                · refine lv_iconst (v := iv 1) hx hb dX12_signs_188 rfl ?_
                  refine lv_goto (tgt := 193) hx hb dX12_signs_189 (by decide) ?_
                  refine lv_istore_n (lv' := [(3, .int (iv 1)), (2, .int (iv r_9)), (0, .ref (oP ω 111)), (1, .int (iv x1))]) hx hb dX12_signs_193 rfl hl (by decide) rfl (fun ls hl => ?_)
                  refine lv_iload_n hx hb dX12_signs_194 rfl (lv_at hl 0 rfl) ?_
                  refine xb_if_ne (tgt := 206) hx hb (x := 1) (by unfold ir; omega) dX12_signs_195 (by decide) (fun c_195 => ?_) (fun c_195 => absurd c_195 (by decide))
                  have e_895 : (sv (sv (sv μ 111 8 3) 111 6 ((μ.1 111 6) + 1)) 111 13 x1).1 111 6 = (μ.1 111 6) + 1 := ((sv_n _ (by decide)).trans (sv_s _ _ _ _))
                  have e_896 : (sv (sv (sv μ 111 8 3) 111 6 ((μ.1 111 6) + 1)) 111 13 x1).1 111 6 = (μ.1 111 6) + 1 := ((sv_n _ (by decide)).trans (sv_s _ _ _ _))
                  have e_897 : (sv (sv (sv μ 111 8 3) 111 6 ((μ.1 111 6) + 1)) 111 13 x1).1 111 8 = 3 := ((sv_n _ (by decide)).trans ((sv_n _ (by decide)).trans (sv_s _ _ _ _)))
                  have e_898 : wr (sv (sv (sv μ 111 8 3) 111 6 ((μ.1 111 6) + 1)) 111 13 x1) = wr μ := ((wr_cg (sv_n _ (by decide))).trans ((wr_cg (sv_n _ (by decide))).trans (wr_cg (sv_n _ (by decide)))))
                  have e_899 : bd (sv (sv (sv μ 111 8 3) 111 6 ((μ.1 111 6) + 1)) 111 13 x1) = bd μ := ((bd_cg (sv_n _ (by decide)) (sv_n _ (by decide)) (sv_n _ (by decide))).trans ((bd_cg (sv_n _ (by decide)) (sv_n _ (by decide)) (sv_n _ (by decide))).trans (bd_cg (sv_n _ (by decide)) (sv_n _ (by decide)) (sv_n _ (by decide)))))
                  have e_900 : wr (sv (sv (sv μ 111 8 3) 111 6 ((μ.1 111 6) + 1)) 111 13 x1) = wr μ := ((wr_cg (sv_n _ (by decide))).trans ((wr_cg (sv_n _ (by decide))).trans (wr_cg (sv_n _ (by decide)))))
                  have e_901 : nn (sv (sv (sv μ 111 8 3) 111 6 ((μ.1 111 6) + 1)) 111 13 x1) = nn μ := ((nn_cg (sv_n _ (by decide)) (sv_n _ (by decide))).trans ((nn_cg (sv_n _ (by decide)) (sv_n _ (by decide))).trans (nn_cg (sv_n _ (by decide)) (sv_n _ (by decide)))))
                  exact xr_v G hret hlk dX12_signs_206 ⟨(FrM.put (FrM.put (FrM.put FrM.rf (by decide)) (by decide)) (by decide)), (fun j hj => ((sv_n _ (fun h9 => hj (by rw [h9.2]; decide))).trans ((sv_n _ (fun h9 => hj (by rw [h9.2]; decide))).trans (sv_n _ (fun h9 => hj (by rw [h9.2]; decide)))))), (by omega), (by omega), (by omega), (by omega)⟩
                · refine lv_iload_n hx hb dX12_signs_98 rfl (lv_at hl 2 rfl) ?_
                  refine lv_bipush (v := iv 91) hx hb dX12_signs_99 rfl ?_
                  refine xb_icmp_eq (tgt := 188) hx hb (by unfold ir; omega) (by unfold ir; omega) dX12_signs_101 (by decide) (fun c_101 => ?_) (fun c_101 => ?_)
                  · refine lv_iconst (v := iv 1) hx hb dX12_signs_188 rfl ?_
                    refine lv_goto (tgt := 193) hx hb dX12_signs_189 (by decide) ?_
                    refine lv_istore_n (lv' := [(3, .int (iv 1)), (2, .int (iv r_9)), (0, .ref (oP ω 111)), (1, .int (iv x1))]) hx hb dX12_signs_193 rfl hl (by decide) rfl (fun ls hl => ?_)
                    refine lv_iload_n hx hb dX12_signs_194 rfl (lv_at hl 0 rfl) ?_
                    refine xb_if_ne (tgt := 206) hx hb (x := 1) (by unfold ir; omega) dX12_signs_195 (by decide) (fun c_195 => ?_) (fun c_195 => absurd c_195 (by decide))
                    have e_902 : (sv (sv (sv μ 111 8 3) 111 6 ((μ.1 111 6) + 1)) 111 13 x1).1 111 6 = (μ.1 111 6) + 1 := ((sv_n _ (by decide)).trans (sv_s _ _ _ _))
                    have e_903 : (sv (sv (sv μ 111 8 3) 111 6 ((μ.1 111 6) + 1)) 111 13 x1).1 111 6 = (μ.1 111 6) + 1 := ((sv_n _ (by decide)).trans (sv_s _ _ _ _))
                    have e_904 : (sv (sv (sv μ 111 8 3) 111 6 ((μ.1 111 6) + 1)) 111 13 x1).1 111 8 = 3 := ((sv_n _ (by decide)).trans ((sv_n _ (by decide)).trans (sv_s _ _ _ _)))
                    have e_905 : wr (sv (sv (sv μ 111 8 3) 111 6 ((μ.1 111 6) + 1)) 111 13 x1) = wr μ := ((wr_cg (sv_n _ (by decide))).trans ((wr_cg (sv_n _ (by decide))).trans (wr_cg (sv_n _ (by decide)))))
                    have e_906 : bd (sv (sv (sv μ 111 8 3) 111 6 ((μ.1 111 6) + 1)) 111 13 x1) = bd μ := ((bd_cg (sv_n _ (by decide)) (sv_n _ (by decide)) (sv_n _ (by decide))).trans ((bd_cg (sv_n _ (by decide)) (sv_n _ (by decide)) (sv_n _ (by decide))).trans (bd_cg (sv_n _ (by decide)) (sv_n _ (by decide)) (sv_n _ (by decide)))))
                    have e_907 : wr (sv (sv (sv μ 111 8 3) 111 6 ((μ.1 111 6) + 1)) 111 13 x1) = wr μ := ((wr_cg (sv_n _ (by decide))).trans ((wr_cg (sv_n _ (by decide))).trans (wr_cg (sv_n _ (by decide)))))
                    have e_908 : nn (sv (sv (sv μ 111 8 3) 111 6 ((μ.1 111 6) + 1)) 111 13 x1) = nn μ := ((nn_cg (sv_n _ (by decide)) (sv_n _ (by decide))).trans ((nn_cg (sv_n _ (by decide)) (sv_n _ (by decide))).trans (nn_cg (sv_n _ (by decide)) (sv_n _ (by decide)))))
                    exact xr_v G hret hlk dX12_signs_206 ⟨(FrM.put (FrM.put (FrM.put FrM.rf (by decide)) (by decide)) (by decide)), (fun j hj => ((sv_n _ (fun h9 => hj (by rw [h9.2]; decide))).trans ((sv_n _ (fun h9 => hj (by rw [h9.2]; decide))).trans (sv_n _ (fun h9 => hj (by rw [h9.2]; decide)))))), (by omega), (by omega), (by omega), (by omega)⟩
                  · refine lv_iload_n hx hb dX12_signs_104 rfl (lv_at hl 2 rfl) ?_
                    refine lv_bipush (v := iv 93) hx hb dX12_signs_105 rfl ?_
                    refine xb_icmp_eq (tgt := 188) hx hb (by unfold ir; omega) (by unfold ir; omega) dX12_signs_107 (by decide) (fun c_107 => ?_) (fun c_107 => ?_)
                    · refine lv_iconst (v := iv 1) hx hb dX12_signs_188 rfl ?_
                      refine lv_goto (tgt := 193) hx hb dX12_signs_189 (by decide) ?_
                      refine lv_istore_n (lv' := [(3, .int (iv 1)), (2, .int (iv r_9)), (0, .ref (oP ω 111)), (1, .int (iv x1))]) hx hb dX12_signs_193 rfl hl (by decide) rfl (fun ls hl => ?_)
                      refine lv_iload_n hx hb dX12_signs_194 rfl (lv_at hl 0 rfl) ?_
                      refine xb_if_ne (tgt := 206) hx hb (x := 1) (by unfold ir; omega) dX12_signs_195 (by decide) (fun c_195 => ?_) (fun c_195 => absurd c_195 (by decide))
                      have e_909 : (sv (sv (sv μ 111 8 3) 111 6 ((μ.1 111 6) + 1)) 111 13 x1).1 111 6 = (μ.1 111 6) + 1 := ((sv_n _ (by decide)).trans (sv_s _ _ _ _))
                      have e_910 : (sv (sv (sv μ 111 8 3) 111 6 ((μ.1 111 6) + 1)) 111 13 x1).1 111 6 = (μ.1 111 6) + 1 := ((sv_n _ (by decide)).trans (sv_s _ _ _ _))
                      have e_911 : (sv (sv (sv μ 111 8 3) 111 6 ((μ.1 111 6) + 1)) 111 13 x1).1 111 8 = 3 := ((sv_n _ (by decide)).trans ((sv_n _ (by decide)).trans (sv_s _ _ _ _)))
                      have e_912 : wr (sv (sv (sv μ 111 8 3) 111 6 ((μ.1 111 6) + 1)) 111 13 x1) = wr μ := ((wr_cg (sv_n _ (by decide))).trans ((wr_cg (sv_n _ (by decide))).trans (wr_cg (sv_n _ (by decide)))))
                      have e_913 : bd (sv (sv (sv μ 111 8 3) 111 6 ((μ.1 111 6) + 1)) 111 13 x1) = bd μ := ((bd_cg (sv_n _ (by decide)) (sv_n _ (by decide)) (sv_n _ (by decide))).trans ((bd_cg (sv_n _ (by decide)) (sv_n _ (by decide)) (sv_n _ (by decide))).trans (bd_cg (sv_n _ (by decide)) (sv_n _ (by decide)) (sv_n _ (by decide)))))
                      have e_914 : wr (sv (sv (sv μ 111 8 3) 111 6 ((μ.1 111 6) + 1)) 111 13 x1) = wr μ := ((wr_cg (sv_n _ (by decide))).trans ((wr_cg (sv_n _ (by decide))).trans (wr_cg (sv_n _ (by decide)))))
                      have e_915 : nn (sv (sv (sv μ 111 8 3) 111 6 ((μ.1 111 6) + 1)) 111 13 x1) = nn μ := ((nn_cg (sv_n _ (by decide)) (sv_n _ (by decide))).trans ((nn_cg (sv_n _ (by decide)) (sv_n _ (by decide))).trans (nn_cg (sv_n _ (by decide)) (sv_n _ (by decide)))))
                      exact xr_v G hret hlk dX12_signs_206 ⟨(FrM.put (FrM.put (FrM.put FrM.rf (by decide)) (by decide)) (by decide)), (fun j hj => ((sv_n _ (fun h9 => hj (by rw [h9.2]; decide))).trans ((sv_n _ (fun h9 => hj (by rw [h9.2]; decide))).trans (sv_n _ (fun h9 => hj (by rw [h9.2]; decide)))))), (by omega), (by omega), (by omega), (by omega)⟩
                    · refine lv_iload_n hx hb dX12_signs_110 rfl (lv_at hl 2 rfl) ?_
                      refine lv_bipush (v := iv 44) hx hb dX12_signs_111 rfl ?_
                      refine xb_icmp_eq (tgt := 188) hx hb (by unfold ir; omega) (by unfold ir; omega) dX12_signs_113 (by decide) (fun c_113 => ?_) (fun c_113 => ?_)
                      · refine lv_iconst (v := iv 1) hx hb dX12_signs_188 rfl ?_
                        refine lv_goto (tgt := 193) hx hb dX12_signs_189 (by decide) ?_
                        refine lv_istore_n (lv' := [(3, .int (iv 1)), (2, .int (iv r_9)), (0, .ref (oP ω 111)), (1, .int (iv x1))]) hx hb dX12_signs_193 rfl hl (by decide) rfl (fun ls hl => ?_)
                        refine lv_iload_n hx hb dX12_signs_194 rfl (lv_at hl 0 rfl) ?_
                        refine xb_if_ne (tgt := 206) hx hb (x := 1) (by unfold ir; omega) dX12_signs_195 (by decide) (fun c_195 => ?_) (fun c_195 => absurd c_195 (by decide))
                        have e_916 : (sv (sv (sv μ 111 8 3) 111 6 ((μ.1 111 6) + 1)) 111 13 x1).1 111 6 = (μ.1 111 6) + 1 := ((sv_n _ (by decide)).trans (sv_s _ _ _ _))
                        have e_917 : (sv (sv (sv μ 111 8 3) 111 6 ((μ.1 111 6) + 1)) 111 13 x1).1 111 6 = (μ.1 111 6) + 1 := ((sv_n _ (by decide)).trans (sv_s _ _ _ _))
                        have e_918 : (sv (sv (sv μ 111 8 3) 111 6 ((μ.1 111 6) + 1)) 111 13 x1).1 111 8 = 3 := ((sv_n _ (by decide)).trans ((sv_n _ (by decide)).trans (sv_s _ _ _ _)))
                        have e_919 : wr (sv (sv (sv μ 111 8 3) 111 6 ((μ.1 111 6) + 1)) 111 13 x1) = wr μ := ((wr_cg (sv_n _ (by decide))).trans ((wr_cg (sv_n _ (by decide))).trans (wr_cg (sv_n _ (by decide)))))
                        have e_920 : bd (sv (sv (sv μ 111 8 3) 111 6 ((μ.1 111 6) + 1)) 111 13 x1) = bd μ := ((bd_cg (sv_n _ (by decide)) (sv_n _ (by decide)) (sv_n _ (by decide))).trans ((bd_cg (sv_n _ (by decide)) (sv_n _ (by decide)) (sv_n _ (by decide))).trans (bd_cg (sv_n _ (by decide)) (sv_n _ (by decide)) (sv_n _ (by decide)))))
                        have e_921 : wr (sv (sv (sv μ 111 8 3) 111 6 ((μ.1 111 6) + 1)) 111 13 x1) = wr μ := ((wr_cg (sv_n _ (by decide))).trans ((wr_cg (sv_n _ (by decide))).trans (wr_cg (sv_n _ (by decide)))))
                        have e_922 : nn (sv (sv (sv μ 111 8 3) 111 6 ((μ.1 111 6) + 1)) 111 13 x1) = nn μ := ((nn_cg (sv_n _ (by decide)) (sv_n _ (by decide))).trans ((nn_cg (sv_n _ (by decide)) (sv_n _ (by decide))).trans (nn_cg (sv_n _ (by decide)) (sv_n _ (by decide)))))
                        exact xr_v G hret hlk dX12_signs_206 ⟨(FrM.put (FrM.put (FrM.put FrM.rf (by decide)) (by decide)) (by decide)), (fun j hj => ((sv_n _ (fun h9 => hj (by rw [h9.2]; decide))).trans ((sv_n _ (fun h9 => hj (by rw [h9.2]; decide))).trans (sv_n _ (fun h9 => hj (by rw [h9.2]; decide)))))), (by omega), (by omega), (by omega), (by omega)⟩
                      · refine lv_iload_n hx hb dX12_signs_116 rfl (lv_at hl 2 rfl) ?_
                        refine lv_bipush (v := iv 59) hx hb dX12_signs_117 rfl ?_
                        refine xb_icmp_eq (tgt := 188) hx hb (by unfold ir; omega) (by unfold ir; omega) dX12_signs_119 (by decide) (fun c_119 => ?_) (fun c_119 => ?_)
                        · refine lv_iconst (v := iv 1) hx hb dX12_signs_188 rfl ?_
                          refine lv_goto (tgt := 193) hx hb dX12_signs_189 (by decide) ?_
                          refine lv_istore_n (lv' := [(3, .int (iv 1)), (2, .int (iv r_9)), (0, .ref (oP ω 111)), (1, .int (iv x1))]) hx hb dX12_signs_193 rfl hl (by decide) rfl (fun ls hl => ?_)
                          refine lv_iload_n hx hb dX12_signs_194 rfl (lv_at hl 0 rfl) ?_
                          refine xb_if_ne (tgt := 206) hx hb (x := 1) (by unfold ir; omega) dX12_signs_195 (by decide) (fun c_195 => ?_) (fun c_195 => absurd c_195 (by decide))
                          have e_923 : (sv (sv (sv μ 111 8 3) 111 6 ((μ.1 111 6) + 1)) 111 13 x1).1 111 6 = (μ.1 111 6) + 1 := ((sv_n _ (by decide)).trans (sv_s _ _ _ _))
                          have e_924 : (sv (sv (sv μ 111 8 3) 111 6 ((μ.1 111 6) + 1)) 111 13 x1).1 111 6 = (μ.1 111 6) + 1 := ((sv_n _ (by decide)).trans (sv_s _ _ _ _))
                          have e_925 : (sv (sv (sv μ 111 8 3) 111 6 ((μ.1 111 6) + 1)) 111 13 x1).1 111 8 = 3 := ((sv_n _ (by decide)).trans ((sv_n _ (by decide)).trans (sv_s _ _ _ _)))
                          have e_926 : wr (sv (sv (sv μ 111 8 3) 111 6 ((μ.1 111 6) + 1)) 111 13 x1) = wr μ := ((wr_cg (sv_n _ (by decide))).trans ((wr_cg (sv_n _ (by decide))).trans (wr_cg (sv_n _ (by decide)))))
                          have e_927 : bd (sv (sv (sv μ 111 8 3) 111 6 ((μ.1 111 6) + 1)) 111 13 x1) = bd μ := ((bd_cg (sv_n _ (by decide)) (sv_n _ (by decide)) (sv_n _ (by decide))).trans ((bd_cg (sv_n _ (by decide)) (sv_n _ (by decide)) (sv_n _ (by decide))).trans (bd_cg (sv_n _ (by decide)) (sv_n _ (by decide)) (sv_n _ (by decide)))))
                          have e_928 : wr (sv (sv (sv μ 111 8 3) 111 6 ((μ.1 111 6) + 1)) 111 13 x1) = wr μ := ((wr_cg (sv_n _ (by decide))).trans ((wr_cg (sv_n _ (by decide))).trans (wr_cg (sv_n _ (by decide)))))
                          have e_929 : nn (sv (sv (sv μ 111 8 3) 111 6 ((μ.1 111 6) + 1)) 111 13 x1) = nn μ := ((nn_cg (sv_n _ (by decide)) (sv_n _ (by decide))).trans ((nn_cg (sv_n _ (by decide)) (sv_n _ (by decide))).trans (nn_cg (sv_n _ (by decide)) (sv_n _ (by decide)))))
                          exact xr_v G hret hlk dX12_signs_206 ⟨(FrM.put (FrM.put (FrM.put FrM.rf (by decide)) (by decide)) (by decide)), (fun j hj => ((sv_n _ (fun h9 => hj (by rw [h9.2]; decide))).trans ((sv_n _ (fun h9 => hj (by rw [h9.2]; decide))).trans (sv_n _ (fun h9 => hj (by rw [h9.2]; decide)))))), (by omega), (by omega), (by omega), (by omega)⟩
                        · refine lv_iload_n hx hb dX12_signs_122 rfl (lv_at hl 2 rfl) ?_
                          refine lv_bipush (v := iv 46) hx hb dX12_signs_123 rfl ?_
                          refine xb_icmp_eq (tgt := 188) hx hb (by unfold ir; omega) (by unfold ir; omega) dX12_signs_125 (by decide) (fun c_125 => ?_) (fun c_125 => ?_)
                          · refine lv_iconst (v := iv 1) hx hb dX12_signs_188 rfl ?_
                            refine lv_goto (tgt := 193) hx hb dX12_signs_189 (by decide) ?_
                            refine lv_istore_n (lv' := [(3, .int (iv 1)), (2, .int (iv r_9)), (0, .ref (oP ω 111)), (1, .int (iv x1))]) hx hb dX12_signs_193 rfl hl (by decide) rfl (fun ls hl => ?_)
                            refine lv_iload_n hx hb dX12_signs_194 rfl (lv_at hl 0 rfl) ?_
                            refine xb_if_ne (tgt := 206) hx hb (x := 1) (by unfold ir; omega) dX12_signs_195 (by decide) (fun c_195 => ?_) (fun c_195 => absurd c_195 (by decide))
                            have e_930 : (sv (sv (sv μ 111 8 3) 111 6 ((μ.1 111 6) + 1)) 111 13 x1).1 111 6 = (μ.1 111 6) + 1 := ((sv_n _ (by decide)).trans (sv_s _ _ _ _))
                            have e_931 : (sv (sv (sv μ 111 8 3) 111 6 ((μ.1 111 6) + 1)) 111 13 x1).1 111 6 = (μ.1 111 6) + 1 := ((sv_n _ (by decide)).trans (sv_s _ _ _ _))
                            have e_932 : (sv (sv (sv μ 111 8 3) 111 6 ((μ.1 111 6) + 1)) 111 13 x1).1 111 8 = 3 := ((sv_n _ (by decide)).trans ((sv_n _ (by decide)).trans (sv_s _ _ _ _)))
                            have e_933 : wr (sv (sv (sv μ 111 8 3) 111 6 ((μ.1 111 6) + 1)) 111 13 x1) = wr μ := ((wr_cg (sv_n _ (by decide))).trans ((wr_cg (sv_n _ (by decide))).trans (wr_cg (sv_n _ (by decide)))))
                            have e_934 : bd (sv (sv (sv μ 111 8 3) 111 6 ((μ.1 111 6) + 1)) 111 13 x1) = bd μ := ((bd_cg (sv_n _ (by decide)) (sv_n _ (by decide)) (sv_n _ (by decide))).trans ((bd_cg (sv_n _ (by decide)) (sv_n _ (by decide)) (sv_n _ (by decide))).trans (bd_cg (sv_n _ (by decide)) (sv_n _ (by decide)) (sv_n _ (by decide)))))
                            have e_935 : wr (sv (sv (sv μ 111 8 3) 111 6 ((μ.1 111 6) + 1)) 111 13 x1) = wr μ := ((wr_cg (sv_n _ (by decide))).trans ((wr_cg (sv_n _ (by decide))).trans (wr_cg (sv_n _ (by decide)))))
                            have e_936 : nn (sv (sv (sv μ 111 8 3) 111 6 ((μ.1 111 6) + 1)) 111 13 x1) = nn μ := ((nn_cg (sv_n _ (by decide)) (sv_n _ (by decide))).trans ((nn_cg (sv_n _ (by decide)) (sv_n _ (by decide))).trans (nn_cg (sv_n _ (by decide)) (sv_n _ (by decide)))))
                            exact xr_v G hret hlk dX12_signs_206 ⟨(FrM.put (FrM.put (FrM.put FrM.rf (by decide)) (by decide)) (by decide)), (fun j hj => ((sv_n _ (fun h9 => hj (by rw [h9.2]; decide))).trans ((sv_n _ (fun h9 => hj (by rw [h9.2]; decide))).trans (sv_n _ (fun h9 => hj (by rw [h9.2]; decide)))))), (by omega), (by omega), (by omega), (by omega)⟩
                          · refine lv_iload_n hx hb dX12_signs_128 rfl (lv_at hl 2 rfl) ?_
                            refine lv_bipush (v := iv 38) hx hb dX12_signs_129 rfl ?_
                            refine xb_icmp_eq (tgt := 188) hx hb (by unfold ir; omega) (by unfold ir; omega) dX12_signs_131 (by decide) (fun c_131 => ?_) (fun c_131 => ?_)
                            · refine lv_iconst (v := iv 1) hx hb dX12_signs_188 rfl ?_
                              refine lv_goto (tgt := 193) hx hb dX12_signs_189 (by decide) ?_
                              refine lv_istore_n (lv' := [(3, .int (iv 1)), (2, .int (iv r_9)), (0, .ref (oP ω 111)), (1, .int (iv x1))]) hx hb dX12_signs_193 rfl hl (by decide) rfl (fun ls hl => ?_)
                              refine lv_iload_n hx hb dX12_signs_194 rfl (lv_at hl 0 rfl) ?_
                              refine xb_if_ne (tgt := 206) hx hb (x := 1) (by unfold ir; omega) dX12_signs_195 (by decide) (fun c_195 => ?_) (fun c_195 => absurd c_195 (by decide))
                              have e_937 : (sv (sv (sv μ 111 8 3) 111 6 ((μ.1 111 6) + 1)) 111 13 x1).1 111 6 = (μ.1 111 6) + 1 := ((sv_n _ (by decide)).trans (sv_s _ _ _ _))
                              have e_938 : (sv (sv (sv μ 111 8 3) 111 6 ((μ.1 111 6) + 1)) 111 13 x1).1 111 6 = (μ.1 111 6) + 1 := ((sv_n _ (by decide)).trans (sv_s _ _ _ _))
                              have e_939 : (sv (sv (sv μ 111 8 3) 111 6 ((μ.1 111 6) + 1)) 111 13 x1).1 111 8 = 3 := ((sv_n _ (by decide)).trans ((sv_n _ (by decide)).trans (sv_s _ _ _ _)))
                              have e_940 : wr (sv (sv (sv μ 111 8 3) 111 6 ((μ.1 111 6) + 1)) 111 13 x1) = wr μ := ((wr_cg (sv_n _ (by decide))).trans ((wr_cg (sv_n _ (by decide))).trans (wr_cg (sv_n _ (by decide)))))
                              have e_941 : bd (sv (sv (sv μ 111 8 3) 111 6 ((μ.1 111 6) + 1)) 111 13 x1) = bd μ := ((bd_cg (sv_n _ (by decide)) (sv_n _ (by decide)) (sv_n _ (by decide))).trans ((bd_cg (sv_n _ (by decide)) (sv_n _ (by decide)) (sv_n _ (by decide))).trans (bd_cg (sv_n _ (by decide)) (sv_n _ (by decide)) (sv_n _ (by decide)))))
                              have e_942 : wr (sv (sv (sv μ 111 8 3) 111 6 ((μ.1 111 6) + 1)) 111 13 x1) = wr μ := ((wr_cg (sv_n _ (by decide))).trans ((wr_cg (sv_n _ (by decide))).trans (wr_cg (sv_n _ (by decide)))))
                              have e_943 : nn (sv (sv (sv μ 111 8 3) 111 6 ((μ.1 111 6) + 1)) 111 13 x1) = nn μ := ((nn_cg (sv_n _ (by decide)) (sv_n _ (by decide))).trans ((nn_cg (sv_n _ (by decide)) (sv_n _ (by decide))).trans (nn_cg (sv_n _ (by decide)) (sv_n _ (by decide)))))
                              exact xr_v G hret hlk dX12_signs_206 ⟨(FrM.put (FrM.put (FrM.put FrM.rf (by decide)) (by decide)) (by decide)), (fun j hj => ((sv_n _ (fun h9 => hj (by rw [h9.2]; decide))).trans ((sv_n _ (fun h9 => hj (by rw [h9.2]; decide))).trans (sv_n _ (fun h9 => hj (by rw [h9.2]; decide)))))), (by omega), (by omega), (by omega), (by omega)⟩
                            · refine lv_iload_n hx hb dX12_signs_134 rfl (lv_at hl 2 rfl) ?_
                              refine lv_bipush (v := iv 33) hx hb dX12_signs_135 rfl ?_
                              refine xb_icmp_eq (tgt := 188) hx hb (by unfold ir; omega) (by unfold ir; omega) dX12_signs_137 (by decide) (fun c_137 => ?_) (fun c_137 => ?_)
                              · refine lv_iconst (v := iv 1) hx hb dX12_signs_188 rfl ?_
                                refine lv_goto (tgt := 193) hx hb dX12_signs_189 (by decide) ?_
                                refine lv_istore_n (lv' := [(3, .int (iv 1)), (2, .int (iv r_9)), (0, .ref (oP ω 111)), (1, .int (iv x1))]) hx hb dX12_signs_193 rfl hl (by decide) rfl (fun ls hl => ?_)
                                refine lv_iload_n hx hb dX12_signs_194 rfl (lv_at hl 0 rfl) ?_
                                refine xb_if_ne (tgt := 206) hx hb (x := 1) (by unfold ir; omega) dX12_signs_195 (by decide) (fun c_195 => ?_) (fun c_195 => absurd c_195 (by decide))
                                have e_944 : (sv (sv (sv μ 111 8 3) 111 6 ((μ.1 111 6) + 1)) 111 13 x1).1 111 6 = (μ.1 111 6) + 1 := ((sv_n _ (by decide)).trans (sv_s _ _ _ _))
                                have e_945 : (sv (sv (sv μ 111 8 3) 111 6 ((μ.1 111 6) + 1)) 111 13 x1).1 111 6 = (μ.1 111 6) + 1 := ((sv_n _ (by decide)).trans (sv_s _ _ _ _))
                                have e_946 : (sv (sv (sv μ 111 8 3) 111 6 ((μ.1 111 6) + 1)) 111 13 x1).1 111 8 = 3 := ((sv_n _ (by decide)).trans ((sv_n _ (by decide)).trans (sv_s _ _ _ _)))
                                have e_947 : wr (sv (sv (sv μ 111 8 3) 111 6 ((μ.1 111 6) + 1)) 111 13 x1) = wr μ := ((wr_cg (sv_n _ (by decide))).trans ((wr_cg (sv_n _ (by decide))).trans (wr_cg (sv_n _ (by decide)))))
                                have e_948 : bd (sv (sv (sv μ 111 8 3) 111 6 ((μ.1 111 6) + 1)) 111 13 x1) = bd μ := ((bd_cg (sv_n _ (by decide)) (sv_n _ (by decide)) (sv_n _ (by decide))).trans ((bd_cg (sv_n _ (by decide)) (sv_n _ (by decide)) (sv_n _ (by decide))).trans (bd_cg (sv_n _ (by decide)) (sv_n _ (by decide)) (sv_n _ (by decide)))))
                                have e_949 : wr (sv (sv (sv μ 111 8 3) 111 6 ((μ.1 111 6) + 1)) 111 13 x1) = wr μ := ((wr_cg (sv_n _ (by decide))).trans ((wr_cg (sv_n _ (by decide))).trans (wr_cg (sv_n _ (by decide)))))
                                have e_950 : nn (sv (sv (sv μ 111 8 3) 111 6 ((μ.1 111 6) + 1)) 111 13 x1) = nn μ := ((nn_cg (sv_n _ (by decide)) (sv_n _ (by decide))).trans ((nn_cg (sv_n _ (by decide)) (sv_n _ (by decide))).trans (nn_cg (sv_n _ (by decide)) (sv_n _ (by decide)))))
                                exact xr_v G hret hlk dX12_signs_206 ⟨(FrM.put (FrM.put (FrM.put FrM.rf (by decide)) (by decide)) (by decide)), (fun j hj => ((sv_n _ (fun h9 => hj (by rw [h9.2]; decide))).trans ((sv_n _ (fun h9 => hj (by rw [h9.2]; decide))).trans (sv_n _ (fun h9 => hj (by rw [h9.2]; decide)))))), (by omega), (by omega), (by omega), (by omega)⟩
                              · refine lv_iload_n hx hb dX12_signs_140 rfl (lv_at hl 2 rfl) ?_
                                refine lv_bipush (v := iv 61) hx hb dX12_signs_141 rfl ?_
                                refine xb_icmp_eq (tgt := 188) hx hb (by unfold ir; omega) (by unfold ir; omega) dX12_signs_143 (by decide) (fun c_143 => ?_) (fun c_143 => ?_)
                                · refine lv_iconst (v := iv 1) hx hb dX12_signs_188 rfl ?_
                                  refine lv_goto (tgt := 193) hx hb dX12_signs_189 (by decide) ?_
                                  refine lv_istore_n (lv' := [(3, .int (iv 1)), (2, .int (iv r_9)), (0, .ref (oP ω 111)), (1, .int (iv x1))]) hx hb dX12_signs_193 rfl hl (by decide) rfl (fun ls hl => ?_)
                                  refine lv_iload_n hx hb dX12_signs_194 rfl (lv_at hl 0 rfl) ?_
                                  refine xb_if_ne (tgt := 206) hx hb (x := 1) (by unfold ir; omega) dX12_signs_195 (by decide) (fun c_195 => ?_) (fun c_195 => absurd c_195 (by decide))
                                  have e_951 : (sv (sv (sv μ 111 8 3) 111 6 ((μ.1 111 6) + 1)) 111 13 x1).1 111 6 = (μ.1 111 6) + 1 := ((sv_n _ (by decide)).trans (sv_s _ _ _ _))
                                  have e_952 : (sv (sv (sv μ 111 8 3) 111 6 ((μ.1 111 6) + 1)) 111 13 x1).1 111 6 = (μ.1 111 6) + 1 := ((sv_n _ (by decide)).trans (sv_s _ _ _ _))
                                  have e_953 : (sv (sv (sv μ 111 8 3) 111 6 ((μ.1 111 6) + 1)) 111 13 x1).1 111 8 = 3 := ((sv_n _ (by decide)).trans ((sv_n _ (by decide)).trans (sv_s _ _ _ _)))
                                  have e_954 : wr (sv (sv (sv μ 111 8 3) 111 6 ((μ.1 111 6) + 1)) 111 13 x1) = wr μ := ((wr_cg (sv_n _ (by decide))).trans ((wr_cg (sv_n _ (by decide))).trans (wr_cg (sv_n _ (by decide)))))
                                  have e_955 : bd (sv (sv (sv μ 111 8 3) 111 6 ((μ.1 111 6) + 1)) 111 13 x1) = bd μ := ((bd_cg (sv_n _ (by decide)) (sv_n _ (by decide)) (sv_n _ (by decide))).trans ((bd_cg (sv_n _ (by decide)) (sv_n _ (by decide)) (sv_n _ (by decide))).trans (bd_cg (sv_n _ (by decide)) (sv_n _ (by decide)) (sv_n _ (by decide)))))
                                  have e_956 : wr (sv (sv (sv μ 111 8 3) 111 6 ((μ.1 111 6) + 1)) 111 13 x1) = wr μ := ((wr_cg (sv_n _ (by decide))).trans ((wr_cg (sv_n _ (by decide))).trans (wr_cg (sv_n _ (by decide)))))
                                  have e_957 : nn (sv (sv (sv μ 111 8 3) 111 6 ((μ.1 111 6) + 1)) 111 13 x1) = nn μ := ((nn_cg (sv_n _ (by decide)) (sv_n _ (by decide))).trans ((nn_cg (sv_n _ (by decide)) (sv_n _ (by decide))).trans (nn_cg (sv_n _ (by decide)) (sv_n _ (by decide)))))
                                  exact xr_v G hret hlk dX12_signs_206 ⟨(FrM.put (FrM.put (FrM.put FrM.rf (by decide)) (by decide)) (by decide)), (fun j hj => ((sv_n _ (fun h9 => hj (by rw [h9.2]; decide))).trans ((sv_n _ (fun h9 => hj (by rw [h9.2]; decide))).trans (sv_n _ (fun h9 => hj (by rw [h9.2]; decide)))))), (by omega), (by omega), (by omega), (by omega)⟩
                                · refine lv_iload_n hx hb dX12_signs_146 rfl (lv_at hl 2 rfl) ?_
                                  refine lv_bipush (v := iv 60) hx hb dX12_signs_147 rfl ?_
                                  refine xb_icmp_eq (tgt := 188) hx hb (by unfold ir; omega) (by unfold ir; omega) dX12_signs_149 (by decide) (fun c_149 => ?_) (fun c_149 => ?_)
                                  · refine lv_iconst (v := iv 1) hx hb dX12_signs_188 rfl ?_
                                    refine lv_goto (tgt := 193) hx hb dX12_signs_189 (by decide) ?_
                                    refine lv_istore_n (lv' := [(3, .int (iv 1)), (2, .int (iv r_9)), (0, .ref (oP ω 111)), (1, .int (iv x1))]) hx hb dX12_signs_193 rfl hl (by decide) rfl (fun ls hl => ?_)
                                    refine lv_iload_n hx hb dX12_signs_194 rfl (lv_at hl 0 rfl) ?_
                                    refine xb_if_ne (tgt := 206) hx hb (x := 1) (by unfold ir; omega) dX12_signs_195 (by decide) (fun c_195 => ?_) (fun c_195 => absurd c_195 (by decide))
                                    have e_958 : (sv (sv (sv μ 111 8 3) 111 6 ((μ.1 111 6) + 1)) 111 13 x1).1 111 6 = (μ.1 111 6) + 1 := ((sv_n _ (by decide)).trans (sv_s _ _ _ _))
                                    have e_959 : (sv (sv (sv μ 111 8 3) 111 6 ((μ.1 111 6) + 1)) 111 13 x1).1 111 6 = (μ.1 111 6) + 1 := ((sv_n _ (by decide)).trans (sv_s _ _ _ _))
                                    have e_960 : (sv (sv (sv μ 111 8 3) 111 6 ((μ.1 111 6) + 1)) 111 13 x1).1 111 8 = 3 := ((sv_n _ (by decide)).trans ((sv_n _ (by decide)).trans (sv_s _ _ _ _)))
                                    have e_961 : wr (sv (sv (sv μ 111 8 3) 111 6 ((μ.1 111 6) + 1)) 111 13 x1) = wr μ := ((wr_cg (sv_n _ (by decide))).trans ((wr_cg (sv_n _ (by decide))).trans (wr_cg (sv_n _ (by decide)))))
                                    have e_962 : bd (sv (sv (sv μ 111 8 3) 111 6 ((μ.1 111 6) + 1)) 111 13 x1) = bd μ := ((bd_cg (sv_n _ (by decide)) (sv_n _ (by decide)) (sv_n _ (by decide))).trans ((bd_cg (sv_n _ (by decide)) (sv_n _ (by decide)) (sv_n _ (by decide))).trans (bd_cg (sv_n _ (by decide)) (sv_n _ (by decide)) (sv_n _ (by decide)))))
                                    have e_963 : wr (sv (sv (sv μ 111 8 3) 111 6 ((μ.1 111 6) + 1)) 111 13 x1) = wr μ := ((wr_cg (sv_n _ (by decide))).trans ((wr_cg (sv_n _ (by decide))).trans (wr_cg (sv_n _ (by decide)))))
                                    have e_964 : nn (sv (sv (sv μ 111 8 3) 111 6 ((μ.1 111 6) + 1)) 111 13 x1) = nn μ := ((nn_cg (sv_n _ (by decide)) (sv_n _ (by decide))).trans ((nn_cg (sv_n _ (by decide)) (sv_n _ (by decide))).trans (nn_cg (sv_n _ (by decide)) (sv_n _ (by decide)))))
                                    exact xr_v G hret hlk dX12_signs_206 ⟨(FrM.put (FrM.put (FrM.put FrM.rf (by decide)) (by decide)) (by decide)), (fun j hj => ((sv_n _ (fun h9 => hj (by rw [h9.2]; decide))).trans ((sv_n _ (fun h9 => hj (by rw [h9.2]; decide))).trans (sv_n _ (fun h9 => hj (by rw [h9.2]; decide)))))), (by omega), (by omega), (by omega), (by omega)⟩
                                  · refine lv_iload_n hx hb dX12_signs_152 rfl (lv_at hl 2 rfl) ?_
                                    refine lv_bipush (v := iv 62) hx hb dX12_signs_153 rfl ?_
                                    refine xb_icmp_eq (tgt := 188) hx hb (by unfold ir; omega) (by unfold ir; omega) dX12_signs_155 (by decide) (fun c_155 => ?_) (fun c_155 => ?_)
                                    · refine lv_iconst (v := iv 1) hx hb dX12_signs_188 rfl ?_
                                      refine lv_goto (tgt := 193) hx hb dX12_signs_189 (by decide) ?_
                                      refine lv_istore_n (lv' := [(3, .int (iv 1)), (2, .int (iv r_9)), (0, .ref (oP ω 111)), (1, .int (iv x1))]) hx hb dX12_signs_193 rfl hl (by decide) rfl (fun ls hl => ?_)
                                      refine lv_iload_n hx hb dX12_signs_194 rfl (lv_at hl 0 rfl) ?_
                                      refine xb_if_ne (tgt := 206) hx hb (x := 1) (by unfold ir; omega) dX12_signs_195 (by decide) (fun c_195 => ?_) (fun c_195 => absurd c_195 (by decide))
                                      have e_965 : (sv (sv (sv μ 111 8 3) 111 6 ((μ.1 111 6) + 1)) 111 13 x1).1 111 6 = (μ.1 111 6) + 1 := ((sv_n _ (by decide)).trans (sv_s _ _ _ _))
                                      have e_966 : (sv (sv (sv μ 111 8 3) 111 6 ((μ.1 111 6) + 1)) 111 13 x1).1 111 6 = (μ.1 111 6) + 1 := ((sv_n _ (by decide)).trans (sv_s _ _ _ _))
                                      have e_967 : (sv (sv (sv μ 111 8 3) 111 6 ((μ.1 111 6) + 1)) 111 13 x1).1 111 8 = 3 := ((sv_n _ (by decide)).trans ((sv_n _ (by decide)).trans (sv_s _ _ _ _)))
                                      have e_968 : wr (sv (sv (sv μ 111 8 3) 111 6 ((μ.1 111 6) + 1)) 111 13 x1) = wr μ := ((wr_cg (sv_n _ (by decide))).trans ((wr_cg (sv_n _ (by decide))).trans (wr_cg (sv_n _ (by decide)))))
                                      have e_969 : bd (sv (sv (sv μ 111 8 3) 111 6 ((μ.1 111 6) + 1)) 111 13 x1) = bd μ := ((bd_cg (sv_n _ (by decide)) (sv_n _ (by decide)) (sv_n _ (by decide))).trans ((bd_cg (sv_n _ (by decide)) (sv_n _ (by decide)) (sv_n _ (by decide))).trans (bd_cg (sv_n _ (by decide)) (sv_n _ (by decide)) (sv_n _ (by decide)))))
                                      have e_970 : wr (sv (sv (sv μ 111 8 3) 111 6 ((μ.1 111 6) + 1)) 111 13 x1) = wr μ := ((wr_cg (sv_n _ (by decide))).trans ((wr_cg (sv_n _ (by decide))).trans (wr_cg (sv_n _ (by decide)))))
                                      have e_971 : nn (sv (sv (sv μ 111 8 3) 111 6 ((μ.1 111 6) + 1)) 111 13 x1) = nn μ := ((nn_cg (sv_n _ (by decide)) (sv_n _ (by decide))).trans ((nn_cg (sv_n _ (by decide)) (sv_n _ (by decide))).trans (nn_cg (sv_n _ (by decide)) (sv_n _ (by decide)))))
                                      exact xr_v G hret hlk dX12_signs_206 ⟨(FrM.put (FrM.put (FrM.put FrM.rf (by decide)) (by decide)) (by decide)), (fun j hj => ((sv_n _ (fun h9 => hj (by rw [h9.2]; decide))).trans ((sv_n _ (fun h9 => hj (by rw [h9.2]; decide))).trans (sv_n _ (fun h9 => hj (by rw [h9.2]; decide)))))), (by omega), (by omega), (by omega), (by omega)⟩
                                    · refine lv_iload_n hx hb dX12_signs_158 rfl (lv_at hl 2 rfl) ?_
                                      refine lv_bipush (v := iv 43) hx hb dX12_signs_159 rfl ?_
                                      refine xb_icmp_eq (tgt := 188) hx hb (by unfold ir; omega) (by unfold ir; omega) dX12_signs_161 (by decide) (fun c_161 => ?_) (fun c_161 => ?_)
                                      · refine lv_iconst (v := iv 1) hx hb dX12_signs_188 rfl ?_
                                        refine lv_goto (tgt := 193) hx hb dX12_signs_189 (by decide) ?_
                                        refine lv_istore_n (lv' := [(3, .int (iv 1)), (2, .int (iv r_9)), (0, .ref (oP ω 111)), (1, .int (iv x1))]) hx hb dX12_signs_193 rfl hl (by decide) rfl (fun ls hl => ?_)
                                        refine lv_iload_n hx hb dX12_signs_194 rfl (lv_at hl 0 rfl) ?_
                                        refine xb_if_ne (tgt := 206) hx hb (x := 1) (by unfold ir; omega) dX12_signs_195 (by decide) (fun c_195 => ?_) (fun c_195 => absurd c_195 (by decide))
                                        have e_972 : (sv (sv (sv μ 111 8 3) 111 6 ((μ.1 111 6) + 1)) 111 13 x1).1 111 6 = (μ.1 111 6) + 1 := ((sv_n _ (by decide)).trans (sv_s _ _ _ _))
                                        have e_973 : (sv (sv (sv μ 111 8 3) 111 6 ((μ.1 111 6) + 1)) 111 13 x1).1 111 6 = (μ.1 111 6) + 1 := ((sv_n _ (by decide)).trans (sv_s _ _ _ _))
                                        have e_974 : (sv (sv (sv μ 111 8 3) 111 6 ((μ.1 111 6) + 1)) 111 13 x1).1 111 8 = 3 := ((sv_n _ (by decide)).trans ((sv_n _ (by decide)).trans (sv_s _ _ _ _)))
                                        have e_975 : wr (sv (sv (sv μ 111 8 3) 111 6 ((μ.1 111 6) + 1)) 111 13 x1) = wr μ := ((wr_cg (sv_n _ (by decide))).trans ((wr_cg (sv_n _ (by decide))).trans (wr_cg (sv_n _ (by decide)))))
                                        have e_976 : bd (sv (sv (sv μ 111 8 3) 111 6 ((μ.1 111 6) + 1)) 111 13 x1) = bd μ := ((bd_cg (sv_n _ (by decide)) (sv_n _ (by decide)) (sv_n _ (by decide))).trans ((bd_cg (sv_n _ (by decide)) (sv_n _ (by decide)) (sv_n _ (by decide))).trans (bd_cg (sv_n _ (by decide)) (sv_n _ (by decide)) (sv_n _ (by decide)))))
                                        have e_977 : wr (sv (sv (sv μ 111 8 3) 111 6 ((μ.1 111 6) + 1)) 111 13 x1) = wr μ := ((wr_cg (sv_n _ (by decide))).trans ((wr_cg (sv_n _ (by decide))).trans (wr_cg (sv_n _ (by decide)))))
                                        have e_978 : nn (sv (sv (sv μ 111 8 3) 111 6 ((μ.1 111 6) + 1)) 111 13 x1) = nn μ := ((nn_cg (sv_n _ (by decide)) (sv_n _ (by decide))).trans ((nn_cg (sv_n _ (by decide)) (sv_n _ (by decide))).trans (nn_cg (sv_n _ (by decide)) (sv_n _ (by decide)))))
                                        exact xr_v G hret hlk dX12_signs_206 ⟨(FrM.put (FrM.put (FrM.put FrM.rf (by decide)) (by decide)) (by decide)), (fun j hj => ((sv_n _ (fun h9 => hj (by rw [h9.2]; decide))).trans ((sv_n _ (fun h9 => hj (by rw [h9.2]; decide))).trans (sv_n _ (fun h9 => hj (by rw [h9.2]; decide)))))), (by omega), (by omega), (by omega), (by omega)⟩
                                      · refine lv_iload_n hx hb dX12_signs_164 rfl (lv_at hl 2 rfl) ?_
                                        refine lv_bipush (v := iv 45) hx hb dX12_signs_165 rfl ?_
                                        refine xb_icmp_eq (tgt := 188) hx hb (by unfold ir; omega) (by unfold ir; omega) dX12_signs_167 (by decide) (fun c_167 => ?_) (fun c_167 => ?_)
                                        · refine lv_iconst (v := iv 1) hx hb dX12_signs_188 rfl ?_
                                          refine lv_goto (tgt := 193) hx hb dX12_signs_189 (by decide) ?_
                                          refine lv_istore_n (lv' := [(3, .int (iv 1)), (2, .int (iv r_9)), (0, .ref (oP ω 111)), (1, .int (iv x1))]) hx hb dX12_signs_193 rfl hl (by decide) rfl (fun ls hl => ?_)
                                          refine lv_iload_n hx hb dX12_signs_194 rfl (lv_at hl 0 rfl) ?_
                                          refine xb_if_ne (tgt := 206) hx hb (x := 1) (by unfold ir; omega) dX12_signs_195 (by decide) (fun c_195 => ?_) (fun c_195 => absurd c_195 (by decide))
                                          have e_979 : (sv (sv (sv μ 111 8 3) 111 6 ((μ.1 111 6) + 1)) 111 13 x1).1 111 6 = (μ.1 111 6) + 1 := ((sv_n _ (by decide)).trans (sv_s _ _ _ _))
                                          have e_980 : (sv (sv (sv μ 111 8 3) 111 6 ((μ.1 111 6) + 1)) 111 13 x1).1 111 6 = (μ.1 111 6) + 1 := ((sv_n _ (by decide)).trans (sv_s _ _ _ _))
                                          have e_981 : (sv (sv (sv μ 111 8 3) 111 6 ((μ.1 111 6) + 1)) 111 13 x1).1 111 8 = 3 := ((sv_n _ (by decide)).trans ((sv_n _ (by decide)).trans (sv_s _ _ _ _)))
                                          have e_982 : wr (sv (sv (sv μ 111 8 3) 111 6 ((μ.1 111 6) + 1)) 111 13 x1) = wr μ := ((wr_cg (sv_n _ (by decide))).trans ((wr_cg (sv_n _ (by decide))).trans (wr_cg (sv_n _ (by decide)))))
                                          have e_983 : bd (sv (sv (sv μ 111 8 3) 111 6 ((μ.1 111 6) + 1)) 111 13 x1) = bd μ := ((bd_cg (sv_n _ (by decide)) (sv_n _ (by decide)) (sv_n _ (by decide))).trans ((bd_cg (sv_n _ (by decide)) (sv_n _ (by decide)) (sv_n _ (by decide))).trans (bd_cg (sv_n _ (by decide)) (sv_n _ (by decide)) (sv_n _ (by decide)))))
                                          have e_984 : wr (sv (sv (sv μ 111 8 3) 111 6 ((μ.1 111 6) + 1)) 111 13 x1) = wr μ := ((wr_cg (sv_n _ (by decide))).trans ((wr_cg (sv_n _ (by decide))).trans (wr_cg (sv_n _ (by decide)))))
                                          have e_985 : nn (sv (sv (sv μ 111 8 3) 111 6 ((μ.1 111 6) + 1)) 111 13 x1) = nn μ := ((nn_cg (sv_n _ (by decide)) (sv_n _ (by decide))).trans ((nn_cg (sv_n _ (by decide)) (sv_n _ (by decide))).trans (nn_cg (sv_n _ (by decide)) (sv_n _ (by decide)))))
                                          exact xr_v G hret hlk dX12_signs_206 ⟨(FrM.put (FrM.put (FrM.put FrM.rf (by decide)) (by decide)) (by decide)), (fun j hj => ((sv_n _ (fun h9 => hj (by rw [h9.2]; decide))).trans ((sv_n _ (fun h9 => hj (by rw [h9.2]; decide))).trans (sv_n _ (fun h9 => hj (by rw [h9.2]; decide)))))), (by omega), (by omega), (by omega), (by omega)⟩
                                        · refine lv_iload_n hx hb dX12_signs_170 rfl (lv_at hl 2 rfl) ?_
                                          refine lv_bipush (v := iv 42) hx hb dX12_signs_171 rfl ?_
                                          refine xb_icmp_eq (tgt := 188) hx hb (by unfold ir; omega) (by unfold ir; omega) dX12_signs_173 (by decide) (fun c_173 => ?_) (fun c_173 => ?_)
                                          · refine lv_iconst (v := iv 1) hx hb dX12_signs_188 rfl ?_
                                            refine lv_goto (tgt := 193) hx hb dX12_signs_189 (by decide) ?_
                                            refine lv_istore_n (lv' := [(3, .int (iv 1)), (2, .int (iv r_9)), (0, .ref (oP ω 111)), (1, .int (iv x1))]) hx hb dX12_signs_193 rfl hl (by decide) rfl (fun ls hl => ?_)
                                            refine lv_iload_n hx hb dX12_signs_194 rfl (lv_at hl 0 rfl) ?_
                                            refine xb_if_ne (tgt := 206) hx hb (x := 1) (by unfold ir; omega) dX12_signs_195 (by decide) (fun c_195 => ?_) (fun c_195 => absurd c_195 (by decide))
                                            have e_986 : (sv (sv (sv μ 111 8 3) 111 6 ((μ.1 111 6) + 1)) 111 13 x1).1 111 6 = (μ.1 111 6) + 1 := ((sv_n _ (by decide)).trans (sv_s _ _ _ _))
                                            have e_987 : (sv (sv (sv μ 111 8 3) 111 6 ((μ.1 111 6) + 1)) 111 13 x1).1 111 6 = (μ.1 111 6) + 1 := ((sv_n _ (by decide)).trans (sv_s _ _ _ _))
                                            have e_988 : (sv (sv (sv μ 111 8 3) 111 6 ((μ.1 111 6) + 1)) 111 13 x1).1 111 8 = 3 := ((sv_n _ (by decide)).trans ((sv_n _ (by decide)).trans (sv_s _ _ _ _)))
                                            have e_989 : wr (sv (sv (sv μ 111 8 3) 111 6 ((μ.1 111 6) + 1)) 111 13 x1) = wr μ := ((wr_cg (sv_n _ (by decide))).trans ((wr_cg (sv_n _ (by decide))).trans (wr_cg (sv_n _ (by decide)))))
                                            have e_990 : bd (sv (sv (sv μ 111 8 3) 111 6 ((μ.1 111 6) + 1)) 111 13 x1) = bd μ := ((bd_cg (sv_n _ (by decide)) (sv_n _ (by decide)) (sv_n _ (by decide))).trans ((bd_cg (sv_n _ (by decide)) (sv_n _ (by decide)) (sv_n _ (by decide))).trans (bd_cg (sv_n _ (by decide)) (sv_n _ (by decide)) (sv_n _ (by decide)))))
                                            have e_991 : wr (sv (sv (sv μ 111 8 3) 111 6 ((μ.1 111 6) + 1)) 111 13 x1) = wr μ := ((wr_cg (sv_n _ (by decide))).trans ((wr_cg (sv_n _ (by decide))).trans (wr_cg (sv_n _ (by decide)))))
                                            have e_992 : nn (sv (sv (sv μ 111 8 3) 111 6 ((μ.1 111 6) + 1)) 111 13 x1) = nn μ := ((nn_cg (sv_n _ (by decide)) (sv_n _ (by decide))).trans ((nn_cg (sv_n _ (by decide)) (sv_n _ (by decide))).trans (nn_cg (sv_n _ (by decide)) (sv_n _ (by decide)))))
                                            exact xr_v G hret hlk dX12_signs_206 ⟨(FrM.put (FrM.put (FrM.put FrM.rf (by decide)) (by decide)) (by decide)), (fun j hj => ((sv_n _ (fun h9 => hj (by rw [h9.2]; decide))).trans ((sv_n _ (fun h9 => hj (by rw [h9.2]; decide))).trans (sv_n _ (fun h9 => hj (by rw [h9.2]; decide)))))), (by omega), (by omega), (by omega), (by omega)⟩
                                          · refine lv_iload_n hx hb dX12_signs_176 rfl (lv_at hl 2 rfl) ?_
                                            refine lv_bipush (v := iv 47) hx hb dX12_signs_177 rfl ?_
                                            refine xb_icmp_eq (tgt := 188) hx hb (by unfold ir; omega) (by unfold ir; omega) dX12_signs_179 (by decide) (fun c_179 => ?_) (fun c_179 => ?_)
                                            · refine lv_iconst (v := iv 1) hx hb dX12_signs_188 rfl ?_
                                              refine lv_goto (tgt := 193) hx hb dX12_signs_189 (by decide) ?_
                                              refine lv_istore_n (lv' := [(3, .int (iv 1)), (2, .int (iv r_9)), (0, .ref (oP ω 111)), (1, .int (iv x1))]) hx hb dX12_signs_193 rfl hl (by decide) rfl (fun ls hl => ?_)
                                              refine lv_iload_n hx hb dX12_signs_194 rfl (lv_at hl 0 rfl) ?_
                                              refine xb_if_ne (tgt := 206) hx hb (x := 1) (by unfold ir; omega) dX12_signs_195 (by decide) (fun c_195 => ?_) (fun c_195 => absurd c_195 (by decide))
                                              have e_993 : (sv (sv (sv μ 111 8 3) 111 6 ((μ.1 111 6) + 1)) 111 13 x1).1 111 6 = (μ.1 111 6) + 1 := ((sv_n _ (by decide)).trans (sv_s _ _ _ _))
                                              have e_994 : (sv (sv (sv μ 111 8 3) 111 6 ((μ.1 111 6) + 1)) 111 13 x1).1 111 6 = (μ.1 111 6) + 1 := ((sv_n _ (by decide)).trans (sv_s _ _ _ _))
                                              have e_995 : (sv (sv (sv μ 111 8 3) 111 6 ((μ.1 111 6) + 1)) 111 13 x1).1 111 8 = 3 := ((sv_n _ (by decide)).trans ((sv_n _ (by decide)).trans (sv_s _ _ _ _)))
                                              have e_996 : wr (sv (sv (sv μ 111 8 3) 111 6 ((μ.1 111 6) + 1)) 111 13 x1) = wr μ := ((wr_cg (sv_n _ (by decide))).trans ((wr_cg (sv_n _ (by decide))).trans (wr_cg (sv_n _ (by decide)))))
                                              have e_997 : bd (sv (sv (sv μ 111 8 3) 111 6 ((μ.1 111 6) + 1)) 111 13 x1) = bd μ := ((bd_cg (sv_n _ (by decide)) (sv_n _ (by decide)) (sv_n _ (by decide))).trans ((bd_cg (sv_n _ (by decide)) (sv_n _ (by decide)) (sv_n _ (by decide))).trans (bd_cg (sv_n _ (by decide)) (sv_n _ (by decide)) (sv_n _ (by decide)))))
                                              have e_998 : wr (sv (sv (sv μ 111 8 3) 111 6 ((μ.1 111 6) + 1)) 111 13 x1) = wr μ := ((wr_cg (sv_n _ (by decide))).trans ((wr_cg (sv_n _ (by decide))).trans (wr_cg (sv_n _ (by decide)))))
                                              have e_999 : nn (sv (sv (sv μ 111 8 3) 111 6 ((μ.1 111 6) + 1)) 111 13 x1) = nn μ := ((nn_cg (sv_n _ (by decide)) (sv_n _ (by decide))).trans ((nn_cg (sv_n _ (by decide)) (sv_n _ (by decide))).trans (nn_cg (sv_n _ (by decide)) (sv_n _ (by decide)))))
                                              exact xr_v G hret hlk dX12_signs_206 ⟨(FrM.put (FrM.put (FrM.put FrM.rf (by decide)) (by decide)) (by decide)), (fun j hj => ((sv_n _ (fun h9 => hj (by rw [h9.2]; decide))).trans ((sv_n _ (fun h9 => hj (by rw [h9.2]; decide))).trans (sv_n _ (fun h9 => hj (by rw [h9.2]; decide)))))), (by omega), (by omega), (by omega), (by omega)⟩
                                            · refine lv_iload_n hx hb dX12_signs_182 rfl (lv_at hl 2 rfl) ?_
                                              refine lv_bipush (v := iv 37) hx hb dX12_signs_183 rfl ?_
                                              refine xb_icmp_ne (tgt := 192) hx hb (by unfold ir; omega) (by unfold ir; omega) dX12_signs_185 (by decide) (fun c_185 => ?_) (fun c_185 => ?_)
                                              · refine lv_iconst (v := iv 0) hx hb dX12_signs_192 rfl ?_
                                                refine lv_istore_n (lv' := [(3, .int (iv 0)), (2, .int (iv r_9)), (0, .ref (oP ω 111)), (1, .int (iv x1))]) hx hb dX12_signs_193 rfl hl (by decide) rfl (fun ls hl => ?_)
                                                refine lv_iload_n hx hb dX12_signs_194 rfl (lv_at hl 0 rfl) ?_
                                                refine xb_if_ne (tgt := 206) hx hb (x := 0) (by unfold ir; omega) dX12_signs_195 (by decide) (fun c_195 => absurd c_195 (by decide)) (fun c_195 => ?_)
                                                refine lv_aload_n hx hb dX12_signs_198 rfl (lv_at hl 2 rfl) ?_
                                                refine lv_aload_n hx hb dX12_signs_199 rfl (lv_at hl 2 rfl) ?_
                                                refine xa_geti G fd_X12 (a := 111) (x := μ.1 111 9) 9 rfl (by decide) rfl (wm 7 158 rfl rfl) ⟨rfl, rfl, rfl⟩ dX12_signs_200 rfl ((sv_n _ (by decide)).trans ((sv_n _ (by decide)).trans (sv_n _ (by decide)))) ?_
                                                have hr_1000 : -2147483648 ≤ μ.1 111 9 ∧ μ.1 111 9 ≤ 2147483647 := by have h9 := G.hr (a := 111) (k := 9) rfl; rw [show (sv (sv (sv μ 111 8 3) 111 6 ((μ.1 111 6) + 1)) 111 13 x1).1 111 9 = μ.1 111 9 from ((sv_n _ (by decide)).trans ((sv_n _ (by decide)).trans (sv_n _ (by decide))))] at h9; exact h9
                                                have e_1001 : (sv (sv (sv μ 111 8 3) 111 6 ((μ.1 111 6) + 1)) 111 13 x1).1 111 9 = μ.1 111 9 := ((sv_n _ (by decide)).trans ((sv_n _ (by decide)).trans (sv_n _ (by decide))))
                                                refine xc_vV G (b := 111) (rest := []) (As := [.int (iv (μ.1 111 9))]) (c_X12_wrong ω l (sv (sv (sv μ 111 8 3) 111 6 ((μ.1 111 6) + 1)) 111 13 x1) (μ.1 111 9) (by unfold ir; omega) (by omega)) (wm 9 22 rfl rfl) (wm 9 24 rfl rfl) (wm 0 123 rfl rfl) rfl rfl (by decide) rfl (wm 1 18 rfl rfl) (wm 9 25 rfl rfl) (by decide) hR (by decide) (n := 1) rfl rfl (Nat.le_of_ble_eq_true rfl) hl.1 dX12_signs_203 (fun μ1002 ρ d0 H locs hp G => ?_)
                                                obtain ⟨F_1003, hp_1004, hp_1005⟩ := hp
                                                have hw_1006 := wr_r (μ := μ1002)
                                                have e_1007 : μ1002.1 111 6 = (μ.1 111 6) + 1 := ((hp_1004 6 (by decide)).trans ((sv_n _ (by decide)).trans (sv_s _ _ _ _)))
                                                have e_1008 : μ1002.1 111 6 = (μ.1 111 6) + 1 := ((hp_1004 6 (by decide)).trans ((sv_n _ (by decide)).trans (sv_s _ _ _ _)))
                                                have e_1009 : μ1002.1 111 8 = 3 := ((hp_1004 8 (by decide)).trans ((sv_n _ (by decide)).trans ((sv_n _ (by decide)).trans (sv_s _ _ _ _))))
                                                exact xr_v G hret hlk dX12_signs_206 ⟨(FrM.tr (FrM.put (FrM.put (FrM.put FrM.rf (by decide)) (by decide)) (by decide)) F_1003 (by decide)), (fun j hj => ((hp_1004 j (fun h9 => hj ((by decide : ∀ x ∈ ([15] : List Int), x ∈ ([6, 8, 13, 15] : List Int)) j h9))).trans ((sv_n _ (fun h9 => hj (by rw [h9.2]; decide))).trans ((sv_n _ (fun h9 => hj (by rw [h9.2]; decide))).trans (sv_n _ (fun h9 => hj (by rw [h9.2]; decide))))))), (by omega), (by omega), (by omega), (by omega)⟩
                                              · refine lv_iconst (v := iv 1) hx hb dX12_signs_188 rfl ?_
                                                refine lv_goto (tgt := 193) hx hb dX12_signs_189 (by decide) ?_
                                                refine lv_istore_n (lv' := [(3, .int (iv 1)), (2, .int (iv r_9)), (0, .ref (oP ω 111)), (1, .int (iv x1))]) hx hb dX12_signs_193 rfl hl (by decide) rfl (fun ls hl => ?_)
                                                refine lv_iload_n hx hb dX12_signs_194 rfl (lv_at hl 0 rfl) ?_
                                                refine xb_if_ne (tgt := 206) hx hb (x := 1) (by unfold ir; omega) dX12_signs_195 (by decide) (fun c_195 => ?_) (fun c_195 => absurd c_195 (by decide))
                                                have e_1010 : (sv (sv (sv μ 111 8 3) 111 6 ((μ.1 111 6) + 1)) 111 13 x1).1 111 6 = (μ.1 111 6) + 1 := ((sv_n _ (by decide)).trans (sv_s _ _ _ _))
                                                have e_1011 : (sv (sv (sv μ 111 8 3) 111 6 ((μ.1 111 6) + 1)) 111 13 x1).1 111 6 = (μ.1 111 6) + 1 := ((sv_n _ (by decide)).trans (sv_s _ _ _ _))
                                                have e_1012 : (sv (sv (sv μ 111 8 3) 111 6 ((μ.1 111 6) + 1)) 111 13 x1).1 111 8 = 3 := ((sv_n _ (by decide)).trans ((sv_n _ (by decide)).trans (sv_s _ _ _ _)))
                                                have e_1013 : wr (sv (sv (sv μ 111 8 3) 111 6 ((μ.1 111 6) + 1)) 111 13 x1) = wr μ := ((wr_cg (sv_n _ (by decide))).trans ((wr_cg (sv_n _ (by decide))).trans (wr_cg (sv_n _ (by decide)))))
                                                have e_1014 : bd (sv (sv (sv μ 111 8 3) 111 6 ((μ.1 111 6) + 1)) 111 13 x1) = bd μ := ((bd_cg (sv_n _ (by decide)) (sv_n _ (by decide)) (sv_n _ (by decide))).trans ((bd_cg (sv_n _ (by decide)) (sv_n _ (by decide)) (sv_n _ (by decide))).trans (bd_cg (sv_n _ (by decide)) (sv_n _ (by decide)) (sv_n _ (by decide)))))
                                                have e_1015 : wr (sv (sv (sv μ 111 8 3) 111 6 ((μ.1 111 6) + 1)) 111 13 x1) = wr μ := ((wr_cg (sv_n _ (by decide))).trans ((wr_cg (sv_n _ (by decide))).trans (wr_cg (sv_n _ (by decide)))))
                                                have e_1016 : nn (sv (sv (sv μ 111 8 3) 111 6 ((μ.1 111 6) + 1)) 111 13 x1) = nn μ := ((nn_cg (sv_n _ (by decide)) (sv_n _ (by decide))).trans ((nn_cg (sv_n _ (by decide)) (sv_n _ (by decide))).trans (nn_cg (sv_n _ (by decide)) (sv_n _ (by decide)))))
                                                exact xr_v G hret hlk dX12_signs_206 ⟨(FrM.put (FrM.put (FrM.put FrM.rf (by decide)) (by decide)) (by decide)), (fun j hj => ((sv_n _ (fun h9 => hj (by rw [h9.2]; decide))).trans ((sv_n _ (fun h9 => hj (by rw [h9.2]; decide))).trans (sv_n _ (fun h9 => hj (by rw [h9.2]; decide)))))), (by omega), (by omega), (by omega), (by omega)⟩
        · refine lv_iload_n hx hb dX12_signs_49 rfl (lv_at hl 0 rfl) ?_
          refine lv_bipush (v := iv 61) hx hb dX12_signs_50 rfl ?_
          refine xb_icmp_ne (tgt := 74) hx hb (by unfold ir; omega) (by unfold ir; omega) dX12_signs_52 (by decide) (fun c_52 => ?_) (fun c_52 => ?_)
          · refine lv_iload_n hx hb dX12_signs_74 rfl (lv_at hl 2 rfl) ?_
            refine lv_bipush (v := iv 40) hx hb dX12_signs_75 rfl ?_
            refine xb_icmp_eq (tgt := 188) hx hb (by unfold ir; omega) (by unfold ir; omega) dX12_signs_77 (by decide) (fun c_77 => ?_) (fun c_77 => ?_)
            · refine lv_iconst (v := iv 1) hx hb dX12_signs_188 rfl ?_
              refine lv_goto (tgt := 193) hx hb dX12_signs_189 (by decide) ?_
              refine lv_istore_n (lv' := [(3, .int (iv 1)), (2, .int (iv r_9)), (0, .ref (oP ω 111)), (1, .int (iv x1))]) hx hb dX12_signs_193 rfl hl (by decide) rfl (fun ls hl => ?_)
              refine lv_iload_n hx hb dX12_signs_194 rfl (lv_at hl 0 rfl) ?_
              refine xb_if_ne (tgt := 206) hx hb (x := 1) (by unfold ir; omega) dX12_signs_195 (by decide) (fun c_195 => ?_) (fun c_195 => absurd c_195 (by decide))
              have e_1017 : (sv (sv (sv μ 111 8 3) 111 6 ((μ.1 111 6) + 1)) 111 13 x1).1 111 6 = (μ.1 111 6) + 1 := ((sv_n _ (by decide)).trans (sv_s _ _ _ _))
              have e_1018 : (sv (sv (sv μ 111 8 3) 111 6 ((μ.1 111 6) + 1)) 111 13 x1).1 111 6 = (μ.1 111 6) + 1 := ((sv_n _ (by decide)).trans (sv_s _ _ _ _))
              have e_1019 : (sv (sv (sv μ 111 8 3) 111 6 ((μ.1 111 6) + 1)) 111 13 x1).1 111 8 = 3 := ((sv_n _ (by decide)).trans ((sv_n _ (by decide)).trans (sv_s _ _ _ _)))
              have e_1020 : wr (sv (sv (sv μ 111 8 3) 111 6 ((μ.1 111 6) + 1)) 111 13 x1) = wr μ := ((wr_cg (sv_n _ (by decide))).trans ((wr_cg (sv_n _ (by decide))).trans (wr_cg (sv_n _ (by decide)))))
              have e_1021 : bd (sv (sv (sv μ 111 8 3) 111 6 ((μ.1 111 6) + 1)) 111 13 x1) = bd μ := ((bd_cg (sv_n _ (by decide)) (sv_n _ (by decide)) (sv_n _ (by decide))).trans ((bd_cg (sv_n _ (by decide)) (sv_n _ (by decide)) (sv_n _ (by decide))).trans (bd_cg (sv_n _ (by decide)) (sv_n _ (by decide)) (sv_n _ (by decide)))))
              have e_1022 : wr (sv (sv (sv μ 111 8 3) 111 6 ((μ.1 111 6) + 1)) 111 13 x1) = wr μ := ((wr_cg (sv_n _ (by decide))).trans ((wr_cg (sv_n _ (by decide))).trans (wr_cg (sv_n _ (by decide)))))
              have e_1023 : nn (sv (sv (sv μ 111 8 3) 111 6 ((μ.1 111 6) + 1)) 111 13 x1) = nn μ := ((nn_cg (sv_n _ (by decide)) (sv_n _ (by decide))).trans ((nn_cg (sv_n _ (by decide)) (sv_n _ (by decide))).trans (nn_cg (sv_n _ (by decide)) (sv_n _ (by decide)))))
              exact xr_v G hret hlk dX12_signs_206 ⟨(FrM.put (FrM.put (FrM.put FrM.rf (by decide)) (by decide)) (by decide)), (fun j hj => ((sv_n _ (fun h9 => hj (by rw [h9.2]; decide))).trans ((sv_n _ (fun h9 => hj (by rw [h9.2]; decide))).trans (sv_n _ (fun h9 => hj (by rw [h9.2]; decide)))))), (by omega), (by omega), (by omega), (by omega)⟩
            · refine lv_iload_n hx hb dX12_signs_80 rfl (lv_at hl 2 rfl) ?_
              refine lv_bipush (v := iv 41) hx hb dX12_signs_81 rfl ?_
              refine xb_icmp_eq (tgt := 188) hx hb (by unfold ir; omega) (by unfold ir; omega) dX12_signs_83 (by decide) (fun c_83 => ?_) (fun c_83 => ?_)
              · refine lv_iconst (v := iv 1) hx hb dX12_signs_188 rfl ?_
                refine lv_goto (tgt := 193) hx hb dX12_signs_189 (by decide) ?_
                refine lv_istore_n (lv' := [(3, .int (iv 1)), (2, .int (iv r_9)), (0, .ref (oP ω 111)), (1, .int (iv x1))]) hx hb dX12_signs_193 rfl hl (by decide) rfl (fun ls hl => ?_)
                refine lv_iload_n hx hb dX12_signs_194 rfl (lv_at hl 0 rfl) ?_
                refine xb_if_ne (tgt := 206) hx hb (x := 1) (by unfold ir; omega) dX12_signs_195 (by decide) (fun c_195 => ?_) (fun c_195 => absurd c_195 (by decide))
                have e_1024 : (sv (sv (sv μ 111 8 3) 111 6 ((μ.1 111 6) + 1)) 111 13 x1).1 111 6 = (μ.1 111 6) + 1 := ((sv_n _ (by decide)).trans (sv_s _ _ _ _))
                have e_1025 : (sv (sv (sv μ 111 8 3) 111 6 ((μ.1 111 6) + 1)) 111 13 x1).1 111 6 = (μ.1 111 6) + 1 := ((sv_n _ (by decide)).trans (sv_s _ _ _ _))
                have e_1026 : (sv (sv (sv μ 111 8 3) 111 6 ((μ.1 111 6) + 1)) 111 13 x1).1 111 8 = 3 := ((sv_n _ (by decide)).trans ((sv_n _ (by decide)).trans (sv_s _ _ _ _)))
                have e_1027 : wr (sv (sv (sv μ 111 8 3) 111 6 ((μ.1 111 6) + 1)) 111 13 x1) = wr μ := ((wr_cg (sv_n _ (by decide))).trans ((wr_cg (sv_n _ (by decide))).trans (wr_cg (sv_n _ (by decide)))))
                have e_1028 : bd (sv (sv (sv μ 111 8 3) 111 6 ((μ.1 111 6) + 1)) 111 13 x1) = bd μ := ((bd_cg (sv_n _ (by decide)) (sv_n _ (by decide)) (sv_n _ (by decide))).trans ((bd_cg (sv_n _ (by decide)) (sv_n _ (by decide)) (sv_n _ (by decide))).trans (bd_cg (sv_n _ (by decide)) (sv_n _ (by decide)) (sv_n _ (by decide)))))
                have e_1029 : wr (sv (sv (sv μ 111 8 3) 111 6 ((μ.1 111 6) + 1)) 111 13 x1) = wr μ := ((wr_cg (sv_n _ (by decide))).trans ((wr_cg (sv_n _ (by decide))).trans (wr_cg (sv_n _ (by decide)))))
                have e_1030 : nn (sv (sv (sv μ 111 8 3) 111 6 ((μ.1 111 6) + 1)) 111 13 x1) = nn μ := ((nn_cg (sv_n _ (by decide)) (sv_n _ (by decide))).trans ((nn_cg (sv_n _ (by decide)) (sv_n _ (by decide))).trans (nn_cg (sv_n _ (by decide)) (sv_n _ (by decide)))))
                exact xr_v G hret hlk dX12_signs_206 ⟨(FrM.put (FrM.put (FrM.put FrM.rf (by decide)) (by decide)) (by decide)), (fun j hj => ((sv_n _ (fun h9 => hj (by rw [h9.2]; decide))).trans ((sv_n _ (fun h9 => hj (by rw [h9.2]; decide))).trans (sv_n _ (fun h9 => hj (by rw [h9.2]; decide)))))), (by omega), (by omega), (by omega), (by omega)⟩
              · refine lv_iload_n hx hb dX12_signs_86 rfl (lv_at hl 2 rfl) ?_
                refine lv_bipush (v := iv 123) hx hb dX12_signs_87 rfl ?_
                refine xb_icmp_eq (tgt := 188) hx hb (by unfold ir; omega) (by unfold ir; omega) dX12_signs_89 (by decide) (fun c_89 => ?_) (fun c_89 => ?_)
                · refine lv_iconst (v := iv 1) hx hb dX12_signs_188 rfl ?_
                  refine lv_goto (tgt := 193) hx hb dX12_signs_189 (by decide) ?_
                  refine lv_istore_n (lv' := [(3, .int (iv 1)), (2, .int (iv r_9)), (0, .ref (oP ω 111)), (1, .int (iv x1))]) hx hb dX12_signs_193 rfl hl (by decide) rfl (fun ls hl => ?_)
                  refine lv_iload_n hx hb dX12_signs_194 rfl (lv_at hl 0 rfl) ?_
                  refine xb_if_ne (tgt := 206) hx hb (x := 1) (by unfold ir; omega) dX12_signs_195 (by decide) (fun c_195 => ?_) (fun c_195 => absurd c_195 (by decide))
                  have e_1031 : (sv (sv (sv μ 111 8 3) 111 6 ((μ.1 111 6) + 1)) 111 13 x1).1 111 6 = (μ.1 111 6) + 1 := ((sv_n _ (by decide)).trans (sv_s _ _ _ _))
                  have e_1032 : (sv (sv (sv μ 111 8 3) 111 6 ((μ.1 111 6) + 1)) 111 13 x1).1 111 6 = (μ.1 111 6) + 1 := ((sv_n _ (by decide)).trans (sv_s _ _ _ _))
                  have e_1033 : (sv (sv (sv μ 111 8 3) 111 6 ((μ.1 111 6) + 1)) 111 13 x1).1 111 8 = 3 := ((sv_n _ (by decide)).trans ((sv_n _ (by decide)).trans (sv_s _ _ _ _)))
                  have e_1034 : wr (sv (sv (sv μ 111 8 3) 111 6 ((μ.1 111 6) + 1)) 111 13 x1) = wr μ := ((wr_cg (sv_n _ (by decide))).trans ((wr_cg (sv_n _ (by decide))).trans (wr_cg (sv_n _ (by decide)))))
                  have e_1035 : bd (sv (sv (sv μ 111 8 3) 111 6 ((μ.1 111 6) + 1)) 111 13 x1) = bd μ := ((bd_cg (sv_n _ (by decide)) (sv_n _ (by decide)) (sv_n _ (by decide))).trans ((bd_cg (sv_n _ (by decide)) (sv_n _ (by decide)) (sv_n _ (by decide))).trans (bd_cg (sv_n _ (by decide)) (sv_n _ (by decide)) (sv_n _ (by decide)))))
                  have e_1036 : wr (sv (sv (sv μ 111 8 3) 111 6 ((μ.1 111 6) + 1)) 111 13 x1) = wr μ := ((wr_cg (sv_n _ (by decide))).trans ((wr_cg (sv_n _ (by decide))).trans (wr_cg (sv_n _ (by decide)))))
                  have e_1037 : nn (sv (sv (sv μ 111 8 3) 111 6 ((μ.1 111 6) + 1)) 111 13 x1) = nn μ := ((nn_cg (sv_n _ (by decide)) (sv_n _ (by decide))).trans ((nn_cg (sv_n _ (by decide)) (sv_n _ (by decide))).trans (nn_cg (sv_n _ (by decide)) (sv_n _ (by decide)))))
                  exact xr_v G hret hlk dX12_signs_206 ⟨(FrM.put (FrM.put (FrM.put FrM.rf (by decide)) (by decide)) (by decide)), (fun j hj => ((sv_n _ (fun h9 => hj (by rw [h9.2]; decide))).trans ((sv_n _ (fun h9 => hj (by rw [h9.2]; decide))).trans (sv_n _ (fun h9 => hj (by rw [h9.2]; decide)))))), (by omega), (by omega), (by omega), (by omega)⟩
                · refine lv_iload_n hx hb dX12_signs_92 rfl (lv_at hl 2 rfl) ?_
                  refine lv_bipush (v := iv 125) hx hb dX12_signs_93 rfl ?_
                  refine xb_icmp_eq (tgt := 188) hx hb (by unfold ir; omega) (by unfold ir; omega) dX12_signs_95 (by decide) (fun c_95 => ?_) (fun c_95 => ?_)
                  · refine lv_iconst (v := iv 1) hx hb dX12_signs_188 rfl ?_
                    refine lv_goto (tgt := 193) hx hb dX12_signs_189 (by decide) ?_
                    refine lv_istore_n (lv' := [(3, .int (iv 1)), (2, .int (iv r_9)), (0, .ref (oP ω 111)), (1, .int (iv x1))]) hx hb dX12_signs_193 rfl hl (by decide) rfl (fun ls hl => ?_)
                    refine lv_iload_n hx hb dX12_signs_194 rfl (lv_at hl 0 rfl) ?_
                    refine xb_if_ne (tgt := 206) hx hb (x := 1) (by unfold ir; omega) dX12_signs_195 (by decide) (fun c_195 => ?_) (fun c_195 => absurd c_195 (by decide))
                    have e_1038 : (sv (sv (sv μ 111 8 3) 111 6 ((μ.1 111 6) + 1)) 111 13 x1).1 111 6 = (μ.1 111 6) + 1 := ((sv_n _ (by decide)).trans (sv_s _ _ _ _))
                    have e_1039 : (sv (sv (sv μ 111 8 3) 111 6 ((μ.1 111 6) + 1)) 111 13 x1).1 111 6 = (μ.1 111 6) + 1 := ((sv_n _ (by decide)).trans (sv_s _ _ _ _))
                    have e_1040 : (sv (sv (sv μ 111 8 3) 111 6 ((μ.1 111 6) + 1)) 111 13 x1).1 111 8 = 3 := ((sv_n _ (by decide)).trans ((sv_n _ (by decide)).trans (sv_s _ _ _ _)))
                    have e_1041 : wr (sv (sv (sv μ 111 8 3) 111 6 ((μ.1 111 6) + 1)) 111 13 x1) = wr μ := ((wr_cg (sv_n _ (by decide))).trans ((wr_cg (sv_n _ (by decide))).trans (wr_cg (sv_n _ (by decide)))))
                    have e_1042 : bd (sv (sv (sv μ 111 8 3) 111 6 ((μ.1 111 6) + 1)) 111 13 x1) = bd μ := ((bd_cg (sv_n _ (by decide)) (sv_n _ (by decide)) (sv_n _ (by decide))).trans ((bd_cg (sv_n _ (by decide)) (sv_n _ (by decide)) (sv_n _ (by decide))).trans (bd_cg (sv_n _ (by decide)) (sv_n _ (by decide)) (sv_n _ (by decide)))))
                    have e_1043 : wr (sv (sv (sv μ 111 8 3) 111 6 ((μ.1 111 6) + 1)) 111 13 x1) = wr μ := ((wr_cg (sv_n _ (by decide))).trans ((wr_cg (sv_n _ (by decide))).trans (wr_cg (sv_n _ (by decide)))))
                    have e_1044 : nn (sv (sv (sv μ 111 8 3) 111 6 ((μ.1 111 6) + 1)) 111 13 x1) = nn μ := ((nn_cg (sv_n _ (by decide)) (sv_n _ (by decide))).trans ((nn_cg (sv_n _ (by decide)) (sv_n _ (by decide))).trans (nn_cg (sv_n _ (by decide)) (sv_n _ (by decide)))))
                    exact xr_v G hret hlk dX12_signs_206 ⟨(FrM.put (FrM.put (FrM.put FrM.rf (by decide)) (by decide)) (by decide)), (fun j hj => ((sv_n _ (fun h9 => hj (by rw [h9.2]; decide))).trans ((sv_n _ (fun h9 => hj (by rw [h9.2]; decide))).trans (sv_n _ (fun h9 => hj (by rw [h9.2]; decide)))))), (by omega), (by omega), (by omega), (by omega)⟩
                  · refine lv_iload_n hx hb dX12_signs_98 rfl (lv_at hl 2 rfl) ?_
                    refine lv_bipush (v := iv 91) hx hb dX12_signs_99 rfl ?_
                    refine xb_icmp_eq (tgt := 188) hx hb (by unfold ir; omega) (by unfold ir; omega) dX12_signs_101 (by decide) (fun c_101 => ?_) (fun c_101 => ?_)
                    · refine lv_iconst (v := iv 1) hx hb dX12_signs_188 rfl ?_
                      refine lv_goto (tgt := 193) hx hb dX12_signs_189 (by decide) ?_
                      refine lv_istore_n (lv' := [(3, .int (iv 1)), (2, .int (iv r_9)), (0, .ref (oP ω 111)), (1, .int (iv x1))]) hx hb dX12_signs_193 rfl hl (by decide) rfl (fun ls hl => ?_)
                      refine lv_iload_n hx hb dX12_signs_194 rfl (lv_at hl 0 rfl) ?_
                      refine xb_if_ne (tgt := 206) hx hb (x := 1) (by unfold ir; omega) dX12_signs_195 (by decide) (fun c_195 => ?_) (fun c_195 => absurd c_195 (by decide))
                      have e_1045 : (sv (sv (sv μ 111 8 3) 111 6 ((μ.1 111 6) + 1)) 111 13 x1).1 111 6 = (μ.1 111 6) + 1 := ((sv_n _ (by decide)).trans (sv_s _ _ _ _))
                      have e_1046 : (sv (sv (sv μ 111 8 3) 111 6 ((μ.1 111 6) + 1)) 111 13 x1).1 111 6 = (μ.1 111 6) + 1 := ((sv_n _ (by decide)).trans (sv_s _ _ _ _))
                      have e_1047 : (sv (sv (sv μ 111 8 3) 111 6 ((μ.1 111 6) + 1)) 111 13 x1).1 111 8 = 3 := ((sv_n _ (by decide)).trans ((sv_n _ (by decide)).trans (sv_s _ _ _ _)))
                      have e_1048 : wr (sv (sv (sv μ 111 8 3) 111 6 ((μ.1 111 6) + 1)) 111 13 x1) = wr μ := ((wr_cg (sv_n _ (by decide))).trans ((wr_cg (sv_n _ (by decide))).trans (wr_cg (sv_n _ (by decide)))))
                      have e_1049 : bd (sv (sv (sv μ 111 8 3) 111 6 ((μ.1 111 6) + 1)) 111 13 x1) = bd μ := ((bd_cg (sv_n _ (by decide)) (sv_n _ (by decide)) (sv_n _ (by decide))).trans ((bd_cg (sv_n _ (by decide)) (sv_n _ (by decide)) (sv_n _ (by decide))).trans (bd_cg (sv_n _ (by decide)) (sv_n _ (by decide)) (sv_n _ (by decide)))))
                      have e_1050 : wr (sv (sv (sv μ 111 8 3) 111 6 ((μ.1 111 6) + 1)) 111 13 x1) = wr μ := ((wr_cg (sv_n _ (by decide))).trans ((wr_cg (sv_n _ (by decide))).trans (wr_cg (sv_n _ (by decide)))))
                      have e_1051 : nn (sv (sv (sv μ 111 8 3) 111 6 ((μ.1 111 6) + 1)) 111 13 x1) = nn μ := ((nn_cg (sv_n _ (by decide)) (sv_n _ (by decide))).trans ((nn_cg (sv_n _ (by decide)) (sv_n _ (by decide))).trans (nn_cg (sv_n _ (by decide)) (sv_n _ (by decide)))))
                      exact xr_v G hret hlk dX12_signs_206 ⟨(FrM.put (FrM.put (FrM.put FrM.rf (by decide)) (by decide)) (by decide)), (fun j hj => ((sv_n _ (fun h9 => hj (by rw [h9.2]; decide))).trans ((sv_n _ (fun h9 => hj (by rw [h9.2]; decide))).trans (sv_n _ (fun h9 => hj (by rw [h9.2]; decide)))))), (by omega), (by omega), (by omega), (by omega)⟩
                    · refine lv_iload_n hx hb dX12_signs_104 rfl (lv_at hl 2 rfl) ?_
                      refine lv_bipush (v := iv 93) hx hb dX12_signs_105 rfl ?_
                      refine xb_icmp_eq (tgt := 188) hx hb (by unfold ir; omega) (by unfold ir; omega) dX12_signs_107 (by decide) (fun c_107 => ?_) (fun c_107 => ?_)
                      · refine lv_iconst (v := iv 1) hx hb dX12_signs_188 rfl ?_
                        refine lv_goto (tgt := 193) hx hb dX12_signs_189 (by decide) ?_
                        refine lv_istore_n (lv' := [(3, .int (iv 1)), (2, .int (iv r_9)), (0, .ref (oP ω 111)), (1, .int (iv x1))]) hx hb dX12_signs_193 rfl hl (by decide) rfl (fun ls hl => ?_)
                        refine lv_iload_n hx hb dX12_signs_194 rfl (lv_at hl 0 rfl) ?_
                        refine xb_if_ne (tgt := 206) hx hb (x := 1) (by unfold ir; omega) dX12_signs_195 (by decide) (fun c_195 => ?_) (fun c_195 => absurd c_195 (by decide))
                        have e_1052 : (sv (sv (sv μ 111 8 3) 111 6 ((μ.1 111 6) + 1)) 111 13 x1).1 111 6 = (μ.1 111 6) + 1 := ((sv_n _ (by decide)).trans (sv_s _ _ _ _))
                        have e_1053 : (sv (sv (sv μ 111 8 3) 111 6 ((μ.1 111 6) + 1)) 111 13 x1).1 111 6 = (μ.1 111 6) + 1 := ((sv_n _ (by decide)).trans (sv_s _ _ _ _))
                        have e_1054 : (sv (sv (sv μ 111 8 3) 111 6 ((μ.1 111 6) + 1)) 111 13 x1).1 111 8 = 3 := ((sv_n _ (by decide)).trans ((sv_n _ (by decide)).trans (sv_s _ _ _ _)))
                        have e_1055 : wr (sv (sv (sv μ 111 8 3) 111 6 ((μ.1 111 6) + 1)) 111 13 x1) = wr μ := ((wr_cg (sv_n _ (by decide))).trans ((wr_cg (sv_n _ (by decide))).trans (wr_cg (sv_n _ (by decide)))))
                        have e_1056 : bd (sv (sv (sv μ 111 8 3) 111 6 ((μ.1 111 6) + 1)) 111 13 x1) = bd μ := ((bd_cg (sv_n _ (by decide)) (sv_n _ (by decide)) (sv_n _ (by decide))).trans ((bd_cg (sv_n _ (by decide)) (sv_n _ (by decide)) (sv_n _ (by decide))).trans (bd_cg (sv_n _ (by decide)) (sv_n _ (by decide)) (sv_n _ (by decide)))))
                        have e_1057 : wr (sv (sv (sv μ 111 8 3) 111 6 ((μ.1 111 6) + 1)) 111 13 x1) = wr μ := ((wr_cg (sv_n _ (by decide))).trans ((wr_cg (sv_n _ (by decide))).trans (wr_cg (sv_n _ (by decide)))))
                        have e_1058 : nn (sv (sv (sv μ 111 8 3) 111 6 ((μ.1 111 6) + 1)) 111 13 x1) = nn μ := ((nn_cg (sv_n _ (by decide)) (sv_n _ (by decide))).trans ((nn_cg (sv_n _ (by decide)) (sv_n _ (by decide))).trans (nn_cg (sv_n _ (by decide)) (sv_n _ (by decide)))))
                        exact xr_v G hret hlk dX12_signs_206 ⟨(FrM.put (FrM.put (FrM.put FrM.rf (by decide)) (by decide)) (by decide)), (fun j hj => ((sv_n _ (fun h9 => hj (by rw [h9.2]; decide))).trans ((sv_n _ (fun h9 => hj (by rw [h9.2]; decide))).trans (sv_n _ (fun h9 => hj (by rw [h9.2]; decide)))))), (by omega), (by omega), (by omega), (by omega)⟩
                      · refine lv_iload_n hx hb dX12_signs_110 rfl (lv_at hl 2 rfl) ?_
                        refine lv_bipush (v := iv 44) hx hb dX12_signs_111 rfl ?_
                        refine xb_icmp_eq (tgt := 188) hx hb (by unfold ir; omega) (by unfold ir; omega) dX12_signs_113 (by decide) (fun c_113 => ?_) (fun c_113 => ?_)
                        · refine lv_iconst (v := iv 1) hx hb dX12_signs_188 rfl ?_
                          refine lv_goto (tgt := 193) hx hb dX12_signs_189 (by decide) ?_
                          refine lv_istore_n (lv' := [(3, .int (iv 1)), (2, .int (iv r_9)), (0, .ref (oP ω 111)), (1, .int (iv x1))]) hx hb dX12_signs_193 rfl hl (by decide) rfl (fun ls hl => ?_)
                          refine lv_iload_n hx hb dX12_signs_194 rfl (lv_at hl 0 rfl) ?_
                          refine xb_if_ne (tgt := 206) hx hb (x := 1) (by unfold ir; omega) dX12_signs_195 (by decide) (fun c_195 => ?_) (fun c_195 => absurd c_195 (by decide))
                          have e_1059 : (sv (sv (sv μ 111 8 3) 111 6 ((μ.1 111 6) + 1)) 111 13 x1).1 111 6 = (μ.1 111 6) + 1 := ((sv_n _ (by decide)).trans (sv_s _ _ _ _))
                          have e_1060 : (sv (sv (sv μ 111 8 3) 111 6 ((μ.1 111 6) + 1)) 111 13 x1).1 111 6 = (μ.1 111 6) + 1 := ((sv_n _ (by decide)).trans (sv_s _ _ _ _))
                          have e_1061 : (sv (sv (sv μ 111 8 3) 111 6 ((μ.1 111 6) + 1)) 111 13 x1).1 111 8 = 3 := ((sv_n _ (by decide)).trans ((sv_n _ (by decide)).trans (sv_s _ _ _ _)))
                          have e_1062 : wr (sv (sv (sv μ 111 8 3) 111 6 ((μ.1 111 6) + 1)) 111 13 x1) = wr μ := ((wr_cg (sv_n _ (by decide))).trans ((wr_cg (sv_n _ (by decide))).trans (wr_cg (sv_n _ (by decide)))))
                          have e_1063 : bd (sv (sv (sv μ 111 8 3) 111 6 ((μ.1 111 6) + 1)) 111 13 x1) = bd μ := ((bd_cg (sv_n _ (by decide)) (sv_n _ (by decide)) (sv_n _ (by decide))).trans ((bd_cg (sv_n _ (by decide)) (sv_n _ (by decide)) (sv_n _ (by decide))).trans (bd_cg (sv_n _ (by decide)) (sv_n _ (by decide)) (sv_n _ (by decide)))))
                          have e_1064 : wr (sv (sv (sv μ 111 8 3) 111 6 ((μ.1 111 6) + 1)) 111 13 x1) = wr μ := ((wr_cg (sv_n _ (by decide))).trans ((wr_cg (sv_n _ (by decide))).trans (wr_cg (sv_n _ (by decide)))))
                          have e_1065 : nn (sv (sv (sv μ 111 8 3) 111 6 ((μ.1 111 6) + 1)) 111 13 x1) = nn μ := ((nn_cg (sv_n _ (by decide)) (sv_n _ (by decide))).trans ((nn_cg (sv_n _ (by decide)) (sv_n _ (by decide))).trans (nn_cg (sv_n _ (by decide)) (sv_n _ (by decide)))))
                          exact xr_v G hret hlk dX12_signs_206 ⟨(FrM.put (FrM.put (FrM.put FrM.rf (by decide)) (by decide)) (by decide)), (fun j hj => ((sv_n _ (fun h9 => hj (by rw [h9.2]; decide))).trans ((sv_n _ (fun h9 => hj (by rw [h9.2]; decide))).trans (sv_n _ (fun h9 => hj (by rw [h9.2]; decide)))))), (by omega), (by omega), (by omega), (by omega)⟩
                        · refine lv_iload_n hx hb dX12_signs_116 rfl (lv_at hl 2 rfl) ?_
                          refine lv_bipush (v := iv 59) hx hb dX12_signs_117 rfl ?_
                          refine xb_icmp_eq (tgt := 188) hx hb (by unfold ir; omega) (by unfold ir; omega) dX12_signs_119 (by decide) (fun c_119 => ?_) (fun c_119 => ?_)
                          · refine lv_iconst (v := iv 1) hx hb dX12_signs_188 rfl ?_
                            refine lv_goto (tgt := 193) hx hb dX12_signs_189 (by decide) ?_
                            refine lv_istore_n (lv' := [(3, .int (iv 1)), (2, .int (iv r_9)), (0, .ref (oP ω 111)), (1, .int (iv x1))]) hx hb dX12_signs_193 rfl hl (by decide) rfl (fun ls hl => ?_)
                            refine lv_iload_n hx hb dX12_signs_194 rfl (lv_at hl 0 rfl) ?_
                            refine xb_if_ne (tgt := 206) hx hb (x := 1) (by unfold ir; omega) dX12_signs_195 (by decide) (fun c_195 => ?_) (fun c_195 => absurd c_195 (by decide))
                            have e_1066 : (sv (sv (sv μ 111 8 3) 111 6 ((μ.1 111 6) + 1)) 111 13 x1).1 111 6 = (μ.1 111 6) + 1 := ((sv_n _ (by decide)).trans (sv_s _ _ _ _))
                            have e_1067 : (sv (sv (sv μ 111 8 3) 111 6 ((μ.1 111 6) + 1)) 111 13 x1).1 111 6 = (μ.1 111 6) + 1 := ((sv_n _ (by decide)).trans (sv_s _ _ _ _))
                            have e_1068 : (sv (sv (sv μ 111 8 3) 111 6 ((μ.1 111 6) + 1)) 111 13 x1).1 111 8 = 3 := ((sv_n _ (by decide)).trans ((sv_n _ (by decide)).trans (sv_s _ _ _ _)))
                            have e_1069 : wr (sv (sv (sv μ 111 8 3) 111 6 ((μ.1 111 6) + 1)) 111 13 x1) = wr μ := ((wr_cg (sv_n _ (by decide))).trans ((wr_cg (sv_n _ (by decide))).trans (wr_cg (sv_n _ (by decide)))))
                            have e_1070 : bd (sv (sv (sv μ 111 8 3) 111 6 ((μ.1 111 6) + 1)) 111 13 x1) = bd μ := ((bd_cg (sv_n _ (by decide)) (sv_n _ (by decide)) (sv_n _ (by decide))).trans ((bd_cg (sv_n _ (by decide)) (sv_n _ (by decide)) (sv_n _ (by decide))).trans (bd_cg (sv_n _ (by decide)) (sv_n _ (by decide)) (sv_n _ (by decide)))))
                            have e_1071 : wr (sv (sv (sv μ 111 8 3) 111 6 ((μ.1 111 6) + 1)) 111 13 x1) = wr μ := ((wr_cg (sv_n _ (by decide))).trans ((wr_cg (sv_n _ (by decide))).trans (wr_cg (sv_n _ (by decide)))))
                            have e_1072 : nn (sv (sv (sv μ 111 8 3) 111 6 ((μ.1 111 6) + 1)) 111 13 x1) = nn μ := ((nn_cg (sv_n _ (by decide)) (sv_n _ (by decide))).trans ((nn_cg (sv_n _ (by decide)) (sv_n _ (by decide))).trans (nn_cg (sv_n _ (by decide)) (sv_n _ (by decide)))))
                            exact xr_v G hret hlk dX12_signs_206 ⟨(FrM.put (FrM.put (FrM.put FrM.rf (by decide)) (by decide)) (by decide)), (fun j hj => ((sv_n _ (fun h9 => hj (by rw [h9.2]; decide))).trans ((sv_n _ (fun h9 => hj (by rw [h9.2]; decide))).trans (sv_n _ (fun h9 => hj (by rw [h9.2]; decide)))))), (by omega), (by omega), (by omega), (by omega)⟩
                          · refine lv_iload_n hx hb dX12_signs_122 rfl (lv_at hl 2 rfl) ?_
                            refine lv_bipush (v := iv 46) hx hb dX12_signs_123 rfl ?_
                            refine xb_icmp_eq (tgt := 188) hx hb (by unfold ir; omega) (by unfold ir; omega) dX12_signs_125 (by decide) (fun c_125 => ?_) (fun c_125 => ?_)
                            · refine lv_iconst (v := iv 1) hx hb dX12_signs_188 rfl ?_
                              refine lv_goto (tgt := 193) hx hb dX12_signs_189 (by decide) ?_
                              refine lv_istore_n (lv' := [(3, .int (iv 1)), (2, .int (iv r_9)), (0, .ref (oP ω 111)), (1, .int (iv x1))]) hx hb dX12_signs_193 rfl hl (by decide) rfl (fun ls hl => ?_)
                              refine lv_iload_n hx hb dX12_signs_194 rfl (lv_at hl 0 rfl) ?_
                              refine xb_if_ne (tgt := 206) hx hb (x := 1) (by unfold ir; omega) dX12_signs_195 (by decide) (fun c_195 => ?_) (fun c_195 => absurd c_195 (by decide))
                              have e_1073 : (sv (sv (sv μ 111 8 3) 111 6 ((μ.1 111 6) + 1)) 111 13 x1).1 111 6 = (μ.1 111 6) + 1 := ((sv_n _ (by decide)).trans (sv_s _ _ _ _))
                              have e_1074 : (sv (sv (sv μ 111 8 3) 111 6 ((μ.1 111 6) + 1)) 111 13 x1).1 111 6 = (μ.1 111 6) + 1 := ((sv_n _ (by decide)).trans (sv_s _ _ _ _))
                              have e_1075 : (sv (sv (sv μ 111 8 3) 111 6 ((μ.1 111 6) + 1)) 111 13 x1).1 111 8 = 3 := ((sv_n _ (by decide)).trans ((sv_n _ (by decide)).trans (sv_s _ _ _ _)))
                              have e_1076 : wr (sv (sv (sv μ 111 8 3) 111 6 ((μ.1 111 6) + 1)) 111 13 x1) = wr μ := ((wr_cg (sv_n _ (by decide))).trans ((wr_cg (sv_n _ (by decide))).trans (wr_cg (sv_n _ (by decide)))))
                              have e_1077 : bd (sv (sv (sv μ 111 8 3) 111 6 ((μ.1 111 6) + 1)) 111 13 x1) = bd μ := ((bd_cg (sv_n _ (by decide)) (sv_n _ (by decide)) (sv_n _ (by decide))).trans ((bd_cg (sv_n _ (by decide)) (sv_n _ (by decide)) (sv_n _ (by decide))).trans (bd_cg (sv_n _ (by decide)) (sv_n _ (by decide)) (sv_n _ (by decide)))))
                              have e_1078 : wr (sv (sv (sv μ 111 8 3) 111 6 ((μ.1 111 6) + 1)) 111 13 x1) = wr μ := ((wr_cg (sv_n _ (by decide))).trans ((wr_cg (sv_n _ (by decide))).trans (wr_cg (sv_n _ (by decide)))))
                              have e_1079 : nn (sv (sv (sv μ 111 8 3) 111 6 ((μ.1 111 6) + 1)) 111 13 x1) = nn μ := ((nn_cg (sv_n _ (by decide)) (sv_n _ (by decide))).trans ((nn_cg (sv_n _ (by decide)) (sv_n _ (by decide))).trans (nn_cg (sv_n _ (by decide)) (sv_n _ (by decide)))))
                              exact xr_v G hret hlk dX12_signs_206 ⟨(FrM.put (FrM.put (FrM.put FrM.rf (by decide)) (by decide)) (by decide)), (fun j hj => ((sv_n _ (fun h9 => hj (by rw [h9.2]; decide))).trans ((sv_n _ (fun h9 => hj (by rw [h9.2]; decide))).trans (sv_n _ (fun h9 => hj (by rw [h9.2]; decide)))))), (by omega), (by omega), (by omega), (by omega)⟩
                            · refine lv_iload_n hx hb dX12_signs_128 rfl (lv_at hl 2 rfl) ?_
                              refine lv_bipush (v := iv 38) hx hb dX12_signs_129 rfl ?_
                              refine xb_icmp_eq (tgt := 188) hx hb (by unfold ir; omega) (by unfold ir; omega) dX12_signs_131 (by decide) (fun c_131 => ?_) (fun c_131 => ?_)
                              · refine lv_iconst (v := iv 1) hx hb dX12_signs_188 rfl ?_
                                refine lv_goto (tgt := 193) hx hb dX12_signs_189 (by decide) ?_
                                refine lv_istore_n (lv' := [(3, .int (iv 1)), (2, .int (iv r_9)), (0, .ref (oP ω 111)), (1, .int (iv x1))]) hx hb dX12_signs_193 rfl hl (by decide) rfl (fun ls hl => ?_)
                                refine lv_iload_n hx hb dX12_signs_194 rfl (lv_at hl 0 rfl) ?_
                                refine xb_if_ne (tgt := 206) hx hb (x := 1) (by unfold ir; omega) dX12_signs_195 (by decide) (fun c_195 => ?_) (fun c_195 => absurd c_195 (by decide))
                                have e_1080 : (sv (sv (sv μ 111 8 3) 111 6 ((μ.1 111 6) + 1)) 111 13 x1).1 111 6 = (μ.1 111 6) + 1 := ((sv_n _ (by decide)).trans (sv_s _ _ _ _))
                                have e_1081 : (sv (sv (sv μ 111 8 3) 111 6 ((μ.1 111 6) + 1)) 111 13 x1).1 111 6 = (μ.1 111 6) + 1 := ((sv_n _ (by decide)).trans (sv_s _ _ _ _))
                                have e_1082 : (sv (sv (sv μ 111 8 3) 111 6 ((μ.1 111 6) + 1)) 111 13 x1).1 111 8 = 3 := ((sv_n _ (by decide)).trans ((sv_n _ (by decide)).trans (sv_s _ _ _ _)))
                                have e_1083 : wr (sv (sv (sv μ 111 8 3) 111 6 ((μ.1 111 6) + 1)) 111 13 x1) = wr μ := ((wr_cg (sv_n _ (by decide))).trans ((wr_cg (sv_n _ (by decide))).trans (wr_cg (sv_n _ (by decide)))))
                                have e_1084 : bd (sv (sv (sv μ 111 8 3) 111 6 ((μ.1 111 6) + 1)) 111 13 x1) = bd μ := ((bd_cg (sv_n _ (by decide)) (sv_n _ (by decide)) (sv_n _ (by decide))).trans ((bd_cg (sv_n _ (by decide)) (sv_n _ (by decide)) (sv_n _ (by decide))).trans (bd_cg (sv_n _ (by decide)) (sv_n _ (by decide)) (sv_n _ (by decide)))))
                                have e_1085 : wr (sv (sv (sv μ 111 8 3) 111 6 ((μ.1 111 6) + 1)) 111 13 x1) = wr μ := ((wr_cg (sv_n _ (by decide))).trans ((wr_cg (sv_n _ (by decide))).trans (wr_cg (sv_n _ (by decide)))))
                                have e_1086 : nn (sv (sv (sv μ 111 8 3) 111 6 ((μ.1 111 6) + 1)) 111 13 x1) = nn μ := ((nn_cg (sv_n _ (by decide)) (sv_n _ (by decide))).trans ((nn_cg (sv_n _ (by decide)) (sv_n _ (by decide))).trans (nn_cg (sv_n _ (by decide)) (sv_n _ (by decide)))))
                                exact xr_v G hret hlk dX12_signs_206 ⟨(FrM.put (FrM.put (FrM.put FrM.rf (by decide)) (by decide)) (by decide)), (fun j hj => ((sv_n _ (fun h9 => hj (by rw [h9.2]; decide))).trans ((sv_n _ (fun h9 => hj (by rw [h9.2]; decide))).trans (sv_n _ (fun h9 => hj (by rw [h9.2]; decide)))))), (by omega), (by omega), (by omega), (by omega)⟩
                              · refine lv_iload_n hx hb dX12_signs_134 rfl (lv_at hl 2 rfl) ?_
                                refine lv_bipush (v := iv 33) hx hb dX12_signs_135 rfl ?_
                                refine xb_icmp_eq (tgt := 188) hx hb (by unfold ir; omega) (by unfold ir; omega) dX12_signs_137 (by decide) (fun c_137 => ?_) (fun c_137 => ?_)
                                · refine lv_iconst (v := iv 1) hx hb dX12_signs_188 rfl ?_
                                  refine lv_goto (tgt := 193) hx hb dX12_signs_189 (by decide) ?_
                                  refine lv_istore_n (lv' := [(3, .int (iv 1)), (2, .int (iv r_9)), (0, .ref (oP ω 111)), (1, .int (iv x1))]) hx hb dX12_signs_193 rfl hl (by decide) rfl (fun ls hl => ?_)
                                  refine lv_iload_n hx hb dX12_signs_194 rfl (lv_at hl 0 rfl) ?_
                                  refine xb_if_ne (tgt := 206) hx hb (x := 1) (by unfold ir; omega) dX12_signs_195 (by decide) (fun c_195 => ?_) (fun c_195 => absurd c_195 (by decide))
                                  have e_1087 : (sv (sv (sv μ 111 8 3) 111 6 ((μ.1 111 6) + 1)) 111 13 x1).1 111 6 = (μ.1 111 6) + 1 := ((sv_n _ (by decide)).trans (sv_s _ _ _ _))
                                  have e_1088 : (sv (sv (sv μ 111 8 3) 111 6 ((μ.1 111 6) + 1)) 111 13 x1).1 111 6 = (μ.1 111 6) + 1 := ((sv_n _ (by decide)).trans (sv_s _ _ _ _))
                                  have e_1089 : (sv (sv (sv μ 111 8 3) 111 6 ((μ.1 111 6) + 1)) 111 13 x1).1 111 8 = 3 := ((sv_n _ (by decide)).trans ((sv_n _ (by decide)).trans (sv_s _ _ _ _)))
                                  have e_1090 : wr (sv (sv (sv μ 111 8 3) 111 6 ((μ.1 111 6) + 1)) 111 13 x1) = wr μ := ((wr_cg (sv_n _ (by decide))).trans ((wr_cg (sv_n _ (by decide))).trans (wr_cg (sv_n _ (by decide)))))
                                  have e_1091 : bd (sv (sv (sv μ 111 8 3) 111 6 ((μ.1 111 6) + 1)) 111 13 x1) = bd μ := ((bd_cg (sv_n _ (by decide)) (sv_n _ (by decide)) (sv_n _ (by decide))).trans ((bd_cg (sv_n _ (by decide)) (sv_n _ (by decide)) (sv_n _ (by decide))).trans (bd_cg (sv_n _ (by decide)) (sv_n _ (by decide)) (sv_n _ (by decide)))))
                                  have e_1092 : wr (sv (sv (sv μ 111 8 3) 111 6 ((μ.1 111 6) + 1)) 111 13 x1) = wr μ := ((wr_cg (sv_n _ (by decide))).trans ((wr_cg (sv_n _ (by decide))).trans (wr_cg (sv_n _ (by decide)))))
                                  have e_1093 : nn (sv (sv (sv μ 111 8 3) 111 6 ((μ.1 111 6) + 1)) 111 13 x1) = nn μ := ((nn_cg (sv_n _ (by decide)) (sv_n _ (by decide))).trans ((nn_cg (sv_n _ (by decide)) (sv_n _ (by decide))).trans (nn_cg (sv_n _ (by decide)) (sv_n _ (by decide)))))
                                  exact xr_v G hret hlk dX12_signs_206 ⟨(FrM.put (FrM.put (FrM.put FrM.rf (by decide)) (by decide)) (by decide)), (fun j hj => ((sv_n _ (fun h9 => hj (by rw [h9.2]; decide))).trans ((sv_n _ (fun h9 => hj (by rw [h9.2]; decide))).trans (sv_n _ (fun h9 => hj (by rw [h9.2]; decide)))))), (by omega), (by omega), (by omega), (by omega)⟩
                                · refine lv_iload_n hx hb dX12_signs_140 rfl (lv_at hl 2 rfl) ?_
                                  refine lv_bipush (v := iv 61) hx hb dX12_signs_141 rfl ?_
                                  refine xb_icmp_eq (tgt := 188) hx hb (by unfold ir; omega) (by unfold ir; omega) dX12_signs_143 (by decide) (fun c_143 => ?_) (fun c_143 => ?_)
                                  · refine lv_iconst (v := iv 1) hx hb dX12_signs_188 rfl ?_
                                    refine lv_goto (tgt := 193) hx hb dX12_signs_189 (by decide) ?_
                                    refine lv_istore_n (lv' := [(3, .int (iv 1)), (2, .int (iv r_9)), (0, .ref (oP ω 111)), (1, .int (iv x1))]) hx hb dX12_signs_193 rfl hl (by decide) rfl (fun ls hl => ?_)
                                    refine lv_iload_n hx hb dX12_signs_194 rfl (lv_at hl 0 rfl) ?_
                                    refine xb_if_ne (tgt := 206) hx hb (x := 1) (by unfold ir; omega) dX12_signs_195 (by decide) (fun c_195 => ?_) (fun c_195 => absurd c_195 (by decide))
                                    have e_1094 : (sv (sv (sv μ 111 8 3) 111 6 ((μ.1 111 6) + 1)) 111 13 x1).1 111 6 = (μ.1 111 6) + 1 := ((sv_n _ (by decide)).trans (sv_s _ _ _ _))
                                    have e_1095 : (sv (sv (sv μ 111 8 3) 111 6 ((μ.1 111 6) + 1)) 111 13 x1).1 111 6 = (μ.1 111 6) + 1 := ((sv_n _ (by decide)).trans (sv_s _ _ _ _))
                                    have e_1096 : (sv (sv (sv μ 111 8 3) 111 6 ((μ.1 111 6) + 1)) 111 13 x1).1 111 8 = 3 := ((sv_n _ (by decide)).trans ((sv_n _ (by decide)).trans (sv_s _ _ _ _)))
                                    have e_1097 : wr (sv (sv (sv μ 111 8 3) 111 6 ((μ.1 111 6) + 1)) 111 13 x1) = wr μ := ((wr_cg (sv_n _ (by decide))).trans ((wr_cg (sv_n _ (by decide))).trans (wr_cg (sv_n _ (by decide)))))
                                    have e_1098 : bd (sv (sv (sv μ 111 8 3) 111 6 ((μ.1 111 6) + 1)) 111 13 x1) = bd μ := ((bd_cg (sv_n _ (by decide)) (sv_n _ (by decide)) (sv_n _ (by decide))).trans ((bd_cg (sv_n _ (by decide)) (sv_n _ (by decide)) (sv_n _ (by decide))).trans (bd_cg (sv_n _ (by decide)) (sv_n _ (by decide)) (sv_n _ (by decide)))))
                                    have e_1099 : wr (sv (sv (sv μ 111 8 3) 111 6 ((μ.1 111 6) + 1)) 111 13 x1) = wr μ := ((wr_cg (sv_n _ (by decide))).trans ((wr_cg (sv_n _ (by decide))).trans (wr_cg (sv_n _ (by decide)))))
                                    have e_1100 : nn (sv (sv (sv μ 111 8 3) 111 6 ((μ.1 111 6) + 1)) 111 13 x1) = nn μ := ((nn_cg (sv_n _ (by decide)) (sv_n _ (by decide))).trans ((nn_cg (sv_n _ (by decide)) (sv_n _ (by decide))).trans (nn_cg (sv_n _ (by decide)) (sv_n _ (by decide)))))
                                    exact xr_v G hret hlk dX12_signs_206 ⟨(FrM.put (FrM.put (FrM.put FrM.rf (by decide)) (by decide)) (by decide)), (fun j hj => ((sv_n _ (fun h9 => hj (by rw [h9.2]; decide))).trans ((sv_n _ (fun h9 => hj (by rw [h9.2]; decide))).trans (sv_n _ (fun h9 => hj (by rw [h9.2]; decide)))))), (by omega), (by omega), (by omega), (by omega)⟩
                                  · refine lv_iload_n hx hb dX12_signs_146 rfl (lv_at hl 2 rfl) ?_
                                    refine lv_bipush (v := iv 60) hx hb dX12_signs_147 rfl ?_
                                    refine xb_icmp_eq (tgt := 188) hx hb (by unfold ir; omega) (by unfold ir; omega) dX12_signs_149 (by decide) (fun c_149 => ?_) (fun c_149 => ?_)
                                    · refine lv_iconst (v := iv 1) hx hb dX12_signs_188 rfl ?_
                                      refine lv_goto (tgt := 193) hx hb dX12_signs_189 (by decide) ?_
                                      refine lv_istore_n (lv' := [(3, .int (iv 1)), (2, .int (iv r_9)), (0, .ref (oP ω 111)), (1, .int (iv x1))]) hx hb dX12_signs_193 rfl hl (by decide) rfl (fun ls hl => ?_)
                                      refine lv_iload_n hx hb dX12_signs_194 rfl (lv_at hl 0 rfl) ?_
                                      refine xb_if_ne (tgt := 206) hx hb (x := 1) (by unfold ir; omega) dX12_signs_195 (by decide) (fun c_195 => ?_) (fun c_195 => absurd c_195 (by decide))
                                      have e_1101 : (sv (sv (sv μ 111 8 3) 111 6 ((μ.1 111 6) + 1)) 111 13 x1).1 111 6 = (μ.1 111 6) + 1 := ((sv_n _ (by decide)).trans (sv_s _ _ _ _))
                                      have e_1102 : (sv (sv (sv μ 111 8 3) 111 6 ((μ.1 111 6) + 1)) 111 13 x1).1 111 6 = (μ.1 111 6) + 1 := ((sv_n _ (by decide)).trans (sv_s _ _ _ _))
                                      have e_1103 : (sv (sv (sv μ 111 8 3) 111 6 ((μ.1 111 6) + 1)) 111 13 x1).1 111 8 = 3 := ((sv_n _ (by decide)).trans ((sv_n _ (by decide)).trans (sv_s _ _ _ _)))
                                      have e_1104 : wr (sv (sv (sv μ 111 8 3) 111 6 ((μ.1 111 6) + 1)) 111 13 x1) = wr μ := ((wr_cg (sv_n _ (by decide))).trans ((wr_cg (sv_n _ (by decide))).trans (wr_cg (sv_n _ (by decide)))))
                                      have e_1105 : bd (sv (sv (sv μ 111 8 3) 111 6 ((μ.1 111 6) + 1)) 111 13 x1) = bd μ := ((bd_cg (sv_n _ (by decide)) (sv_n _ (by decide)) (sv_n _ (by decide))).trans ((bd_cg (sv_n _ (by decide)) (sv_n _ (by decide)) (sv_n _ (by decide))).trans (bd_cg (sv_n _ (by decide)) (sv_n _ (by decide)) (sv_n _ (by decide)))))
                                      have e_1106 : wr (sv (sv (sv μ 111 8 3) 111 6 ((μ.1 111 6) + 1)) 111 13 x1) = wr μ := ((wr_cg (sv_n _ (by decide))).trans ((wr_cg (sv_n _ (by decide))).trans (wr_cg (sv_n _ (by decide)))))
                                      have e_1107 : nn (sv (sv (sv μ 111 8 3) 111 6 ((μ.1 111 6) + 1)) 111 13 x1) = nn μ := ((nn_cg (sv_n _ (by decide)) (sv_n _ (by decide))).trans ((nn_cg (sv_n _ (by decide)) (sv_n _ (by decide))).trans (nn_cg (sv_n _ (by decide)) (sv_n _ (by decide)))))
                                      exact xr_v G hret hlk dX12_signs_206 ⟨(FrM.put (FrM.put (FrM.put FrM.rf (by decide)) (by decide)) (by decide)), (fun j hj => ((sv_n _ (fun h9 => hj (by rw [h9.2]; decide))).trans ((sv_n _ (fun h9 => hj (by rw [h9.2]; decide))).trans (sv_n _ (fun h9 => hj (by rw [h9.2]; decide)))))), (by omega), (by omega), (by omega), (by omega)⟩
                                    · refine lv_iload_n hx hb dX12_signs_152 rfl (lv_at hl 2 rfl) ?_
                                      refine lv_bipush (v := iv 62) hx hb dX12_signs_153 rfl ?_
                                      refine xb_icmp_eq (tgt := 188) hx hb (by unfold ir; omega) (by unfold ir; omega) dX12_signs_155 (by decide) (fun c_155 => ?_) (fun c_155 => ?_)
                                      · refine lv_iconst (v := iv 1) hx hb dX12_signs_188 rfl ?_
                                        refine lv_goto (tgt := 193) hx hb dX12_signs_189 (by decide) ?_
                                        refine lv_istore_n (lv' := [(3, .int (iv 1)), (2, .int (iv r_9)), (0, .ref (oP ω 111)), (1, .int (iv x1))]) hx hb dX12_signs_193 rfl hl (by decide) rfl (fun ls hl => ?_)
                                        refine lv_iload_n hx hb dX12_signs_194 rfl (lv_at hl 0 rfl) ?_
                                        refine xb_if_ne (tgt := 206) hx hb (x := 1) (by unfold ir; omega) dX12_signs_195 (by decide) (fun c_195 => ?_) (fun c_195 => absurd c_195 (by decide))
                                        have e_1108 : (sv (sv (sv μ 111 8 3) 111 6 ((μ.1 111 6) + 1)) 111 13 x1).1 111 6 = (μ.1 111 6) + 1 := ((sv_n _ (by decide)).trans (sv_s _ _ _ _))
                                        have e_1109 : (sv (sv (sv μ 111 8 3) 111 6 ((μ.1 111 6) + 1)) 111 13 x1).1 111 6 = (μ.1 111 6) + 1 := ((sv_n _ (by decide)).trans (sv_s _ _ _ _))
                                        have e_1110 : (sv (sv (sv μ 111 8 3) 111 6 ((μ.1 111 6) + 1)) 111 13 x1).1 111 8 = 3 := ((sv_n _ (by decide)).trans ((sv_n _ (by decide)).trans (sv_s _ _ _ _)))
                                        have e_1111 : wr (sv (sv (sv μ 111 8 3) 111 6 ((μ.1 111 6) + 1)) 111 13 x1) = wr μ := ((wr_cg (sv_n _ (by decide))).trans ((wr_cg (sv_n _ (by decide))).trans (wr_cg (sv_n _ (by decide)))))
                                        have e_1112 : bd (sv (sv (sv μ 111 8 3) 111 6 ((μ.1 111 6) + 1)) 111 13 x1) = bd μ := ((bd_cg (sv_n _ (by decide)) (sv_n _ (by decide)) (sv_n _ (by decide))).trans ((bd_cg (sv_n _ (by decide)) (sv_n _ (by decide)) (sv_n _ (by decide))).trans (bd_cg (sv_n _ (by decide)) (sv_n _ (by decide)) (sv_n _ (by decide)))))
                                        have e_1113 : wr (sv (sv (sv μ 111 8 3) 111 6 ((μ.1 111 6) + 1)) 111 13 x1) = wr μ := ((wr_cg (sv_n _ (by decide))).trans ((wr_cg (sv_n _ (by decide))).trans (wr_cg (sv_n _ (by decide)))))
                                        have e_1114 : nn (sv (sv (sv μ 111 8 3) 111 6 ((μ.1 111 6) + 1)) 111 13 x1) = nn μ := ((nn_cg (sv_n _ (by decide)) (sv_n _ (by decide))).trans ((nn_cg (sv_n _ (by decide)) (sv_n _ (by decide))).trans (nn_cg (sv_n _ (by decide)) (sv_n _ (by decide)))))
                                        exact xr_v G hret hlk dX12_signs_206 ⟨(FrM.put (FrM.put (FrM.put FrM.rf (by decide)) (by decide)) (by decide)), (fun j hj => ((sv_n _ (fun h9 => hj (by rw [h9.2]; decide))).trans ((sv_n _ (fun h9 => hj (by rw [h9.2]; decide))).trans (sv_n _ (fun h9 => hj (by rw [h9.2]; decide)))))), (by omega), (by omega), (by omega), (by omega)⟩
                                      · refine lv_iload_n hx hb dX12_signs_158 rfl (lv_at hl 2 rfl) ?_
                                        refine lv_bipush (v := iv 43) hx hb dX12_signs_159 rfl ?_
                                        refine xb_icmp_eq (tgt := 188) hx hb (by unfold ir; omega) (by unfold ir; omega) dX12_signs_161 (by decide) (fun c_161 => ?_) (fun c_161 => ?_)
                                        · refine lv_iconst (v := iv 1) hx hb dX12_signs_188 rfl ?_
                                          refine lv_goto (tgt := 193) hx hb dX12_signs_189 (by decide) ?_
                                          refine lv_istore_n (lv' := [(3, .int (iv 1)), (2, .int (iv r_9)), (0, .ref (oP ω 111)), (1, .int (iv x1))]) hx hb dX12_signs_193 rfl hl (by decide) rfl (fun ls hl => ?_)
                                          refine lv_iload_n hx hb dX12_signs_194 rfl (lv_at hl 0 rfl) ?_
                                          refine xb_if_ne (tgt := 206) hx hb (x := 1) (by unfold ir; omega) dX12_signs_195 (by decide) (fun c_195 => ?_) (fun c_195 => absurd c_195 (by decide))
                                          have e_1115 : (sv (sv (sv μ 111 8 3) 111 6 ((μ.1 111 6) + 1)) 111 13 x1).1 111 6 = (μ.1 111 6) + 1 := ((sv_n _ (by decide)).trans (sv_s _ _ _ _))
                                          have e_1116 : (sv (sv (sv μ 111 8 3) 111 6 ((μ.1 111 6) + 1)) 111 13 x1).1 111 6 = (μ.1 111 6) + 1 := ((sv_n _ (by decide)).trans (sv_s _ _ _ _))
                                          have e_1117 : (sv (sv (sv μ 111 8 3) 111 6 ((μ.1 111 6) + 1)) 111 13 x1).1 111 8 = 3 := ((sv_n _ (by decide)).trans ((sv_n _ (by decide)).trans (sv_s _ _ _ _)))
                                          have e_1118 : wr (sv (sv (sv μ 111 8 3) 111 6 ((μ.1 111 6) + 1)) 111 13 x1) = wr μ := ((wr_cg (sv_n _ (by decide))).trans ((wr_cg (sv_n _ (by decide))).trans (wr_cg (sv_n _ (by decide)))))
                                          have e_1119 : bd (sv (sv (sv μ 111 8 3) 111 6 ((μ.1 111 6) + 1)) 111 13 x1) = bd μ := ((bd_cg (sv_n _ (by decide)) (sv_n _ (by decide)) (sv_n _ (by decide))).trans ((bd_cg (sv_n _ (by decide)) (sv_n _ (by decide)) (sv_n _ (by decide))).trans (bd_cg (sv_n _ (by decide)) (sv_n _ (by decide)) (sv_n _ (by decide)))))
                                          have e_1120 : wr (sv (sv (sv μ 111 8 3) 111 6 ((μ.1 111 6) + 1)) 111 13 x1) = wr μ := ((wr_cg (sv_n _ (by decide))).trans ((wr_cg (sv_n _ (by decide))).trans (wr_cg (sv_n _ (by decide)))))
                                          have e_1121 : nn (sv (sv (sv μ 111 8 3) 111 6 ((μ.1 111 6) + 1)) 111 13 x1) = nn μ := ((nn_cg (sv_n _ (by decide)) (sv_n _ (by decide))).trans ((nn_cg (sv_n _ (by decide)) (sv_n _ (by decide))).trans (nn_cg (sv_n _ (by decide)) (sv_n _ (by decide)))))
                                          exact xr_v G hret hlk dX12_signs_206 ⟨(FrM.put (FrM.put (FrM.put FrM.rf (by decide)) (by decide)) (by decide)), (fun j hj => ((sv_n _ (fun h9 => hj (by rw [h9.2]; decide))).trans ((sv_n _ (fun h9 => hj (by rw [h9.2]; decide))).trans (sv_n _ (fun h9 => hj (by rw [h9.2]; decide)))))), (by omega), (by omega), (by omega), (by omega)⟩
                                        · refine lv_iload_n hx hb dX12_signs_164 rfl (lv_at hl 2 rfl) ?_
                                          refine lv_bipush (v := iv 45) hx hb dX12_signs_165 rfl ?_
                                          refine xb_icmp_eq (tgt := 188) hx hb (by unfold ir; omega) (by unfold ir; omega) dX12_signs_167 (by decide) (fun c_167 => ?_) (fun c_167 => ?_)
                                          · refine lv_iconst (v := iv 1) hx hb dX12_signs_188 rfl ?_
                                            refine lv_goto (tgt := 193) hx hb dX12_signs_189 (by decide) ?_
                                            refine lv_istore_n (lv' := [(3, .int (iv 1)), (2, .int (iv r_9)), (0, .ref (oP ω 111)), (1, .int (iv x1))]) hx hb dX12_signs_193 rfl hl (by decide) rfl (fun ls hl => ?_)
                                            refine lv_iload_n hx hb dX12_signs_194 rfl (lv_at hl 0 rfl) ?_
                                            refine xb_if_ne (tgt := 206) hx hb (x := 1) (by unfold ir; omega) dX12_signs_195 (by decide) (fun c_195 => ?_) (fun c_195 => absurd c_195 (by decide))
                                            have e_1122 : (sv (sv (sv μ 111 8 3) 111 6 ((μ.1 111 6) + 1)) 111 13 x1).1 111 6 = (μ.1 111 6) + 1 := ((sv_n _ (by decide)).trans (sv_s _ _ _ _))
                                            have e_1123 : (sv (sv (sv μ 111 8 3) 111 6 ((μ.1 111 6) + 1)) 111 13 x1).1 111 6 = (μ.1 111 6) + 1 := ((sv_n _ (by decide)).trans (sv_s _ _ _ _))
                                            have e_1124 : (sv (sv (sv μ 111 8 3) 111 6 ((μ.1 111 6) + 1)) 111 13 x1).1 111 8 = 3 := ((sv_n _ (by decide)).trans ((sv_n _ (by decide)).trans (sv_s _ _ _ _)))
                                            have e_1125 : wr (sv (sv (sv μ 111 8 3) 111 6 ((μ.1 111 6) + 1)) 111 13 x1) = wr μ := ((wr_cg (sv_n _ (by decide))).trans ((wr_cg (sv_n _ (by decide))).trans (wr_cg (sv_n _ (by decide)))))
                                            have e_1126 : bd (sv (sv (sv μ 111 8 3) 111 6 ((μ.1 111 6) + 1)) 111 13 x1) = bd μ := ((bd_cg (sv_n _ (by decide)) (sv_n _ (by decide)) (sv_n _ (by decide))).trans ((bd_cg (sv_n _ (by decide)) (sv_n _ (by decide)) (sv_n _ (by decide))).trans (bd_cg (sv_n _ (by decide)) (sv_n _ (by decide)) (sv_n _ (by decide)))))
                                            have e_1127 : wr (sv (sv (sv μ 111 8 3) 111 6 ((μ.1 111 6) + 1)) 111 13 x1) = wr μ := ((wr_cg (sv_n _ (by decide))).trans ((wr_cg (sv_n _ (by decide))).trans (wr_cg (sv_n _ (by decide)))))
                                            have e_1128 : nn (sv (sv (sv μ 111 8 3) 111 6 ((μ.1 111 6) + 1)) 111 13 x1) = nn μ := ((nn_cg (sv_n _ (by decide)) (sv_n _ (by decide))).trans ((nn_cg (sv_n _ (by decide)) (sv_n _ (by decide))).trans (nn_cg (sv_n _ (by decide)) (sv_n _ (by decide)))))
                                            exact xr_v G hret hlk dX12_signs_206 ⟨(FrM.put (FrM.put (FrM.put FrM.rf (by decide)) (by decide)) (by decide)), (fun j hj => ((sv_n _ (fun h9 => hj (by rw [h9.2]; decide))).trans ((sv_n _ (fun h9 => hj (by rw [h9.2]; decide))).trans (sv_n _ (fun h9 => hj (by rw [h9.2]; decide)))))), (by omega), (by omega), (by omega), (by omega)⟩
                                          · refine lv_iload_n hx hb dX12_signs_170 rfl (lv_at hl 2 rfl) ?_
                                            refine lv_bipush (v := iv 42) hx hb dX12_signs_171 rfl ?_
                                            refine xb_icmp_eq (tgt := 188) hx hb (by unfold ir; omega) (by unfold ir; omega) dX12_signs_173 (by decide) (fun c_173 => ?_) (fun c_173 => ?_)
                                            · refine lv_iconst (v := iv 1) hx hb dX12_signs_188 rfl ?_
                                              refine lv_goto (tgt := 193) hx hb dX12_signs_189 (by decide) ?_
                                              refine lv_istore_n (lv' := [(3, .int (iv 1)), (2, .int (iv r_9)), (0, .ref (oP ω 111)), (1, .int (iv x1))]) hx hb dX12_signs_193 rfl hl (by decide) rfl (fun ls hl => ?_)
                                              refine lv_iload_n hx hb dX12_signs_194 rfl (lv_at hl 0 rfl) ?_
                                              refine xb_if_ne (tgt := 206) hx hb (x := 1) (by unfold ir; omega) dX12_signs_195 (by decide) (fun c_195 => ?_) (fun c_195 => absurd c_195 (by decide))
                                              have e_1129 : (sv (sv (sv μ 111 8 3) 111 6 ((μ.1 111 6) + 1)) 111 13 x1).1 111 6 = (μ.1 111 6) + 1 := ((sv_n _ (by decide)).trans (sv_s _ _ _ _))
                                              have e_1130 : (sv (sv (sv μ 111 8 3) 111 6 ((μ.1 111 6) + 1)) 111 13 x1).1 111 6 = (μ.1 111 6) + 1 := ((sv_n _ (by decide)).trans (sv_s _ _ _ _))
                                              have e_1131 : (sv (sv (sv μ 111 8 3) 111 6 ((μ.1 111 6) + 1)) 111 13 x1).1 111 8 = 3 := ((sv_n _ (by decide)).trans ((sv_n _ (by decide)).trans (sv_s _ _ _ _)))
                                              have e_1132 : wr (sv (sv (sv μ 111 8 3) 111 6 ((μ.1 111 6) + 1)) 111 13 x1) = wr μ := ((wr_cg (sv_n _ (by decide))).trans ((wr_cg (sv_n _ (by decide))).trans (wr_cg (sv_n _ (by decide)))))
                                              have e_1133 : bd (sv (sv (sv μ 111 8 3) 111 6 ((μ.1 111 6) + 1)) 111 13 x1) = bd μ := ((bd_cg (sv_n _ (by decide)) (sv_n _ (by decide)) (sv_n _ (by decide))).trans ((bd_cg (sv_n _ (by decide)) (sv_n _ (by decide)) (sv_n _ (by decide))).trans (bd_cg (sv_n _ (by decide)) (sv_n _ (by decide)) (sv_n _ (by decide)))))
                                              have e_1134 : wr (sv (sv (sv μ 111 8 3) 111 6 ((μ.1 111 6) + 1)) 111 13 x1) = wr μ := ((wr_cg (sv_n _ (by decide))).trans ((wr_cg (sv_n _ (by decide))).trans (wr_cg (sv_n _ (by decide)))))
                                              have e_1135 : nn (sv (sv (sv μ 111 8 3) 111 6 ((μ.1 111 6) + 1)) 111 13 x1) = nn μ := ((nn_cg (sv_n _ (by decide)) (sv_n _ (by decide))).trans ((nn_cg (sv_n _ (by decide)) (sv_n _ (by decide))).trans (nn_cg (sv_n _ (by decide)) (sv_n _ (by decide)))))
                                              exact xr_v G hret hlk dX12_signs_206 ⟨(FrM.put (FrM.put (FrM.put FrM.rf (by decide)) (by decide)) (by decide)), (fun j hj => ((sv_n _ (fun h9 => hj (by rw [h9.2]; decide))).trans ((sv_n _ (fun h9 => hj (by rw [h9.2]; decide))).trans (sv_n _ (fun h9 => hj (by rw [h9.2]; decide)))))), (by omega), (by omega), (by omega), (by omega)⟩
                                            · refine lv_iload_n hx hb dX12_signs_176 rfl (lv_at hl 2 rfl) ?_
                                              refine lv_bipush (v := iv 47) hx hb dX12_signs_177 rfl ?_
                                              refine xb_icmp_eq (tgt := 188) hx hb (by unfold ir; omega) (by unfold ir; omega) dX12_signs_179 (by decide) (fun c_179 => ?_) (fun c_179 => ?_)
                                              · refine lv_iconst (v := iv 1) hx hb dX12_signs_188 rfl ?_
                                                refine lv_goto (tgt := 193) hx hb dX12_signs_189 (by decide) ?_
                                                refine lv_istore_n (lv' := [(3, .int (iv 1)), (2, .int (iv r_9)), (0, .ref (oP ω 111)), (1, .int (iv x1))]) hx hb dX12_signs_193 rfl hl (by decide) rfl (fun ls hl => ?_)
                                                refine lv_iload_n hx hb dX12_signs_194 rfl (lv_at hl 0 rfl) ?_
                                                refine xb_if_ne (tgt := 206) hx hb (x := 1) (by unfold ir; omega) dX12_signs_195 (by decide) (fun c_195 => ?_) (fun c_195 => absurd c_195 (by decide))
                                                have e_1136 : (sv (sv (sv μ 111 8 3) 111 6 ((μ.1 111 6) + 1)) 111 13 x1).1 111 6 = (μ.1 111 6) + 1 := ((sv_n _ (by decide)).trans (sv_s _ _ _ _))
                                                have e_1137 : (sv (sv (sv μ 111 8 3) 111 6 ((μ.1 111 6) + 1)) 111 13 x1).1 111 6 = (μ.1 111 6) + 1 := ((sv_n _ (by decide)).trans (sv_s _ _ _ _))
                                                have e_1138 : (sv (sv (sv μ 111 8 3) 111 6 ((μ.1 111 6) + 1)) 111 13 x1).1 111 8 = 3 := ((sv_n _ (by decide)).trans ((sv_n _ (by decide)).trans (sv_s _ _ _ _)))
                                                have e_1139 : wr (sv (sv (sv μ 111 8 3) 111 6 ((μ.1 111 6) + 1)) 111 13 x1) = wr μ := ((wr_cg (sv_n _ (by decide))).trans ((wr_cg (sv_n _ (by decide))).trans (wr_cg (sv_n _ (by decide)))))
                                                have e_1140 : bd (sv (sv (sv μ 111 8 3) 111 6 ((μ.1 111 6) + 1)) 111 13 x1) = bd μ := ((bd_cg (sv_n _ (by decide)) (sv_n _ (by decide)) (sv_n _ (by decide))).trans ((bd_cg (sv_n _ (by decide)) (sv_n _ (by decide)) (sv_n _ (by decide))).trans (bd_cg (sv_n _ (by decide)) (sv_n _ (by decide)) (sv_n _ (by decide)))))
                                                have e_1141 : wr (sv (sv (sv μ 111 8 3) 111 6 ((μ.1 111 6) + 1)) 111 13 x1) = wr μ := ((wr_cg (sv_n _ (by decide))).trans ((wr_cg (sv_n _ (by decide))).trans (wr_cg (sv_n _ (by decide)))))
                                                have e_1142 : nn (sv (sv (sv μ 111 8 3) 111 6 ((μ.1 111 6) + 1)) 111 13 x1) = nn μ := ((nn_cg (sv_n _ (by decide)) (sv_n _ (by decide))).trans ((nn_cg (sv_n _ (by decide)) (sv_n _ (by decide))).trans (nn_cg (sv_n _ (by decide)) (sv_n _ (by decide)))))
                                                exact xr_v G hret hlk dX12_signs_206 ⟨(FrM.put (FrM.put (FrM.put FrM.rf (by decide)) (by decide)) (by decide)), (fun j hj => ((sv_n _ (fun h9 => hj (by rw [h9.2]; decide))).trans ((sv_n _ (fun h9 => hj (by rw [h9.2]; decide))).trans (sv_n _ (fun h9 => hj (by rw [h9.2]; decide)))))), (by omega), (by omega), (by omega), (by omega)⟩
                                              · refine lv_iload_n hx hb dX12_signs_182 rfl (lv_at hl 2 rfl) ?_
                                                refine lv_bipush (v := iv 37) hx hb dX12_signs_183 rfl ?_
                                                refine xb_icmp_ne (tgt := 192) hx hb (by unfold ir; omega) (by unfold ir; omega) dX12_signs_185 (by decide) (fun c_185 => ?_) (fun c_185 => ?_)
                                                · refine lv_iconst (v := iv 0) hx hb dX12_signs_192 rfl ?_
                                                  refine lv_istore_n (lv' := [(3, .int (iv 0)), (2, .int (iv r_9)), (0, .ref (oP ω 111)), (1, .int (iv x1))]) hx hb dX12_signs_193 rfl hl (by decide) rfl (fun ls hl => ?_)
                                                  refine lv_iload_n hx hb dX12_signs_194 rfl (lv_at hl 0 rfl) ?_
                                                  refine xb_if_ne (tgt := 206) hx hb (x := 0) (by unfold ir; omega) dX12_signs_195 (by decide) (fun c_195 => absurd c_195 (by decide)) (fun c_195 => ?_)
                                                  refine lv_aload_n hx hb dX12_signs_198 rfl (lv_at hl 2 rfl) ?_
                                                  refine lv_aload_n hx hb dX12_signs_199 rfl (lv_at hl 2 rfl) ?_
                                                  refine xa_geti G fd_X12 (a := 111) (x := μ.1 111 9) 9 rfl (by decide) rfl (wm 7 158 rfl rfl) ⟨rfl, rfl, rfl⟩ dX12_signs_200 rfl ((sv_n _ (by decide)).trans ((sv_n _ (by decide)).trans (sv_n _ (by decide)))) ?_
                                                  have hr_1143 : -2147483648 ≤ μ.1 111 9 ∧ μ.1 111 9 ≤ 2147483647 := by have h9 := G.hr (a := 111) (k := 9) rfl; rw [show (sv (sv (sv μ 111 8 3) 111 6 ((μ.1 111 6) + 1)) 111 13 x1).1 111 9 = μ.1 111 9 from ((sv_n _ (by decide)).trans ((sv_n _ (by decide)).trans (sv_n _ (by decide))))] at h9; exact h9
                                                  have e_1144 : (sv (sv (sv μ 111 8 3) 111 6 ((μ.1 111 6) + 1)) 111 13 x1).1 111 9 = μ.1 111 9 := ((sv_n _ (by decide)).trans ((sv_n _ (by decide)).trans (sv_n _ (by decide))))
                                                  refine xc_vV G (b := 111) (rest := []) (As := [.int (iv (μ.1 111 9))]) (c_X12_wrong ω l (sv (sv (sv μ 111 8 3) 111 6 ((μ.1 111 6) + 1)) 111 13 x1) (μ.1 111 9) (by unfold ir; omega) (by omega)) (wm 9 22 rfl rfl) (wm 9 24 rfl rfl) (wm 0 123 rfl rfl) rfl rfl (by decide) rfl (wm 1 18 rfl rfl) (wm 9 25 rfl rfl) (by decide) hR (by decide) (n := 1) rfl rfl (Nat.le_of_ble_eq_true rfl) hl.1 dX12_signs_203 (fun μ1145 ρ d0 H locs hp G => ?_)
                                                  obtain ⟨F_1146, hp_1147, hp_1148⟩ := hp
                                                  have hw_1149 := wr_r (μ := μ1145)
                                                  have e_1150 : μ1145.1 111 6 = (μ.1 111 6) + 1 := ((hp_1147 6 (by decide)).trans ((sv_n _ (by decide)).trans (sv_s _ _ _ _)))
                                                  have e_1151 : μ1145.1 111 6 = (μ.1 111 6) + 1 := ((hp_1147 6 (by decide)).trans ((sv_n _ (by decide)).trans (sv_s _ _ _ _)))
                                                  have e_1152 : μ1145.1 111 8 = 3 := ((hp_1147 8 (by decide)).trans ((sv_n _ (by decide)).trans ((sv_n _ (by decide)).trans (sv_s _ _ _ _))))
                                                  exact xr_v G hret hlk dX12_signs_206 ⟨(FrM.tr (FrM.put (FrM.put (FrM.put FrM.rf (by decide)) (by decide)) (by decide)) F_1146 (by decide)), (fun j hj => ((hp_1147 j (fun h9 => hj ((by decide : ∀ x ∈ ([15] : List Int), x ∈ ([6, 8, 13, 15] : List Int)) j h9))).trans ((sv_n _ (fun h9 => hj (by rw [h9.2]; decide))).trans ((sv_n _ (fun h9 => hj (by rw [h9.2]; decide))).trans (sv_n _ (fun h9 => hj (by rw [h9.2]; decide))))))), (by omega), (by omega), (by omega), (by omega)⟩
                                                · refine lv_iconst (v := iv 1) hx hb dX12_signs_188 rfl ?_
                                                  refine lv_goto (tgt := 193) hx hb dX12_signs_189 (by decide) ?_
                                                  refine lv_istore_n (lv' := [(3, .int (iv 1)), (2, .int (iv r_9)), (0, .ref (oP ω 111)), (1, .int (iv x1))]) hx hb dX12_signs_193 rfl hl (by decide) rfl (fun ls hl => ?_)
                                                  refine lv_iload_n hx hb dX12_signs_194 rfl (lv_at hl 0 rfl) ?_
                                                  refine xb_if_ne (tgt := 206) hx hb (x := 1) (by unfold ir; omega) dX12_signs_195 (by decide) (fun c_195 => ?_) (fun c_195 => absurd c_195 (by decide))
                                                  have e_1153 : (sv (sv (sv μ 111 8 3) 111 6 ((μ.1 111 6) + 1)) 111 13 x1).1 111 6 = (μ.1 111 6) + 1 := ((sv_n _ (by decide)).trans (sv_s _ _ _ _))
                                                  have e_1154 : (sv (sv (sv μ 111 8 3) 111 6 ((μ.1 111 6) + 1)) 111 13 x1).1 111 6 = (μ.1 111 6) + 1 := ((sv_n _ (by decide)).trans (sv_s _ _ _ _))
                                                  have e_1155 : (sv (sv (sv μ 111 8 3) 111 6 ((μ.1 111 6) + 1)) 111 13 x1).1 111 8 = 3 := ((sv_n _ (by decide)).trans ((sv_n _ (by decide)).trans (sv_s _ _ _ _)))
                                                  have e_1156 : wr (sv (sv (sv μ 111 8 3) 111 6 ((μ.1 111 6) + 1)) 111 13 x1) = wr μ := ((wr_cg (sv_n _ (by decide))).trans ((wr_cg (sv_n _ (by decide))).trans (wr_cg (sv_n _ (by decide)))))
                                                  have e_1157 : bd (sv (sv (sv μ 111 8 3) 111 6 ((μ.1 111 6) + 1)) 111 13 x1) = bd μ := ((bd_cg (sv_n _ (by decide)) (sv_n _ (by decide)) (sv_n _ (by decide))).trans ((bd_cg (sv_n _ (by decide)) (sv_n _ (by decide)) (sv_n _ (by decide))).trans (bd_cg (sv_n _ (by decide)) (sv_n _ (by decide)) (sv_n _ (by decide)))))
                                                  have e_1158 : wr (sv (sv (sv μ 111 8 3) 111 6 ((μ.1 111 6) + 1)) 111 13 x1) = wr μ := ((wr_cg (sv_n _ (by decide))).trans ((wr_cg (sv_n _ (by decide))).trans (wr_cg (sv_n _ (by decide)))))
                                                  have e_1159 : nn (sv (sv (sv μ 111 8 3) 111 6 ((μ.1 111 6) + 1)) 111 13 x1) = nn μ := ((nn_cg (sv_n _ (by decide)) (sv_n _ (by decide))).trans ((nn_cg (sv_n _ (by decide)) (sv_n _ (by decide))).trans (nn_cg (sv_n _ (by decide)) (sv_n _ (by decide)))))
                                                  exact xr_v G hret hlk dX12_signs_206 ⟨(FrM.put (FrM.put (FrM.put FrM.rf (by decide)) (by decide)) (by decide)), (fun j hj => ((sv_n _ (fun h9 => hj (by rw [h9.2]; decide))).trans ((sv_n _ (fun h9 => hj (by rw [h9.2]; decide))).trans (sv_n _ (fun h9 => hj (by rw [h9.2]; decide)))))), (by omega), (by omega), (by omega), (by omega)⟩
          · refine lv_aload_n hx hb dX12_signs_55 rfl (lv_at hl 1 rfl) ?_
            refine lv_dup hx hb dX12_signs_56 rfl ?_
            refine xa_geti G fd_X12 (a := 111) (x := (μ.1 111 6) + 1) 6 rfl (by decide) rfl (wm 7 155 rfl rfl) ⟨rfl, rfl, rfl⟩ dX12_signs_57 rfl ((sv_n _ (by decide)).trans (sv_s _ _ _ _)) ?_
            have hr_1160 : -2147483648 ≤ (μ.1 111 6) + 1 ∧ (μ.1 111 6) + 1 ≤ 2147483647 := by have h9 := G.hr (a := 111) (k := 6) rfl; rw [show (sv (sv (sv μ 111 8 3) 111 6 ((μ.1 111 6) + 1)) 111 13 x1).1 111 6 = (μ.1 111 6) + 1 from ((sv_n _ (by decide)).trans (sv_s _ _ _ _))] at h9; exact h9
            refine lv_iconst (v := iv 1) hx hb dX12_signs_60 rfl ?_
            refine xb_iadd hx hb dX12_signs_61 ?_
            refine xb_ti (y := (μ.1 111 6) + 2) (by omega) ?_
            refine xa_puti G fd_X12 (a := 111) (x := (μ.1 111 6) + 2) 6 (kz := 6) rfl rfl (by decide) rfl (by unfold ir; omega) (wm 7 155 rfl rfl) ⟨rfl, rfl, rfl, rfl⟩ rfl dX12_signs_62 rfl (fun H locs G => ?_)
            refine lv_aload_n hx hb dX12_signs_65 rfl (lv_at hl 1 rfl) ?_
            refine lv_sipush (v := iv 256) hx hb dX12_signs_66 rfl ?_
            refine lv_iload_n hx hb dX12_signs_69 rfl (lv_at hl 2 rfl) ?_
            refine xb_iadd hx hb dX12_signs_70 ?_
            refine xa_puti G fd_X12 (a := 111) (x := 256 + x1) 13 (kz := 13) rfl rfl (by decide) rfl (by unfold ir; omega) (wm 7 162 rfl rfl) ⟨rfl, rfl, rfl, rfl⟩ rfl dX12_signs_71 rfl (fun H locs G => ?_)
            refine lv_iload_n hx hb dX12_signs_74 rfl (lv_at hl 2 rfl) ?_
            refine lv_bipush (v := iv 40) hx hb dX12_signs_75 rfl ?_
            refine xb_icmp_eq (tgt := 188) hx hb (by unfold ir; omega) (by unfold ir; omega) dX12_signs_77 (by decide) (fun c_77 => ?_) (fun c_77 => ?_)
            · refine lv_iconst (v := iv 1) hx hb dX12_signs_188 rfl ?_
              refine lv_goto (tgt := 193) hx hb dX12_signs_189 (by decide) ?_
              refine lv_istore_n (lv' := [(3, .int (iv 1)), (2, .int (iv r_9)), (0, .ref (oP ω 111)), (1, .int (iv x1))]) hx hb dX12_signs_193 rfl hl (by decide) rfl (fun ls hl => ?_)
              refine lv_iload_n hx hb dX12_signs_194 rfl (lv_at hl 0 rfl) ?_
              refine xb_if_ne (tgt := 206) hx hb (x := 1) (by unfold ir; omega) dX12_signs_195 (by decide) (fun c_195 => ?_) (fun c_195 => absurd c_195 (by decide))
              have e_1161 : (sv (sv (sv (sv (sv μ 111 8 3) 111 6 ((μ.1 111 6) + 1)) 111 13 x1) 111 6 ((μ.1 111 6) + 2)) 111 13 (256 + x1)).1 111 6 = (μ.1 111 6) + 2 := ((sv_n _ (by decide)).trans (sv_s _ _ _ _))
              have e_1162 : (sv (sv (sv (sv (sv μ 111 8 3) 111 6 ((μ.1 111 6) + 1)) 111 13 x1) 111 6 ((μ.1 111 6) + 2)) 111 13 (256 + x1)).1 111 6 = (μ.1 111 6) + 2 := ((sv_n _ (by decide)).trans (sv_s _ _ _ _))
              have e_1163 : (sv (sv (sv (sv (sv μ 111 8 3) 111 6 ((μ.1 111 6) + 1)) 111 13 x1) 111 6 ((μ.1 111 6) + 2)) 111 13 (256 + x1)).1 111 8 = 3 := ((sv_n _ (by decide)).trans ((sv_n _ (by decide)).trans ((sv_n _ (by decide)).trans ((sv_n _ (by decide)).trans (sv_s _ _ _ _)))))
              have e_1164 : wr (sv (sv (sv (sv (sv μ 111 8 3) 111 6 ((μ.1 111 6) + 1)) 111 13 x1) 111 6 ((μ.1 111 6) + 2)) 111 13 (256 + x1)) = wr μ := ((wr_cg (sv_n _ (by decide))).trans ((wr_cg (sv_n _ (by decide))).trans ((wr_cg (sv_n _ (by decide))).trans ((wr_cg (sv_n _ (by decide))).trans (wr_cg (sv_n _ (by decide)))))))
              have e_1165 : bd (sv (sv (sv (sv (sv μ 111 8 3) 111 6 ((μ.1 111 6) + 1)) 111 13 x1) 111 6 ((μ.1 111 6) + 2)) 111 13 (256 + x1)) = bd μ := ((bd_cg (sv_n _ (by decide)) (sv_n _ (by decide)) (sv_n _ (by decide))).trans ((bd_cg (sv_n _ (by decide)) (sv_n _ (by decide)) (sv_n _ (by decide))).trans ((bd_cg (sv_n _ (by decide)) (sv_n _ (by decide)) (sv_n _ (by decide))).trans ((bd_cg (sv_n _ (by decide)) (sv_n _ (by decide)) (sv_n _ (by decide))).trans (bd_cg (sv_n _ (by decide)) (sv_n _ (by decide)) (sv_n _ (by decide)))))))
              have e_1166 : wr (sv (sv (sv (sv (sv μ 111 8 3) 111 6 ((μ.1 111 6) + 1)) 111 13 x1) 111 6 ((μ.1 111 6) + 2)) 111 13 (256 + x1)) = wr μ := ((wr_cg (sv_n _ (by decide))).trans ((wr_cg (sv_n _ (by decide))).trans ((wr_cg (sv_n _ (by decide))).trans ((wr_cg (sv_n _ (by decide))).trans (wr_cg (sv_n _ (by decide)))))))
              have e_1167 : nn (sv (sv (sv (sv (sv μ 111 8 3) 111 6 ((μ.1 111 6) + 1)) 111 13 x1) 111 6 ((μ.1 111 6) + 2)) 111 13 (256 + x1)) = nn μ := ((nn_cg (sv_n _ (by decide)) (sv_n _ (by decide))).trans ((nn_cg (sv_n _ (by decide)) (sv_n _ (by decide))).trans ((nn_cg (sv_n _ (by decide)) (sv_n _ (by decide))).trans ((nn_cg (sv_n _ (by decide)) (sv_n _ (by decide))).trans (nn_cg (sv_n _ (by decide)) (sv_n _ (by decide)))))))
              exact xr_v G hret hlk dX12_signs_206 ⟨(FrM.put (FrM.put (FrM.put (FrM.put (FrM.put FrM.rf (by decide)) (by decide)) (by decide)) (by decide)) (by decide)), (fun j hj => ((sv_n _ (fun h9 => hj (by rw [h9.2]; decide))).trans ((sv_n _ (fun h9 => hj (by rw [h9.2]; decide))).trans ((sv_n _ (fun h9 => hj (by rw [h9.2]; decide))).trans ((sv_n _ (fun h9 => hj (by rw [h9.2]; decide))).trans (sv_n _ (fun h9 => hj (by rw [h9.2]; decide)))))))), (by omega), (by omega), (by omega), (by omega)⟩
            · refine lv_iload_n hx hb dX12_signs_80 rfl (lv_at hl 2 rfl) ?_
              refine lv_bipush (v := iv 41) hx hb dX12_signs_81 rfl ?_
              refine xb_icmp_eq (tgt := 188) hx hb (by unfold ir; omega) (by unfold ir; omega) dX12_signs_83 (by decide) (fun c_83 => ?_) (fun c_83 => ?_)
              · refine lv_iconst (v := iv 1) hx hb dX12_signs_188 rfl ?_
                refine lv_goto (tgt := 193) hx hb dX12_signs_189 (by decide) ?_
                refine lv_istore_n (lv' := [(3, .int (iv 1)), (2, .int (iv r_9)), (0, .ref (oP ω 111)), (1, .int (iv x1))]) hx hb dX12_signs_193 rfl hl (by decide) rfl (fun ls hl => ?_)
                refine lv_iload_n hx hb dX12_signs_194 rfl (lv_at hl 0 rfl) ?_
                refine xb_if_ne (tgt := 206) hx hb (x := 1) (by unfold ir; omega) dX12_signs_195 (by decide) (fun c_195 => ?_) (fun c_195 => absurd c_195 (by decide))
                have e_1168 : (sv (sv (sv (sv (sv μ 111 8 3) 111 6 ((μ.1 111 6) + 1)) 111 13 x1) 111 6 ((μ.1 111 6) + 2)) 111 13 (256 + x1)).1 111 6 = (μ.1 111 6) + 2 := ((sv_n _ (by decide)).trans (sv_s _ _ _ _))
                have e_1169 : (sv (sv (sv (sv (sv μ 111 8 3) 111 6 ((μ.1 111 6) + 1)) 111 13 x1) 111 6 ((μ.1 111 6) + 2)) 111 13 (256 + x1)).1 111 6 = (μ.1 111 6) + 2 := ((sv_n _ (by decide)).trans (sv_s _ _ _ _))
                have e_1170 : (sv (sv (sv (sv (sv μ 111 8 3) 111 6 ((μ.1 111 6) + 1)) 111 13 x1) 111 6 ((μ.1 111 6) + 2)) 111 13 (256 + x1)).1 111 8 = 3 := ((sv_n _ (by decide)).trans ((sv_n _ (by decide)).trans ((sv_n _ (by decide)).trans ((sv_n _ (by decide)).trans (sv_s _ _ _ _)))))
                have e_1171 : wr (sv (sv (sv (sv (sv μ 111 8 3) 111 6 ((μ.1 111 6) + 1)) 111 13 x1) 111 6 ((μ.1 111 6) + 2)) 111 13 (256 + x1)) = wr μ := ((wr_cg (sv_n _ (by decide))).trans ((wr_cg (sv_n _ (by decide))).trans ((wr_cg (sv_n _ (by decide))).trans ((wr_cg (sv_n _ (by decide))).trans (wr_cg (sv_n _ (by decide)))))))
                have e_1172 : bd (sv (sv (sv (sv (sv μ 111 8 3) 111 6 ((μ.1 111 6) + 1)) 111 13 x1) 111 6 ((μ.1 111 6) + 2)) 111 13 (256 + x1)) = bd μ := ((bd_cg (sv_n _ (by decide)) (sv_n _ (by decide)) (sv_n _ (by decide))).trans ((bd_cg (sv_n _ (by decide)) (sv_n _ (by decide)) (sv_n _ (by decide))).trans ((bd_cg (sv_n _ (by decide)) (sv_n _ (by decide)) (sv_n _ (by decide))).trans ((bd_cg (sv_n _ (by decide)) (sv_n _ (by decide)) (sv_n _ (by decide))).trans (bd_cg (sv_n _ (by decide)) (sv_n _ (by decide)) (sv_n _ (by decide)))))))
                have e_1173 : wr (sv (sv (sv (sv (sv μ 111 8 3) 111 6 ((μ.1 111 6) + 1)) 111 13 x1) 111 6 ((μ.1 111 6) + 2)) 111 13 (256 + x1)) = wr μ := ((wr_cg (sv_n _ (by decide))).trans ((wr_cg (sv_n _ (by decide))).trans ((wr_cg (sv_n _ (by decide))).trans ((wr_cg (sv_n _ (by decide))).trans (wr_cg (sv_n _ (by decide)))))))
                have e_1174 : nn (sv (sv (sv (sv (sv μ 111 8 3) 111 6 ((μ.1 111 6) + 1)) 111 13 x1) 111 6 ((μ.1 111 6) + 2)) 111 13 (256 + x1)) = nn μ := ((nn_cg (sv_n _ (by decide)) (sv_n _ (by decide))).trans ((nn_cg (sv_n _ (by decide)) (sv_n _ (by decide))).trans ((nn_cg (sv_n _ (by decide)) (sv_n _ (by decide))).trans ((nn_cg (sv_n _ (by decide)) (sv_n _ (by decide))).trans (nn_cg (sv_n _ (by decide)) (sv_n _ (by decide)))))))
                exact xr_v G hret hlk dX12_signs_206 ⟨(FrM.put (FrM.put (FrM.put (FrM.put (FrM.put FrM.rf (by decide)) (by decide)) (by decide)) (by decide)) (by decide)), (fun j hj => ((sv_n _ (fun h9 => hj (by rw [h9.2]; decide))).trans ((sv_n _ (fun h9 => hj (by rw [h9.2]; decide))).trans ((sv_n _ (fun h9 => hj (by rw [h9.2]; decide))).trans ((sv_n _ (fun h9 => hj (by rw [h9.2]; decide))).trans (sv_n _ (fun h9 => hj (by rw [h9.2]; decide)))))))), (by omega), (by omega), (by omega), (by omega)⟩
              · refine lv_iload_n hx hb dX12_signs_86 rfl (lv_at hl 2 rfl) ?_
                refine lv_bipush (v := iv 123) hx hb dX12_signs_87 rfl ?_
                refine xb_icmp_eq (tgt := 188) hx hb (by unfold ir; omega) (by unfold ir; omega) dX12_signs_89 (by decide) (fun c_89 => ?_) (fun c_89 => ?_)
                · refine lv_iconst (v := iv 1) hx hb dX12_signs_188 rfl ?_
                  refine lv_goto (tgt := 193) hx hb dX12_signs_189 (by decide) ?_
                  refine lv_istore_n (lv' := [(3, .int (iv 1)), (2, .int (iv r_9)), (0, .ref (oP ω 111)), (1, .int (iv x1))]) hx hb dX12_signs_193 rfl hl (by decide) rfl (fun ls hl => ?_)
                  refine lv_iload_n hx hb dX12_signs_194 rfl (lv_at hl 0 rfl) ?_
                  refine xb_if_ne (tgt := 206) hx hb (x := 1) (by unfold ir; omega) dX12_signs_195 (by decide) (fun c_195 => ?_) (fun c_195 => absurd c_195 (by decide))
                  have e_1175 : (sv (sv (sv (sv (sv μ 111 8 3) 111 6 ((μ.1 111 6) + 1)) 111 13 x1) 111 6 ((μ.1 111 6) + 2)) 111 13 (256 + x1)).1 111 6 = (μ.1 111 6) + 2 := ((sv_n _ (by decide)).trans (sv_s _ _ _ _))
                  have e_1176 : (sv (sv (sv (sv (sv μ 111 8 3) 111 6 ((μ.1 111 6) + 1)) 111 13 x1) 111 6 ((μ.1 111 6) + 2)) 111 13 (256 + x1)).1 111 6 = (μ.1 111 6) + 2 := ((sv_n _ (by decide)).trans (sv_s _ _ _ _))
                  have e_1177 : (sv (sv (sv (sv (sv μ 111 8 3) 111 6 ((μ.1 111 6) + 1)) 111 13 x1) 111 6 ((μ.1 111 6) + 2)) 111 13 (256 + x1)).1 111 8 = 3 := ((sv_n _ (by decide)).trans ((sv_n _ (by decide)).trans ((sv_n _ (by decide)).trans ((sv_n _ (by decide)).trans (sv_s _ _ _ _)))))
                  have e_1178 : wr (sv (sv (sv (sv (sv μ 111 8 3) 111 6 ((μ.1 111 6) + 1)) 111 13 x1) 111 6 ((μ.1 111 6) + 2)) 111 13 (256 + x1)) = wr μ := ((wr_cg (sv_n _ (by decide))).trans ((wr_cg (sv_n _ (by decide))).trans ((wr_cg (sv_n _ (by decide))).trans ((wr_cg (sv_n _ (by decide))).trans (wr_cg (sv_n _ (by decide)))))))
                  have e_1179 : bd (sv (sv (sv (sv (sv μ 111 8 3) 111 6 ((μ.1 111 6) + 1)) 111 13 x1) 111 6 ((μ.1 111 6) + 2)) 111 13 (256 + x1)) = bd μ := ((bd_cg (sv_n _ (by decide)) (sv_n _ (by decide)) (sv_n _ (by decide))).trans ((bd_cg (sv_n _ (by decide)) (sv_n _ (by decide)) (sv_n _ (by decide))).trans ((bd_cg (sv_n _ (by decide)) (sv_n _ (by decide)) (sv_n _ (by decide))).trans ((bd_cg (sv_n _ (by decide)) (sv_n _ (by decide)) (sv_n _ (by decide))).trans (bd_cg (sv_n _ (by decide)) (sv_n _ (by decide)) (sv_n _ (by decide)))))))
                  have e_1180 : wr (sv (sv (sv (sv (sv μ 111 8 3) 111 6 ((μ.1 111 6) + 1)) 111 13 x1) 111 6 ((μ.1 111 6) + 2)) 111 13 (256 + x1)) = wr μ := ((wr_cg (sv_n _ (by decide))).trans ((wr_cg (sv_n _ (by decide))).trans ((wr_cg (sv_n _ (by decide))).trans ((wr_cg (sv_n _ (by decide))).trans (wr_cg (sv_n _ (by decide)))))))
                  have e_1181 : nn (sv (sv (sv (sv (sv μ 111 8 3) 111 6 ((μ.1 111 6) + 1)) 111 13 x1) 111 6 ((μ.1 111 6) + 2)) 111 13 (256 + x1)) = nn μ := ((nn_cg (sv_n _ (by decide)) (sv_n _ (by decide))).trans ((nn_cg (sv_n _ (by decide)) (sv_n _ (by decide))).trans ((nn_cg (sv_n _ (by decide)) (sv_n _ (by decide))).trans ((nn_cg (sv_n _ (by decide)) (sv_n _ (by decide))).trans (nn_cg (sv_n _ (by decide)) (sv_n _ (by decide)))))))
                  exact xr_v G hret hlk dX12_signs_206 ⟨(FrM.put (FrM.put (FrM.put (FrM.put (FrM.put FrM.rf (by decide)) (by decide)) (by decide)) (by decide)) (by decide)), (fun j hj => ((sv_n _ (fun h9 => hj (by rw [h9.2]; decide))).trans ((sv_n _ (fun h9 => hj (by rw [h9.2]; decide))).trans ((sv_n _ (fun h9 => hj (by rw [h9.2]; decide))).trans ((sv_n _ (fun h9 => hj (by rw [h9.2]; decide))).trans (sv_n _ (fun h9 => hj (by rw [h9.2]; decide)))))))), (by omega), (by omega), (by omega), (by omega)⟩
                · refine lv_iload_n hx hb dX12_signs_92 rfl (lv_at hl 2 rfl) ?_
                  refine lv_bipush (v := iv 125) hx hb dX12_signs_93 rfl ?_
                  refine xb_icmp_eq (tgt := 188) hx hb (by unfold ir; omega) (by unfold ir; omega) dX12_signs_95 (by decide) (fun c_95 => ?_) (fun c_95 => ?_)
                  · refine lv_iconst (v := iv 1) hx hb dX12_signs_188 rfl ?_
                    refine lv_goto (tgt := 193) hx hb dX12_signs_189 (by decide) ?_
                    refine lv_istore_n (lv' := [(3, .int (iv 1)), (2, .int (iv r_9)), (0, .ref (oP ω 111)), (1, .int (iv x1))]) hx hb dX12_signs_193 rfl hl (by decide) rfl (fun ls hl => ?_)
                    refine lv_iload_n hx hb dX12_signs_194 rfl (lv_at hl 0 rfl) ?_
                    refine xb_if_ne (tgt := 206) hx hb (x := 1) (by unfold ir; omega) dX12_signs_195 (by decide) (fun c_195 => ?_) (fun c_195 => absurd c_195 (by decide))
                    have e_1182 : (sv (sv (sv (sv (sv μ 111 8 3) 111 6 ((μ.1 111 6) + 1)) 111 13 x1) 111 6 ((μ.1 111 6) + 2)) 111 13 (256 + x1)).1 111 6 = (μ.1 111 6) + 2 := ((sv_n _ (by decide)).trans (sv_s _ _ _ _))
                    have e_1183 : (sv (sv (sv (sv (sv μ 111 8 3) 111 6 ((μ.1 111 6) + 1)) 111 13 x1) 111 6 ((μ.1 111 6) + 2)) 111 13 (256 + x1)).1 111 6 = (μ.1 111 6) + 2 := ((sv_n _ (by decide)).trans (sv_s _ _ _ _))
                    have e_1184 : (sv (sv (sv (sv (sv μ 111 8 3) 111 6 ((μ.1 111 6) + 1)) 111 13 x1) 111 6 ((μ.1 111 6) + 2)) 111 13 (256 + x1)).1 111 8 = 3 := ((sv_n _ (by decide)).trans ((sv_n _ (by decide)).trans ((sv_n _ (by decide)).trans ((sv_n _ (by decide)).trans (sv_s _ _ _ _)))))
                    have e_1185 : wr (sv (sv (sv (sv (sv μ 111 8 3) 111 6 ((μ.1 111 6) + 1)) 111 13 x1) 111 6 ((μ.1 111 6) + 2)) 111 13 (256 + x1)) = wr μ := ((wr_cg (sv_n _ (by decide))).trans ((wr_cg (sv_n _ (by decide))).trans ((wr_cg (sv_n _ (by decide))).trans ((wr_cg (sv_n _ (by decide))).trans (wr_cg (sv_n _ (by decide)))))))
                    have e_1186 : bd (sv (sv (sv (sv (sv μ 111 8 3) 111 6 ((μ.1 111 6) + 1)) 111 13 x1) 111 6 ((μ.1 111 6) + 2)) 111 13 (256 + x1)) = bd μ := ((bd_cg (sv_n _ (by decide)) (sv_n _ (by decide)) (sv_n _ (by decide))).trans ((bd_cg (sv_n _ (by decide)) (sv_n _ (by decide)) (sv_n _ (by decide))).trans ((bd_cg (sv_n _ (by decide)) (sv_n _ (by decide)) (sv_n _ (by decide))).trans ((bd_cg (sv_n _ (by decide)) (sv_n _ (by decide)) (sv_n _ (by decide))).trans (bd_cg (sv_n _ (by decide)) (sv_n _ (by decide)) (sv_n _ (by decide)))))))
                    have e_1187 : wr (sv (sv (sv (sv (sv μ 111 8 3) 111 6 ((μ.1 111 6) + 1)) 111 13 x1) 111 6 ((μ.1 111 6) + 2)) 111 13 (256 + x1)) = wr μ := ((wr_cg (sv_n _ (by decide))).trans ((wr_cg (sv_n _ (by decide))).trans ((wr_cg (sv_n _ (by decide))).trans ((wr_cg (sv_n _ (by decide))).trans (wr_cg (sv_n _ (by decide)))))))
                    have e_1188 : nn (sv (sv (sv (sv (sv μ 111 8 3) 111 6 ((μ.1 111 6) + 1)) 111 13 x1) 111 6 ((μ.1 111 6) + 2)) 111 13 (256 + x1)) = nn μ := ((nn_cg (sv_n _ (by decide)) (sv_n _ (by decide))).trans ((nn_cg (sv_n _ (by decide)) (sv_n _ (by decide))).trans ((nn_cg (sv_n _ (by decide)) (sv_n _ (by decide))).trans ((nn_cg (sv_n _ (by decide)) (sv_n _ (by decide))).trans (nn_cg (sv_n _ (by decide)) (sv_n _ (by decide)))))))
                    exact xr_v G hret hlk dX12_signs_206 ⟨(FrM.put (FrM.put (FrM.put (FrM.put (FrM.put FrM.rf (by decide)) (by decide)) (by decide)) (by decide)) (by decide)), (fun j hj => ((sv_n _ (fun h9 => hj (by rw [h9.2]; decide))).trans ((sv_n _ (fun h9 => hj (by rw [h9.2]; decide))).trans ((sv_n _ (fun h9 => hj (by rw [h9.2]; decide))).trans ((sv_n _ (fun h9 => hj (by rw [h9.2]; decide))).trans (sv_n _ (fun h9 => hj (by rw [h9.2]; decide)))))))), (by omega), (by omega), (by omega), (by omega)⟩
                  · refine lv_iload_n hx hb dX12_signs_98 rfl (lv_at hl 2 rfl) ?_
                    refine lv_bipush (v := iv 91) hx hb dX12_signs_99 rfl ?_
                    refine xb_icmp_eq (tgt := 188) hx hb (by unfold ir; omega) (by unfold ir; omega) dX12_signs_101 (by decide) (fun c_101 => ?_) (fun c_101 => ?_)
                    · refine lv_iconst (v := iv 1) hx hb dX12_signs_188 rfl ?_
                      refine lv_goto (tgt := 193) hx hb dX12_signs_189 (by decide) ?_
                      refine lv_istore_n (lv' := [(3, .int (iv 1)), (2, .int (iv r_9)), (0, .ref (oP ω 111)), (1, .int (iv x1))]) hx hb dX12_signs_193 rfl hl (by decide) rfl (fun ls hl => ?_)
                      refine lv_iload_n hx hb dX12_signs_194 rfl (lv_at hl 0 rfl) ?_
                      refine xb_if_ne (tgt := 206) hx hb (x := 1) (by unfold ir; omega) dX12_signs_195 (by decide) (fun c_195 => ?_) (fun c_195 => absurd c_195 (by decide))
                      have e_1189 : (sv (sv (sv (sv (sv μ 111 8 3) 111 6 ((μ.1 111 6) + 1)) 111 13 x1) 111 6 ((μ.1 111 6) + 2)) 111 13 (256 + x1)).1 111 6 = (μ.1 111 6) + 2 := ((sv_n _ (by decide)).trans (sv_s _ _ _ _))
                      have e_1190 : (sv (sv (sv (sv (sv μ 111 8 3) 111 6 ((μ.1 111 6) + 1)) 111 13 x1) 111 6 ((μ.1 111 6) + 2)) 111 13 (256 + x1)).1 111 6 = (μ.1 111 6) + 2 := ((sv_n _ (by decide)).trans (sv_s _ _ _ _))
                      have e_1191 : (sv (sv (sv (sv (sv μ 111 8 3) 111 6 ((μ.1 111 6) + 1)) 111 13 x1) 111 6 ((μ.1 111 6) + 2)) 111 13 (256 + x1)).1 111 8 = 3 := ((sv_n _ (by decide)).trans ((sv_n _ (by decide)).trans ((sv_n _ (by decide)).trans ((sv_n _ (by decide)).trans (sv_s _ _ _ _)))))
                      have e_1192 : wr (sv (sv (sv (sv (sv μ 111 8 3) 111 6 ((μ.1 111 6) + 1)) 111 13 x1) 111 6 ((μ.1 111 6) + 2)) 111 13 (256 + x1)) = wr μ := ((wr_cg (sv_n _ (by decide))).trans ((wr_cg (sv_n _ (by decide))).trans ((wr_cg (sv_n _ (by decide))).trans ((wr_cg (sv_n _ (by decide))).trans (wr_cg (sv_n _ (by decide)))))))
                      have e_1193 : bd (sv (sv (sv (sv (sv μ 111 8 3) 111 6 ((μ.1 111 6) + 1)) 111 13 x1) 111 6 ((μ.1 111 6) + 2)) 111 13 (256 + x1)) = bd μ := ((bd_cg (sv_n _ (by decide)) (sv_n _ (by decide)) (sv_n _ (by decide))).trans ((bd_cg (sv_n _ (by decide)) (sv_n _ (by decide)) (sv_n _ (by decide))).trans ((bd_cg (sv_n _ (by decide)) (sv_n _ (by decide)) (sv_n _ (by decide))).trans ((bd_cg (sv_n _ (by decide)) (sv_n _ (by decide)) (sv_n _ (by decide))).trans (bd_cg (sv_n _ (by decide)) (sv_n _ (by decide)) (sv_n _ (by decide)))))))
                      have e_1194 : wr (sv (sv (sv (sv (sv μ 111 8 3) 111 6 ((μ.1 111 6) + 1)) 111 13 x1) 111 6 ((μ.1 111 6) + 2)) 111 13 (256 + x1)) = wr μ := ((wr_cg (sv_n _ (by decide))).trans ((wr_cg (sv_n _ (by decide))).trans ((wr_cg (sv_n _ (by decide))).trans ((wr_cg (sv_n _ (by decide))).trans (wr_cg (sv_n _ (by decide)))))))
                      have e_1195 : nn (sv (sv (sv (sv (sv μ 111 8 3) 111 6 ((μ.1 111 6) + 1)) 111 13 x1) 111 6 ((μ.1 111 6) + 2)) 111 13 (256 + x1)) = nn μ := ((nn_cg (sv_n _ (by decide)) (sv_n _ (by decide))).trans ((nn_cg (sv_n _ (by decide)) (sv_n _ (by decide))).trans ((nn_cg (sv_n _ (by decide)) (sv_n _ (by decide))).trans ((nn_cg (sv_n _ (by decide)) (sv_n _ (by decide))).trans (nn_cg (sv_n _ (by decide)) (sv_n _ (by decide)))))))
                      exact xr_v G hret hlk dX12_signs_206 ⟨(FrM.put (FrM.put (FrM.put (FrM.put (FrM.put FrM.rf (by decide)) (by decide)) (by decide)) (by decide)) (by decide)), (fun j hj => ((sv_n _ (fun h9 => hj (by rw [h9.2]; decide))).trans ((sv_n _ (fun h9 => hj (by rw [h9.2]; decide))).trans ((sv_n _ (fun h9 => hj (by rw [h9.2]; decide))).trans ((sv_n _ (fun h9 => hj (by rw [h9.2]; decide))).trans (sv_n _ (fun h9 => hj (by rw [h9.2]; decide)))))))), (by omega), (by omega), (by omega), (by omega)⟩
                    · refine lv_iload_n hx hb dX12_signs_104 rfl (lv_at hl 2 rfl) ?_
                      refine lv_bipush (v := iv 93) hx hb dX12_signs_105 rfl ?_
                      refine xb_icmp_eq (tgt := 188) hx hb (by unfold ir; omega) (by unfold ir; omega) dX12_signs_107 (by decide) (fun c_107 => ?_) (fun c_107 => ?_)
                      · refine lv_iconst (v := iv 1) hx hb dX12_signs_188 rfl ?_
                        refine lv_goto (tgt := 193) hx hb dX12_signs_189 (by decide) ?_
                        refine lv_istore_n (lv' := [(3, .int (iv 1)), (2, .int (iv r_9)), (0, .ref (oP ω 111)), (1, .int (iv x1))]) hx hb dX12_signs_193 rfl hl (by decide) rfl (fun ls hl => ?_)
                        refine lv_iload_n hx hb dX12_signs_194 rfl (lv_at hl 0 rfl) ?_
                        refine xb_if_ne (tgt := 206) hx hb (x := 1) (by unfold ir; omega) dX12_signs_195 (by decide) (fun c_195 => ?_) (fun c_195 => absurd c_195 (by decide))
                        have e_1196 : (sv (sv (sv (sv (sv μ 111 8 3) 111 6 ((μ.1 111 6) + 1)) 111 13 x1) 111 6 ((μ.1 111 6) + 2)) 111 13 (256 + x1)).1 111 6 = (μ.1 111 6) + 2 := ((sv_n _ (by decide)).trans (sv_s _ _ _ _))
                        have e_1197 : (sv (sv (sv (sv (sv μ 111 8 3) 111 6 ((μ.1 111 6) + 1)) 111 13 x1) 111 6 ((μ.1 111 6) + 2)) 111 13 (256 + x1)).1 111 6 = (μ.1 111 6) + 2 := ((sv_n _ (by decide)).trans (sv_s _ _ _ _))
                        have e_1198 : (sv (sv (sv (sv (sv μ 111 8 3) 111 6 ((μ.1 111 6) + 1)) 111 13 x1) 111 6 ((μ.1 111 6) + 2)) 111 13 (256 + x1)).1 111 8 = 3 := ((sv_n _ (by decide)).trans ((sv_n _ (by decide)).trans ((sv_n _ (by decide)).trans ((sv_n _ (by decide)).trans (sv_s _ _ _ _)))))
                        have e_1199 : wr (sv (sv (sv (sv (sv μ 111 8 3) 111 6 ((μ.1 111 6) + 1)) 111 13 x1) 111 6 ((μ.1 111 6) + 2)) 111 13 (256 + x1)) = wr μ := ((wr_cg (sv_n _ (by decide))).trans ((wr_cg (sv_n _ (by decide))).trans ((wr_cg (sv_n _ (by decide))).trans ((wr_cg (sv_n _ (by decide))).trans (wr_cg (sv_n _ (by decide)))))))
                        have e_1200 : bd (sv (sv (sv (sv (sv μ 111 8 3) 111 6 ((μ.1 111 6) + 1)) 111 13 x1) 111 6 ((μ.1 111 6) + 2)) 111 13 (256 + x1)) = bd μ := ((bd_cg (sv_n _ (by decide)) (sv_n _ (by decide)) (sv_n _ (by decide))).trans ((bd_cg (sv_n _ (by decide)) (sv_n _ (by decide)) (sv_n _ (by decide))).trans ((bd_cg (sv_n _ (by decide)) (sv_n _ (by decide)) (sv_n _ (by decide))).trans ((bd_cg (sv_n _ (by decide)) (sv_n _ (by decide)) (sv_n _ (by decide))).trans (bd_cg (sv_n _ (by decide)) (sv_n _ (by decide)) (sv_n _ (by decide)))))))
                        have e_1201 : wr (sv (sv (sv (sv (sv μ 111 8 3) 111 6 ((μ.1 111 6) + 1)) 111 13 x1) 111 6 ((μ.1 111 6) + 2)) 111 13 (256 + x1)) = wr μ := ((wr_cg (sv_n _ (by decide))).trans ((wr_cg (sv_n _ (by decide))).trans ((wr_cg (sv_n _ (by decide))).trans ((wr_cg (sv_n _ (by decide))).trans (wr_cg (sv_n _ (by decide)))))))
                        have e_1202 : nn (sv (sv (sv (sv (sv μ 111 8 3) 111 6 ((μ.1 111 6) + 1)) 111 13 x1) 111 6 ((μ.1 111 6) + 2)) 111 13 (256 + x1)) = nn μ := ((nn_cg (sv_n _ (by decide)) (sv_n _ (by decide))).trans ((nn_cg (sv_n _ (by decide)) (sv_n _ (by decide))).trans ((nn_cg (sv_n _ (by decide)) (sv_n _ (by decide))).trans ((nn_cg (sv_n _ (by decide)) (sv_n _ (by decide))).trans (nn_cg (sv_n _ (by decide)) (sv_n _ (by decide)))))))
                        exact xr_v G hret hlk dX12_signs_206 ⟨(FrM.put (FrM.put (FrM.put (FrM.put (FrM.put FrM.rf (by decide)) (by decide)) (by decide)) (by decide)) (by decide)), (fun j hj => ((sv_n _ (fun h9 => hj (by rw [h9.2]; decide))).trans ((sv_n _ (fun h9 => hj (by rw [h9.2]; decide))).trans ((sv_n _ (fun h9 => hj (by rw [h9.2]; decide))).trans ((sv_n _ (fun h9 => hj (by rw [h9.2]; decide))).trans (sv_n _ (fun h9 => hj (by rw [h9.2]; decide)))))))), (by omega), (by omega), (by omega), (by omega)⟩
                      · refine lv_iload_n hx hb dX12_signs_110 rfl (lv_at hl 2 rfl) ?_
                        refine lv_bipush (v := iv 44) hx hb dX12_signs_111 rfl ?_
                        refine xb_icmp_eq (tgt := 188) hx hb (by unfold ir; omega) (by unfold ir; omega) dX12_signs_113 (by decide) (fun c_113 => ?_) (fun c_113 => ?_)
                        · refine lv_iconst (v := iv 1) hx hb dX12_signs_188 rfl ?_
                          refine lv_goto (tgt := 193) hx hb dX12_signs_189 (by decide) ?_
                          refine lv_istore_n (lv' := [(3, .int (iv 1)), (2, .int (iv r_9)), (0, .ref (oP ω 111)), (1, .int (iv x1))]) hx hb dX12_signs_193 rfl hl (by decide) rfl (fun ls hl => ?_)
                          refine lv_iload_n hx hb dX12_signs_194 rfl (lv_at hl 0 rfl) ?_
                          refine xb_if_ne (tgt := 206) hx hb (x := 1) (by unfold ir; omega) dX12_signs_195 (by decide) (fun c_195 => ?_) (fun c_195 => absurd c_195 (by decide))
                          have e_1203 : (sv (sv (sv (sv (sv μ 111 8 3) 111 6 ((μ.1 111 6) + 1)) 111 13 x1) 111 6 ((μ.1 111 6) + 2)) 111 13 (256 + x1)).1 111 6 = (μ.1 111 6) + 2 := ((sv_n _ (by decide)).trans (sv_s _ _ _ _))
                          have e_1204 : (sv (sv (sv (sv (sv μ 111 8 3) 111 6 ((μ.1 111 6) + 1)) 111 13 x1) 111 6 ((μ.1 111 6) + 2)) 111 13 (256 + x1)).1 111 6 = (μ.1 111 6) + 2 := ((sv_n _ (by decide)).trans (sv_s _ _ _ _))
                          have e_1205 : (sv (sv (sv (sv (sv μ 111 8 3) 111 6 ((μ.1 111 6) + 1)) 111 13 x1) 111 6 ((μ.1 111 6) + 2)) 111 13 (256 + x1)).1 111 8 = 3 := ((sv_n _ (by decide)).trans ((sv_n _ (by decide)).trans ((sv_n _ (by decide)).trans ((sv_n _ (by decide)).trans (sv_s _ _ _ _)))))
                          have e_1206 : wr (sv (sv (sv (sv (sv μ 111 8 3) 111 6 ((μ.1 111 6) + 1)) 111 13 x1) 111 6 ((μ.1 111 6) + 2)) 111 13 (256 + x1)) = wr μ := ((wr_cg (sv_n _ (by decide))).trans ((wr_cg (sv_n _ (by decide))).trans ((wr_cg (sv_n _ (by decide))).trans ((wr_cg (sv_n _ (by decide))).trans (wr_cg (sv_n _ (by decide)))))))
                          have e_1207 : bd (sv (sv (sv (sv (sv μ 111 8 3) 111 6 ((μ.1 111 6) + 1)) 111 13 x1) 111 6 ((μ.1 111 6) + 2)) 111 13 (256 + x1)) = bd μ := ((bd_cg (sv_n _ (by decide)) (sv_n _ (by decide)) (sv_n _ (by decide))).trans ((bd_cg (sv_n _ (by decide)) (sv_n _ (by decide)) (sv_n _ (by decide))).trans ((bd_cg (sv_n _ (by decide)) (sv_n _ (by decide)) (sv_n _ (by decide))).trans ((bd_cg (sv_n _ (by decide)) (sv_n _ (by decide)) (sv_n _ (by decide))).trans (bd_cg (sv_n _ (by decide)) (sv_n _ (by decide)) (sv_n _ (by decide)))))))
                          have e_1208 : wr (sv (sv (sv (sv (sv μ 111 8 3) 111 6 ((μ.1 111 6) + 1)) 111 13 x1) 111 6 ((μ.1 111 6) + 2)) 111 13 (256 + x1)) = wr μ := ((wr_cg (sv_n _ (by decide))).trans ((wr_cg (sv_n _ (by decide))).trans ((wr_cg (sv_n _ (by decide))).trans ((wr_cg (sv_n _ (by decide))).trans (wr_cg (sv_n _ (by decide)))))))
                          have e_1209 : nn (sv (sv (sv (sv (sv μ 111 8 3) 111 6 ((μ.1 111 6) + 1)) 111 13 x1) 111 6 ((μ.1 111 6) + 2)) 111 13 (256 + x1)) = nn μ := ((nn_cg (sv_n _ (by decide)) (sv_n _ (by decide))).trans ((nn_cg (sv_n _ (by decide)) (sv_n _ (by decide))).trans ((nn_cg (sv_n _ (by decide)) (sv_n _ (by decide))).trans ((nn_cg (sv_n _ (by decide)) (sv_n _ (by decide))).trans (nn_cg (sv_n _ (by decide)) (sv_n _ (by decide)))))))
                          exact xr_v G hret hlk dX12_signs_206 ⟨(FrM.put (FrM.put (FrM.put (FrM.put (FrM.put FrM.rf (by decide)) (by decide)) (by decide)) (by decide)) (by decide)), (fun j hj => ((sv_n _ (fun h9 => hj (by rw [h9.2]; decide))).trans ((sv_n _ (fun h9 => hj (by rw [h9.2]; decide))).trans ((sv_n _ (fun h9 => hj (by rw [h9.2]; decide))).trans ((sv_n _ (fun h9 => hj (by rw [h9.2]; decide))).trans (sv_n _ (fun h9 => hj (by rw [h9.2]; decide)))))))), (by omega), (by omega), (by omega), (by omega)⟩
                        · refine lv_iload_n hx hb dX12_signs_116 rfl (lv_at hl 2 rfl) ?_
                          refine lv_bipush (v := iv 59) hx hb dX12_signs_117 rfl ?_
                          refine xb_icmp_eq (tgt := 188) hx hb (by unfold ir; omega) (by unfold ir; omega) dX12_signs_119 (by decide) (fun c_119 => ?_) (fun c_119 => ?_)
                          · refine lv_iconst (v := iv 1) hx hb dX12_signs_188 rfl ?_
                            refine lv_goto (tgt := 193) hx hb dX12_signs_189 (by decide) ?_
                            refine lv_istore_n (lv' := [(3, .int (iv 1)), (2, .int (iv r_9)), (0, .ref (oP ω 111)), (1, .int (iv x1))]) hx hb dX12_signs_193 rfl hl (by decide) rfl (fun ls hl => ?_)
                            refine lv_iload_n hx hb dX12_signs_194 rfl (lv_at hl 0 rfl) ?_
                            refine xb_if_ne (tgt := 206) hx hb (x := 1) (by unfold ir; omega) dX12_signs_195 (by decide) (fun c_195 => ?_) (fun c_195 => absurd c_195 (by decide))
                            have e_1210 : (sv (sv (sv (sv (sv μ 111 8 3) 111 6 ((μ.1 111 6) + 1)) 111 13 x1) 111 6 ((μ.1 111 6) + 2)) 111 13 (256 + x1)).1 111 6 = (μ.1 111 6) + 2 := ((sv_n _ (by decide)).trans (sv_s _ _ _ _))
                            have e_1211 : (sv (sv (sv (sv (sv μ 111 8 3) 111 6 ((μ.1 111 6) + 1)) 111 13 x1) 111 6 ((μ.1 111 6) + 2)) 111 13 (256 + x1)).1 111 6 = (μ.1 111 6) + 2 := ((sv_n _ (by decide)).trans (sv_s _ _ _ _))
                            have e_1212 : (sv (sv (sv (sv (sv μ 111 8 3) 111 6 ((μ.1 111 6) + 1)) 111 13 x1) 111 6 ((μ.1 111 6) + 2)) 111 13 (256 + x1)).1 111 8 = 3 := ((sv_n _ (by decide)).trans ((sv_n _ (by decide)).trans ((sv_n _ (by decide)).trans ((sv_n _ (by decide)).trans (sv_s _ _ _ _)))))
                            have e_1213 : wr (sv (sv (sv (sv (sv μ 111 8 3) 111 6 ((μ.1 111 6) + 1)) 111 13 x1) 111 6 ((μ.1 111 6) + 2)) 111 13 (256 + x1)) = wr μ := ((wr_cg (sv_n _ (by decide))).trans ((wr_cg (sv_n _ (by decide))).trans ((wr_cg (sv_n _ (by decide))).trans ((wr_cg (sv_n _ (by decide))).trans (wr_cg (sv_n _ (by decide)))))))
                            have e_1214 : bd (sv (sv (sv (sv (sv μ 111 8 3) 111 6 ((μ.1 111 6) + 1)) 111 13 x1) 111 6 ((μ.1 111 6) + 2)) 111 13 (256 + x1)) = bd μ := ((bd_cg (sv_n _ (by decide)) (sv_n _ (by decide)) (sv_n _ (by decide))).trans ((bd_cg (sv_n _ (by decide)) (sv_n _ (by decide)) (sv_n _ (by decide))).trans ((bd_cg (sv_n _ (by decide)) (sv_n _ (by decide)) (sv_n _ (by decide))).trans ((bd_cg (sv_n _ (by decide)) (sv_n _ (by decide)) (sv_n _ (by decide))).trans (bd_cg (sv_n _ (by decide)) (sv_n _ (by decide)) (sv_n _ (by decide)))))))
                            have e_1215 : wr (sv (sv (sv (sv (sv μ 111 8 3) 111 6 ((μ.1 111 6) + 1)) 111 13 x1) 111 6 ((μ.1 111 6) + 2)) 111 13 (256 + x1)) = wr μ := ((wr_cg (sv_n _ (by decide))).trans ((wr_cg (sv_n _ (by decide))).trans ((wr_cg (sv_n _ (by decide))).trans ((wr_cg (sv_n _ (by decide))).trans (wr_cg (sv_n _ (by decide)))))))
                            have e_1216 : nn (sv (sv (sv (sv (sv μ 111 8 3) 111 6 ((μ.1 111 6) + 1)) 111 13 x1) 111 6 ((μ.1 111 6) + 2)) 111 13 (256 + x1)) = nn μ := ((nn_cg (sv_n _ (by decide)) (sv_n _ (by decide))).trans ((nn_cg (sv_n _ (by decide)) (sv_n _ (by decide))).trans ((nn_cg (sv_n _ (by decide)) (sv_n _ (by decide))).trans ((nn_cg (sv_n _ (by decide)) (sv_n _ (by decide))).trans (nn_cg (sv_n _ (by decide)) (sv_n _ (by decide)))))))
                            exact xr_v G hret hlk dX12_signs_206 ⟨(FrM.put (FrM.put (FrM.put (FrM.put (FrM.put FrM.rf (by decide)) (by decide)) (by decide)) (by decide)) (by decide)), (fun j hj => ((sv_n _ (fun h9 => hj (by rw [h9.2]; decide))).trans ((sv_n _ (fun h9 => hj (by rw [h9.2]; decide))).trans ((sv_n _ (fun h9 => hj (by rw [h9.2]; decide))).trans ((sv_n _ (fun h9 => hj (by rw [h9.2]; decide))).trans (sv_n _ (fun h9 => hj (by rw [h9.2]; decide)))))))), (by omega), (by omega), (by omega), (by omega)⟩
                          · refine lv_iload_n hx hb dX12_signs_122 rfl (lv_at hl 2 rfl) ?_
                            refine lv_bipush (v := iv 46) hx hb dX12_signs_123 rfl ?_
                            refine xb_icmp_eq (tgt := 188) hx hb (by unfold ir; omega) (by unfold ir; omega) dX12_signs_125 (by decide) (fun c_125 => ?_) (fun c_125 => ?_)
                            · refine lv_iconst (v := iv 1) hx hb dX12_signs_188 rfl ?_
                              refine lv_goto (tgt := 193) hx hb dX12_signs_189 (by decide) ?_
                              refine lv_istore_n (lv' := [(3, .int (iv 1)), (2, .int (iv r_9)), (0, .ref (oP ω 111)), (1, .int (iv x1))]) hx hb dX12_signs_193 rfl hl (by decide) rfl (fun ls hl => ?_)
                              refine lv_iload_n hx hb dX12_signs_194 rfl (lv_at hl 0 rfl) ?_
                              refine xb_if_ne (tgt := 206) hx hb (x := 1) (by unfold ir; omega) dX12_signs_195 (by decide) (fun c_195 => ?_) (fun c_195 => absurd c_195 (by decide))
                              have e_1217 : (sv (sv (sv (sv (sv μ 111 8 3) 111 6 ((μ.1 111 6) + 1)) 111 13 x1) 111 6 ((μ.1 111 6) + 2)) 111 13 (256 + x1)).1 111 6 = (μ.1 111 6) + 2 := ((sv_n _ (by decide)).trans (sv_s _ _ _ _))
                              have e_1218 : (sv (sv (sv (sv (sv μ 111 8 3) 111 6 ((μ.1 111 6) + 1)) 111 13 x1) 111 6 ((μ.1 111 6) + 2)) 111 13 (256 + x1)).1 111 6 = (μ.1 111 6) + 2 := ((sv_n _ (by decide)).trans (sv_s _ _ _ _))
                              have e_1219 : (sv (sv (sv (sv (sv μ 111 8 3) 111 6 ((μ.1 111 6) + 1)) 111 13 x1) 111 6 ((μ.1 111 6) + 2)) 111 13 (256 + x1)).1 111 8 = 3 := ((sv_n _ (by decide)).trans ((sv_n _ (by decide)).trans ((sv_n _ (by decide)).trans ((sv_n _ (by decide)).trans (sv_s _ _ _ _)))))
                              have e_1220 : wr (sv (sv (sv (sv (sv μ 111 8 3) 111 6 ((μ.1 111 6) + 1)) 111 13 x1) 111 6 ((μ.1 111 6) + 2)) 111 13 (256 + x1)) = wr μ := ((wr_cg (sv_n _ (by decide))).trans ((wr_cg (sv_n _ (by decide))).trans ((wr_cg (sv_n _ (by decide))).trans ((wr_cg (sv_n _ (by decide))).trans (wr_cg (sv_n _ (by decide)))))))
                              have e_1221 : bd (sv (sv (sv (sv (sv μ 111 8 3) 111 6 ((μ.1 111 6) + 1)) 111 13 x1) 111 6 ((μ.1 111 6) + 2)) 111 13 (256 + x1)) = bd μ := ((bd_cg (sv_n _ (by decide)) (sv_n _ (by decide)) (sv_n _ (by decide))).trans ((bd_cg (sv_n _ (by decide)) (sv_n _ (by decide)) (sv_n _ (by decide))).trans ((bd_cg (sv_n _ (by decide)) (sv_n _ (by decide)) (sv_n _ (by decide))).trans ((bd_cg (sv_n _ (by decide)) (sv_n _ (by decide)) (sv_n _ (by decide))).trans (bd_cg (sv_n _ (by decide)) (sv_n _ (by decide)) (sv_n _ (by decide)))))))
                              have e_1222 : wr (sv (sv (sv (sv (sv μ 111 8 3) 111 6 ((μ.1 111 6) + 1)) 111 13 x1) 111 6 ((μ.1 111 6) + 2)) 111 13 (256 + x1)) = wr μ := ((wr_cg (sv_n _ (by decide))).trans ((wr_cg (sv_n _ (by decide))).trans ((wr_cg (sv_n _ (by decide))).trans ((wr_cg (sv_n _ (by decide))).trans (wr_cg (sv_n _ (by decide)))))))
                              have e_1223 : nn (sv (sv (sv (sv (sv μ 111 8 3) 111 6 ((μ.1 111 6) + 1)) 111 13 x1) 111 6 ((μ.1 111 6) + 2)) 111 13 (256 + x1)) = nn μ := ((nn_cg (sv_n _ (by decide)) (sv_n _ (by decide))).trans ((nn_cg (sv_n _ (by decide)) (sv_n _ (by decide))).trans ((nn_cg (sv_n _ (by decide)) (sv_n _ (by decide))).trans ((nn_cg (sv_n _ (by decide)) (sv_n _ (by decide))).trans (nn_cg (sv_n _ (by decide)) (sv_n _ (by decide)))))))
                              exact xr_v G hret hlk dX12_signs_206 ⟨(FrM.put (FrM.put (FrM.put (FrM.put (FrM.put FrM.rf (by decide)) (by decide)) (by decide)) (by decide)) (by decide)), (fun j hj => ((sv_n _ (fun h9 => hj (by rw [h9.2]; decide))).trans ((sv_n _ (fun h9 => hj (by rw [h9.2]; decide))).trans ((sv_n _ (fun h9 => hj (by rw [h9.2]; decide))).trans ((sv_n _ (fun h9 => hj (by rw [h9.2]; decide))).trans (sv_n _ (fun h9 => hj (by rw [h9.2]; decide)))))))), (by omega), (by omega), (by omega), (by omega)⟩
                            · refine lv_iload_n hx hb dX12_signs_128 rfl (lv_at hl 2 rfl) ?_
                              refine lv_bipush (v := iv 38) hx hb dX12_signs_129 rfl ?_
                              refine xb_icmp_eq (tgt := 188) hx hb (by unfold ir; omega) (by unfold ir; omega) dX12_signs_131 (by decide) (fun c_131 => ?_) (fun c_131 => ?_)
                              · refine lv_iconst (v := iv 1) hx hb dX12_signs_188 rfl ?_
                                refine lv_goto (tgt := 193) hx hb dX12_signs_189 (by decide) ?_
                                refine lv_istore_n (lv' := [(3, .int (iv 1)), (2, .int (iv r_9)), (0, .ref (oP ω 111)), (1, .int (iv x1))]) hx hb dX12_signs_193 rfl hl (by decide) rfl (fun ls hl => ?_)
                                refine lv_iload_n hx hb dX12_signs_194 rfl (lv_at hl 0 rfl) ?_
                                refine xb_if_ne (tgt := 206) hx hb (x := 1) (by unfold ir; omega) dX12_signs_195 (by decide) (fun c_195 => ?_) (fun c_195 => absurd c_195 (by decide))
                                have e_1224 : (sv (sv (sv (sv (sv μ 111 8 3) 111 6 ((μ.1 111 6) + 1)) 111 13 x1) 111 6 ((μ.1 111 6) + 2)) 111 13 (256 + x1)).1 111 6 = (μ.1 111 6) + 2 := ((sv_n _ (by decide)).trans (sv_s _ _ _ _))
                                have e_1225 : (sv (sv (sv (sv (sv μ 111 8 3) 111 6 ((μ.1 111 6) + 1)) 111 13 x1) 111 6 ((μ.1 111 6) + 2)) 111 13 (256 + x1)).1 111 6 = (μ.1 111 6) + 2 := ((sv_n _ (by decide)).trans (sv_s _ _ _ _))
                                have e_1226 : (sv (sv (sv (sv (sv μ 111 8 3) 111 6 ((μ.1 111 6) + 1)) 111 13 x1) 111 6 ((μ.1 111 6) + 2)) 111 13 (256 + x1)).1 111 8 = 3 := ((sv_n _ (by decide)).trans ((sv_n _ (by decide)).trans ((sv_n _ (by decide)).trans ((sv_n _ (by decide)).trans (sv_s _ _ _ _)))))
                                have e_1227 : wr (sv (sv (sv (sv (sv μ 111 8 3) 111 6 ((μ.1 111 6) + 1)) 111 13 x1) 111 6 ((μ.1 111 6) + 2)) 111 13 (256 + x1)) = wr μ := ((wr_cg (sv_n _ (by decide))).trans ((wr_cg (sv_n _ (by decide))).trans ((wr_cg (sv_n _ (by decide))).trans ((wr_cg (sv_n _ (by decide))).trans (wr_cg (sv_n _ (by decide)))))))
                                have e_1228 : bd (sv (sv (sv (sv (sv μ 111 8 3) 111 6 ((μ.1 111 6) + 1)) 111 13 x1) 111 6 ((μ.1 111 6) + 2)) 111 13 (256 + x1)) = bd μ := ((bd_cg (sv_n _ (by decide)) (sv_n _ (by decide)) (sv_n _ (by decide))).trans ((bd_cg (sv_n _ (by decide)) (sv_n _ (by decide)) (sv_n _ (by decide))).trans ((bd_cg (sv_n _ (by decide)) (sv_n _ (by decide)) (sv_n _ (by decide))).trans ((bd_cg (sv_n _ (by decide)) (sv_n _ (by decide)) (sv_n _ (by decide))).trans (bd_cg (sv_n _ (by decide)) (sv_n _ (by decide)) (sv_n _ (by decide)))))))
                                have e_1229 : wr (sv (sv (sv (sv (sv μ 111 8 3) 111 6 ((μ.1 111 6) + 1)) 111 13 x1) 111 6 ((μ.1 111 6) + 2)) 111 13 (256 + x1)) = wr μ := ((wr_cg (sv_n _ (by decide))).trans ((wr_cg (sv_n _ (by decide))).trans ((wr_cg (sv_n _ (by decide))).trans ((wr_cg (sv_n _ (by decide))).trans (wr_cg (sv_n _ (by decide)))))))
                                have e_1230 : nn (sv (sv (sv (sv (sv μ 111 8 3) 111 6 ((μ.1 111 6) + 1)) 111 13 x1) 111 6 ((μ.1 111 6) + 2)) 111 13 (256 + x1)) = nn μ := ((nn_cg (sv_n _ (by decide)) (sv_n _ (by decide))).trans ((nn_cg (sv_n _ (by decide)) (sv_n _ (by decide))).trans ((nn_cg (sv_n _ (by decide)) (sv_n _ (by decide))).trans ((nn_cg (sv_n _ (by decide)) (sv_n _ (by decide))).trans (nn_cg (sv_n _ (by decide)) (sv_n _ (by decide)))))))
                                exact xr_v G hret hlk dX12_signs_206 ⟨(FrM.put (FrM.put (FrM.put (FrM.put (FrM.put FrM.rf (by decide)) (by decide)) (by decide)) (by decide)) (by decide)), (fun j hj => ((sv_n _ (fun h9 => hj (by rw [h9.2]; decide))).trans ((sv_n _ (fun h9 => hj (by rw [h9.2]; decide))).trans ((sv_n _ (fun h9 => hj (by rw [h9.2]; decide))).trans ((sv_n _ (fun h9 => hj (by rw [h9.2]; decide))).trans (sv_n _ (fun h9 => hj (by rw [h9.2]; decide)))))))), (by omega), (by omega), (by omega), (by omega)⟩
                              · refine lv_iload_n hx hb dX12_signs_134 rfl (lv_at hl 2 rfl) ?_
                                refine lv_bipush (v := iv 33) hx hb dX12_signs_135 rfl ?_
                                refine xb_icmp_eq (tgt := 188) hx hb (by unfold ir; omega) (by unfold ir; omega) dX12_signs_137 (by decide) (fun c_137 => ?_) (fun c_137 => ?_)
                                · refine lv_iconst (v := iv 1) hx hb dX12_signs_188 rfl ?_
                                  refine lv_goto (tgt := 193) hx hb dX12_signs_189 (by decide) ?_
                                  refine lv_istore_n (lv' := [(3, .int (iv 1)), (2, .int (iv r_9)), (0, .ref (oP ω 111)), (1, .int (iv x1))]) hx hb dX12_signs_193 rfl hl (by decide) rfl (fun ls hl => ?_)
                                  refine lv_iload_n hx hb dX12_signs_194 rfl (lv_at hl 0 rfl) ?_
                                  refine xb_if_ne (tgt := 206) hx hb (x := 1) (by unfold ir; omega) dX12_signs_195 (by decide) (fun c_195 => ?_) (fun c_195 => absurd c_195 (by decide))
                                  have e_1231 : (sv (sv (sv (sv (sv μ 111 8 3) 111 6 ((μ.1 111 6) + 1)) 111 13 x1) 111 6 ((μ.1 111 6) + 2)) 111 13 (256 + x1)).1 111 6 = (μ.1 111 6) + 2 := ((sv_n _ (by decide)).trans (sv_s _ _ _ _))
                                  have e_1232 : (sv (sv (sv (sv (sv μ 111 8 3) 111 6 ((μ.1 111 6) + 1)) 111 13 x1) 111 6 ((μ.1 111 6) + 2)) 111 13 (256 + x1)).1 111 6 = (μ.1 111 6) + 2 := ((sv_n _ (by decide)).trans (sv_s _ _ _ _))
                                  have e_1233 : (sv (sv (sv (sv (sv μ 111 8 3) 111 6 ((μ.1 111 6) + 1)) 111 13 x1) 111 6 ((μ.1 111 6) + 2)) 111 13 (256 + x1)).1 111 8 = 3 := ((sv_n _ (by decide)).trans ((sv_n _ (by decide)).trans ((sv_n _ (by decide)).trans ((sv_n _ (by decide)).trans (sv_s _ _ _ _)))))
                                  have e_1234 : wr (sv (sv (sv (sv (sv μ 111 8 3) 111 6 ((μ.1 111 6) + 1)) 111 13 x1) 111 6 ((μ.1 111 6) + 2)) 111 13 (256 + x1)) = wr μ := ((wr_cg (sv_n _ (by decide))).trans ((wr_cg (sv_n _ (by decide))).trans ((wr_cg (sv_n _ (by decide))).trans ((wr_cg (sv_n _ (by decide))).trans (wr_cg (sv_n _ (by decide)))))))
                                  have e_1235 : bd (sv (sv (sv (sv (sv μ 111 8 3) 111 6 ((μ.1 111 6) + 1)) 111 13 x1) 111 6 ((μ.1 111 6) + 2)) 111 13 (256 + x1)) = bd μ := ((bd_cg (sv_n _ (by decide)) (sv_n _ (by decide)) (sv_n _ (by decide))).trans ((bd_cg (sv_n _ (by decide)) (sv_n _ (by decide)) (sv_n _ (by decide))).trans ((bd_cg (sv_n _ (by decide)) (sv_n _ (by decide)) (sv_n _ (by decide))).trans ((bd_cg (sv_n _ (by decide)) (sv_n _ (by decide)) (sv_n _ (by decide))).trans (bd_cg (sv_n _ (by decide)) (sv_n _ (by decide)) (sv_n _ (by decide)))))))
                                  have e_1236 : wr (sv (sv (sv (sv (sv μ 111 8 3) 111 6 ((μ.1 111 6) + 1)) 111 13 x1) 111 6 ((μ.1 111 6) + 2)) 111 13 (256 + x1)) = wr μ := ((wr_cg (sv_n _ (by decide))).trans ((wr_cg (sv_n _ (by decide))).trans ((wr_cg (sv_n _ (by decide))).trans ((wr_cg (sv_n _ (by decide))).trans (wr_cg (sv_n _ (by decide)))))))
                                  have e_1237 : nn (sv (sv (sv (sv (sv μ 111 8 3) 111 6 ((μ.1 111 6) + 1)) 111 13 x1) 111 6 ((μ.1 111 6) + 2)) 111 13 (256 + x1)) = nn μ := ((nn_cg (sv_n _ (by decide)) (sv_n _ (by decide))).trans ((nn_cg (sv_n _ (by decide)) (sv_n _ (by decide))).trans ((nn_cg (sv_n _ (by decide)) (sv_n _ (by decide))).trans ((nn_cg (sv_n _ (by decide)) (sv_n _ (by decide))).trans (nn_cg (sv_n _ (by decide)) (sv_n _ (by decide)))))))
                                  exact xr_v G hret hlk dX12_signs_206 ⟨(FrM.put (FrM.put (FrM.put (FrM.put (FrM.put FrM.rf (by decide)) (by decide)) (by decide)) (by decide)) (by decide)), (fun j hj => ((sv_n _ (fun h9 => hj (by rw [h9.2]; decide))).trans ((sv_n _ (fun h9 => hj (by rw [h9.2]; decide))).trans ((sv_n _ (fun h9 => hj (by rw [h9.2]; decide))).trans ((sv_n _ (fun h9 => hj (by rw [h9.2]; decide))).trans (sv_n _ (fun h9 => hj (by rw [h9.2]; decide)))))))), (by omega), (by omega), (by omega), (by omega)⟩
                                · refine lv_iload_n hx hb dX12_signs_140 rfl (lv_at hl 2 rfl) ?_
                                  refine lv_bipush (v := iv 61) hx hb dX12_signs_141 rfl ?_
                                  refine xb_icmp_eq (tgt := 188) hx hb (by unfold ir; omega) (by unfold ir; omega) dX12_signs_143 (by decide) (fun c_143 => ?_) (fun c_143 => ?_)
                                  · refine lv_iconst (v := iv 1) hx hb dX12_signs_188 rfl ?_
                                    refine lv_goto (tgt := 193) hx hb dX12_signs_189 (by decide) ?_
                                    refine lv_istore_n (lv' := [(3, .int (iv 1)), (2, .int (iv r_9)), (0, .ref (oP ω 111)), (1, .int (iv x1))]) hx hb dX12_signs_193 rfl hl (by decide) rfl (fun ls hl => ?_)
                                    refine lv_iload_n hx hb dX12_signs_194 rfl (lv_at hl 0 rfl) ?_
                                    refine xb_if_ne (tgt := 206) hx hb (x := 1) (by unfold ir; omega) dX12_signs_195 (by decide) (fun c_195 => ?_) (fun c_195 => absurd c_195 (by decide))
                                    have e_1238 : (sv (sv (sv (sv (sv μ 111 8 3) 111 6 ((μ.1 111 6) + 1)) 111 13 x1) 111 6 ((μ.1 111 6) + 2)) 111 13 (256 + x1)).1 111 6 = (μ.1 111 6) + 2 := ((sv_n _ (by decide)).trans (sv_s _ _ _ _))
                                    have e_1239 : (sv (sv (sv (sv (sv μ 111 8 3) 111 6 ((μ.1 111 6) + 1)) 111 13 x1) 111 6 ((μ.1 111 6) + 2)) 111 13 (256 + x1)).1 111 6 = (μ.1 111 6) + 2 := ((sv_n _ (by decide)).trans (sv_s _ _ _ _))
                                    have e_1240 : (sv (sv (sv (sv (sv μ 111 8 3) 111 6 ((μ.1 111 6) + 1)) 111 13 x1) 111 6 ((μ.1 111 6) + 2)) 111 13 (256 + x1)).1 111 8 = 3 := ((sv_n _ (by decide)).trans ((sv_n _ (by decide)).trans ((sv_n _ (by decide)).trans ((sv_n _ (by decide)).trans (sv_s _ _ _ _)))))
                                    have e_1241 : wr (sv (sv (sv (sv (sv μ 111 8 3) 111 6 ((μ.1 111 6) + 1)) 111 13 x1) 111 6 ((μ.1 111 6) + 2)) 111 13 (256 + x1)) = wr μ := ((wr_cg (sv_n _ (by decide))).trans ((wr_cg (sv_n _ (by decide))).trans ((wr_cg (sv_n _ (by decide))).trans ((wr_cg (sv_n _ (by decide))).trans (wr_cg (sv_n _ (by decide)))))))
                                    have e_1242 : bd (sv (sv (sv (sv (sv μ 111 8 3) 111 6 ((μ.1 111 6) + 1)) 111 13 x1) 111 6 ((μ.1 111 6) + 2)) 111 13 (256 + x1)) = bd μ := ((bd_cg (sv_n _ (by decide)) (sv_n _ (by decide)) (sv_n _ (by decide))).trans ((bd_cg (sv_n _ (by decide)) (sv_n _ (by decide)) (sv_n _ (by decide))).trans ((bd_cg (sv_n _ (by decide)) (sv_n _ (by decide)) (sv_n _ (by decide))).trans ((bd_cg (sv_n _ (by decide)) (sv_n _ (by decide)) (sv_n _ (by decide))).trans (bd_cg (sv_n _ (by decide)) (sv_n _ (by decide)) (sv_n _ (by decide)))))))
                                    have e_1243 : wr (sv (sv (sv (sv (sv μ 111 8 3) 111 6 ((μ.1 111 6) + 1)) 111 13 x1) 111 6 ((μ.1 111 6) + 2)) 111 13 (256 + x1)) = wr μ := ((wr_cg (sv_n _ (by decide))).trans ((wr_cg (sv_n _ (by decide))).trans ((wr_cg (sv_n _ (by decide))).trans ((wr_cg (sv_n _ (by decide))).trans (wr_cg (sv_n _ (by decide)))))))
                                    have e_1244 : nn (sv (sv (sv (sv (sv μ 111 8 3) 111 6 ((μ.1 111 6) + 1)) 111 13 x1) 111 6 ((μ.1 111 6) + 2)) 111 13 (256 + x1)) = nn μ := ((nn_cg (sv_n _ (by decide)) (sv_n _ (by decide))).trans ((nn_cg (sv_n _ (by decide)) (sv_n _ (by decide))).trans ((nn_cg (sv_n _ (by decide)) (sv_n _ (by decide))).trans ((nn_cg (sv_n _ (by decide)) (sv_n _ (by decide))).trans (nn_cg (sv_n _ (by decide)) (sv_n _ (by decide)))))))
                                    exact xr_v G hret hlk dX12_signs_206 ⟨(FrM.put (FrM.put (FrM.put (FrM.put (FrM.put FrM.rf (by decide)) (by decide)) (by decide)) (by decide)) (by decide)), (fun j hj => ((sv_n _ (fun h9 => hj (by rw [h9.2]; decide))).trans ((sv_n _ (fun h9 => hj (by rw [h9.2]; decide))).trans ((sv_n _ (fun h9 => hj (by rw [h9.2]; decide))).trans ((sv_n _ (fun h9 => hj (by rw [h9.2]; decide))).trans (sv_n _ (fun h9 => hj (by rw [h9.2]; decide)))))))), (by omega), (by omega), (by omega), (by omega)⟩
                                  · refine lv_iload_n hx hb dX12_signs_146 rfl (lv_at hl 2 rfl) ?_
                                    refine lv_bipush (v := iv 60) hx hb dX12_signs_147 rfl ?_
                                    refine xb_icmp_eq (tgt := 188) hx hb (by unfold ir; omega) (by unfold ir; omega) dX12_signs_149 (by decide) (fun c_149 => ?_) (fun c_149 => ?_)
                                    · refine lv_iconst (v := iv 1) hx hb dX12_signs_188 rfl ?_
                                      refine lv_goto (tgt := 193) hx hb dX12_signs_189 (by decide) ?_
                                      refine lv_istore_n (lv' := [(3, .int (iv 1)), (2, .int (iv r_9)), (0, .ref (oP ω 111)), (1, .int (iv x1))]) hx hb dX12_signs_193 rfl hl (by decide) rfl (fun ls hl => ?_)
                                      refine lv_iload_n hx hb dX12_signs_194 rfl (lv_at hl 0 rfl) ?_
                                      refine xb_if_ne (tgt := 206) hx hb (x := 1) (by unfold ir; omega) dX12_signs_195 (by decide) (fun c_195 => ?_) (fun c_195 => absurd c_195 (by decide))
                                      have e_1245 : (sv (sv (sv (sv (sv μ 111 8 3) 111 6 ((μ.1 111 6) + 1)) 111 13 x1) 111 6 ((μ.1 111 6) + 2)) 111 13 (256 + x1)).1 111 6 = (μ.1 111 6) + 2 := ((sv_n _ (by decide)).trans (sv_s _ _ _ _))
                                      have e_1246 : (sv (sv (sv (sv (sv μ 111 8 3) 111 6 ((μ.1 111 6) + 1)) 111 13 x1) 111 6 ((μ.1 111 6) + 2)) 111 13 (256 + x1)).1 111 6 = (μ.1 111 6) + 2 := ((sv_n _ (by decide)).trans (sv_s _ _ _ _))
                                      have e_1247 : (sv (sv (sv (sv (sv μ 111 8 3) 111 6 ((μ.1 111 6) + 1)) 111 13 x1) 111 6 ((μ.1 111 6) + 2)) 111 13 (256 + x1)).1 111 8 = 3 := ((sv_n _ (by decide)).trans ((sv_n _ (by decide)).trans ((sv_n _ (by decide)).trans ((sv_n _ (by decide)).trans (sv_s _ _ _ _)))))
                                      have e_1248 : wr (sv (sv (sv (sv (sv μ 111 8 3) 111 6 ((μ.1 111 6) + 1)) 111 13 x1) 111 6 ((μ.1 111 6) + 2)) 111 13 (256 + x1)) = wr μ := ((wr_cg (sv_n _ (by decide))).trans ((wr_cg (sv_n _ (by decide))).trans ((wr_cg (sv_n _ (by decide))).trans ((wr_cg (sv_n _ (by decide))).trans (wr_cg (sv_n _ (by decide)))))))
                                      have e_1249 : bd (sv (sv (sv (sv (sv μ 111 8 3) 111 6 ((μ.1 111 6) + 1)) 111 13 x1) 111 6 ((μ.1 111 6) + 2)) 111 13 (256 + x1)) = bd μ := ((bd_cg (sv_n _ (by decide)) (sv_n _ (by decide)) (sv_n _ (by decide))).trans ((bd_cg (sv_n _ (by decide)) (sv_n _ (by decide)) (sv_n _ (by decide))).trans ((bd_cg (sv_n _ (by decide)) (sv_n _ (by decide)) (sv_n _ (by decide))).trans ((bd_cg (sv_n _ (by decide)) (sv_n _ (by decide)) (sv_n _ (by decide))).trans (bd_cg (sv_n _ (by decide)) (sv_n _ (by decide)) (sv_n _ (by decide)))))))
                                      have e_1250 : wr (sv (sv (sv (sv (sv μ 111 8 3) 111 6 ((μ.1 111 6) + 1)) 111 13 x1) 111 6 ((μ.1 111 6) + 2)) 111 13 (256 + x1)) = wr μ := ((wr_cg (sv_n _ (by decide))).trans ((wr_cg (sv_n _ (by decide))).trans ((wr_cg (sv_n _ (by decide))).trans ((wr_cg (sv_n _ (by decide))).trans (wr_cg (sv_n _ (by decide)))))))
                                      have e_1251 : nn (sv (sv (sv (sv (sv μ 111 8 3) 111 6 ((μ.1 111 6) + 1)) 111 13 x1) 111 6 ((μ.1 111 6) + 2)) 111 13 (256 + x1)) = nn μ := ((nn_cg (sv_n _ (by decide)) (sv_n _ (by decide))).trans ((nn_cg (sv_n _ (by decide)) (sv_n _ (by decide))).trans ((nn_cg (sv_n _ (by decide)) (sv_n _ (by decide))).trans ((nn_cg (sv_n _ (by decide)) (sv_n _ (by decide))).trans (nn_cg (sv_n _ (by decide)) (sv_n _ (by decide)))))))
                                      exact xr_v G hret hlk dX12_signs_206 ⟨(FrM.put (FrM.put (FrM.put (FrM.put (FrM.put FrM.rf (by decide)) (by decide)) (by decide)) (by decide)) (by decide)), (fun j hj => ((sv_n _ (fun h9 => hj (by rw [h9.2]; decide))).trans ((sv_n _ (fun h9 => hj (by rw [h9.2]; decide))).trans ((sv_n _ (fun h9 => hj (by rw [h9.2]; decide))).trans ((sv_n _ (fun h9 => hj (by rw [h9.2]; decide))).trans (sv_n _ (fun h9 => hj (by rw [h9.2]; decide)))))))), (by omega), (by omega), (by omega), (by omega)⟩
                                    · refine lv_iload_n hx hb dX12_signs_152 rfl (lv_at hl 2 rfl) ?_
                                      refine lv_bipush (v := iv 62) hx hb dX12_signs_153 rfl ?_
                                      refine xb_icmp_eq (tgt := 188) hx hb (by unfold ir; omega) (by unfold ir; omega) dX12_signs_155 (by decide) (fun c_155 => ?_) (fun c_155 => ?_)
                                      · refine lv_iconst (v := iv 1) hx hb dX12_signs_188 rfl ?_
                                        refine lv_goto (tgt := 193) hx hb dX12_signs_189 (by decide) ?_
                                        refine lv_istore_n (lv' := [(3, .int (iv 1)), (2, .int (iv r_9)), (0, .ref (oP ω 111)), (1, .int (iv x1))]) hx hb dX12_signs_193 rfl hl (by decide) rfl (fun ls hl => ?_)
                                        refine lv_iload_n hx hb dX12_signs_194 rfl (lv_at hl 0 rfl) ?_
                                        refine xb_if_ne (tgt := 206) hx hb (x := 1) (by unfold ir; omega) dX12_signs_195 (by decide) (fun c_195 => ?_) (fun c_195 => absurd c_195 (by decide))
                                        have e_1252 : (sv (sv (sv (sv (sv μ 111 8 3) 111 6 ((μ.1 111 6) + 1)) 111 13 x1) 111 6 ((μ.1 111 6) + 2)) 111 13 (256 + x1)).1 111 6 = (μ.1 111 6) + 2 := ((sv_n _ (by decide)).trans (sv_s _ _ _ _))
                                        have e_1253 : (sv (sv (sv (sv (sv μ 111 8 3) 111 6 ((μ.1 111 6) + 1)) 111 13 x1) 111 6 ((μ.1 111 6) + 2)) 111 13 (256 + x1)).1 111 6 = (μ.1 111 6) + 2 := ((sv_n _ (by decide)).trans (sv_s _ _ _ _))
                                        have e_1254 : (sv (sv (sv (sv (sv μ 111 8 3) 111 6 ((μ.1 111 6) + 1)) 111 13 x1) 111 6 ((μ.1 111 6) + 2)) 111 13 (256 + x1)).1 111 8 = 3 := ((sv_n _ (by decide)).trans ((sv_n _ (by decide)).trans ((sv_n _ (by decide)).trans ((sv_n _ (by decide)).trans (sv_s _ _ _ _)))))
                                        have e_1255 : wr (sv (sv (sv (sv (sv μ 111 8 3) 111 6 ((μ.1 111 6) + 1)) 111 13 x1) 111 6 ((μ.1 111 6) + 2)) 111 13 (256 + x1)) = wr μ := ((wr_cg (sv_n _ (by decide))).trans ((wr_cg (sv_n _ (by decide))).trans ((wr_cg (sv_n _ (by decide))).trans ((wr_cg (sv_n _ (by decide))).trans (wr_cg (sv_n _ (by decide)))))))
                                        have e_1256 : bd (sv (sv (sv (sv (sv μ 111 8 3) 111 6 ((μ.1 111 6) + 1)) 111 13 x1) 111 6 ((μ.1 111 6) + 2)) 111 13 (256 + x1)) = bd μ := ((bd_cg (sv_n _ (by decide)) (sv_n _ (by decide)) (sv_n _ (by decide))).trans ((bd_cg (sv_n _ (by decide)) (sv_n _ (by decide)) (sv_n _ (by decide))).trans ((bd_cg (sv_n _ (by decide)) (sv_n _ (by decide)) (sv_n _ (by decide))).trans ((bd_cg (sv_n _ (by decide)) (sv_n _ (by decide)) (sv_n _ (by decide))).trans (bd_cg (sv_n _ (by decide)) (sv_n _ (by decide)) (sv_n _ (by decide)))))))
                                        have e_1257 : wr (sv (sv (sv (sv (sv μ 111 8 3) 111 6 ((μ.1 111 6) + 1)) 111 13 x1) 111 6 ((μ.1 111 6) + 2)) 111 13 (256 + x1)) = wr μ := ((wr_cg (sv_n _ (by decide))).trans ((wr_cg (sv_n _ (by decide))).trans ((wr_cg (sv_n _ (by decide))).trans ((wr_cg (sv_n _ (by decide))).trans (wr_cg (sv_n _ (by decide)))))))
                                        have e_1258 : nn (sv (sv (sv (sv (sv μ 111 8 3) 111 6 ((μ.1 111 6) + 1)) 111 13 x1) 111 6 ((μ.1 111 6) + 2)) 111 13 (256 + x1)) = nn μ := ((nn_cg (sv_n _ (by decide)) (sv_n _ (by decide))).trans ((nn_cg (sv_n _ (by decide)) (sv_n _ (by decide))).trans ((nn_cg (sv_n _ (by decide)) (sv_n _ (by decide))).trans ((nn_cg (sv_n _ (by decide)) (sv_n _ (by decide))).trans (nn_cg (sv_n _ (by decide)) (sv_n _ (by decide)))))))
                                        exact xr_v G hret hlk dX12_signs_206 ⟨(FrM.put (FrM.put (FrM.put (FrM.put (FrM.put FrM.rf (by decide)) (by decide)) (by decide)) (by decide)) (by decide)), (fun j hj => ((sv_n _ (fun h9 => hj (by rw [h9.2]; decide))).trans ((sv_n _ (fun h9 => hj (by rw [h9.2]; decide))).trans ((sv_n _ (fun h9 => hj (by rw [h9.2]; decide))).trans ((sv_n _ (fun h9 => hj (by rw [h9.2]; decide))).trans (sv_n _ (fun h9 => hj (by rw [h9.2]; decide)))))))), (by omega), (by omega), (by omega), (by omega)⟩
                                      · refine lv_iload_n hx hb dX12_signs_158 rfl (lv_at hl 2 rfl) ?_
                                        refine lv_bipush (v := iv 43) hx hb dX12_signs_159 rfl ?_
                                        refine xb_icmp_eq (tgt := 188) hx hb (by unfold ir; omega) (by unfold ir; omega) dX12_signs_161 (by decide) (fun c_161 => ?_) (fun c_161 => ?_)
                                        · refine lv_iconst (v := iv 1) hx hb dX12_signs_188 rfl ?_
                                          refine lv_goto (tgt := 193) hx hb dX12_signs_189 (by decide) ?_
                                          refine lv_istore_n (lv' := [(3, .int (iv 1)), (2, .int (iv r_9)), (0, .ref (oP ω 111)), (1, .int (iv x1))]) hx hb dX12_signs_193 rfl hl (by decide) rfl (fun ls hl => ?_)
                                          refine lv_iload_n hx hb dX12_signs_194 rfl (lv_at hl 0 rfl) ?_
                                          refine xb_if_ne (tgt := 206) hx hb (x := 1) (by unfold ir; omega) dX12_signs_195 (by decide) (fun c_195 => ?_) (fun c_195 => absurd c_195 (by decide))
                                          have e_1259 : (sv (sv (sv (sv (sv μ 111 8 3) 111 6 ((μ.1 111 6) + 1)) 111 13 x1) 111 6 ((μ.1 111 6) + 2)) 111 13 (256 + x1)).1 111 6 = (μ.1 111 6) + 2 := ((sv_n _ (by decide)).trans (sv_s _ _ _ _))
                                          have e_1260 : (sv (sv (sv (sv (sv μ 111 8 3) 111 6 ((μ.1 111 6) + 1)) 111 13 x1) 111 6 ((μ.1 111 6) + 2)) 111 13 (256 + x1)).1 111 6 = (μ.1 111 6) + 2 := ((sv_n _ (by decide)).trans (sv_s _ _ _ _))
                                          have e_1261 : (sv (sv (sv (sv (sv μ 111 8 3) 111 6 ((μ.1 111 6) + 1)) 111 13 x1) 111 6 ((μ.1 111 6) + 2)) 111 13 (256 + x1)).1 111 8 = 3 := ((sv_n _ (by decide)).trans ((sv_n _ (by decide)).trans ((sv_n _ (by decide)).trans ((sv_n _ (by decide)).trans (sv_s _ _ _ _)))))
                                          have e_1262 : wr (sv (sv (sv (sv (sv μ 111 8 3) 111 6 ((μ.1 111 6) + 1)) 111 13 x1) 111 6 ((μ.1 111 6) + 2)) 111 13 (256 + x1)) = wr μ := ((wr_cg (sv_n _ (by decide))).trans ((wr_cg (sv_n _ (by decide))).trans ((wr_cg (sv_n _ (by decide))).trans ((wr_cg (sv_n _ (by decide))).trans (wr_cg (sv_n _ (by decide)))))))
                                          have e_1263 : bd (sv (sv (sv (sv (sv μ 111 8 3) 111 6 ((μ.1 111 6) + 1)) 111 13 x1) 111 6 ((μ.1 111 6) + 2)) 111 13 (256 + x1)) = bd μ := ((bd_cg (sv_n _ (by decide)) (sv_n _ (by decide)) (sv_n _ (by decide))).trans ((bd_cg (sv_n _ (by decide)) (sv_n _ (by decide)) (sv_n _ (by decide))).trans ((bd_cg (sv_n _ (by decide)) (sv_n _ (by decide)) (sv_n _ (by decide))).trans ((bd_cg (sv_n _ (by decide)) (sv_n _ (by decide)) (sv_n _ (by decide))).trans (bd_cg (sv_n _ (by decide)) (sv_n _ (by decide)) (sv_n _ (by decide)))))))
                                          have e_1264 : wr (sv (sv (sv (sv (sv μ 111 8 3) 111 6 ((μ.1 111 6) + 1)) 111 13 x1) 111 6 ((μ.1 111 6) + 2)) 111 13 (256 + x1)) = wr μ := ((wr_cg (sv_n _ (by decide))).trans ((wr_cg (sv_n _ (by decide))).trans ((wr_cg (sv_n _ (by decide))).trans ((wr_cg (sv_n _ (by decide))).trans (wr_cg (sv_n _ (by decide)))))))
                                          have e_1265 : nn (sv (sv (sv (sv (sv μ 111 8 3) 111 6 ((μ.1 111 6) + 1)) 111 13 x1) 111 6 ((μ.1 111 6) + 2)) 111 13 (256 + x1)) = nn μ := ((nn_cg (sv_n _ (by decide)) (sv_n _ (by decide))).trans ((nn_cg (sv_n _ (by decide)) (sv_n _ (by decide))).trans ((nn_cg (sv_n _ (by decide)) (sv_n _ (by decide))).trans ((nn_cg (sv_n _ (by decide)) (sv_n _ (by decide))).trans (nn_cg (sv_n _ (by decide)) (sv_n _ (by decide)))))))
                                          exact xr_v G hret hlk dX12_signs_206 ⟨(FrM.put (FrM.put (FrM.put (FrM.put (FrM.put FrM.rf (by decide)) (by decide)) (by decide)) (by decide)) (by decide)), (fun j hj => ((sv_n _ (fun h9 => hj (by rw [h9.2]; decide))).trans ((sv_n _ (fun h9 => hj (by rw [h9.2]; decide))).trans ((sv_n _ (fun h9 => hj (by rw [h9.2]; decide))).trans ((sv_n _ (fun h9 => hj (by rw [h9.2]; decide))).trans (sv_n _ (fun h9 => hj (by rw [h9.2]; decide)))))))), (by omega), (by omega), (by omega), (by omega)⟩
                                        · refine lv_iload_n hx hb dX12_signs_164 rfl (lv_at hl 2 rfl) ?_
                                          refine lv_bipush (v := iv 45) hx hb dX12_signs_165 rfl ?_
                                          refine xb_icmp_eq (tgt := 188) hx hb (by unfold ir; omega) (by unfold ir; omega) dX12_signs_167 (by decide) (fun c_167 => ?_) (fun c_167 => ?_)
                                          · refine lv_iconst (v := iv 1) hx hb dX12_signs_188 rfl ?_
                                            refine lv_goto (tgt := 193) hx hb dX12_signs_189 (by decide) ?_
                                            refine lv_istore_n (lv' := [(3, .int (iv 1)), (2, .int (iv r_9)), (0, .ref (oP ω 111)), (1, .int (iv x1))]) hx hb dX12_signs_193 rfl hl (by decide) rfl (fun ls hl => ?_)
                                            refine lv_iload_n hx hb dX12_signs_194 rfl (lv_at hl 0 rfl) ?_
                                            refine xb_if_ne (tgt := 206) hx hb (x := 1) (by unfold ir; omega) dX12_signs_195 (by decide) (fun c_195 => ?_) (fun c_195 => absurd c_195 (by decide))
                                            have e_1266 : (sv (sv (sv (sv (sv μ 111 8 3) 111 6 ((μ.1 111 6) + 1)) 111 13 x1) 111 6 ((μ.1 111 6) + 2)) 111 13 (256 + x1)).1 111 6 = (μ.1 111 6) + 2 := ((sv_n _ (by decide)).trans (sv_s _ _ _ _))
                                            have e_1267 : (sv (sv (sv (sv (sv μ 111 8 3) 111 6 ((μ.1 111 6) + 1)) 111 13 x1) 111 6 ((μ.1 111 6) + 2)) 111 13 (256 + x1)).1 111 6 = (μ.1 111 6) + 2 := ((sv_n _ (by decide)).trans (sv_s _ _ _ _))
                                            have e_1268 : (sv (sv (sv (sv (sv μ 111 8 3) 111 6 ((μ.1 111 6) + 1)) 111 13 x1) 111 6 ((μ.1 111 6) + 2)) 111 13 (256 + x1)).1 111 8 = 3 := ((sv_n _ (by decide)).trans ((sv_n _ (by decide)).trans ((sv_n _ (by decide)).trans ((sv_n _ (by decide)).trans (sv_s _ _ _ _)))))
                                            have e_1269 : wr (sv (sv (sv (sv (sv μ 111 8 3) 111 6 ((μ.1 111 6) + 1)) 111 13 x1) 111 6 ((μ.1 111 6) + 2)) 111 13 (256 + x1)) = wr μ := ((wr_cg (sv_n _ (by decide))).trans ((wr_cg (sv_n _ (by decide))).trans ((wr_cg (sv_n _ (by decide))).trans ((wr_cg (sv_n _ (by decide))).trans (wr_cg (sv_n _ (by decide)))))))
                                            have e_1270 : bd (sv (sv (sv (sv (sv μ 111 8 3) 111 6 ((μ.1 111 6) + 1)) 111 13 x1) 111 6 ((μ.1 111 6) + 2)) 111 13 (256 + x1)) = bd μ := ((bd_cg (sv_n _ (by decide)) (sv_n _ (by decide)) (sv_n _ (by decide))).trans ((bd_cg (sv_n _ (by decide)) (sv_n _ (by decide)) (sv_n _ (by decide))).trans ((bd_cg (sv_n _ (by decide)) (sv_n _ (by decide)) (sv_n _ (by decide))).trans ((bd_cg (sv_n _ (by decide)) (sv_n _ (by decide)) (sv_n _ (by decide))).trans (bd_cg (sv_n _ (by decide)) (sv_n _ (by decide)) (sv_n _ (by decide)))))))
                                            have e_1271 : wr (sv (sv (sv (sv (sv μ 111 8 3) 111 6 ((μ.1 111 6) + 1)) 111 13 x1) 111 6 ((μ.1 111 6) + 2)) 111 13 (256 + x1)) = wr μ := ((wr_cg (sv_n _ (by decide))).trans ((wr_cg (sv_n _ (by decide))).trans ((wr_cg (sv_n _ (by decide))).trans ((wr_cg (sv_n _ (by decide))).trans (wr_cg (sv_n _ (by decide)))))))
                                            have e_1272 : nn (sv (sv (sv (sv (sv μ 111 8 3) 111 6 ((μ.1 111 6) + 1)) 111 13 x1) 111 6 ((μ.1 111 6) + 2)) 111 13 (256 + x1)) = nn μ := ((nn_cg (sv_n _ (by decide)) (sv_n _ (by decide))).trans ((nn_cg (sv_n _ (by decide)) (sv_n _ (by decide))).trans ((nn_cg (sv_n _ (by decide)) (sv_n _ (by decide))).trans ((nn_cg (sv_n _ (by decide)) (sv_n _ (by decide))).trans (nn_cg (sv_n _ (by decide)) (sv_n _ (by decide)))))))
                                            exact xr_v G hret hlk dX12_signs_206 ⟨(FrM.put (FrM.put (FrM.put (FrM.put (FrM.put FrM.rf (by decide)) (by decide)) (by decide)) (by decide)) (by decide)), (fun j hj => ((sv_n _ (fun h9 => hj (by rw [h9.2]; decide))).trans ((sv_n _ (fun h9 => hj (by rw [h9.2]; decide))).trans ((sv_n _ (fun h9 => hj (by rw [h9.2]; decide))).trans ((sv_n _ (fun h9 => hj (by rw [h9.2]; decide))).trans (sv_n _ (fun h9 => hj (by rw [h9.2]; decide)))))))), (by omega), (by omega), (by omega), (by omega)⟩
                                          · refine lv_iload_n hx hb dX12_signs_170 rfl (lv_at hl 2 rfl) ?_
                                            refine lv_bipush (v := iv 42) hx hb dX12_signs_171 rfl ?_
                                            refine xb_icmp_eq (tgt := 188) hx hb (by unfold ir; omega) (by unfold ir; omega) dX12_signs_173 (by decide) (fun c_173 => ?_) (fun c_173 => ?_)
                                            · refine lv_iconst (v := iv 1) hx hb dX12_signs_188 rfl ?_
                                              refine lv_goto (tgt := 193) hx hb dX12_signs_189 (by decide) ?_
                                              refine lv_istore_n (lv' := [(3, .int (iv 1)), (2, .int (iv r_9)), (0, .ref (oP ω 111)), (1, .int (iv x1))]) hx hb dX12_signs_193 rfl hl (by decide) rfl (fun ls hl => ?_)
                                              refine lv_iload_n hx hb dX12_signs_194 rfl (lv_at hl 0 rfl) ?_
                                              refine xb_if_ne (tgt := 206) hx hb (x := 1) (by unfold ir; omega) dX12_signs_195 (by decide) (fun c_195 => ?_) (fun c_195 => absurd c_195 (by decide))
                                              have e_1273 : (sv (sv (sv (sv (sv μ 111 8 3) 111 6 ((μ.1 111 6) + 1)) 111 13 x1) 111 6 ((μ.1 111 6) + 2)) 111 13 (256 + x1)).1 111 6 = (μ.1 111 6) + 2 := ((sv_n _ (by decide)).trans (sv_s _ _ _ _))
                                              have e_1274 : (sv (sv (sv (sv (sv μ 111 8 3) 111 6 ((μ.1 111 6) + 1)) 111 13 x1) 111 6 ((μ.1 111 6) + 2)) 111 13 (256 + x1)).1 111 6 = (μ.1 111 6) + 2 := ((sv_n _ (by decide)).trans (sv_s _ _ _ _))
                                              have e_1275 : (sv (sv (sv (sv (sv μ 111 8 3) 111 6 ((μ.1 111 6) + 1)) 111 13 x1) 111 6 ((μ.1 111 6) + 2)) 111 13 (256 + x1)).1 111 8 = 3 := ((sv_n _ (by decide)).trans ((sv_n _ (by decide)).trans ((sv_n _ (by decide)).trans ((sv_n _ (by decide)).trans (sv_s _ _ _ _)))))
                                              have e_1276 : wr (sv (sv (sv (sv (sv μ 111 8 3) 111 6 ((μ.1 111 6) + 1)) 111 13 x1) 111 6 ((μ.1 111 6) + 2)) 111 13 (256 + x1)) = wr μ := ((wr_cg (sv_n _ (by decide))).trans ((wr_cg (sv_n _ (by decide))).trans ((wr_cg (sv_n _ (by decide))).trans ((wr_cg (sv_n _ (by decide))).trans (wr_cg (sv_n _ (by decide)))))))
                                              have e_1277 : bd (sv (sv (sv (sv (sv μ 111 8 3) 111 6 ((μ.1 111 6) + 1)) 111 13 x1) 111 6 ((μ.1 111 6) + 2)) 111 13 (256 + x1)) = bd μ := ((bd_cg (sv_n _ (by decide)) (sv_n _ (by decide)) (sv_n _ (by decide))).trans ((bd_cg (sv_n _ (by decide)) (sv_n _ (by decide)) (sv_n _ (by decide))).trans ((bd_cg (sv_n _ (by decide)) (sv_n _ (by decide)) (sv_n _ (by decide))).trans ((bd_cg (sv_n _ (by decide)) (sv_n _ (by decide)) (sv_n _ (by decide))).trans (bd_cg (sv_n _ (by decide)) (sv_n _ (by decide)) (sv_n _ (by decide)))))))
                                              have e_1278 : wr (sv (sv (sv (sv (sv μ 111 8 3) 111 6 ((μ.1 111 6) + 1)) 111 13 x1) 111 6 ((μ.1 111 6) + 2)) 111 13 (256 + x1)) = wr μ := ((wr_cg (sv_n _ (by decide))).trans ((wr_cg (sv_n _ (by decide))).trans ((wr_cg (sv_n _ (by decide))).trans ((wr_cg (sv_n _ (by decide))).trans (wr_cg (sv_n _ (by decide)))))))
                                              have e_1279 : nn (sv (sv (sv (sv (sv μ 111 8 3) 111 6 ((μ.1 111 6) + 1)) 111 13 x1) 111 6 ((μ.1 111 6) + 2)) 111 13 (256 + x1)) = nn μ := ((nn_cg (sv_n _ (by decide)) (sv_n _ (by decide))).trans ((nn_cg (sv_n _ (by decide)) (sv_n _ (by decide))).trans ((nn_cg (sv_n _ (by decide)) (sv_n _ (by decide))).trans ((nn_cg (sv_n _ (by decide)) (sv_n _ (by decide))).trans (nn_cg (sv_n _ (by decide)) (sv_n _ (by decide)))))))
                                              exact xr_v G hret hlk dX12_signs_206 ⟨(FrM.put (FrM.put (FrM.put (FrM.put (FrM.put FrM.rf (by decide)) (by decide)) (by decide)) (by decide)) (by decide)), (fun j hj => ((sv_n _ (fun h9 => hj (by rw [h9.2]; decide))).trans ((sv_n _ (fun h9 => hj (by rw [h9.2]; decide))).trans ((sv_n _ (fun h9 => hj (by rw [h9.2]; decide))).trans ((sv_n _ (fun h9 => hj (by rw [h9.2]; decide))).trans (sv_n _ (fun h9 => hj (by rw [h9.2]; decide)))))))), (by omega), (by omega), (by omega), (by omega)⟩
                                            · refine lv_iload_n hx hb dX12_signs_176 rfl (lv_at hl 2 rfl) ?_
                                              refine lv_bipush (v := iv 47) hx hb dX12_signs_177 rfl ?_
                                              refine xb_icmp_eq (tgt := 188) hx hb (by unfold ir; omega) (by unfold ir; omega) dX12_signs_179 (by decide) (fun c_179 => ?_) (fun c_179 => ?_)
                                              · refine lv_iconst (v := iv 1) hx hb dX12_signs_188 rfl ?_
                                                refine lv_goto (tgt := 193) hx hb dX12_signs_189 (by decide) ?_
                                                refine lv_istore_n (lv' := [(3, .int (iv 1)), (2, .int (iv r_9)), (0, .ref (oP ω 111)), (1, .int (iv x1))]) hx hb dX12_signs_193 rfl hl (by decide) rfl (fun ls hl => ?_)
                                                refine lv_iload_n hx hb dX12_signs_194 rfl (lv_at hl 0 rfl) ?_
                                                refine xb_if_ne (tgt := 206) hx hb (x := 1) (by unfold ir; omega) dX12_signs_195 (by decide) (fun c_195 => ?_) (fun c_195 => absurd c_195 (by decide))
                                                have e_1280 : (sv (sv (sv (sv (sv μ 111 8 3) 111 6 ((μ.1 111 6) + 1)) 111 13 x1) 111 6 ((μ.1 111 6) + 2)) 111 13 (256 + x1)).1 111 6 = (μ.1 111 6) + 2 := ((sv_n _ (by decide)).trans (sv_s _ _ _ _))
                                                have e_1281 : (sv (sv (sv (sv (sv μ 111 8 3) 111 6 ((μ.1 111 6) + 1)) 111 13 x1) 111 6 ((μ.1 111 6) + 2)) 111 13 (256 + x1)).1 111 6 = (μ.1 111 6) + 2 := ((sv_n _ (by decide)).trans (sv_s _ _ _ _))
                                                have e_1282 : (sv (sv (sv (sv (sv μ 111 8 3) 111 6 ((μ.1 111 6) + 1)) 111 13 x1) 111 6 ((μ.1 111 6) + 2)) 111 13 (256 + x1)).1 111 8 = 3 := ((sv_n _ (by decide)).trans ((sv_n _ (by decide)).trans ((sv_n _ (by decide)).trans ((sv_n _ (by decide)).trans (sv_s _ _ _ _)))))
                                                have e_1283 : wr (sv (sv (sv (sv (sv μ 111 8 3) 111 6 ((μ.1 111 6) + 1)) 111 13 x1) 111 6 ((μ.1 111 6) + 2)) 111 13 (256 + x1)) = wr μ := ((wr_cg (sv_n _ (by decide))).trans ((wr_cg (sv_n _ (by decide))).trans ((wr_cg (sv_n _ (by decide))).trans ((wr_cg (sv_n _ (by decide))).trans (wr_cg (sv_n _ (by decide)))))))
                                                have e_1284 : bd (sv (sv (sv (sv (sv μ 111 8 3) 111 6 ((μ.1 111 6) + 1)) 111 13 x1) 111 6 ((μ.1 111 6) + 2)) 111 13 (256 + x1)) = bd μ := ((bd_cg (sv_n _ (by decide)) (sv_n _ (by decide)) (sv_n _ (by decide))).trans ((bd_cg (sv_n _ (by decide)) (sv_n _ (by decide)) (sv_n _ (by decide))).trans ((bd_cg (sv_n _ (by decide)) (sv_n _ (by decide)) (sv_n _ (by decide))).trans ((bd_cg (sv_n _ (by decide)) (sv_n _ (by decide)) (sv_n _ (by decide))).trans (bd_cg (sv_n _ (by decide)) (sv_n _ (by decide)) (sv_n _ (by decide)))))))
                                                have e_1285 : wr (sv (sv (sv (sv (sv μ 111 8 3) 111 6 ((μ.1 111 6) + 1)) 111 13 x1) 111 6 ((μ.1 111 6) + 2)) 111 13 (256 + x1)) = wr μ := ((wr_cg (sv_n _ (by decide))).trans ((wr_cg (sv_n _ (by decide))).trans ((wr_cg (sv_n _ (by decide))).trans ((wr_cg (sv_n _ (by decide))).trans (wr_cg (sv_n _ (by decide)))))))
                                                have e_1286 : nn (sv (sv (sv (sv (sv μ 111 8 3) 111 6 ((μ.1 111 6) + 1)) 111 13 x1) 111 6 ((μ.1 111 6) + 2)) 111 13 (256 + x1)) = nn μ := ((nn_cg (sv_n _ (by decide)) (sv_n _ (by decide))).trans ((nn_cg (sv_n _ (by decide)) (sv_n _ (by decide))).trans ((nn_cg (sv_n _ (by decide)) (sv_n _ (by decide))).trans ((nn_cg (sv_n _ (by decide)) (sv_n _ (by decide))).trans (nn_cg (sv_n _ (by decide)) (sv_n _ (by decide)))))))
                                                exact xr_v G hret hlk dX12_signs_206 ⟨(FrM.put (FrM.put (FrM.put (FrM.put (FrM.put FrM.rf (by decide)) (by decide)) (by decide)) (by decide)) (by decide)), (fun j hj => ((sv_n _ (fun h9 => hj (by rw [h9.2]; decide))).trans ((sv_n _ (fun h9 => hj (by rw [h9.2]; decide))).trans ((sv_n _ (fun h9 => hj (by rw [h9.2]; decide))).trans ((sv_n _ (fun h9 => hj (by rw [h9.2]; decide))).trans (sv_n _ (fun h9 => hj (by rw [h9.2]; decide)))))))), (by omega), (by omega), (by omega), (by omega)⟩
                                              · refine lv_iload_n hx hb dX12_signs_182 rfl (lv_at hl 2 rfl) ?_
                                                refine lv_bipush (v := iv 37) hx hb dX12_signs_183 rfl ?_
                                                refine xb_icmp_ne (tgt := 192) hx hb (by unfold ir; omega) (by unfold ir; omega) dX12_signs_185 (by decide) (fun c_185 => ?_) (fun c_185 => ?_)
                                                · refine lv_iconst (v := iv 0) hx hb dX12_signs_192 rfl ?_
                                                  refine lv_istore_n (lv' := [(3, .int (iv 0)), (2, .int (iv r_9)), (0, .ref (oP ω 111)), (1, .int (iv x1))]) hx hb dX12_signs_193 rfl hl (by decide) rfl (fun ls hl => ?_)
                                                  refine lv_iload_n hx hb dX12_signs_194 rfl (lv_at hl 0 rfl) ?_
                                                  refine xb_if_ne (tgt := 206) hx hb (x := 0) (by unfold ir; omega) dX12_signs_195 (by decide) (fun c_195 => absurd c_195 (by decide)) (fun c_195 => ?_)
                                                  refine lv_aload_n hx hb dX12_signs_198 rfl (lv_at hl 2 rfl) ?_
                                                  refine lv_aload_n hx hb dX12_signs_199 rfl (lv_at hl 2 rfl) ?_
                                                  refine xa_geti G fd_X12 (a := 111) (x := μ.1 111 9) 9 rfl (by decide) rfl (wm 7 158 rfl rfl) ⟨rfl, rfl, rfl⟩ dX12_signs_200 rfl ((sv_n _ (by decide)).trans ((sv_n _ (by decide)).trans ((sv_n _ (by decide)).trans ((sv_n _ (by decide)).trans (sv_n _ (by decide)))))) ?_
                                                  have hr_1287 : -2147483648 ≤ μ.1 111 9 ∧ μ.1 111 9 ≤ 2147483647 := by have h9 := G.hr (a := 111) (k := 9) rfl; rw [show (sv (sv (sv (sv (sv μ 111 8 3) 111 6 ((μ.1 111 6) + 1)) 111 13 x1) 111 6 ((μ.1 111 6) + 2)) 111 13 (256 + x1)).1 111 9 = μ.1 111 9 from ((sv_n _ (by decide)).trans ((sv_n _ (by decide)).trans ((sv_n _ (by decide)).trans ((sv_n _ (by decide)).trans (sv_n _ (by decide))))))] at h9; exact h9
                                                  have e_1288 : (sv (sv (sv (sv (sv μ 111 8 3) 111 6 ((μ.1 111 6) + 1)) 111 13 x1) 111 6 ((μ.1 111 6) + 2)) 111 13 (256 + x1)).1 111 9 = μ.1 111 9 := ((sv_n _ (by decide)).trans ((sv_n _ (by decide)).trans ((sv_n _ (by decide)).trans ((sv_n _ (by decide)).trans (sv_n _ (by decide))))))
                                                  refine xc_vV G (b := 111) (rest := []) (As := [.int (iv (μ.1 111 9))]) (c_X12_wrong ω l (sv (sv (sv (sv (sv μ 111 8 3) 111 6 ((μ.1 111 6) + 1)) 111 13 x1) 111 6 ((μ.1 111 6) + 2)) 111 13 (256 + x1)) (μ.1 111 9) (by unfold ir; omega) (by omega)) (wm 9 22 rfl rfl) (wm 9 24 rfl rfl) (wm 0 123 rfl rfl) rfl rfl (by decide) rfl (wm 1 18 rfl rfl) (wm 9 25 rfl rfl) (by decide) hR (by decide) (n := 1) rfl rfl (Nat.le_of_ble_eq_true rfl) hl.1 dX12_signs_203 (fun μ1289 ρ d0 H locs hp G => ?_)
                                                  obtain ⟨F_1290, hp_1291, hp_1292⟩ := hp
                                                  have hw_1293 := wr_r (μ := μ1289)
                                                  have e_1294 : μ1289.1 111 6 = (μ.1 111 6) + 2 := ((hp_1291 6 (by decide)).trans ((sv_n _ (by decide)).trans (sv_s _ _ _ _)))
                                                  have e_1295 : μ1289.1 111 6 = (μ.1 111 6) + 2 := ((hp_1291 6 (by decide)).trans ((sv_n _ (by decide)).trans (sv_s _ _ _ _)))
                                                  have e_1296 : μ1289.1 111 8 = 3 := ((hp_1291 8 (by decide)).trans ((sv_n _ (by decide)).trans ((sv_n _ (by decide)).trans ((sv_n _ (by decide)).trans ((sv_n _ (by decide)).trans (sv_s _ _ _ _))))))
                                                  exact xr_v G hret hlk dX12_signs_206 ⟨(FrM.tr (FrM.put (FrM.put (FrM.put (FrM.put (FrM.put FrM.rf (by decide)) (by decide)) (by decide)) (by decide)) (by decide)) F_1290 (by decide)), (fun j hj => ((hp_1291 j (fun h9 => hj ((by decide : ∀ x ∈ ([15] : List Int), x ∈ ([6, 8, 13, 15] : List Int)) j h9))).trans ((sv_n _ (fun h9 => hj (by rw [h9.2]; decide))).trans ((sv_n _ (fun h9 => hj (by rw [h9.2]; decide))).trans ((sv_n _ (fun h9 => hj (by rw [h9.2]; decide))).trans ((sv_n _ (fun h9 => hj (by rw [h9.2]; decide))).trans (sv_n _ (fun h9 => hj (by rw [h9.2]; decide))))))))), (by omega), (by omega), (by omega), (by omega)⟩
                                                · refine lv_iconst (v := iv 1) hx hb dX12_signs_188 rfl ?_
                                                  refine lv_goto (tgt := 193) hx hb dX12_signs_189 (by decide) ?_
                                                  refine lv_istore_n (lv' := [(3, .int (iv 1)), (2, .int (iv r_9)), (0, .ref (oP ω 111)), (1, .int (iv x1))]) hx hb dX12_signs_193 rfl hl (by decide) rfl (fun ls hl => ?_)
                                                  refine lv_iload_n hx hb dX12_signs_194 rfl (lv_at hl 0 rfl) ?_
                                                  refine xb_if_ne (tgt := 206) hx hb (x := 1) (by unfold ir; omega) dX12_signs_195 (by decide) (fun c_195 => ?_) (fun c_195 => absurd c_195 (by decide))
                                                  have e_1297 : (sv (sv (sv (sv (sv μ 111 8 3) 111 6 ((μ.1 111 6) + 1)) 111 13 x1) 111 6 ((μ.1 111 6) + 2)) 111 13 (256 + x1)).1 111 6 = (μ.1 111 6) + 2 := ((sv_n _ (by decide)).trans (sv_s _ _ _ _))
                                                  have e_1298 : (sv (sv (sv (sv (sv μ 111 8 3) 111 6 ((μ.1 111 6) + 1)) 111 13 x1) 111 6 ((μ.1 111 6) + 2)) 111 13 (256 + x1)).1 111 6 = (μ.1 111 6) + 2 := ((sv_n _ (by decide)).trans (sv_s _ _ _ _))
                                                  have e_1299 : (sv (sv (sv (sv (sv μ 111 8 3) 111 6 ((μ.1 111 6) + 1)) 111 13 x1) 111 6 ((μ.1 111 6) + 2)) 111 13 (256 + x1)).1 111 8 = 3 := ((sv_n _ (by decide)).trans ((sv_n _ (by decide)).trans ((sv_n _ (by decide)).trans ((sv_n _ (by decide)).trans (sv_s _ _ _ _)))))
                                                  have e_1300 : wr (sv (sv (sv (sv (sv μ 111 8 3) 111 6 ((μ.1 111 6) + 1)) 111 13 x1) 111 6 ((μ.1 111 6) + 2)) 111 13 (256 + x1)) = wr μ := ((wr_cg (sv_n _ (by decide))).trans ((wr_cg (sv_n _ (by decide))).trans ((wr_cg (sv_n _ (by decide))).trans ((wr_cg (sv_n _ (by decide))).trans (wr_cg (sv_n _ (by decide)))))))
                                                  have e_1301 : bd (sv (sv (sv (sv (sv μ 111 8 3) 111 6 ((μ.1 111 6) + 1)) 111 13 x1) 111 6 ((μ.1 111 6) + 2)) 111 13 (256 + x1)) = bd μ := ((bd_cg (sv_n _ (by decide)) (sv_n _ (by decide)) (sv_n _ (by decide))).trans ((bd_cg (sv_n _ (by decide)) (sv_n _ (by decide)) (sv_n _ (by decide))).trans ((bd_cg (sv_n _ (by decide)) (sv_n _ (by decide)) (sv_n _ (by decide))).trans ((bd_cg (sv_n _ (by decide)) (sv_n _ (by decide)) (sv_n _ (by decide))).trans (bd_cg (sv_n _ (by decide)) (sv_n _ (by decide)) (sv_n _ (by decide)))))))
                                                  have e_1302 : wr (sv (sv (sv (sv (sv μ 111 8 3) 111 6 ((μ.1 111 6) + 1)) 111 13 x1) 111 6 ((μ.1 111 6) + 2)) 111 13 (256 + x1)) = wr μ := ((wr_cg (sv_n _ (by decide))).trans ((wr_cg (sv_n _ (by decide))).trans ((wr_cg (sv_n _ (by decide))).trans ((wr_cg (sv_n _ (by decide))).trans (wr_cg (sv_n _ (by decide)))))))
                                                  have e_1303 : nn (sv (sv (sv (sv (sv μ 111 8 3) 111 6 ((μ.1 111 6) + 1)) 111 13 x1) 111 6 ((μ.1 111 6) + 2)) 111 13 (256 + x1)) = nn μ := ((nn_cg (sv_n _ (by decide)) (sv_n _ (by decide))).trans ((nn_cg (sv_n _ (by decide)) (sv_n _ (by decide))).trans ((nn_cg (sv_n _ (by decide)) (sv_n _ (by decide))).trans ((nn_cg (sv_n _ (by decide)) (sv_n _ (by decide))).trans (nn_cg (sv_n _ (by decide)) (sv_n _ (by decide)))))))
                                                  exact xr_v G hret hlk dX12_signs_206 ⟨(FrM.put (FrM.put (FrM.put (FrM.put (FrM.put FrM.rf (by decide)) (by decide)) (by decide)) (by decide)) (by decide)), (fun j hj => ((sv_n _ (fun h9 => hj (by rw [h9.2]; decide))).trans ((sv_n _ (fun h9 => hj (by rw [h9.2]; decide))).trans ((sv_n _ (fun h9 => hj (by rw [h9.2]; decide))).trans ((sv_n _ (fun h9 => hj (by rw [h9.2]; decide))).trans (sv_n _ (fun h9 => hj (by rw [h9.2]; decide)))))))), (by omega), (by omega), (by omega), (by omega)⟩

set_option maxHeartbeats 4000000 in
set_option maxRecDepth 100000 in
theorem c_X12_counts (ω : Om) (l : Launch) (μ : M3) (h0 : 0 ≤ μ.1 111 6 ∧ μ.1 111 6 ≤ μ.1 111 7) (h7 : μ.1 111 7 ≤ 3000) (hnn : 0 ≤ nn μ ∧ nn μ ≤ 9 ∧ 9 * wr μ ≤ nn μ) (hdg : 48 ≤ hv μ ∧ hv μ ≤ 57) (hpl : 0 ≤ μ.1 111 9) : CtV ω l yX12_counts cX12_counts 8 2 61 [.ref (oP ω 111)] μ (fun (μ' : M3) => (FrM [111] μ μ') ∧ (∀ j, j ∉ ([6, 8, 12, 15] : List Int) → μ'.1 111 j = μ.1 111 j) ∧ (μ.1 111 6 + 1 ≤ μ'.1 111 6 ∧ μ'.1 111 6 ≤ μ.1 111 7) ∧ (μ'.1 111 8 = 2) ∧ (∀ _ : Unit, μ.1 111 14 = 3 → wr μ' = 0 → sn (μ'.1 111 12)) ∧ (wr μ ≤ wr μ' ∧ bd μ ≤ bd μ') ∧ (nn μ ≤ nn μ' ∧ nn μ' ≤ nn μ + 9 * wr μ' ∧ nn μ' ≤ 9 ∧ 9 * wr μ' ≤ nn μ')) := by
  refine CtV.go (by decide) (Nat.le_of_ble_eq_true rfl) (fun ρ p e s m below meth c R ls G hR hret hlk hl => ?_)
  have hx := G.1.1
  have hb := G.1.2.1
  have hl : lv_has ls 8 [(0, .ref (oP ω 111))] := hl
  generalize s.drawn = d0 at G ⊢
  have hw_0 := wr_r (μ := μ)
  refine lv_aload_n hx hb dX12_counts_0 rfl (lv_at hl 0 rfl) ?_
  refine lv_iconst (v := iv 2) hx hb dX12_counts_1 rfl ?_
  refine xa_puti G fd_X12 (a := 111) (x := 2) 8 (kz := 8) rfl rfl (by decide) rfl (by unfold ir; omega) (wm 7 157 rfl rfl) ⟨rfl, rfl, rfl, rfl⟩ rfl dX12_counts_2 rfl (fun H locs G => ?_)
  refine lv_aload_n hx hb dX12_counts_5 rfl (lv_at hl 0 rfl) ?_
  refine lv_lconst (v := jv 0) hx hb dX12_counts_6 rfl ?_
  refine xa_putl G fd_X12 (a := 111) (x := 0) 12 (kz := 12) rfl rfl (by decide) rfl (by unfold jr; omega) (wm 7 161 rfl rfl) ⟨rfl, rfl, rfl, rfl⟩ rfl dX12_counts_7 rfl (fun H locs G => ?_)
  have hv0_ : hv (sv (sv μ 111 8 2) 111 12 0) = hv μ := ((hv_cg (sv_n _ (by decide)) (sv_n _ (by decide)) (fun j => sv_n _ (fun h9 => absurd h9.1 (by decide)))).trans (hv_cg (sv_n _ (by decide)) (sv_n _ (by decide)) (fun j => sv_n _ (fun h9 => absurd h9.1 (by decide)))))
  have hv1_ : (sv (sv μ 111 8 2) 111 12 0).1 111 6 = μ.1 111 6 := ((sv_n _ (by decide)).trans (sv_n _ (by decide)))
  refine lv_aload_n hx hb dX12_counts_10 rfl (lv_at hl 0 rfl) ?_
  refine xa_geti G fd_X12 (a := 111) (x := μ.1 111 14) 14 rfl (by decide) rfl (wm 7 163 rfl rfl) ⟨rfl, rfl, rfl⟩ dX12_counts_11 rfl ((sv_n _ (by decide)).trans (sv_n _ (by decide))) ?_
  have hr_1 : -2147483648 ≤ μ.1 111 14 ∧ μ.1 111 14 ≤ 2147483647 := by have h9 := G.hr (a := 111) (k := 14) rfl; rw [show (sv (sv μ 111 8 2) 111 12 0).1 111 14 = μ.1 111 14 from ((sv_n _ (by decide)).trans (sv_n _ (by decide)))] at h9; exact h9
  refine lv_iconst (v := iv 3) hx hb dX12_counts_14 rfl ?_
  refine xb_icmp_eq (tgt := 64) hx hb (by unfold ir; omega) (by unfold ir; omega) dX12_counts_15 (by decide) (fun c_15 => ?_) (fun c_15 => ?_)
  · refine lv_aload_n hx hb dX12_counts_64 rfl (lv_at hl 0 rfl) ?_
    refine xa_geti G fd_X12 (a := 111) (x := μ.1 111 6) 6 rfl (by decide) rfl (wm 7 155 rfl rfl) ⟨rfl, rfl, rfl⟩ dX12_counts_65 rfl ((sv_n _ (by decide)).trans (sv_n _ (by decide))) ?_
    have hr_2 : -2147483648 ≤ μ.1 111 6 ∧ μ.1 111 6 ≤ 2147483647 := by have h9 := G.hr (a := 111) (k := 6) rfl; rw [show (sv (sv μ 111 8 2) 111 12 0).1 111 6 = μ.1 111 6 from ((sv_n _ (by decide)).trans (sv_n _ (by decide)))] at h9; exact h9
    refine lv_istore_n (lv' := [(1, .int (iv (μ.1 111 6))), (0, .ref (oP ω 111))]) hx hb dX12_counts_68 rfl hl (by decide) rfl (fun ls hl => ?_)
    refine lv_aload_n hx hb dX12_counts_69 rfl (lv_at hl 1 rfl) ?_
    refine lv_ldc2 (s := s.setDrawn d0) hx hb G.1.2.2.2.1 (dr_words G.1.2.2.2.2 d0 _ (wm 9 42 rfl rfl)) dX12_counts_70 ?_
    refine xb_litl (x := 999999999999999) (by decide) ?_
    have e_3 : (sv (sv μ 111 8 2) 111 12 0).1 111 6 = μ.1 111 6 := ((sv_n _ (by decide)).trans (sv_n _ (by decide)))
    have e_4 : (sv (sv μ 111 8 2) 111 12 0).1 111 6 = μ.1 111 6 := ((sv_n _ (by decide)).trans (sv_n _ (by decide)))
    have e_5 : (sv (sv μ 111 8 2) 111 12 0).1 111 7 = μ.1 111 7 := ((sv_n _ (by decide)).trans (sv_n _ (by decide)))
    have e_6 : (sv (sv μ 111 8 2) 111 12 0).1 111 7 = μ.1 111 7 := ((sv_n _ (by decide)).trans (sv_n _ (by decide)))
    have e_7 : (sv (sv μ 111 8 2) 111 12 0).1 111 6 = μ.1 111 6 := ((sv_n _ (by decide)).trans (sv_n _ (by decide)))
    have e_8 : (sv (sv μ 111 8 2) 111 12 0).1 111 7 = μ.1 111 7 := ((sv_n _ (by decide)).trans (sv_n _ (by decide)))
    have e_9 : (sv (sv μ 111 8 2) 111 12 0).1 111 6 = μ.1 111 6 := ((sv_n _ (by decide)).trans (sv_n _ (by decide)))
    refine xc_iV G (b := 111) (rest := []) (As := [.long (jv 999999999999999)]) (c_X12_whole ω l (sv (sv μ 111 8 2) 111 12 0) 999999999999999 (by unfold jr; omega) (by omega) (by omega)) (wm 9 37 rfl rfl) (wm 9 39 rfl rfl) (wm 0 125 rfl rfl) rfl rfl (by decide) rfl (wm 1 18 rfl rfl) (wm 9 40 rfl rfl) (by decide) hR (by decide) (n := 1) rfl rfl (Nat.le_of_ble_eq_true rfl) hl.1 dX12_counts_73 (fun r_11 μ10 ρ d0 H locs hr_r_11 hp G => ?_)
    have hr_r_11 : -2147483648 ≤ r_11 ∧ r_11 ≤ 2147483647 := hr_r_11
    obtain ⟨F_12, hp_13, hp_14, hp_15, hp_16⟩ := hp
    refine lv_istore_n (lv' := [(2, .int (iv r_11)), (1, .int (iv (μ.1 111 6))), (0, .ref (oP ω 111))]) hx hb dX12_counts_76 rfl hl (by decide) rfl (fun ls hl => ?_)
    refine lv_aload_n hx hb dX12_counts_77 rfl (lv_at hl 2 rfl) ?_
    refine xa_geti G fd_X12 (a := 111) (x := μ10.1 111 6) 6 rfl (by decide) rfl (wm 7 155 rfl rfl) ⟨rfl, rfl, rfl⟩ dX12_counts_78 rfl rfl ?_
    have hr_17 : -2147483648 ≤ μ10.1 111 6 ∧ μ10.1 111 6 ≤ 2147483647 := by have h9 := G.hr (a := 111) (k := 6) rfl; exact h9
    refine lv_iload_n hx hb dX12_counts_81 rfl (lv_at hl 1 rfl) ?_
    refine xb_isub hx hb dX12_counts_82 ?_
    refine lv_istore_n (lv' := [(3, .int (iv ((μ10.1 111 6) - (μ.1 111 6)))), (2, .int (iv r_11)), (1, .int (iv (μ.1 111 6))), (0, .ref (oP ω 111))]) hx hb dX12_counts_83 rfl hl (by decide) rfl (fun ls hl => ?_)
    refine lv_iconst (v := iv 0) hx hb dX12_counts_84 rfl ?_
    refine lv_istore (lv' := [(4, .int (iv 0)), (3, .int (iv ((μ10.1 111 6) - (μ.1 111 6)))), (2, .int (iv r_11)), (1, .int (iv (μ.1 111 6))), (0, .ref (oP ω 111))]) hx hb dX12_counts_85 hl (by decide) rfl (fun ls hl => ?_)
    refine lv_aload_n hx hb dX12_counts_87 rfl (lv_at hl 4 rfl) ?_
    have e_18 : μ10.1 111 7 = μ.1 111 7 := ((hp_13 7 (by decide)).trans ((sv_n _ (by decide)).trans (sv_n _ (by decide))))
    have e_19 : μ10.1 111 7 = μ.1 111 7 := ((hp_13 7 (by decide)).trans ((sv_n _ (by decide)).trans (sv_n _ (by decide))))
    have e_20 : μ10.1 111 7 = μ.1 111 7 := ((hp_13 7 (by decide)).trans ((sv_n _ (by decide)).trans (sv_n _ (by decide))))
    refine xc_iV G (b := 111) (rest := []) (As := []) (c_X12_here ω l μ10  (by omega) (by omega)) (wm 9 8 rfl rfl) (wm 9 10 rfl rfl) (wm 0 121 rfl rfl) rfl rfl (by decide) rfl (wm 1 18 rfl rfl) (wm 9 11 rfl rfl) (by decide) hR (by decide) (n := 0) rfl rfl (Nat.le_of_ble_eq_true rfl) hl.1 dX12_counts_88 (fun r_22 μ21 ρ d0 H locs hr_r_22 hp G => ?_)
    have hr_r_22 : -2147483648 ≤ r_22 ∧ r_22 ≤ 2147483647 := hr_r_22
    obtain ⟨hsm_23, hp_24, hp_25⟩ := hp
    have hsm_23 := Eq.symm hsm_23
    subst hsm_23
    refine lv_bipush (v := iv 46) hx hb dX12_counts_91 rfl ?_
    refine xb_icmp_ne (tgt := 159) hx hb (by unfold ir; omega) (by unfold ir; omega) dX12_counts_93 (by decide) (fun c_93 => ?_) (fun c_93 => ?_)
    · refine lv_iload_n hx hb dX12_counts_159 rfl (lv_at hl 1 rfl) ?_
      refine lv_iload hx hb dX12_counts_160 (lv_at hl 0 rfl) ?_
      refine xb_iadd hx hb dX12_counts_162 ?_
      refine lv_bipush (v := iv 15) hx hb dX12_counts_163 rfl ?_
      refine xb_icmp_gt (tgt := 172) hx hb (by unfold ir; omega) (by unfold ir; omega) dX12_counts_165 (by decide) (fun c_165 => ?_) (fun c_165 => ?_)
      · refine lv_aload_n hx hb dX12_counts_172 rfl (lv_at hl 4 rfl) ?_
        refine lv_aload_n hx hb dX12_counts_173 rfl (lv_at hl 4 rfl) ?_
        refine xa_geti G fd_X12 (a := 111) (x := μ.1 111 9) 9 rfl (by decide) rfl (wm 7 158 rfl rfl) ⟨rfl, rfl, rfl⟩ dX12_counts_174 rfl ((hp_13 9 (by decide)).trans ((sv_n _ (by decide)).trans (sv_n _ (by decide)))) ?_
        have hr_26 : -2147483648 ≤ μ.1 111 9 ∧ μ.1 111 9 ≤ 2147483647 := by have h9 := G.hr (a := 111) (k := 9) rfl; rw [show μ10.1 111 9 = μ.1 111 9 from ((hp_13 9 (by decide)).trans ((sv_n _ (by decide)).trans (sv_n _ (by decide))))] at h9; exact h9
        have e_27 : μ10.1 111 9 = μ.1 111 9 := ((hp_13 9 (by decide)).trans ((sv_n _ (by decide)).trans (sv_n _ (by decide))))
        refine xc_vV G (b := 111) (rest := []) (As := [.int (iv (μ.1 111 9))]) (c_X12_wrong ω l μ10 (μ.1 111 9) (by unfold ir; omega) (by omega)) (wm 9 22 rfl rfl) (wm 9 24 rfl rfl) (wm 0 123 rfl rfl) rfl rfl (by decide) rfl (wm 1 18 rfl rfl) (wm 9 25 rfl rfl) (by decide) hR (by decide) (n := 1) rfl rfl (Nat.le_of_ble_eq_true rfl) hl.1 dX12_counts_177 (fun μ28 ρ d0 H locs hp G => ?_)
        obtain ⟨F_29, hp_30, hp_31⟩ := hp
        have hw_32 := wr_r (μ := μ28)
        have e_33 : μ28.1 111 6 = μ10.1 111 6 := (hp_30 6 (by decide))
        have e_34 : μ28.1 111 6 = μ10.1 111 6 := (hp_30 6 (by decide))
        have e_35 : μ28.1 111 8 = 2 := ((hp_30 8 (by decide)).trans ((hp_13 8 (by decide)).trans ((sv_n _ (by decide)).trans (sv_s _ _ _ _))))
        exact xr_v G hret hlk dX12_counts_180 ⟨(FrM.tr (FrM.tr (FrM.put (FrM.put FrM.rf (by decide)) (by decide)) F_12 (by decide)) F_29 (by decide)), (fun j hj => ((hp_30 j (fun h9 => hj ((by decide : ∀ x ∈ ([15] : List Int), x ∈ ([6, 8, 12, 15] : List Int)) j h9))).trans ((hp_13 j (fun h9 => hj ((by decide : ∀ x ∈ ([6, 12] : List Int), x ∈ ([6, 8, 12, 15] : List Int)) j h9))).trans ((sv_n _ (fun h9 => hj (by rw [h9.2]; decide))).trans (sv_n _ (fun h9 => hj (by rw [h9.2]; decide))))))), (by omega), (by omega), (fun _ h8 h9 => by exfalso; omega), (by omega), (by omega)⟩
      · refine lv_iload_n hx hb dX12_counts_168 rfl (lv_at hl 2 rfl) ?_
        refine xb_if_ne (tgt := 181) hx hb (by unfold ir; omega) dX12_counts_169 (by decide) (fun c_169 => ?_) (fun c_169 => ?_)
        · refine lv_dconst1 hx hb dX12_counts_181 ?_
          refine xb_topd (fun dd_36 he_dd_36 => ?_)
          refine lv_dstore (lv' := [(5, .double (dv dd_36)), (4, .int (iv 0)), (3, .int (iv ((μ10.1 111 6) - (μ.1 111 6)))), (2, .int (iv r_11)), (1, .int (iv (μ.1 111 6))), (0, .ref (oP ω 111))]) hx hb dX12_counts_182 hl (by decide) rfl (fun ls hl => ?_)
          refine lv_iconst (v := iv 0) hx hb dX12_counts_184 rfl ?_
          refine lv_istore (lv' := [(7, .int (iv 0)), (5, .double (dv dd_36)), (4, .int (iv 0)), (3, .int (iv ((μ10.1 111 6) - (μ.1 111 6)))), (2, .int (iv r_11)), (1, .int (iv (μ.1 111 6))), (0, .ref (oP ω 111))]) hx hb dX12_counts_185 hl (by decide) rfl (fun ls hl => ?_)
          refine xl (fun n_9 μ' ls => ∃ (k9 : Int), ∃ (dv9 : Int), (μ' = μ10) ∧ (-2147483648 ≤ k9 ∧ k9 ≤ 2147483647) ∧ (0 ≤ k9) ∧ n_9 = Int.toNat (4000 - k9) ∧ lv_has ls 8 [(7, .int (iv k9)), (5, .double (dv dv9)), (4, .int (iv 0)), (3, .int (iv ((μ10.1 111 6) - (μ.1 111 6)))), (2, .int (iv r_11)), (1, .int (iv (μ.1 111 6))), (0, .ref (oP ω 111))]) (fun n_9 ρ μL37 d0 H locs ls hI_l G ih => ?_) _ _ _ _ _ _ _ ⟨0, dd_36, rfl, (by omega), (by omega), rfl, lv_sub hl [0, 1, 2, 3, 4, 5, 6] rfl⟩ G
          obtain ⟨k9, dv9, FL38, hi_40, hi_41, hn39, hl⟩ := hI_l
          have FL38 := Eq.symm FL38
          subst FL38
          refine lv_iload hx hb dX12_counts_187 (lv_at hl 0 rfl) ?_
          refine lv_iload hx hb dX12_counts_189 (lv_at hl 2 rfl) ?_
          refine xb_icmp_ge (tgt := 208) hx hb (by unfold ir; omega) (by unfold ir; omega) dX12_counts_191 (by decide) (fun c_191 => ?_) (fun c_191 => ?_)
          · refine lv_aload_n hx hb dX12_counts_208 rfl (lv_at hl 6 rfl) ?_
            refine lv_aload_n hx hb dX12_counts_209 rfl (lv_at hl 6 rfl) ?_
            refine xa_getl G fd_X12 (a := 111) (x := μ10.1 111 12) 12 rfl (by decide) rfl (wm 7 161 rfl rfl) ⟨rfl, rfl, rfl⟩ dX12_counts_210 rfl rfl ?_
            have hj_42 : jr (μ10.1 111 12) := by have h9 := G.hj (a := 111) (k := 12) rfl; exact h9
            refine lv_l2d hx hb dX12_counts_213 ?_
            refine xb_topd (fun dd_43 he_dd_43 => ?_)
            refine lv_dload hx hb dX12_counts_214 (lv_at hl 1 rfl) ?_
            refine xd_ddiv G dX12_counts_216 (fun dd_44 d0 G => ?_)
            refine xc_lS G (rest := [.ref (oP ω 111)]) (As := [.double (dv dd_44)]) (c_Jxe99ae_doubleToLongBits_ccdee ω l μ10 dd_44 ) (wm 9 44 rfl rfl) (wm 9 45 rfl rfl) (wm 1 23 rfl rfl) (wm 9 46 rfl rfl) (by decide) hR (by decide) (n := 1) rfl rfl (Nat.le_of_ble_eq_true rfl) hl.1 dX12_counts_217 (fun r_46 μ45 ρ d0 H locs hr_r_46 hp G => ?_)
            obtain ⟨hsm_47, hp_48⟩ := hp
            have hsm_47 := Eq.symm hsm_47
            subst hsm_47
            refine xa_putl G fd_X12 (a := 111) (x := r_46) 12 (kz := 12) rfl rfl (by decide) rfl hr_r_46 (wm 7 161 rfl rfl) ⟨rfl, rfl, rfl, rfl⟩ rfl dX12_counts_220 rfl (fun H locs G => ?_)
            have e_49 : wr (sv μ10 111 12 r_46) = wr μ := ((wr_cg (sv_n _ (by decide))).trans ((wr_cg (hp_13 15 (by decide))).trans ((wr_cg (sv_n _ (by decide))).trans (wr_cg (sv_n _ (by decide))))))
            have e_50 : (sv μ10 111 12 r_46).1 111 6 = μ10.1 111 6 := (sv_n _ (by decide))
            have e_51 : (sv μ10 111 12 r_46).1 111 6 = μ10.1 111 6 := (sv_n _ (by decide))
            have e_52 : (sv μ10 111 12 r_46).1 111 8 = 2 := ((sv_n _ (by decide)).trans ((hp_13 8 (by decide)).trans ((sv_n _ (by decide)).trans (sv_s _ _ _ _))))
            have e_53 : wr (sv μ10 111 12 r_46) = wr μ := ((wr_cg (sv_n _ (by decide))).trans ((wr_cg (hp_13 15 (by decide))).trans ((wr_cg (sv_n _ (by decide))).trans (wr_cg (sv_n _ (by decide))))))
            have e_54 : bd (sv μ10 111 12 r_46) = bd μ := ((bd_cg (sv_n _ (by decide)) (sv_n _ (by decide)) (sv_n _ (by decide))).trans ((bd_cg (hp_13 15 (by decide)) (hp_13 16 (by decide)) (hp_13 17 (by decide))).trans ((bd_cg (sv_n _ (by decide)) (sv_n _ (by decide)) (sv_n _ (by decide))).trans (bd_cg (sv_n _ (by decide)) (sv_n _ (by decide)) (sv_n _ (by decide))))))
            have e_55 : wr (sv μ10 111 12 r_46) = wr μ := ((wr_cg (sv_n _ (by decide))).trans ((wr_cg (hp_13 15 (by decide))).trans ((wr_cg (sv_n _ (by decide))).trans (wr_cg (sv_n _ (by decide))))))
            have e_56 : nn (sv μ10 111 12 r_46) = nn μ := ((nn_cg (sv_n _ (by decide)) (sv_n _ (by decide))).trans ((nn_cg (hp_13 15 (by decide)) (hp_13 18 (by decide))).trans ((nn_cg (sv_n _ (by decide)) (sv_n _ (by decide))).trans (nn_cg (sv_n _ (by decide)) (sv_n _ (by decide))))))
            exact xr_v G hret hlk dX12_counts_223 ⟨(FrM.put (FrM.tr (FrM.put (FrM.put FrM.rf (by decide)) (by decide)) F_12 (by decide)) (by decide)), (fun j hj => ((sv_n _ (fun h9 => hj (by rw [h9.2]; decide))).trans ((hp_13 j (fun h9 => hj ((by decide : ∀ x ∈ ([6, 12] : List Int), x ∈ ([6, 8, 12, 15] : List Int)) j h9))).trans ((sv_n _ (fun h9 => hj (by rw [h9.2]; decide))).trans (sv_n _ (fun h9 => hj (by rw [h9.2]; decide))))))), (by omega), (by omega), (fun _ _ _ => by rw [show (sv μ10 111 12 r_46).1 111 12 = r_46 from (sv_s _ _ _ _)]; exact hp_48 ()), (by omega), (by omega)⟩
          · refine lv_ldc2d (s := s.setDrawn d0) hx hb G.1.2.2.2.1 (dr_words G.1.2.2.2.2 d0 _ (wm 9 43 rfl rfl)) dX12_counts_194 ?_
            refine xb_topd (fun dd_57 he_dd_57 => ?_)
            refine lv_dload hx hb dX12_counts_197 (lv_at hl 1 rfl) ?_
            refine xd_dmul G dX12_counts_199 (fun dd_58 d0 G => ?_)
            refine lv_dstore (lv' := [(5, .double (dv dd_58)), (7, .int (iv k9)), (4, .int (iv 0)), (3, .int (iv ((μ10.1 111 6) - (μ.1 111 6)))), (2, .int (iv r_11)), (1, .int (iv (μ.1 111 6))), (0, .ref (oP ω 111))]) hx hb dX12_counts_200 hl (by decide) rfl (fun ls hl => ?_)
            refine lv_iinc (v := iv (k9 + 1)) (lv' := [(7, .int (iv (k9 + 1))), (5, .double (dv dd_58)), (4, .int (iv 0)), (3, .int (iv ((μ10.1 111 6) - (μ.1 111 6)))), (2, .int (iv r_11)), (1, .int (iv (μ.1 111 6))), (0, .ref (oP ω 111))]) hx hb dX12_counts_202 hl (k := 1) rfl (by rw [show Int32.ofInt 1 = iv 1 from rfl, iv_add]) (by decide) rfl (fun ls hl => ?_)
            refine lv_goto (tgt := 187) hx hb dX12_counts_205 (by decide) ?_
            exact ih _ _ _ _ _ _ _ (by omega) ⟨k9 + 1, dd_58, rfl, (by omega), (by omega), rfl, lv_sub hl [0, 1, 2, 3, 4, 5, 6] rfl⟩ G
        · refine lv_aload_n hx hb dX12_counts_172 rfl (lv_at hl 4 rfl) ?_
          refine lv_aload_n hx hb dX12_counts_173 rfl (lv_at hl 4 rfl) ?_
          refine xa_geti G fd_X12 (a := 111) (x := μ.1 111 9) 9 rfl (by decide) rfl (wm 7 158 rfl rfl) ⟨rfl, rfl, rfl⟩ dX12_counts_174 rfl ((hp_13 9 (by decide)).trans ((sv_n _ (by decide)).trans (sv_n _ (by decide)))) ?_
          have hr_59 : -2147483648 ≤ μ.1 111 9 ∧ μ.1 111 9 ≤ 2147483647 := by have h9 := G.hr (a := 111) (k := 9) rfl; rw [show μ10.1 111 9 = μ.1 111 9 from ((hp_13 9 (by decide)).trans ((sv_n _ (by decide)).trans (sv_n _ (by decide))))] at h9; exact h9
          have e_60 : μ10.1 111 9 = μ.1 111 9 := ((hp_13 9 (by decide)).trans ((sv_n _ (by decide)).trans (sv_n _ (by decide))))
          refine xc_vV G (b := 111) (rest := []) (As := [.int (iv (μ.1 111 9))]) (c_X12_wrong ω l μ10 (μ.1 111 9) (by unfold ir; omega) (by omega)) (wm 9 22 rfl rfl) (wm 9 24 rfl rfl) (wm 0 123 rfl rfl) rfl rfl (by decide) rfl (wm 1 18 rfl rfl) (wm 9 25 rfl rfl) (by decide) hR (by decide) (n := 1) rfl rfl (Nat.le_of_ble_eq_true rfl) hl.1 dX12_counts_177 (fun μ61 ρ d0 H locs hp G => ?_)
          obtain ⟨F_62, hp_63, hp_64⟩ := hp
          have hw_65 := wr_r (μ := μ61)
          have e_66 : μ61.1 111 6 = μ10.1 111 6 := (hp_63 6 (by decide))
          have e_67 : μ61.1 111 6 = μ10.1 111 6 := (hp_63 6 (by decide))
          have e_68 : μ61.1 111 8 = 2 := ((hp_63 8 (by decide)).trans ((hp_13 8 (by decide)).trans ((sv_n _ (by decide)).trans (sv_s _ _ _ _))))
          exact xr_v G hret hlk dX12_counts_180 ⟨(FrM.tr (FrM.tr (FrM.put (FrM.put FrM.rf (by decide)) (by decide)) F_12 (by decide)) F_62 (by decide)), (fun j hj => ((hp_63 j (fun h9 => hj ((by decide : ∀ x ∈ ([15] : List Int), x ∈ ([6, 8, 12, 15] : List Int)) j h9))).trans ((hp_13 j (fun h9 => hj ((by decide : ∀ x ∈ ([6, 12] : List Int), x ∈ ([6, 8, 12, 15] : List Int)) j h9))).trans ((sv_n _ (fun h9 => hj (by rw [h9.2]; decide))).trans (sv_n _ (fun h9 => hj (by rw [h9.2]; decide))))))), (by omega), (by omega), (fun _ h8 h9 => by exfalso; omega), (by omega), (by omega)⟩
    · refine lv_aload_n hx hb dX12_counts_96 rfl (lv_at hl 4 rfl) ?_
      refine xa_geti G fd_X12 (a := 111) (x := μ10.1 111 6) 6 rfl (by decide) rfl (wm 7 155 rfl rfl) ⟨rfl, rfl, rfl⟩ dX12_counts_97 rfl rfl ?_
      refine lv_iconst (v := iv 1) hx hb dX12_counts_100 rfl ?_
      refine xb_iadd hx hb dX12_counts_101 ?_
      refine lv_aload_n hx hb dX12_counts_102 rfl (lv_at hl 4 rfl) ?_
      refine xa_geti G fd_X12 (a := 111) (x := μ.1 111 7) 7 rfl (by decide) rfl (wm 7 156 rfl rfl) ⟨rfl, rfl, rfl⟩ dX12_counts_103 rfl ((hp_13 7 (by decide)).trans ((sv_n _ (by decide)).trans (sv_n _ (by decide)))) ?_
      have hr_69 : -2147483648 ≤ μ.1 111 7 ∧ μ.1 111 7 ≤ 2147483647 := by have h9 := G.hr (a := 111) (k := 7) rfl; rw [show μ10.1 111 7 = μ.1 111 7 from ((hp_13 7 (by decide)).trans ((sv_n _ (by decide)).trans (sv_n _ (by decide))))] at h9; exact h9
      refine xb_icmp_ge (tgt := 159) hx hb (by unfold ir; omega) (by unfold ir; omega) dX12_counts_106 (by decide) (fun c_106 => ?_) (fun c_106 => ?_)
      · refine lv_iload_n hx hb dX12_counts_159 rfl (lv_at hl 1 rfl) ?_
        refine lv_iload hx hb dX12_counts_160 (lv_at hl 0 rfl) ?_
        refine xb_iadd hx hb dX12_counts_162 ?_
        refine lv_bipush (v := iv 15) hx hb dX12_counts_163 rfl ?_
        refine xb_icmp_gt (tgt := 172) hx hb (by unfold ir; omega) (by unfold ir; omega) dX12_counts_165 (by decide) (fun c_165 => ?_) (fun c_165 => ?_)
        · refine lv_aload_n hx hb dX12_counts_172 rfl (lv_at hl 4 rfl) ?_
          refine lv_aload_n hx hb dX12_counts_173 rfl (lv_at hl 4 rfl) ?_
          refine xa_geti G fd_X12 (a := 111) (x := μ.1 111 9) 9 rfl (by decide) rfl (wm 7 158 rfl rfl) ⟨rfl, rfl, rfl⟩ dX12_counts_174 rfl ((hp_13 9 (by decide)).trans ((sv_n _ (by decide)).trans (sv_n _ (by decide)))) ?_
          have hr_70 : -2147483648 ≤ μ.1 111 9 ∧ μ.1 111 9 ≤ 2147483647 := by have h9 := G.hr (a := 111) (k := 9) rfl; rw [show μ10.1 111 9 = μ.1 111 9 from ((hp_13 9 (by decide)).trans ((sv_n _ (by decide)).trans (sv_n _ (by decide))))] at h9; exact h9
          have e_71 : μ10.1 111 9 = μ.1 111 9 := ((hp_13 9 (by decide)).trans ((sv_n _ (by decide)).trans (sv_n _ (by decide))))
          refine xc_vV G (b := 111) (rest := []) (As := [.int (iv (μ.1 111 9))]) (c_X12_wrong ω l μ10 (μ.1 111 9) (by unfold ir; omega) (by omega)) (wm 9 22 rfl rfl) (wm 9 24 rfl rfl) (wm 0 123 rfl rfl) rfl rfl (by decide) rfl (wm 1 18 rfl rfl) (wm 9 25 rfl rfl) (by decide) hR (by decide) (n := 1) rfl rfl (Nat.le_of_ble_eq_true rfl) hl.1 dX12_counts_177 (fun μ72 ρ d0 H locs hp G => ?_)
          obtain ⟨F_73, hp_74, hp_75⟩ := hp
          have hw_76 := wr_r (μ := μ72)
          have e_77 : μ72.1 111 6 = μ10.1 111 6 := (hp_74 6 (by decide))
          have e_78 : μ72.1 111 6 = μ10.1 111 6 := (hp_74 6 (by decide))
          have e_79 : μ72.1 111 8 = 2 := ((hp_74 8 (by decide)).trans ((hp_13 8 (by decide)).trans ((sv_n _ (by decide)).trans (sv_s _ _ _ _))))
          exact xr_v G hret hlk dX12_counts_180 ⟨(FrM.tr (FrM.tr (FrM.put (FrM.put FrM.rf (by decide)) (by decide)) F_12 (by decide)) F_73 (by decide)), (fun j hj => ((hp_74 j (fun h9 => hj ((by decide : ∀ x ∈ ([15] : List Int), x ∈ ([6, 8, 12, 15] : List Int)) j h9))).trans ((hp_13 j (fun h9 => hj ((by decide : ∀ x ∈ ([6, 12] : List Int), x ∈ ([6, 8, 12, 15] : List Int)) j h9))).trans ((sv_n _ (fun h9 => hj (by rw [h9.2]; decide))).trans (sv_n _ (fun h9 => hj (by rw [h9.2]; decide))))))), (by omega), (by omega), (fun _ h8 h9 => by exfalso; omega), (by omega), (by omega)⟩
        · refine lv_iload_n hx hb dX12_counts_168 rfl (lv_at hl 2 rfl) ?_
          refine xb_if_ne (tgt := 181) hx hb (by unfold ir; omega) dX12_counts_169 (by decide) (fun c_169 => ?_) (fun c_169 => ?_)
          · refine lv_dconst1 hx hb dX12_counts_181 ?_
            refine xb_topd (fun dd_80 he_dd_80 => ?_)
            refine lv_dstore (lv' := [(5, .double (dv dd_80)), (4, .int (iv 0)), (3, .int (iv ((μ10.1 111 6) - (μ.1 111 6)))), (2, .int (iv r_11)), (1, .int (iv (μ.1 111 6))), (0, .ref (oP ω 111))]) hx hb dX12_counts_182 hl (by decide) rfl (fun ls hl => ?_)
            refine lv_iconst (v := iv 0) hx hb dX12_counts_184 rfl ?_
            refine lv_istore (lv' := [(7, .int (iv 0)), (5, .double (dv dd_80)), (4, .int (iv 0)), (3, .int (iv ((μ10.1 111 6) - (μ.1 111 6)))), (2, .int (iv r_11)), (1, .int (iv (μ.1 111 6))), (0, .ref (oP ω 111))]) hx hb dX12_counts_185 hl (by decide) rfl (fun ls hl => ?_)
            refine xl (fun n_9 μ' ls => ∃ (k9 : Int), ∃ (dv9 : Int), (μ' = μ10) ∧ (-2147483648 ≤ k9 ∧ k9 ≤ 2147483647) ∧ (0 ≤ k9) ∧ n_9 = Int.toNat (4000 - k9) ∧ lv_has ls 8 [(7, .int (iv k9)), (5, .double (dv dv9)), (4, .int (iv 0)), (3, .int (iv ((μ10.1 111 6) - (μ.1 111 6)))), (2, .int (iv r_11)), (1, .int (iv (μ.1 111 6))), (0, .ref (oP ω 111))]) (fun n_9 ρ μL81 d0 H locs ls hI_l G ih => ?_) _ _ _ _ _ _ _ ⟨0, dd_80, rfl, (by omega), (by omega), rfl, lv_sub hl [0, 1, 2, 3, 4, 5, 6] rfl⟩ G
            obtain ⟨k9, dv9, FL82, hi_84, hi_85, hn83, hl⟩ := hI_l
            have FL82 := Eq.symm FL82
            subst FL82
            refine lv_iload hx hb dX12_counts_187 (lv_at hl 0 rfl) ?_
            refine lv_iload hx hb dX12_counts_189 (lv_at hl 2 rfl) ?_
            refine xb_icmp_ge (tgt := 208) hx hb (by unfold ir; omega) (by unfold ir; omega) dX12_counts_191 (by decide) (fun c_191 => ?_) (fun c_191 => ?_)
            · refine lv_aload_n hx hb dX12_counts_208 rfl (lv_at hl 6 rfl) ?_
              refine lv_aload_n hx hb dX12_counts_209 rfl (lv_at hl 6 rfl) ?_
              refine xa_getl G fd_X12 (a := 111) (x := μ10.1 111 12) 12 rfl (by decide) rfl (wm 7 161 rfl rfl) ⟨rfl, rfl, rfl⟩ dX12_counts_210 rfl rfl ?_
              have hj_86 : jr (μ10.1 111 12) := by have h9 := G.hj (a := 111) (k := 12) rfl; exact h9
              refine lv_l2d hx hb dX12_counts_213 ?_
              refine xb_topd (fun dd_87 he_dd_87 => ?_)
              refine lv_dload hx hb dX12_counts_214 (lv_at hl 1 rfl) ?_
              refine xd_ddiv G dX12_counts_216 (fun dd_88 d0 G => ?_)
              refine xc_lS G (rest := [.ref (oP ω 111)]) (As := [.double (dv dd_88)]) (c_Jxe99ae_doubleToLongBits_ccdee ω l μ10 dd_88 ) (wm 9 44 rfl rfl) (wm 9 45 rfl rfl) (wm 1 23 rfl rfl) (wm 9 46 rfl rfl) (by decide) hR (by decide) (n := 1) rfl rfl (Nat.le_of_ble_eq_true rfl) hl.1 dX12_counts_217 (fun r_90 μ89 ρ d0 H locs hr_r_90 hp G => ?_)
              obtain ⟨hsm_91, hp_92⟩ := hp
              have hsm_91 := Eq.symm hsm_91
              subst hsm_91
              refine xa_putl G fd_X12 (a := 111) (x := r_90) 12 (kz := 12) rfl rfl (by decide) rfl hr_r_90 (wm 7 161 rfl rfl) ⟨rfl, rfl, rfl, rfl⟩ rfl dX12_counts_220 rfl (fun H locs G => ?_)
              have e_93 : wr (sv μ10 111 12 r_90) = wr μ := ((wr_cg (sv_n _ (by decide))).trans ((wr_cg (hp_13 15 (by decide))).trans ((wr_cg (sv_n _ (by decide))).trans (wr_cg (sv_n _ (by decide))))))
              have e_94 : (sv μ10 111 12 r_90).1 111 6 = μ10.1 111 6 := (sv_n _ (by decide))
              have e_95 : (sv μ10 111 12 r_90).1 111 6 = μ10.1 111 6 := (sv_n _ (by decide))
              have e_96 : (sv μ10 111 12 r_90).1 111 8 = 2 := ((sv_n _ (by decide)).trans ((hp_13 8 (by decide)).trans ((sv_n _ (by decide)).trans (sv_s _ _ _ _))))
              have e_97 : wr (sv μ10 111 12 r_90) = wr μ := ((wr_cg (sv_n _ (by decide))).trans ((wr_cg (hp_13 15 (by decide))).trans ((wr_cg (sv_n _ (by decide))).trans (wr_cg (sv_n _ (by decide))))))
              have e_98 : bd (sv μ10 111 12 r_90) = bd μ := ((bd_cg (sv_n _ (by decide)) (sv_n _ (by decide)) (sv_n _ (by decide))).trans ((bd_cg (hp_13 15 (by decide)) (hp_13 16 (by decide)) (hp_13 17 (by decide))).trans ((bd_cg (sv_n _ (by decide)) (sv_n _ (by decide)) (sv_n _ (by decide))).trans (bd_cg (sv_n _ (by decide)) (sv_n _ (by decide)) (sv_n _ (by decide))))))
              have e_99 : wr (sv μ10 111 12 r_90) = wr μ := ((wr_cg (sv_n _ (by decide))).trans ((wr_cg (hp_13 15 (by decide))).trans ((wr_cg (sv_n _ (by decide))).trans (wr_cg (sv_n _ (by decide))))))
              have e_100 : nn (sv μ10 111 12 r_90) = nn μ := ((nn_cg (sv_n _ (by decide)) (sv_n _ (by decide))).trans ((nn_cg (hp_13 15 (by decide)) (hp_13 18 (by decide))).trans ((nn_cg (sv_n _ (by decide)) (sv_n _ (by decide))).trans (nn_cg (sv_n _ (by decide)) (sv_n _ (by decide))))))
              exact xr_v G hret hlk dX12_counts_223 ⟨(FrM.put (FrM.tr (FrM.put (FrM.put FrM.rf (by decide)) (by decide)) F_12 (by decide)) (by decide)), (fun j hj => ((sv_n _ (fun h9 => hj (by rw [h9.2]; decide))).trans ((hp_13 j (fun h9 => hj ((by decide : ∀ x ∈ ([6, 12] : List Int), x ∈ ([6, 8, 12, 15] : List Int)) j h9))).trans ((sv_n _ (fun h9 => hj (by rw [h9.2]; decide))).trans (sv_n _ (fun h9 => hj (by rw [h9.2]; decide))))))), (by omega), (by omega), (fun _ _ _ => by rw [show (sv μ10 111 12 r_90).1 111 12 = r_90 from (sv_s _ _ _ _)]; exact hp_92 ()), (by omega), (by omega)⟩
            · refine lv_ldc2d (s := s.setDrawn d0) hx hb G.1.2.2.2.1 (dr_words G.1.2.2.2.2 d0 _ (wm 9 43 rfl rfl)) dX12_counts_194 ?_
              refine xb_topd (fun dd_101 he_dd_101 => ?_)
              refine lv_dload hx hb dX12_counts_197 (lv_at hl 1 rfl) ?_
              refine xd_dmul G dX12_counts_199 (fun dd_102 d0 G => ?_)
              refine lv_dstore (lv' := [(5, .double (dv dd_102)), (7, .int (iv k9)), (4, .int (iv 0)), (3, .int (iv ((μ10.1 111 6) - (μ.1 111 6)))), (2, .int (iv r_11)), (1, .int (iv (μ.1 111 6))), (0, .ref (oP ω 111))]) hx hb dX12_counts_200 hl (by decide) rfl (fun ls hl => ?_)
              refine lv_iinc (v := iv (k9 + 1)) (lv' := [(7, .int (iv (k9 + 1))), (5, .double (dv dd_102)), (4, .int (iv 0)), (3, .int (iv ((μ10.1 111 6) - (μ.1 111 6)))), (2, .int (iv r_11)), (1, .int (iv (μ.1 111 6))), (0, .ref (oP ω 111))]) hx hb dX12_counts_202 hl (k := 1) rfl (by rw [show Int32.ofInt 1 = iv 1 from rfl, iv_add]) (by decide) rfl (fun ls hl => ?_)
              refine lv_goto (tgt := 187) hx hb dX12_counts_205 (by decide) ?_
              exact ih _ _ _ _ _ _ _ (by omega) ⟨k9 + 1, dd_102, rfl, (by omega), (by omega), rfl, lv_sub hl [0, 1, 2, 3, 4, 5, 6] rfl⟩ G
          · refine lv_aload_n hx hb dX12_counts_172 rfl (lv_at hl 4 rfl) ?_
            refine lv_aload_n hx hb dX12_counts_173 rfl (lv_at hl 4 rfl) ?_
            refine xa_geti G fd_X12 (a := 111) (x := μ.1 111 9) 9 rfl (by decide) rfl (wm 7 158 rfl rfl) ⟨rfl, rfl, rfl⟩ dX12_counts_174 rfl ((hp_13 9 (by decide)).trans ((sv_n _ (by decide)).trans (sv_n _ (by decide)))) ?_
            have hr_103 : -2147483648 ≤ μ.1 111 9 ∧ μ.1 111 9 ≤ 2147483647 := by have h9 := G.hr (a := 111) (k := 9) rfl; rw [show μ10.1 111 9 = μ.1 111 9 from ((hp_13 9 (by decide)).trans ((sv_n _ (by decide)).trans (sv_n _ (by decide))))] at h9; exact h9
            have e_104 : μ10.1 111 9 = μ.1 111 9 := ((hp_13 9 (by decide)).trans ((sv_n _ (by decide)).trans (sv_n _ (by decide))))
            refine xc_vV G (b := 111) (rest := []) (As := [.int (iv (μ.1 111 9))]) (c_X12_wrong ω l μ10 (μ.1 111 9) (by unfold ir; omega) (by omega)) (wm 9 22 rfl rfl) (wm 9 24 rfl rfl) (wm 0 123 rfl rfl) rfl rfl (by decide) rfl (wm 1 18 rfl rfl) (wm 9 25 rfl rfl) (by decide) hR (by decide) (n := 1) rfl rfl (Nat.le_of_ble_eq_true rfl) hl.1 dX12_counts_177 (fun μ105 ρ d0 H locs hp G => ?_)
            obtain ⟨F_106, hp_107, hp_108⟩ := hp
            have hw_109 := wr_r (μ := μ105)
            have e_110 : μ105.1 111 6 = μ10.1 111 6 := (hp_107 6 (by decide))
            have e_111 : μ105.1 111 6 = μ10.1 111 6 := (hp_107 6 (by decide))
            have e_112 : μ105.1 111 8 = 2 := ((hp_107 8 (by decide)).trans ((hp_13 8 (by decide)).trans ((sv_n _ (by decide)).trans (sv_s _ _ _ _))))
            exact xr_v G hret hlk dX12_counts_180 ⟨(FrM.tr (FrM.tr (FrM.put (FrM.put FrM.rf (by decide)) (by decide)) F_12 (by decide)) F_106 (by decide)), (fun j hj => ((hp_107 j (fun h9 => hj ((by decide : ∀ x ∈ ([15] : List Int), x ∈ ([6, 8, 12, 15] : List Int)) j h9))).trans ((hp_13 j (fun h9 => hj ((by decide : ∀ x ∈ ([6, 12] : List Int), x ∈ ([6, 8, 12, 15] : List Int)) j h9))).trans ((sv_n _ (fun h9 => hj (by rw [h9.2]; decide))).trans (sv_n _ (fun h9 => hj (by rw [h9.2]; decide))))))), (by omega), (by omega), (fun _ h8 h9 => by exfalso; omega), (by omega), (by omega)⟩
      · refine lv_aload_n hx hb dX12_counts_109 rfl (lv_at hl 4 rfl) ?_
        refine xa_getr G fd_X12 (a := 111) (x := 112) 1 rfl (by decide) rfl (wm 7 150 rfl rfl) ⟨rfl, rfl, rfl⟩ dX12_counts_110 rfl (G.sk 110 rfl) (by decide) rfl ?_
        refine lv_aload_n hx hb dX12_counts_113 rfl (lv_at hl 4 rfl) ?_
        refine xa_geti G fd_X12 (a := 111) (x := μ10.1 111 6) 6 rfl (by decide) rfl (wm 7 155 rfl rfl) ⟨rfl, rfl, rfl⟩ dX12_counts_114 rfl rfl ?_
        refine lv_iconst (v := iv 1) hx hb dX12_counts_117 rfl ?_
        refine xb_iadd hx hb dX12_counts_118 ?_
        refine xa_iald G (a := 112) (i := (μ10.1 111 6) + 1) rfl (by have h9 := G.lc (a := 112) (n := 3000) 50 rfl; omega) dX12_counts_119 rfl ?_
        refine xb_ti (y := μ.1 112 (μ10.1 111 6 + 1)) ((F_12.1 112 (by decide) (μ10.1 111 6 + 1)).trans ((sv_n _ (fun h9 => absurd h9.1 (by decide))).trans (sv_n _ (fun h9 => absurd h9.1 (by decide))))) ?_
        have hr_113 : -2147483648 ≤ μ.1 112 (μ10.1 111 6 + 1) ∧ μ.1 112 (μ10.1 111 6 + 1) ≤ 2147483647 := by have h9 := G.hr (a := 112) (k := (μ10.1 111 6) + 1) rfl; rw [((F_12.1 112 (by decide) (μ10.1 111 6 + 1)).trans ((sv_n _ (fun h9 => absurd h9.1 (by decide))).trans (sv_n _ (fun h9 => absurd h9.1 (by decide)))))] at h9; exact h9
        have e_114 : μ10.1 112 (μ10.1 111 6 + 1) = μ.1 112 (μ10.1 111 6 + 1) := ((F_12.1 112 (by decide) (μ10.1 111 6 + 1)).trans ((sv_n _ (fun h9 => absurd h9.1 (by decide))).trans (sv_n _ (fun h9 => absurd h9.1 (by decide)))))
        have e_115 : μ10.1 112 (μ10.1 111 6 + 1) = μ.1 112 (μ10.1 111 6 + 1) := ((F_12.1 112 (by decide) (μ10.1 111 6 + 1)).trans ((sv_n _ (fun h9 => absurd h9.1 (by decide))).trans (sv_n _ (fun h9 => absurd h9.1 (by decide)))))
        have e_116 : μ10.1 112 (μ10.1 111 6 + 1) = μ.1 112 (μ10.1 111 6 + 1) := ((F_12.1 112 (by decide) (μ10.1 111 6 + 1)).trans ((sv_n _ (fun h9 => absurd h9.1 (by decide))).trans (sv_n _ (fun h9 => absurd h9.1 (by decide)))))
        have e_117 : μ10.1 112 (μ10.1 111 6 + 1) = μ.1 112 (μ10.1 111 6 + 1) := ((F_12.1 112 (by decide) (μ10.1 111 6 + 1)).trans ((sv_n _ (fun h9 => absurd h9.1 (by decide))).trans (sv_n _ (fun h9 => absurd h9.1 (by decide)))))
        refine xc_iS G (rest := []) (As := [.int (iv (μ.1 112 (μ10.1 111 6 + 1)))]) (c_X12_isDigit ω l μ10 (μ.1 112 (μ10.1 111 6 + 1)) (by unfold ir; omega)) (wm 9 19 rfl rfl) (wm 9 20 rfl rfl) (wm 1 18 rfl rfl) (wm 9 21 rfl rfl) (by decide) hR (by decide) (n := 1) rfl rfl (Nat.le_of_ble_eq_true rfl) hl.1 dX12_counts_120 (fun r_119 μ118 ρ d0 H locs hr_r_119 hp G => ?_)
        have hr_r_119 : -2147483648 ≤ r_119 ∧ r_119 ≤ 2147483647 := hr_r_119
        obtain ⟨hsm_120, hp_121⟩ := hp
        have hsm_120 := Eq.symm hsm_120
        subst hsm_120
        refine xb_if_eq (tgt := 159) hx hb (by unfold ir; omega) dX12_counts_123 (by decide) (fun c_123 => ?_) (fun c_123 => ?_)
        · refine lv_iload_n hx hb dX12_counts_159 rfl (lv_at hl 1 rfl) ?_
          refine lv_iload hx hb dX12_counts_160 (lv_at hl 0 rfl) ?_
          refine xb_iadd hx hb dX12_counts_162 ?_
          refine lv_bipush (v := iv 15) hx hb dX12_counts_163 rfl ?_
          refine xb_icmp_gt (tgt := 172) hx hb (by unfold ir; omega) (by unfold ir; omega) dX12_counts_165 (by decide) (fun c_165 => ?_) (fun c_165 => ?_)
          · refine lv_aload_n hx hb dX12_counts_172 rfl (lv_at hl 4 rfl) ?_
            refine lv_aload_n hx hb dX12_counts_173 rfl (lv_at hl 4 rfl) ?_
            refine xa_geti G fd_X12 (a := 111) (x := μ.1 111 9) 9 rfl (by decide) rfl (wm 7 158 rfl rfl) ⟨rfl, rfl, rfl⟩ dX12_counts_174 rfl ((hp_13 9 (by decide)).trans ((sv_n _ (by decide)).trans (sv_n _ (by decide)))) ?_
            have hr_122 : -2147483648 ≤ μ.1 111 9 ∧ μ.1 111 9 ≤ 2147483647 := by have h9 := G.hr (a := 111) (k := 9) rfl; rw [show μ10.1 111 9 = μ.1 111 9 from ((hp_13 9 (by decide)).trans ((sv_n _ (by decide)).trans (sv_n _ (by decide))))] at h9; exact h9
            have e_123 : μ10.1 111 9 = μ.1 111 9 := ((hp_13 9 (by decide)).trans ((sv_n _ (by decide)).trans (sv_n _ (by decide))))
            refine xc_vV G (b := 111) (rest := []) (As := [.int (iv (μ.1 111 9))]) (c_X12_wrong ω l μ10 (μ.1 111 9) (by unfold ir; omega) (by omega)) (wm 9 22 rfl rfl) (wm 9 24 rfl rfl) (wm 0 123 rfl rfl) rfl rfl (by decide) rfl (wm 1 18 rfl rfl) (wm 9 25 rfl rfl) (by decide) hR (by decide) (n := 1) rfl rfl (Nat.le_of_ble_eq_true rfl) hl.1 dX12_counts_177 (fun μ124 ρ d0 H locs hp G => ?_)
            obtain ⟨F_125, hp_126, hp_127⟩ := hp
            have hw_128 := wr_r (μ := μ124)
            have e_129 : μ124.1 111 6 = μ10.1 111 6 := (hp_126 6 (by decide))
            have e_130 : μ124.1 111 6 = μ10.1 111 6 := (hp_126 6 (by decide))
            have e_131 : μ124.1 111 8 = 2 := ((hp_126 8 (by decide)).trans ((hp_13 8 (by decide)).trans ((sv_n _ (by decide)).trans (sv_s _ _ _ _))))
            exact xr_v G hret hlk dX12_counts_180 ⟨(FrM.tr (FrM.tr (FrM.put (FrM.put FrM.rf (by decide)) (by decide)) F_12 (by decide)) F_125 (by decide)), (fun j hj => ((hp_126 j (fun h9 => hj ((by decide : ∀ x ∈ ([15] : List Int), x ∈ ([6, 8, 12, 15] : List Int)) j h9))).trans ((hp_13 j (fun h9 => hj ((by decide : ∀ x ∈ ([6, 12] : List Int), x ∈ ([6, 8, 12, 15] : List Int)) j h9))).trans ((sv_n _ (fun h9 => hj (by rw [h9.2]; decide))).trans (sv_n _ (fun h9 => hj (by rw [h9.2]; decide))))))), (by omega), (by omega), (fun _ h8 h9 => by exfalso; omega), (by omega), (by omega)⟩
          · refine lv_iload_n hx hb dX12_counts_168 rfl (lv_at hl 2 rfl) ?_
            refine xb_if_ne (tgt := 181) hx hb (by unfold ir; omega) dX12_counts_169 (by decide) (fun c_169 => ?_) (fun c_169 => ?_)
            · refine lv_dconst1 hx hb dX12_counts_181 ?_
              refine xb_topd (fun dd_132 he_dd_132 => ?_)
              refine lv_dstore (lv' := [(5, .double (dv dd_132)), (4, .int (iv 0)), (3, .int (iv ((μ10.1 111 6) - (μ.1 111 6)))), (2, .int (iv r_11)), (1, .int (iv (μ.1 111 6))), (0, .ref (oP ω 111))]) hx hb dX12_counts_182 hl (by decide) rfl (fun ls hl => ?_)
              refine lv_iconst (v := iv 0) hx hb dX12_counts_184 rfl ?_
              refine lv_istore (lv' := [(7, .int (iv 0)), (5, .double (dv dd_132)), (4, .int (iv 0)), (3, .int (iv ((μ10.1 111 6) - (μ.1 111 6)))), (2, .int (iv r_11)), (1, .int (iv (μ.1 111 6))), (0, .ref (oP ω 111))]) hx hb dX12_counts_185 hl (by decide) rfl (fun ls hl => ?_)
              refine xl (fun n_9 μ' ls => ∃ (k9 : Int), ∃ (dv9 : Int), (μ' = μ10) ∧ (-2147483648 ≤ k9 ∧ k9 ≤ 2147483647) ∧ (0 ≤ k9) ∧ n_9 = Int.toNat (4000 - k9) ∧ lv_has ls 8 [(7, .int (iv k9)), (5, .double (dv dv9)), (4, .int (iv 0)), (3, .int (iv ((μ10.1 111 6) - (μ.1 111 6)))), (2, .int (iv r_11)), (1, .int (iv (μ.1 111 6))), (0, .ref (oP ω 111))]) (fun n_9 ρ μL133 d0 H locs ls hI_l G ih => ?_) _ _ _ _ _ _ _ ⟨0, dd_132, rfl, (by omega), (by omega), rfl, lv_sub hl [0, 1, 2, 3, 4, 5, 6] rfl⟩ G
              obtain ⟨k9, dv9, FL134, hi_136, hi_137, hn135, hl⟩ := hI_l
              have FL134 := Eq.symm FL134
              subst FL134
              refine lv_iload hx hb dX12_counts_187 (lv_at hl 0 rfl) ?_
              refine lv_iload hx hb dX12_counts_189 (lv_at hl 2 rfl) ?_
              refine xb_icmp_ge (tgt := 208) hx hb (by unfold ir; omega) (by unfold ir; omega) dX12_counts_191 (by decide) (fun c_191 => ?_) (fun c_191 => ?_)
              · refine lv_aload_n hx hb dX12_counts_208 rfl (lv_at hl 6 rfl) ?_
                refine lv_aload_n hx hb dX12_counts_209 rfl (lv_at hl 6 rfl) ?_
                refine xa_getl G fd_X12 (a := 111) (x := μ10.1 111 12) 12 rfl (by decide) rfl (wm 7 161 rfl rfl) ⟨rfl, rfl, rfl⟩ dX12_counts_210 rfl rfl ?_
                have hj_138 : jr (μ10.1 111 12) := by have h9 := G.hj (a := 111) (k := 12) rfl; exact h9
                refine lv_l2d hx hb dX12_counts_213 ?_
                refine xb_topd (fun dd_139 he_dd_139 => ?_)
                refine lv_dload hx hb dX12_counts_214 (lv_at hl 1 rfl) ?_
                refine xd_ddiv G dX12_counts_216 (fun dd_140 d0 G => ?_)
                refine xc_lS G (rest := [.ref (oP ω 111)]) (As := [.double (dv dd_140)]) (c_Jxe99ae_doubleToLongBits_ccdee ω l μ10 dd_140 ) (wm 9 44 rfl rfl) (wm 9 45 rfl rfl) (wm 1 23 rfl rfl) (wm 9 46 rfl rfl) (by decide) hR (by decide) (n := 1) rfl rfl (Nat.le_of_ble_eq_true rfl) hl.1 dX12_counts_217 (fun r_142 μ141 ρ d0 H locs hr_r_142 hp G => ?_)
                obtain ⟨hsm_143, hp_144⟩ := hp
                have hsm_143 := Eq.symm hsm_143
                subst hsm_143
                refine xa_putl G fd_X12 (a := 111) (x := r_142) 12 (kz := 12) rfl rfl (by decide) rfl hr_r_142 (wm 7 161 rfl rfl) ⟨rfl, rfl, rfl, rfl⟩ rfl dX12_counts_220 rfl (fun H locs G => ?_)
                have e_145 : wr (sv μ10 111 12 r_142) = wr μ := ((wr_cg (sv_n _ (by decide))).trans ((wr_cg (hp_13 15 (by decide))).trans ((wr_cg (sv_n _ (by decide))).trans (wr_cg (sv_n _ (by decide))))))
                have e_146 : (sv μ10 111 12 r_142).1 111 6 = μ10.1 111 6 := (sv_n _ (by decide))
                have e_147 : (sv μ10 111 12 r_142).1 111 6 = μ10.1 111 6 := (sv_n _ (by decide))
                have e_148 : (sv μ10 111 12 r_142).1 111 8 = 2 := ((sv_n _ (by decide)).trans ((hp_13 8 (by decide)).trans ((sv_n _ (by decide)).trans (sv_s _ _ _ _))))
                have e_149 : wr (sv μ10 111 12 r_142) = wr μ := ((wr_cg (sv_n _ (by decide))).trans ((wr_cg (hp_13 15 (by decide))).trans ((wr_cg (sv_n _ (by decide))).trans (wr_cg (sv_n _ (by decide))))))
                have e_150 : bd (sv μ10 111 12 r_142) = bd μ := ((bd_cg (sv_n _ (by decide)) (sv_n _ (by decide)) (sv_n _ (by decide))).trans ((bd_cg (hp_13 15 (by decide)) (hp_13 16 (by decide)) (hp_13 17 (by decide))).trans ((bd_cg (sv_n _ (by decide)) (sv_n _ (by decide)) (sv_n _ (by decide))).trans (bd_cg (sv_n _ (by decide)) (sv_n _ (by decide)) (sv_n _ (by decide))))))
                have e_151 : wr (sv μ10 111 12 r_142) = wr μ := ((wr_cg (sv_n _ (by decide))).trans ((wr_cg (hp_13 15 (by decide))).trans ((wr_cg (sv_n _ (by decide))).trans (wr_cg (sv_n _ (by decide))))))
                have e_152 : nn (sv μ10 111 12 r_142) = nn μ := ((nn_cg (sv_n _ (by decide)) (sv_n _ (by decide))).trans ((nn_cg (hp_13 15 (by decide)) (hp_13 18 (by decide))).trans ((nn_cg (sv_n _ (by decide)) (sv_n _ (by decide))).trans (nn_cg (sv_n _ (by decide)) (sv_n _ (by decide))))))
                exact xr_v G hret hlk dX12_counts_223 ⟨(FrM.put (FrM.tr (FrM.put (FrM.put FrM.rf (by decide)) (by decide)) F_12 (by decide)) (by decide)), (fun j hj => ((sv_n _ (fun h9 => hj (by rw [h9.2]; decide))).trans ((hp_13 j (fun h9 => hj ((by decide : ∀ x ∈ ([6, 12] : List Int), x ∈ ([6, 8, 12, 15] : List Int)) j h9))).trans ((sv_n _ (fun h9 => hj (by rw [h9.2]; decide))).trans (sv_n _ (fun h9 => hj (by rw [h9.2]; decide))))))), (by omega), (by omega), (fun _ _ _ => by rw [show (sv μ10 111 12 r_142).1 111 12 = r_142 from (sv_s _ _ _ _)]; exact hp_144 ()), (by omega), (by omega)⟩
              · refine lv_ldc2d (s := s.setDrawn d0) hx hb G.1.2.2.2.1 (dr_words G.1.2.2.2.2 d0 _ (wm 9 43 rfl rfl)) dX12_counts_194 ?_
                refine xb_topd (fun dd_153 he_dd_153 => ?_)
                refine lv_dload hx hb dX12_counts_197 (lv_at hl 1 rfl) ?_
                refine xd_dmul G dX12_counts_199 (fun dd_154 d0 G => ?_)
                refine lv_dstore (lv' := [(5, .double (dv dd_154)), (7, .int (iv k9)), (4, .int (iv 0)), (3, .int (iv ((μ10.1 111 6) - (μ.1 111 6)))), (2, .int (iv r_11)), (1, .int (iv (μ.1 111 6))), (0, .ref (oP ω 111))]) hx hb dX12_counts_200 hl (by decide) rfl (fun ls hl => ?_)
                refine lv_iinc (v := iv (k9 + 1)) (lv' := [(7, .int (iv (k9 + 1))), (5, .double (dv dd_154)), (4, .int (iv 0)), (3, .int (iv ((μ10.1 111 6) - (μ.1 111 6)))), (2, .int (iv r_11)), (1, .int (iv (μ.1 111 6))), (0, .ref (oP ω 111))]) hx hb dX12_counts_202 hl (k := 1) rfl (by rw [show Int32.ofInt 1 = iv 1 from rfl, iv_add]) (by decide) rfl (fun ls hl => ?_)
                refine lv_goto (tgt := 187) hx hb dX12_counts_205 (by decide) ?_
                exact ih _ _ _ _ _ _ _ (by omega) ⟨k9 + 1, dd_154, rfl, (by omega), (by omega), rfl, lv_sub hl [0, 1, 2, 3, 4, 5, 6] rfl⟩ G
            · refine lv_aload_n hx hb dX12_counts_172 rfl (lv_at hl 4 rfl) ?_
              refine lv_aload_n hx hb dX12_counts_173 rfl (lv_at hl 4 rfl) ?_
              refine xa_geti G fd_X12 (a := 111) (x := μ.1 111 9) 9 rfl (by decide) rfl (wm 7 158 rfl rfl) ⟨rfl, rfl, rfl⟩ dX12_counts_174 rfl ((hp_13 9 (by decide)).trans ((sv_n _ (by decide)).trans (sv_n _ (by decide)))) ?_
              have hr_155 : -2147483648 ≤ μ.1 111 9 ∧ μ.1 111 9 ≤ 2147483647 := by have h9 := G.hr (a := 111) (k := 9) rfl; rw [show μ10.1 111 9 = μ.1 111 9 from ((hp_13 9 (by decide)).trans ((sv_n _ (by decide)).trans (sv_n _ (by decide))))] at h9; exact h9
              have e_156 : μ10.1 111 9 = μ.1 111 9 := ((hp_13 9 (by decide)).trans ((sv_n _ (by decide)).trans (sv_n _ (by decide))))
              refine xc_vV G (b := 111) (rest := []) (As := [.int (iv (μ.1 111 9))]) (c_X12_wrong ω l μ10 (μ.1 111 9) (by unfold ir; omega) (by omega)) (wm 9 22 rfl rfl) (wm 9 24 rfl rfl) (wm 0 123 rfl rfl) rfl rfl (by decide) rfl (wm 1 18 rfl rfl) (wm 9 25 rfl rfl) (by decide) hR (by decide) (n := 1) rfl rfl (Nat.le_of_ble_eq_true rfl) hl.1 dX12_counts_177 (fun μ157 ρ d0 H locs hp G => ?_)
              obtain ⟨F_158, hp_159, hp_160⟩ := hp
              have hw_161 := wr_r (μ := μ157)
              have e_162 : μ157.1 111 6 = μ10.1 111 6 := (hp_159 6 (by decide))
              have e_163 : μ157.1 111 6 = μ10.1 111 6 := (hp_159 6 (by decide))
              have e_164 : μ157.1 111 8 = 2 := ((hp_159 8 (by decide)).trans ((hp_13 8 (by decide)).trans ((sv_n _ (by decide)).trans (sv_s _ _ _ _))))
              exact xr_v G hret hlk dX12_counts_180 ⟨(FrM.tr (FrM.tr (FrM.put (FrM.put FrM.rf (by decide)) (by decide)) F_12 (by decide)) F_158 (by decide)), (fun j hj => ((hp_159 j (fun h9 => hj ((by decide : ∀ x ∈ ([15] : List Int), x ∈ ([6, 8, 12, 15] : List Int)) j h9))).trans ((hp_13 j (fun h9 => hj ((by decide : ∀ x ∈ ([6, 12] : List Int), x ∈ ([6, 8, 12, 15] : List Int)) j h9))).trans ((sv_n _ (fun h9 => hj (by rw [h9.2]; decide))).trans (sv_n _ (fun h9 => hj (by rw [h9.2]; decide))))))), (by omega), (by omega), (fun _ h8 h9 => by exfalso; omega), (by omega), (by omega)⟩
        · refine lv_aload_n hx hb dX12_counts_126 rfl (lv_at hl 4 rfl) ?_
          refine lv_dup hx hb dX12_counts_127 rfl ?_
          refine xa_geti G fd_X12 (a := 111) (x := μ10.1 111 6) 6 rfl (by decide) rfl (wm 7 155 rfl rfl) ⟨rfl, rfl, rfl⟩ dX12_counts_128 rfl rfl ?_
          refine lv_iconst (v := iv 1) hx hb dX12_counts_131 rfl ?_
          refine xb_iadd hx hb dX12_counts_132 ?_
          refine xa_puti G fd_X12 (a := 111) (x := (μ10.1 111 6) + 1) 6 (kz := 6) rfl rfl (by decide) rfl (by unfold ir; omega) (wm 7 155 rfl rfl) ⟨rfl, rfl, rfl, rfl⟩ rfl dX12_counts_133 rfl (fun H locs G => ?_)
          refine lv_aload_n hx hb dX12_counts_136 rfl (lv_at hl 4 rfl) ?_
          refine xa_geti G fd_X12 (a := 111) (x := (μ10.1 111 6) + 1) 6 rfl (by decide) rfl (wm 7 155 rfl rfl) ⟨rfl, rfl, rfl⟩ dX12_counts_137 rfl (sv_s _ _ _ _) ?_
          have hr_165 : -2147483648 ≤ (μ10.1 111 6) + 1 ∧ (μ10.1 111 6) + 1 ≤ 2147483647 := by have h9 := G.hr (a := 111) (k := 6) rfl; rw [show (sv μ10 111 6 ((μ10.1 111 6) + 1)).1 111 6 = (μ10.1 111 6) + 1 from (sv_s _ _ _ _)] at h9; exact h9
          refine lv_istore_n (lv' := [(1, .int (iv ((μ10.1 111 6) + 1))), (4, .int (iv 0)), (3, .int (iv ((μ10.1 111 6) - (μ.1 111 6)))), (2, .int (iv r_11)), (0, .ref (oP ω 111))]) hx hb dX12_counts_140 rfl hl (by decide) rfl (fun ls hl => ?_)
          refine lv_iload_n hx hb dX12_counts_141 rfl (lv_at hl 3 rfl) ?_
          refine lv_aload_n hx hb dX12_counts_142 rfl (lv_at hl 4 rfl) ?_
          refine lv_ldc2 (s := s.setDrawn d0) hx hb G.1.2.2.2.1 (dr_words G.1.2.2.2.2 d0 _ (wm 9 42 rfl rfl)) dX12_counts_143 ?_
          refine xb_litl (x := 999999999999999) (by decide) ?_
          have e_166 : (sv μ10 111 6 ((μ10.1 111 6) + 1)).1 111 6 = (μ10.1 111 6) + 1 := (sv_s _ _ _ _)
          have e_167 : (sv μ10 111 6 ((μ10.1 111 6) + 1)).1 111 6 = (μ10.1 111 6) + 1 := (sv_s _ _ _ _)
          have e_168 : (sv μ10 111 6 ((μ10.1 111 6) + 1)).1 111 7 = μ.1 111 7 := ((sv_n _ (by decide)).trans ((hp_13 7 (by decide)).trans ((sv_n _ (by decide)).trans (sv_n _ (by decide)))))
          have e_169 : (sv μ10 111 6 ((μ10.1 111 6) + 1)).1 111 7 = μ.1 111 7 := ((sv_n _ (by decide)).trans ((hp_13 7 (by decide)).trans ((sv_n _ (by decide)).trans (sv_n _ (by decide)))))
          have e_170 : (sv μ10 111 6 ((μ10.1 111 6) + 1)).1 111 6 = (μ10.1 111 6) + 1 := (sv_s _ _ _ _)
          have e_171 : (sv μ10 111 6 ((μ10.1 111 6) + 1)).1 111 7 = μ.1 111 7 := ((sv_n _ (by decide)).trans ((hp_13 7 (by decide)).trans ((sv_n _ (by decide)).trans (sv_n _ (by decide)))))
          have e_172 : (sv μ10 111 6 ((μ10.1 111 6) + 1)).1 111 6 = (μ10.1 111 6) + 1 := (sv_s _ _ _ _)
          refine xc_iV G (b := 111) (rest := [.int (iv r_11)]) (As := [.long (jv 999999999999999)]) (c_X12_whole ω l (sv μ10 111 6 ((μ10.1 111 6) + 1)) 999999999999999 (by unfold jr; omega) (by omega) (by omega)) (wm 9 37 rfl rfl) (wm 9 39 rfl rfl) (wm 0 125 rfl rfl) rfl rfl (by decide) rfl (wm 1 18 rfl rfl) (wm 9 40 rfl rfl) (by decide) hR (by decide) (n := 1) rfl rfl (Nat.le_of_ble_eq_true rfl) hl.1 dX12_counts_146 (fun r_174 μ173 ρ d0 H locs hr_r_174 hp G => ?_)
          have hr_r_174 : -2147483648 ≤ r_174 ∧ r_174 ≤ 2147483647 := hr_r_174
          obtain ⟨F_175, hp_176, hp_177, hp_178, hp_179⟩ := hp
          refine lv_iand hx hb dX12_counts_149 ?_
          refine xb_topi (fun y_180 hr_y_180 he_y_180 => ?_)
          have hr_y_180 : -2147483648 ≤ y_180 ∧ y_180 ≤ 2147483647 := hr_y_180
          refine lv_istore_n (lv' := [(2, .int (iv y_180)), (1, .int (iv ((μ10.1 111 6) + 1))), (4, .int (iv 0)), (3, .int (iv ((μ10.1 111 6) - (μ.1 111 6)))), (0, .ref (oP ω 111))]) hx hb dX12_counts_150 rfl hl (by decide) rfl (fun ls hl => ?_)
          refine lv_aload_n hx hb dX12_counts_151 rfl (lv_at hl 4 rfl) ?_
          refine xa_geti G fd_X12 (a := 111) (x := μ173.1 111 6) 6 rfl (by decide) rfl (wm 7 155 rfl rfl) ⟨rfl, rfl, rfl⟩ dX12_counts_152 rfl rfl ?_
          have hr_181 : -2147483648 ≤ μ173.1 111 6 ∧ μ173.1 111 6 ≤ 2147483647 := by have h9 := G.hr (a := 111) (k := 6) rfl; exact h9
          refine lv_iload_n hx hb dX12_counts_155 rfl (lv_at hl 1 rfl) ?_
          refine xb_isub hx hb dX12_counts_156 ?_
          refine lv_istore (lv' := [(4, .int (iv ((μ173.1 111 6) - ((μ10.1 111 6) + 1)))), (2, .int (iv y_180)), (1, .int (iv ((μ10.1 111 6) + 1))), (3, .int (iv ((μ10.1 111 6) - (μ.1 111 6)))), (0, .ref (oP ω 111))]) hx hb dX12_counts_157 hl (by decide) rfl (fun ls hl => ?_)
          refine lv_iload_n hx hb dX12_counts_159 rfl (lv_at hl 3 rfl) ?_
          refine lv_iload hx hb dX12_counts_160 (lv_at hl 0 rfl) ?_
          refine xb_iadd hx hb dX12_counts_162 ?_
          refine lv_bipush (v := iv 15) hx hb dX12_counts_163 rfl ?_
          refine xb_icmp_gt (tgt := 172) hx hb (by unfold ir; omega) (by unfold ir; omega) dX12_counts_165 (by decide) (fun c_165 => ?_) (fun c_165 => ?_)
          · refine lv_aload_n hx hb dX12_counts_172 rfl (lv_at hl 4 rfl) ?_
            refine lv_aload_n hx hb dX12_counts_173 rfl (lv_at hl 4 rfl) ?_
            refine xa_geti G fd_X12 (a := 111) (x := μ.1 111 9) 9 rfl (by decide) rfl (wm 7 158 rfl rfl) ⟨rfl, rfl, rfl⟩ dX12_counts_174 rfl ((hp_176 9 (by decide)).trans ((sv_n _ (by decide)).trans ((hp_13 9 (by decide)).trans ((sv_n _ (by decide)).trans (sv_n _ (by decide)))))) ?_
            have hr_182 : -2147483648 ≤ μ.1 111 9 ∧ μ.1 111 9 ≤ 2147483647 := by have h9 := G.hr (a := 111) (k := 9) rfl; rw [show μ173.1 111 9 = μ.1 111 9 from ((hp_176 9 (by decide)).trans ((sv_n _ (by decide)).trans ((hp_13 9 (by decide)).trans ((sv_n _ (by decide)).trans (sv_n _ (by decide))))))] at h9; exact h9
            have e_183 : μ173.1 111 9 = μ.1 111 9 := ((hp_176 9 (by decide)).trans ((sv_n _ (by decide)).trans ((hp_13 9 (by decide)).trans ((sv_n _ (by decide)).trans (sv_n _ (by decide))))))
            refine xc_vV G (b := 111) (rest := []) (As := [.int (iv (μ.1 111 9))]) (c_X12_wrong ω l μ173 (μ.1 111 9) (by unfold ir; omega) (by omega)) (wm 9 22 rfl rfl) (wm 9 24 rfl rfl) (wm 0 123 rfl rfl) rfl rfl (by decide) rfl (wm 1 18 rfl rfl) (wm 9 25 rfl rfl) (by decide) hR (by decide) (n := 1) rfl rfl (Nat.le_of_ble_eq_true rfl) hl.1 dX12_counts_177 (fun μ184 ρ d0 H locs hp G => ?_)
            obtain ⟨F_185, hp_186, hp_187⟩ := hp
            have hw_188 := wr_r (μ := μ184)
            have e_189 : μ184.1 111 6 = μ173.1 111 6 := (hp_186 6 (by decide))
            have e_190 : μ184.1 111 6 = μ173.1 111 6 := (hp_186 6 (by decide))
            have e_191 : μ184.1 111 8 = 2 := ((hp_186 8 (by decide)).trans ((hp_176 8 (by decide)).trans ((sv_n _ (by decide)).trans ((hp_13 8 (by decide)).trans ((sv_n _ (by decide)).trans (sv_s _ _ _ _))))))
            exact xr_v G hret hlk dX12_counts_180 ⟨(FrM.tr (FrM.tr (FrM.put (FrM.tr (FrM.put (FrM.put FrM.rf (by decide)) (by decide)) F_12 (by decide)) (by decide)) F_175 (by decide)) F_185 (by decide)), (fun j hj => ((hp_186 j (fun h9 => hj ((by decide : ∀ x ∈ ([15] : List Int), x ∈ ([6, 8, 12, 15] : List Int)) j h9))).trans ((hp_176 j (fun h9 => hj ((by decide : ∀ x ∈ ([6, 12] : List Int), x ∈ ([6, 8, 12, 15] : List Int)) j h9))).trans ((sv_n _ (fun h9 => hj (by rw [h9.2]; decide))).trans ((hp_13 j (fun h9 => hj ((by decide : ∀ x ∈ ([6, 12] : List Int), x ∈ ([6, 8, 12, 15] : List Int)) j h9))).trans ((sv_n _ (fun h9 => hj (by rw [h9.2]; decide))).trans (sv_n _ (fun h9 => hj (by rw [h9.2]; decide))))))))), (by omega), (by omega), (fun _ h8 h9 => by exfalso; omega), (by omega), (by omega)⟩
          · refine lv_iload_n hx hb dX12_counts_168 rfl (lv_at hl 1 rfl) ?_
            refine xb_if_ne (tgt := 181) hx hb (by unfold ir; omega) dX12_counts_169 (by decide) (fun c_169 => ?_) (fun c_169 => ?_)
            · refine lv_dconst1 hx hb dX12_counts_181 ?_
              refine xb_topd (fun dd_192 he_dd_192 => ?_)
              refine lv_dstore (lv' := [(5, .double (dv dd_192)), (4, .int (iv ((μ173.1 111 6) - ((μ10.1 111 6) + 1)))), (2, .int (iv y_180)), (1, .int (iv ((μ10.1 111 6) + 1))), (3, .int (iv ((μ10.1 111 6) - (μ.1 111 6)))), (0, .ref (oP ω 111))]) hx hb dX12_counts_182 hl (by decide) rfl (fun ls hl => ?_)
              refine lv_iconst (v := iv 0) hx hb dX12_counts_184 rfl ?_
              refine lv_istore (lv' := [(7, .int (iv 0)), (5, .double (dv dd_192)), (4, .int (iv ((μ173.1 111 6) - ((μ10.1 111 6) + 1)))), (2, .int (iv y_180)), (1, .int (iv ((μ10.1 111 6) + 1))), (3, .int (iv ((μ10.1 111 6) - (μ.1 111 6)))), (0, .ref (oP ω 111))]) hx hb dX12_counts_185 hl (by decide) rfl (fun ls hl => ?_)
              refine xl (fun n_9 μ' ls => ∃ (k9 : Int), ∃ (dv9 : Int), (μ' = μ173) ∧ (-2147483648 ≤ k9 ∧ k9 ≤ 2147483647) ∧ (0 ≤ k9) ∧ n_9 = Int.toNat (4000 - k9) ∧ lv_has ls 8 [(7, .int (iv k9)), (5, .double (dv dv9)), (4, .int (iv ((μ173.1 111 6) - ((μ10.1 111 6) + 1)))), (2, .int (iv y_180)), (1, .int (iv ((μ10.1 111 6) + 1))), (3, .int (iv ((μ10.1 111 6) - (μ.1 111 6)))), (0, .ref (oP ω 111))]) (fun n_9 ρ μL193 d0 H locs ls hI_l G ih => ?_) _ _ _ _ _ _ _ ⟨0, dd_192, rfl, (by omega), (by omega), rfl, lv_sub hl [0, 1, 2, 3, 4, 5, 6] rfl⟩ G
              obtain ⟨k9, dv9, FL194, hi_196, hi_197, hn195, hl⟩ := hI_l
              have FL194 := Eq.symm FL194
              subst FL194
              refine lv_iload hx hb dX12_counts_187 (lv_at hl 0 rfl) ?_
              refine lv_iload hx hb dX12_counts_189 (lv_at hl 2 rfl) ?_
              refine xb_icmp_ge (tgt := 208) hx hb (by unfold ir; omega) (by unfold ir; omega) dX12_counts_191 (by decide) (fun c_191 => ?_) (fun c_191 => ?_)
              · refine lv_aload_n hx hb dX12_counts_208 rfl (lv_at hl 6 rfl) ?_
                refine lv_aload_n hx hb dX12_counts_209 rfl (lv_at hl 6 rfl) ?_
                refine xa_getl G fd_X12 (a := 111) (x := μ173.1 111 12) 12 rfl (by decide) rfl (wm 7 161 rfl rfl) ⟨rfl, rfl, rfl⟩ dX12_counts_210 rfl rfl ?_
                have hj_198 : jr (μ173.1 111 12) := by have h9 := G.hj (a := 111) (k := 12) rfl; exact h9
                refine lv_l2d hx hb dX12_counts_213 ?_
                refine xb_topd (fun dd_199 he_dd_199 => ?_)
                refine lv_dload hx hb dX12_counts_214 (lv_at hl 1 rfl) ?_
                refine xd_ddiv G dX12_counts_216 (fun dd_200 d0 G => ?_)
                refine xc_lS G (rest := [.ref (oP ω 111)]) (As := [.double (dv dd_200)]) (c_Jxe99ae_doubleToLongBits_ccdee ω l μ173 dd_200 ) (wm 9 44 rfl rfl) (wm 9 45 rfl rfl) (wm 1 23 rfl rfl) (wm 9 46 rfl rfl) (by decide) hR (by decide) (n := 1) rfl rfl (Nat.le_of_ble_eq_true rfl) hl.1 dX12_counts_217 (fun r_202 μ201 ρ d0 H locs hr_r_202 hp G => ?_)
                obtain ⟨hsm_203, hp_204⟩ := hp
                have hsm_203 := Eq.symm hsm_203
                subst hsm_203
                refine xa_putl G fd_X12 (a := 111) (x := r_202) 12 (kz := 12) rfl rfl (by decide) rfl hr_r_202 (wm 7 161 rfl rfl) ⟨rfl, rfl, rfl, rfl⟩ rfl dX12_counts_220 rfl (fun H locs G => ?_)
                have e_205 : wr (sv μ173 111 12 r_202) = wr μ := ((wr_cg (sv_n _ (by decide))).trans ((wr_cg (hp_176 15 (by decide))).trans ((wr_cg (sv_n _ (by decide))).trans ((wr_cg (hp_13 15 (by decide))).trans ((wr_cg (sv_n _ (by decide))).trans (wr_cg (sv_n _ (by decide))))))))
                have e_206 : (sv μ173 111 12 r_202).1 111 6 = μ173.1 111 6 := (sv_n _ (by decide))
                have e_207 : (sv μ173 111 12 r_202).1 111 6 = μ173.1 111 6 := (sv_n _ (by decide))
                have e_208 : (sv μ173 111 12 r_202).1 111 8 = 2 := ((sv_n _ (by decide)).trans ((hp_176 8 (by decide)).trans ((sv_n _ (by decide)).trans ((hp_13 8 (by decide)).trans ((sv_n _ (by decide)).trans (sv_s _ _ _ _))))))
                have e_209 : wr (sv μ173 111 12 r_202) = wr μ := ((wr_cg (sv_n _ (by decide))).trans ((wr_cg (hp_176 15 (by decide))).trans ((wr_cg (sv_n _ (by decide))).trans ((wr_cg (hp_13 15 (by decide))).trans ((wr_cg (sv_n _ (by decide))).trans (wr_cg (sv_n _ (by decide))))))))
                have e_210 : bd (sv μ173 111 12 r_202) = bd μ := ((bd_cg (sv_n _ (by decide)) (sv_n _ (by decide)) (sv_n _ (by decide))).trans ((bd_cg (hp_176 15 (by decide)) (hp_176 16 (by decide)) (hp_176 17 (by decide))).trans ((bd_cg (sv_n _ (by decide)) (sv_n _ (by decide)) (sv_n _ (by decide))).trans ((bd_cg (hp_13 15 (by decide)) (hp_13 16 (by decide)) (hp_13 17 (by decide))).trans ((bd_cg (sv_n _ (by decide)) (sv_n _ (by decide)) (sv_n _ (by decide))).trans (bd_cg (sv_n _ (by decide)) (sv_n _ (by decide)) (sv_n _ (by decide))))))))
                have e_211 : wr (sv μ173 111 12 r_202) = wr μ := ((wr_cg (sv_n _ (by decide))).trans ((wr_cg (hp_176 15 (by decide))).trans ((wr_cg (sv_n _ (by decide))).trans ((wr_cg (hp_13 15 (by decide))).trans ((wr_cg (sv_n _ (by decide))).trans (wr_cg (sv_n _ (by decide))))))))
                have e_212 : nn (sv μ173 111 12 r_202) = nn μ := ((nn_cg (sv_n _ (by decide)) (sv_n _ (by decide))).trans ((nn_cg (hp_176 15 (by decide)) (hp_176 18 (by decide))).trans ((nn_cg (sv_n _ (by decide)) (sv_n _ (by decide))).trans ((nn_cg (hp_13 15 (by decide)) (hp_13 18 (by decide))).trans ((nn_cg (sv_n _ (by decide)) (sv_n _ (by decide))).trans (nn_cg (sv_n _ (by decide)) (sv_n _ (by decide))))))))
                exact xr_v G hret hlk dX12_counts_223 ⟨(FrM.put (FrM.tr (FrM.put (FrM.tr (FrM.put (FrM.put FrM.rf (by decide)) (by decide)) F_12 (by decide)) (by decide)) F_175 (by decide)) (by decide)), (fun j hj => ((sv_n _ (fun h9 => hj (by rw [h9.2]; decide))).trans ((hp_176 j (fun h9 => hj ((by decide : ∀ x ∈ ([6, 12] : List Int), x ∈ ([6, 8, 12, 15] : List Int)) j h9))).trans ((sv_n _ (fun h9 => hj (by rw [h9.2]; decide))).trans ((hp_13 j (fun h9 => hj ((by decide : ∀ x ∈ ([6, 12] : List Int), x ∈ ([6, 8, 12, 15] : List Int)) j h9))).trans ((sv_n _ (fun h9 => hj (by rw [h9.2]; decide))).trans (sv_n _ (fun h9 => hj (by rw [h9.2]; decide))))))))), (by omega), (by omega), (fun _ _ _ => by rw [show (sv μ173 111 12 r_202).1 111 12 = r_202 from (sv_s _ _ _ _)]; exact hp_204 ()), (by omega), (by omega)⟩
              · refine lv_ldc2d (s := s.setDrawn d0) hx hb G.1.2.2.2.1 (dr_words G.1.2.2.2.2 d0 _ (wm 9 43 rfl rfl)) dX12_counts_194 ?_
                refine xb_topd (fun dd_213 he_dd_213 => ?_)
                refine lv_dload hx hb dX12_counts_197 (lv_at hl 1 rfl) ?_
                refine xd_dmul G dX12_counts_199 (fun dd_214 d0 G => ?_)
                refine lv_dstore (lv' := [(5, .double (dv dd_214)), (7, .int (iv k9)), (4, .int (iv ((μ173.1 111 6) - ((μ10.1 111 6) + 1)))), (2, .int (iv y_180)), (1, .int (iv ((μ10.1 111 6) + 1))), (3, .int (iv ((μ10.1 111 6) - (μ.1 111 6)))), (0, .ref (oP ω 111))]) hx hb dX12_counts_200 hl (by decide) rfl (fun ls hl => ?_)
                refine lv_iinc (v := iv (k9 + 1)) (lv' := [(7, .int (iv (k9 + 1))), (5, .double (dv dd_214)), (4, .int (iv ((μ173.1 111 6) - ((μ10.1 111 6) + 1)))), (2, .int (iv y_180)), (1, .int (iv ((μ10.1 111 6) + 1))), (3, .int (iv ((μ10.1 111 6) - (μ.1 111 6)))), (0, .ref (oP ω 111))]) hx hb dX12_counts_202 hl (k := 1) rfl (by rw [show Int32.ofInt 1 = iv 1 from rfl, iv_add]) (by decide) rfl (fun ls hl => ?_)
                refine lv_goto (tgt := 187) hx hb dX12_counts_205 (by decide) ?_
                exact ih _ _ _ _ _ _ _ (by omega) ⟨k9 + 1, dd_214, rfl, (by omega), (by omega), rfl, lv_sub hl [0, 1, 2, 3, 4, 5, 6] rfl⟩ G
            · refine lv_aload_n hx hb dX12_counts_172 rfl (lv_at hl 4 rfl) ?_
              refine lv_aload_n hx hb dX12_counts_173 rfl (lv_at hl 4 rfl) ?_
              refine xa_geti G fd_X12 (a := 111) (x := μ.1 111 9) 9 rfl (by decide) rfl (wm 7 158 rfl rfl) ⟨rfl, rfl, rfl⟩ dX12_counts_174 rfl ((hp_176 9 (by decide)).trans ((sv_n _ (by decide)).trans ((hp_13 9 (by decide)).trans ((sv_n _ (by decide)).trans (sv_n _ (by decide)))))) ?_
              have hr_215 : -2147483648 ≤ μ.1 111 9 ∧ μ.1 111 9 ≤ 2147483647 := by have h9 := G.hr (a := 111) (k := 9) rfl; rw [show μ173.1 111 9 = μ.1 111 9 from ((hp_176 9 (by decide)).trans ((sv_n _ (by decide)).trans ((hp_13 9 (by decide)).trans ((sv_n _ (by decide)).trans (sv_n _ (by decide))))))] at h9; exact h9
              have e_216 : μ173.1 111 9 = μ.1 111 9 := ((hp_176 9 (by decide)).trans ((sv_n _ (by decide)).trans ((hp_13 9 (by decide)).trans ((sv_n _ (by decide)).trans (sv_n _ (by decide))))))
              refine xc_vV G (b := 111) (rest := []) (As := [.int (iv (μ.1 111 9))]) (c_X12_wrong ω l μ173 (μ.1 111 9) (by unfold ir; omega) (by omega)) (wm 9 22 rfl rfl) (wm 9 24 rfl rfl) (wm 0 123 rfl rfl) rfl rfl (by decide) rfl (wm 1 18 rfl rfl) (wm 9 25 rfl rfl) (by decide) hR (by decide) (n := 1) rfl rfl (Nat.le_of_ble_eq_true rfl) hl.1 dX12_counts_177 (fun μ217 ρ d0 H locs hp G => ?_)
              obtain ⟨F_218, hp_219, hp_220⟩ := hp
              have hw_221 := wr_r (μ := μ217)
              have e_222 : μ217.1 111 6 = μ173.1 111 6 := (hp_219 6 (by decide))
              have e_223 : μ217.1 111 6 = μ173.1 111 6 := (hp_219 6 (by decide))
              have e_224 : μ217.1 111 8 = 2 := ((hp_219 8 (by decide)).trans ((hp_176 8 (by decide)).trans ((sv_n _ (by decide)).trans ((hp_13 8 (by decide)).trans ((sv_n _ (by decide)).trans (sv_s _ _ _ _))))))
              exact xr_v G hret hlk dX12_counts_180 ⟨(FrM.tr (FrM.tr (FrM.put (FrM.tr (FrM.put (FrM.put FrM.rf (by decide)) (by decide)) F_12 (by decide)) (by decide)) F_175 (by decide)) F_218 (by decide)), (fun j hj => ((hp_219 j (fun h9 => hj ((by decide : ∀ x ∈ ([15] : List Int), x ∈ ([6, 8, 12, 15] : List Int)) j h9))).trans ((hp_176 j (fun h9 => hj ((by decide : ∀ x ∈ ([6, 12] : List Int), x ∈ ([6, 8, 12, 15] : List Int)) j h9))).trans ((sv_n _ (fun h9 => hj (by rw [h9.2]; decide))).trans ((hp_13 j (fun h9 => hj ((by decide : ∀ x ∈ ([6, 12] : List Int), x ∈ ([6, 8, 12, 15] : List Int)) j h9))).trans ((sv_n _ (fun h9 => hj (by rw [h9.2]; decide))).trans (sv_n _ (fun h9 => hj (by rw [h9.2]; decide))))))))), (by omega), (by omega), (fun _ h8 h9 => by exfalso; omega), (by omega), (by omega)⟩
  · refine lv_aload_n hx hb dX12_counts_18 rfl (lv_at hl 0 rfl) ?_
    refine lv_aload_n hx hb dX12_counts_19 rfl (lv_at hl 0 rfl) ?_
    refine xa_geti G fd_X12 (a := 111) (x := μ.1 111 14) 14 rfl (by decide) rfl (wm 7 163 rfl rfl) ⟨rfl, rfl, rfl⟩ dX12_counts_20 rfl ((sv_n _ (by decide)).trans (sv_n _ (by decide))) ?_
    refine xb_if_ne (tgt := 32) hx hb (by unfold ir; omega) dX12_counts_23 (by decide) (fun c_23 => ?_) (fun c_23 => ?_)
    · refine lv_aload_n hx hb dX12_counts_32 rfl (lv_at hl 0 rfl) ?_
      refine xa_geti G fd_X12 (a := 111) (x := μ.1 111 14) 14 rfl (by decide) rfl (wm 7 163 rfl rfl) ⟨rfl, rfl, rfl⟩ dX12_counts_33 rfl ((sv_n _ (by decide)).trans (sv_n _ (by decide))) ?_
      refine lv_iconst (v := iv 1) hx hb dX12_counts_36 rfl ?_
      refine xb_icmp_ne (tgt := 46) hx hb (by unfold ir; omega) (by unfold ir; omega) dX12_counts_37 (by decide) (fun c_37 => ?_) (fun c_37 => ?_)
      · refine lv_ldc2 (s := s.setDrawn d0) hx hb G.1.2.2.2.1 (dr_words G.1.2.2.2.2 d0 _ (wm 9 36 rfl rfl)) dX12_counts_46 ?_
        refine xb_litl (x := 100000000000000000) (by decide) ?_
        have e_225 : (sv (sv μ 111 8 2) 111 12 0).1 111 6 = μ.1 111 6 := ((sv_n _ (by decide)).trans (sv_n _ (by decide)))
        have e_226 : (sv (sv μ 111 8 2) 111 12 0).1 111 6 = μ.1 111 6 := ((sv_n _ (by decide)).trans (sv_n _ (by decide)))
        have e_227 : (sv (sv μ 111 8 2) 111 12 0).1 111 7 = μ.1 111 7 := ((sv_n _ (by decide)).trans (sv_n _ (by decide)))
        have e_228 : (sv (sv μ 111 8 2) 111 12 0).1 111 7 = μ.1 111 7 := ((sv_n _ (by decide)).trans (sv_n _ (by decide)))
        have e_229 : (sv (sv μ 111 8 2) 111 12 0).1 111 6 = μ.1 111 6 := ((sv_n _ (by decide)).trans (sv_n _ (by decide)))
        have e_230 : (sv (sv μ 111 8 2) 111 12 0).1 111 7 = μ.1 111 7 := ((sv_n _ (by decide)).trans (sv_n _ (by decide)))
        have e_231 : (sv (sv μ 111 8 2) 111 12 0).1 111 6 = μ.1 111 6 := ((sv_n _ (by decide)).trans (sv_n _ (by decide)))
        refine xc_iV G (b := 111) (rest := []) (As := [.long (jv 100000000000000000)]) (c_X12_whole ω l (sv (sv μ 111 8 2) 111 12 0) 100000000000000000 (by unfold jr; omega) (by omega) (by omega)) (wm 9 37 rfl rfl) (wm 9 39 rfl rfl) (wm 0 125 rfl rfl) rfl rfl (by decide) rfl (wm 1 18 rfl rfl) (wm 9 40 rfl rfl) (by decide) hR (by decide) (n := 1) rfl rfl (Nat.le_of_ble_eq_true rfl) hl.1 dX12_counts_49 (fun r_233 μ232 ρ d0 H locs hr_r_233 hp G => ?_)
        have hr_r_233 : -2147483648 ≤ r_233 ∧ r_233 ≤ 2147483647 := hr_r_233
        obtain ⟨F_234, hp_235, hp_236, hp_237, hp_238⟩ := hp
        refine xb_if_ne (tgt := 63) hx hb (by unfold ir; omega) dX12_counts_52 (by decide) (fun c_52 => ?_) (fun c_52 => ?_)
        · have e_239 : wr μ232 = wr μ := ((wr_cg (hp_235 15 (by decide))).trans ((wr_cg (sv_n _ (by decide))).trans (wr_cg (sv_n _ (by decide)))))
          have e_240 : μ232.1 111 8 = 2 := ((hp_235 8 (by decide)).trans ((sv_n _ (by decide)).trans (sv_s _ _ _ _)))
          have e_241 : wr μ232 = wr μ := ((wr_cg (hp_235 15 (by decide))).trans ((wr_cg (sv_n _ (by decide))).trans (wr_cg (sv_n _ (by decide)))))
          have e_242 : bd μ232 = bd μ := ((bd_cg (hp_235 15 (by decide)) (hp_235 16 (by decide)) (hp_235 17 (by decide))).trans ((bd_cg (sv_n _ (by decide)) (sv_n _ (by decide)) (sv_n _ (by decide))).trans (bd_cg (sv_n _ (by decide)) (sv_n _ (by decide)) (sv_n _ (by decide)))))
          have e_243 : wr μ232 = wr μ := ((wr_cg (hp_235 15 (by decide))).trans ((wr_cg (sv_n _ (by decide))).trans (wr_cg (sv_n _ (by decide)))))
          have e_244 : nn μ232 = nn μ := ((nn_cg (hp_235 15 (by decide)) (hp_235 18 (by decide))).trans ((nn_cg (sv_n _ (by decide)) (sv_n _ (by decide))).trans (nn_cg (sv_n _ (by decide)) (sv_n _ (by decide)))))
          exact xr_v G hret hlk dX12_counts_63 ⟨(FrM.tr (FrM.put (FrM.put FrM.rf (by decide)) (by decide)) F_234 (by decide)), (fun j hj => ((hp_235 j (fun h9 => hj ((by decide : ∀ x ∈ ([6, 12] : List Int), x ∈ ([6, 8, 12, 15] : List Int)) j h9))).trans ((sv_n _ (fun h9 => hj (by rw [h9.2]; decide))).trans (sv_n _ (fun h9 => hj (by rw [h9.2]; decide)))))), (by omega), (by omega), (fun _ h8 h9 => by exfalso; omega), (by omega), (by omega)⟩
        · refine lv_aload_n hx hb dX12_counts_55 rfl (lv_at hl 0 rfl) ?_
          refine lv_aload_n hx hb dX12_counts_56 rfl (lv_at hl 0 rfl) ?_
          refine xa_geti G fd_X12 (a := 111) (x := μ.1 111 9) 9 rfl (by decide) rfl (wm 7 158 rfl rfl) ⟨rfl, rfl, rfl⟩ dX12_counts_57 rfl ((hp_235 9 (by decide)).trans ((sv_n _ (by decide)).trans (sv_n _ (by decide)))) ?_
          have hr_245 : -2147483648 ≤ μ.1 111 9 ∧ μ.1 111 9 ≤ 2147483647 := by have h9 := G.hr (a := 111) (k := 9) rfl; rw [show μ232.1 111 9 = μ.1 111 9 from ((hp_235 9 (by decide)).trans ((sv_n _ (by decide)).trans (sv_n _ (by decide))))] at h9; exact h9
          have e_246 : μ232.1 111 9 = μ.1 111 9 := ((hp_235 9 (by decide)).trans ((sv_n _ (by decide)).trans (sv_n _ (by decide))))
          refine xc_vV G (b := 111) (rest := []) (As := [.int (iv (μ.1 111 9))]) (c_X12_wrong ω l μ232 (μ.1 111 9) (by unfold ir; omega) (by omega)) (wm 9 22 rfl rfl) (wm 9 24 rfl rfl) (wm 0 123 rfl rfl) rfl rfl (by decide) rfl (wm 1 18 rfl rfl) (wm 9 25 rfl rfl) (by decide) hR (by decide) (n := 1) rfl rfl (Nat.le_of_ble_eq_true rfl) hl.1 dX12_counts_60 (fun μ247 ρ d0 H locs hp G => ?_)
          obtain ⟨F_248, hp_249, hp_250⟩ := hp
          have hw_251 := wr_r (μ := μ247)
          have e_252 : μ247.1 111 6 = μ232.1 111 6 := (hp_249 6 (by decide))
          have e_253 : μ247.1 111 6 = μ232.1 111 6 := (hp_249 6 (by decide))
          have e_254 : μ247.1 111 8 = 2 := ((hp_249 8 (by decide)).trans ((hp_235 8 (by decide)).trans ((sv_n _ (by decide)).trans (sv_s _ _ _ _))))
          exact xr_v G hret hlk dX12_counts_63 ⟨(FrM.tr (FrM.tr (FrM.put (FrM.put FrM.rf (by decide)) (by decide)) F_234 (by decide)) F_248 (by decide)), (fun j hj => ((hp_249 j (fun h9 => hj ((by decide : ∀ x ∈ ([15] : List Int), x ∈ ([6, 8, 12, 15] : List Int)) j h9))).trans ((hp_235 j (fun h9 => hj ((by decide : ∀ x ∈ ([6, 12] : List Int), x ∈ ([6, 8, 12, 15] : List Int)) j h9))).trans ((sv_n _ (fun h9 => hj (by rw [h9.2]; decide))).trans (sv_n _ (fun h9 => hj (by rw [h9.2]; decide))))))), (by omega), (by omega), (fun _ h8 h9 => by exfalso; omega), (by omega), (by omega)⟩
      · refine lv_ldc2 (s := s.setDrawn d0) hx hb G.1.2.2.2.1 (dr_words G.1.2.2.2.2 d0 _ (wm 9 35 rfl rfl)) dX12_counts_40 ?_
        refine xb_litl (x := 2147483647) (by decide) ?_
        refine lv_goto (tgt := 49) hx hb dX12_counts_43 (by decide) ?_
        have e_255 : (sv (sv μ 111 8 2) 111 12 0).1 111 6 = μ.1 111 6 := ((sv_n _ (by decide)).trans (sv_n _ (by decide)))
        have e_256 : (sv (sv μ 111 8 2) 111 12 0).1 111 6 = μ.1 111 6 := ((sv_n _ (by decide)).trans (sv_n _ (by decide)))
        have e_257 : (sv (sv μ 111 8 2) 111 12 0).1 111 7 = μ.1 111 7 := ((sv_n _ (by decide)).trans (sv_n _ (by decide)))
        have e_258 : (sv (sv μ 111 8 2) 111 12 0).1 111 7 = μ.1 111 7 := ((sv_n _ (by decide)).trans (sv_n _ (by decide)))
        have e_259 : (sv (sv μ 111 8 2) 111 12 0).1 111 6 = μ.1 111 6 := ((sv_n _ (by decide)).trans (sv_n _ (by decide)))
        have e_260 : (sv (sv μ 111 8 2) 111 12 0).1 111 7 = μ.1 111 7 := ((sv_n _ (by decide)).trans (sv_n _ (by decide)))
        have e_261 : (sv (sv μ 111 8 2) 111 12 0).1 111 6 = μ.1 111 6 := ((sv_n _ (by decide)).trans (sv_n _ (by decide)))
        refine xc_iV G (b := 111) (rest := []) (As := [.long (jv 2147483647)]) (c_X12_whole ω l (sv (sv μ 111 8 2) 111 12 0) 2147483647 (by unfold jr; omega) (by omega) (by omega)) (wm 9 37 rfl rfl) (wm 9 39 rfl rfl) (wm 0 125 rfl rfl) rfl rfl (by decide) rfl (wm 1 18 rfl rfl) (wm 9 40 rfl rfl) (by decide) hR (by decide) (n := 1) rfl rfl (Nat.le_of_ble_eq_true rfl) hl.1 dX12_counts_49 (fun r_263 μ262 ρ d0 H locs hr_r_263 hp G => ?_)
        have hr_r_263 : -2147483648 ≤ r_263 ∧ r_263 ≤ 2147483647 := hr_r_263
        obtain ⟨F_264, hp_265, hp_266, hp_267, hp_268⟩ := hp
        refine xb_if_ne (tgt := 63) hx hb (by unfold ir; omega) dX12_counts_52 (by decide) (fun c_52 => ?_) (fun c_52 => ?_)
        · have e_269 : wr μ262 = wr μ := ((wr_cg (hp_265 15 (by decide))).trans ((wr_cg (sv_n _ (by decide))).trans (wr_cg (sv_n _ (by decide)))))
          have e_270 : μ262.1 111 8 = 2 := ((hp_265 8 (by decide)).trans ((sv_n _ (by decide)).trans (sv_s _ _ _ _)))
          have e_271 : wr μ262 = wr μ := ((wr_cg (hp_265 15 (by decide))).trans ((wr_cg (sv_n _ (by decide))).trans (wr_cg (sv_n _ (by decide)))))
          have e_272 : bd μ262 = bd μ := ((bd_cg (hp_265 15 (by decide)) (hp_265 16 (by decide)) (hp_265 17 (by decide))).trans ((bd_cg (sv_n _ (by decide)) (sv_n _ (by decide)) (sv_n _ (by decide))).trans (bd_cg (sv_n _ (by decide)) (sv_n _ (by decide)) (sv_n _ (by decide)))))
          have e_273 : wr μ262 = wr μ := ((wr_cg (hp_265 15 (by decide))).trans ((wr_cg (sv_n _ (by decide))).trans (wr_cg (sv_n _ (by decide)))))
          have e_274 : nn μ262 = nn μ := ((nn_cg (hp_265 15 (by decide)) (hp_265 18 (by decide))).trans ((nn_cg (sv_n _ (by decide)) (sv_n _ (by decide))).trans (nn_cg (sv_n _ (by decide)) (sv_n _ (by decide)))))
          exact xr_v G hret hlk dX12_counts_63 ⟨(FrM.tr (FrM.put (FrM.put FrM.rf (by decide)) (by decide)) F_264 (by decide)), (fun j hj => ((hp_265 j (fun h9 => hj ((by decide : ∀ x ∈ ([6, 12] : List Int), x ∈ ([6, 8, 12, 15] : List Int)) j h9))).trans ((sv_n _ (fun h9 => hj (by rw [h9.2]; decide))).trans (sv_n _ (fun h9 => hj (by rw [h9.2]; decide)))))), (by omega), (by omega), (fun _ h8 h9 => by exfalso; omega), (by omega), (by omega)⟩
        · refine lv_aload_n hx hb dX12_counts_55 rfl (lv_at hl 0 rfl) ?_
          refine lv_aload_n hx hb dX12_counts_56 rfl (lv_at hl 0 rfl) ?_
          refine xa_geti G fd_X12 (a := 111) (x := μ.1 111 9) 9 rfl (by decide) rfl (wm 7 158 rfl rfl) ⟨rfl, rfl, rfl⟩ dX12_counts_57 rfl ((hp_265 9 (by decide)).trans ((sv_n _ (by decide)).trans (sv_n _ (by decide)))) ?_
          have hr_275 : -2147483648 ≤ μ.1 111 9 ∧ μ.1 111 9 ≤ 2147483647 := by have h9 := G.hr (a := 111) (k := 9) rfl; rw [show μ262.1 111 9 = μ.1 111 9 from ((hp_265 9 (by decide)).trans ((sv_n _ (by decide)).trans (sv_n _ (by decide))))] at h9; exact h9
          have e_276 : μ262.1 111 9 = μ.1 111 9 := ((hp_265 9 (by decide)).trans ((sv_n _ (by decide)).trans (sv_n _ (by decide))))
          refine xc_vV G (b := 111) (rest := []) (As := [.int (iv (μ.1 111 9))]) (c_X12_wrong ω l μ262 (μ.1 111 9) (by unfold ir; omega) (by omega)) (wm 9 22 rfl rfl) (wm 9 24 rfl rfl) (wm 0 123 rfl rfl) rfl rfl (by decide) rfl (wm 1 18 rfl rfl) (wm 9 25 rfl rfl) (by decide) hR (by decide) (n := 1) rfl rfl (Nat.le_of_ble_eq_true rfl) hl.1 dX12_counts_60 (fun μ277 ρ d0 H locs hp G => ?_)
          obtain ⟨F_278, hp_279, hp_280⟩ := hp
          have hw_281 := wr_r (μ := μ277)
          have e_282 : μ277.1 111 6 = μ262.1 111 6 := (hp_279 6 (by decide))
          have e_283 : μ277.1 111 6 = μ262.1 111 6 := (hp_279 6 (by decide))
          have e_284 : μ277.1 111 8 = 2 := ((hp_279 8 (by decide)).trans ((hp_265 8 (by decide)).trans ((sv_n _ (by decide)).trans (sv_s _ _ _ _))))
          exact xr_v G hret hlk dX12_counts_63 ⟨(FrM.tr (FrM.tr (FrM.put (FrM.put FrM.rf (by decide)) (by decide)) F_264 (by decide)) F_278 (by decide)), (fun j hj => ((hp_279 j (fun h9 => hj ((by decide : ∀ x ∈ ([15] : List Int), x ∈ ([6, 8, 12, 15] : List Int)) j h9))).trans ((hp_265 j (fun h9 => hj ((by decide : ∀ x ∈ ([6, 12] : List Int), x ∈ ([6, 8, 12, 15] : List Int)) j h9))).trans ((sv_n _ (fun h9 => hj (by rw [h9.2]; decide))).trans (sv_n _ (fun h9 => hj (by rw [h9.2]; decide))))))), (by omega), (by omega), (fun _ h8 h9 => by exfalso; omega), (by omega), (by omega)⟩
    · refine lv_ldc2 (s := s.setDrawn d0) hx hb G.1.2.2.2.1 (dr_words G.1.2.2.2.2 d0 _ (wm 9 34 rfl rfl)) dX12_counts_26 ?_
      refine xb_litl (x := 9223372036854775807) (by decide) ?_
      refine lv_goto (tgt := 49) hx hb dX12_counts_29 (by decide) ?_
      have e_285 : (sv (sv μ 111 8 2) 111 12 0).1 111 6 = μ.1 111 6 := ((sv_n _ (by decide)).trans (sv_n _ (by decide)))
      have e_286 : (sv (sv μ 111 8 2) 111 12 0).1 111 6 = μ.1 111 6 := ((sv_n _ (by decide)).trans (sv_n _ (by decide)))
      have e_287 : (sv (sv μ 111 8 2) 111 12 0).1 111 7 = μ.1 111 7 := ((sv_n _ (by decide)).trans (sv_n _ (by decide)))
      have e_288 : (sv (sv μ 111 8 2) 111 12 0).1 111 7 = μ.1 111 7 := ((sv_n _ (by decide)).trans (sv_n _ (by decide)))
      have e_289 : (sv (sv μ 111 8 2) 111 12 0).1 111 6 = μ.1 111 6 := ((sv_n _ (by decide)).trans (sv_n _ (by decide)))
      have e_290 : (sv (sv μ 111 8 2) 111 12 0).1 111 7 = μ.1 111 7 := ((sv_n _ (by decide)).trans (sv_n _ (by decide)))
      have e_291 : (sv (sv μ 111 8 2) 111 12 0).1 111 6 = μ.1 111 6 := ((sv_n _ (by decide)).trans (sv_n _ (by decide)))
      refine xc_iV G (b := 111) (rest := []) (As := [.long (jv 9223372036854775807)]) (c_X12_whole ω l (sv (sv μ 111 8 2) 111 12 0) 9223372036854775807 (by unfold jr; omega) (by omega) (by omega)) (wm 9 37 rfl rfl) (wm 9 39 rfl rfl) (wm 0 125 rfl rfl) rfl rfl (by decide) rfl (wm 1 18 rfl rfl) (wm 9 40 rfl rfl) (by decide) hR (by decide) (n := 1) rfl rfl (Nat.le_of_ble_eq_true rfl) hl.1 dX12_counts_49 (fun r_293 μ292 ρ d0 H locs hr_r_293 hp G => ?_)
      have hr_r_293 : -2147483648 ≤ r_293 ∧ r_293 ≤ 2147483647 := hr_r_293
      obtain ⟨F_294, hp_295, hp_296, hp_297, hp_298⟩ := hp
      refine xb_if_ne (tgt := 63) hx hb (by unfold ir; omega) dX12_counts_52 (by decide) (fun c_52 => ?_) (fun c_52 => ?_)
      · have e_299 : wr μ292 = wr μ := ((wr_cg (hp_295 15 (by decide))).trans ((wr_cg (sv_n _ (by decide))).trans (wr_cg (sv_n _ (by decide)))))
        have e_300 : μ292.1 111 8 = 2 := ((hp_295 8 (by decide)).trans ((sv_n _ (by decide)).trans (sv_s _ _ _ _)))
        have e_301 : wr μ292 = wr μ := ((wr_cg (hp_295 15 (by decide))).trans ((wr_cg (sv_n _ (by decide))).trans (wr_cg (sv_n _ (by decide)))))
        have e_302 : bd μ292 = bd μ := ((bd_cg (hp_295 15 (by decide)) (hp_295 16 (by decide)) (hp_295 17 (by decide))).trans ((bd_cg (sv_n _ (by decide)) (sv_n _ (by decide)) (sv_n _ (by decide))).trans (bd_cg (sv_n _ (by decide)) (sv_n _ (by decide)) (sv_n _ (by decide)))))
        have e_303 : wr μ292 = wr μ := ((wr_cg (hp_295 15 (by decide))).trans ((wr_cg (sv_n _ (by decide))).trans (wr_cg (sv_n _ (by decide)))))
        have e_304 : nn μ292 = nn μ := ((nn_cg (hp_295 15 (by decide)) (hp_295 18 (by decide))).trans ((nn_cg (sv_n _ (by decide)) (sv_n _ (by decide))).trans (nn_cg (sv_n _ (by decide)) (sv_n _ (by decide)))))
        exact xr_v G hret hlk dX12_counts_63 ⟨(FrM.tr (FrM.put (FrM.put FrM.rf (by decide)) (by decide)) F_294 (by decide)), (fun j hj => ((hp_295 j (fun h9 => hj ((by decide : ∀ x ∈ ([6, 12] : List Int), x ∈ ([6, 8, 12, 15] : List Int)) j h9))).trans ((sv_n _ (fun h9 => hj (by rw [h9.2]; decide))).trans (sv_n _ (fun h9 => hj (by rw [h9.2]; decide)))))), (by omega), (by omega), (fun _ h8 h9 => by exfalso; omega), (by omega), (by omega)⟩
      · refine lv_aload_n hx hb dX12_counts_55 rfl (lv_at hl 0 rfl) ?_
        refine lv_aload_n hx hb dX12_counts_56 rfl (lv_at hl 0 rfl) ?_
        refine xa_geti G fd_X12 (a := 111) (x := μ.1 111 9) 9 rfl (by decide) rfl (wm 7 158 rfl rfl) ⟨rfl, rfl, rfl⟩ dX12_counts_57 rfl ((hp_295 9 (by decide)).trans ((sv_n _ (by decide)).trans (sv_n _ (by decide)))) ?_
        have hr_305 : -2147483648 ≤ μ.1 111 9 ∧ μ.1 111 9 ≤ 2147483647 := by have h9 := G.hr (a := 111) (k := 9) rfl; rw [show μ292.1 111 9 = μ.1 111 9 from ((hp_295 9 (by decide)).trans ((sv_n _ (by decide)).trans (sv_n _ (by decide))))] at h9; exact h9
        have e_306 : μ292.1 111 9 = μ.1 111 9 := ((hp_295 9 (by decide)).trans ((sv_n _ (by decide)).trans (sv_n _ (by decide))))
        refine xc_vV G (b := 111) (rest := []) (As := [.int (iv (μ.1 111 9))]) (c_X12_wrong ω l μ292 (μ.1 111 9) (by unfold ir; omega) (by omega)) (wm 9 22 rfl rfl) (wm 9 24 rfl rfl) (wm 0 123 rfl rfl) rfl rfl (by decide) rfl (wm 1 18 rfl rfl) (wm 9 25 rfl rfl) (by decide) hR (by decide) (n := 1) rfl rfl (Nat.le_of_ble_eq_true rfl) hl.1 dX12_counts_60 (fun μ307 ρ d0 H locs hp G => ?_)
        obtain ⟨F_308, hp_309, hp_310⟩ := hp
        have hw_311 := wr_r (μ := μ307)
        have e_312 : μ307.1 111 6 = μ292.1 111 6 := (hp_309 6 (by decide))
        have e_313 : μ307.1 111 6 = μ292.1 111 6 := (hp_309 6 (by decide))
        have e_314 : μ307.1 111 8 = 2 := ((hp_309 8 (by decide)).trans ((hp_295 8 (by decide)).trans ((sv_n _ (by decide)).trans (sv_s _ _ _ _))))
        exact xr_v G hret hlk dX12_counts_63 ⟨(FrM.tr (FrM.tr (FrM.put (FrM.put FrM.rf (by decide)) (by decide)) F_294 (by decide)) F_308 (by decide)), (fun j hj => ((hp_309 j (fun h9 => hj ((by decide : ∀ x ∈ ([15] : List Int), x ∈ ([6, 8, 12, 15] : List Int)) j h9))).trans ((hp_295 j (fun h9 => hj ((by decide : ∀ x ∈ ([6, 12] : List Int), x ∈ ([6, 8, 12, 15] : List Int)) j h9))).trans ((sv_n _ (fun h9 => hj (by rw [h9.2]; decide))).trans (sv_n _ (fun h9 => hj (by rw [h9.2]; decide))))))), (by omega), (by omega), (fun _ h8 h9 => by exfalso; omega), (by omega), (by omega)⟩
