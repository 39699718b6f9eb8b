abbrev cX4_jumpIfFails : ByteArray := prog_6_method_36_code
def yX4_jumpIfFails : MethodName := ⟨RX4, "jumpIfFails", "(II)V"⟩
abbrev cX4_jumpIfWell : ByteArray := prog_6_method_37_code
def yX4_jumpIfWell : MethodName := ⟨RX4, "jumpIfWell", "(I)V"⟩
abbrev cX4_tagOfTop : ByteArray := prog_6_method_38_code
def yX4_tagOfTop : MethodName := ⟨RX4, "tagOfTop", "()V"⟩
abbrev cX4_question : ByteArray := prog_6_method_39_code
def yX4_question : MethodName := ⟨RX4, "question", "(I)V"⟩
abbrev cX4_keepMark : ByteArray := prog_6_method_40_code
def yX4_keepMark : MethodName := ⟨RX4, "keepMark", "()V"⟩
abbrev cX4_newArray : ByteArray := prog_6_method_49_code
def yX4_newArray : MethodName := ⟨RX4, "newArray", "()V"⟩
abbrev cX4_lengthOfArray : ByteArray := prog_6_method_52_code
def yX4_lengthOfArray : MethodName := ⟨RX4, "lengthOfArray", "()V"⟩
abbrev cX4_whatFailsAsArray : ByteArray := prog_6_method_53_code
def yX4_whatFailsAsArray : MethodName := ⟨RX4, "whatFailsAsArray", "(I)I"⟩
abbrev cX4_whatFailsAsIndex : ByteArray := prog_6_method_54_code
def yX4_whatFailsAsIndex : MethodName := ⟨RX4, "whatFailsAsIndex", "(II)I"⟩
abbrev cX4_cellAt : ByteArray := prog_6_method_55_code
def yX4_cellAt : MethodName := ⟨RX4, "cellAt", "(II)I"⟩
abbrev cX4_cellOfArray : ByteArray := prog_6_method_56_code
def yX4_cellOfArray : MethodName := ⟨RX4, "cellOfArray", "()V"⟩
abbrev cX4_putIntoArray : ByteArray := prog_6_method_57_code
def yX4_putIntoArray : MethodName := ⟨RX4, "putIntoArray", "()V"⟩
abbrev cX4_functionItself : ByteArray := prog_6_method_58_code
def yX4_functionItself : MethodName := ⟨RX4, "functionItself", "(II)V"⟩
theorem dX4_jumpIfFails_0 : decode cX4_jumpIfFails 0 = .ok (.aload_n 0, 1) := by decide +kernel
theorem dX4_jumpIfFails_1 : decode cX4_jumpIfFails 1 = .ok (.getfield 14, 3) := by decide +kernel
theorem dX4_jumpIfFails_4 : decode cX4_jumpIfFails 4 = .ok (.invokevirtual 265, 3) := by decide +kernel
theorem dX4_jumpIfFails_7 : decode cX4_jumpIfFails 7 = .ok (.iconst 4, 1) := by decide +kernel
theorem dX4_jumpIfFails_8 : decode cX4_jumpIfFails 8 = .ok (.if_icmp .ne 37, 3) := by decide +kernel
theorem dX4_jumpIfFails_11 : decode cX4_jumpIfFails 11 = .ok (.aload_n 0, 1) := by decide +kernel
theorem dX4_jumpIfFails_12 : decode cX4_jumpIfFails 12 = .ok (.getfield 14, 3) := by decide +kernel
theorem dX4_jumpIfFails_15 : decode cX4_jumpIfFails 15 = .ok (.aload_n 0, 1) := by decide +kernel
theorem dX4_jumpIfFails_16 : decode cX4_jumpIfFails 16 = .ok (.invokevirtual 255, 3) := by decide +kernel
theorem dX4_jumpIfFails_19 : decode cX4_jumpIfFails 19 = .ok (.iload_n 2, 1) := by decide +kernel
theorem dX4_jumpIfFails_20 : decode cX4_jumpIfFails 20 = .ok (.isub, 1) := by decide +kernel
theorem dX4_jumpIfFails_21 : decode cX4_jumpIfFails 21 = .ok (.aload_n 0, 1) := by decide +kernel
theorem dX4_jumpIfFails_22 : decode cX4_jumpIfFails 22 = .ok (.getfield 14, 3) := by decide +kernel
theorem dX4_jumpIfFails_25 : decode cX4_jumpIfFails 25 = .ok (.aload_n 0, 1) := by decide +kernel
theorem dX4_jumpIfFails_26 : decode cX4_jumpIfFails 26 = .ok (.invokevirtual 255, 3) := by decide +kernel
theorem dX4_jumpIfFails_29 : decode cX4_jumpIfFails 29 = .ok (.invokevirtual 258, 3) := by decide +kernel
theorem dX4_jumpIfFails_32 : decode cX4_jumpIfFails 32 = .ok (.aload_n 0, 1) := by decide +kernel
theorem dX4_jumpIfFails_33 : decode cX4_jumpIfFails 33 = .ok (.getfield 14, 3) := by decide +kernel
theorem dX4_jumpIfFails_36 : decode cX4_jumpIfFails 36 = .ok (.iload_n 2, 1) := by decide +kernel
theorem dX4_jumpIfFails_37 : decode cX4_jumpIfFails 37 = .ok (.invokevirtual 262, 3) := by decide +kernel
theorem dX4_jumpIfFails_40 : decode cX4_jumpIfFails 40 = .ok (.aload_n 0, 1) := by decide +kernel
theorem dX4_jumpIfFails_41 : decode cX4_jumpIfFails 41 = .ok (.iload_n 1, 1) := by decide +kernel
theorem dX4_jumpIfFails_42 : decode cX4_jumpIfFails 42 = .ok (.putfield 55, 3) := by decide +kernel
theorem dX4_jumpIfFails_45 : decode cX4_jumpIfFails 45 = .ok (.return_, 1) := by decide +kernel
theorem dX4_jumpIfWell_0 : decode cX4_jumpIfWell 0 = .ok (.aload_n 0, 1) := by decide +kernel
theorem dX4_jumpIfWell_1 : decode cX4_jumpIfWell 1 = .ok (.getfield 14, 3) := by decide +kernel
theorem dX4_jumpIfWell_4 : decode cX4_jumpIfWell 4 = .ok (.invokevirtual 265, 3) := by decide +kernel
theorem dX4_jumpIfWell_7 : decode cX4_jumpIfWell 7 = .ok (.iconst 4, 1) := by decide +kernel
theorem dX4_jumpIfWell_8 : decode cX4_jumpIfWell 8 = .ok (.if_icmp .ne 14, 3) := by decide +kernel
theorem dX4_jumpIfWell_11 : decode cX4_jumpIfWell 11 = .ok (.aload_n 0, 1) := by decide +kernel
theorem dX4_jumpIfWell_12 : decode cX4_jumpIfWell 12 = .ok (.getfield 14, 3) := by decide +kernel
theorem dX4_jumpIfWell_15 : decode cX4_jumpIfWell 15 = .ok (.iconst 1, 1) := by decide +kernel
theorem dX4_jumpIfWell_16 : decode cX4_jumpIfWell 16 = .ok (.invokevirtual 262, 3) := by decide +kernel
theorem dX4_jumpIfWell_19 : decode cX4_jumpIfWell 19 = .ok (.goto 8, 3) := by decide +kernel
theorem dX4_jumpIfWell_22 : decode cX4_jumpIfWell 22 = .ok (.aload_n 0, 1) := by decide +kernel
theorem dX4_jumpIfWell_23 : decode cX4_jumpIfWell 23 = .ok (.iload_n 1, 1) := by decide +kernel
theorem dX4_jumpIfWell_24 : decode cX4_jumpIfWell 24 = .ok (.putfield 55, 3) := by decide +kernel
theorem dX4_jumpIfWell_27 : decode cX4_jumpIfWell 27 = .ok (.return_, 1) := by decide +kernel
theorem dX4_tagOfTop_0 : decode cX4_tagOfTop 0 = .ok (.aload_n 0, 1) := by decide +kernel
theorem dX4_tagOfTop_1 : decode cX4_tagOfTop 1 = .ok (.getfield 14, 3) := by decide +kernel
theorem dX4_tagOfTop_4 : decode cX4_tagOfTop 4 = .ok (.invokevirtual 265, 3) := by decide +kernel
theorem dX4_tagOfTop_7 : decode cX4_tagOfTop 7 = .ok (.iconst 4, 1) := by decide +kernel
theorem dX4_tagOfTop_8 : decode cX4_tagOfTop 8 = .ok (.if_icmp .ne 18, 3) := by decide +kernel
theorem dX4_tagOfTop_11 : decode cX4_tagOfTop 11 = .ok (.aload_n 0, 1) := by decide +kernel
theorem dX4_tagOfTop_12 : decode cX4_tagOfTop 12 = .ok (.getfield 14, 3) := by decide +kernel
theorem dX4_tagOfTop_15 : decode cX4_tagOfTop 15 = .ok (.aload_n 0, 1) := by decide +kernel
theorem dX4_tagOfTop_16 : decode cX4_tagOfTop 16 = .ok (.invokevirtual 255, 3) := by decide +kernel
theorem dX4_tagOfTop_19 : decode cX4_tagOfTop 19 = .ok (.invokevirtual 101, 3) := by decide +kernel
theorem dX4_tagOfTop_22 : decode cX4_tagOfTop 22 = .ok (.l2i, 1) := by decide +kernel
theorem dX4_tagOfTop_23 : decode cX4_tagOfTop 23 = .ok (.goto 4, 3) := by decide +kernel
theorem dX4_tagOfTop_26 : decode cX4_tagOfTop 26 = .ok (.iconst (-1), 1) := by decide +kernel
theorem dX4_tagOfTop_27 : decode cX4_tagOfTop 27 = .ok (.istore_n 1, 1) := by decide +kernel
theorem dX4_tagOfTop_28 : decode cX4_tagOfTop 28 = .ok (.aload_n 0, 1) := by decide +kernel
theorem dX4_tagOfTop_29 : decode cX4_tagOfTop 29 = .ok (.getfield 14, 3) := by decide +kernel
theorem dX4_tagOfTop_32 : decode cX4_tagOfTop 32 = .ok (.iconst 1, 1) := by decide +kernel
theorem dX4_tagOfTop_33 : decode cX4_tagOfTop 33 = .ok (.invokevirtual 262, 3) := by decide +kernel
theorem dX4_tagOfTop_36 : decode cX4_tagOfTop 36 = .ok (.aload_n 0, 1) := by decide +kernel
theorem dX4_tagOfTop_37 : decode cX4_tagOfTop 37 = .ok (.iconst 2, 1) := by decide +kernel
theorem dX4_tagOfTop_38 : decode cX4_tagOfTop 38 = .ok (.aload_n 0, 1) := by decide +kernel
theorem dX4_tagOfTop_39 : decode cX4_tagOfTop 39 = .ok (.getfield 29, 3) := by decide +kernel
theorem dX4_tagOfTop_42 : decode cX4_tagOfTop 42 = .ok (.iload_n 1, 1) := by decide +kernel
theorem dX4_tagOfTop_43 : decode cX4_tagOfTop 43 = .ok (.iconst 1, 1) := by decide +kernel
theorem dX4_tagOfTop_44 : decode cX4_tagOfTop 44 = .ok (.invokevirtual 113, 3) := by decide +kernel
theorem dX4_tagOfTop_47 : decode cX4_tagOfTop 47 = .ok (.iconst 0, 1) := by decide +kernel
theorem dX4_tagOfTop_48 : decode cX4_tagOfTop 48 = .ok (.invokestatic 388, 3) := by decide +kernel
theorem dX4_tagOfTop_51 : decode cX4_tagOfTop 51 = .ok (.i2l, 1) := by decide +kernel
theorem dX4_tagOfTop_52 : decode cX4_tagOfTop 52 = .ok (.invokevirtual 122, 3) := by decide +kernel
theorem dX4_tagOfTop_55 : decode cX4_tagOfTop 55 = .ok (.return_, 1) := by decide +kernel
theorem dX4_question_0 : decode cX4_question 0 = .ok (.aload_n 0, 1) := by decide +kernel
theorem dX4_question_1 : decode cX4_question 1 = .ok (.getfield 14, 3) := by decide +kernel
theorem dX4_question_4 : decode cX4_question 4 = .ok (.invokevirtual 265, 3) := by decide +kernel
theorem dX4_question_7 : decode cX4_question 7 = .ok (.istore_n 2, 1) := by decide +kernel
theorem dX4_question_8 : decode cX4_question 8 = .ok (.iload_n 2, 1) := by decide +kernel
theorem dX4_question_9 : decode cX4_question 9 = .ok (.iconst 4, 1) := by decide +kernel
theorem dX4_question_10 : decode cX4_question 10 = .ok (.if_icmp .ne 11, 3) := by decide +kernel
theorem dX4_question_13 : decode cX4_question 13 = .ok (.aload_n 0, 1) := by decide +kernel
theorem dX4_question_14 : decode cX4_question 14 = .ok (.iconst 3, 1) := by decide +kernel
theorem dX4_question_15 : decode cX4_question 15 = .ok (.putfield 58, 3) := by decide +kernel
theorem dX4_question_18 : decode cX4_question 18 = .ok (.goto 66, 3) := by decide +kernel
theorem dX4_question_21 : decode cX4_question 21 = .ok (.iload_n 2, 1) := by decide +kernel
theorem dX4_question_22 : decode cX4_question 22 = .ok (.iconst 1, 1) := by decide +kernel
theorem dX4_question_23 : decode cX4_question 23 = .ok (.if_icmp .eq 16, 3) := by decide +kernel
theorem dX4_question_26 : decode cX4_question 26 = .ok (.aload_n 0, 1) := by decide +kernel
theorem dX4_question_27 : decode cX4_question 27 = .ok (.iconst 4, 1) := by decide +kernel
theorem dX4_question_28 : decode cX4_question 28 = .ok (.iconst 1, 1) := by decide +kernel
theorem dX4_question_29 : decode cX4_question 29 = .ok (.invokevirtual 287, 3) := by decide +kernel
theorem dX4_question_32 : decode cX4_question 32 = .ok (.aload_n 0, 1) := by decide +kernel
theorem dX4_question_33 : decode cX4_question 33 = .ok (.invokevirtual 393, 3) := by decide +kernel
theorem dX4_question_36 : decode cX4_question 36 = .ok (.goto 48, 3) := by decide +kernel
theorem dX4_question_39 : decode cX4_question 39 = .ok (.aload_n 0, 1) := by decide +kernel
theorem dX4_question_40 : decode cX4_question 40 = .ok (.getfield 14, 3) := by decide +kernel
theorem dX4_question_43 : decode cX4_question 43 = .ok (.aload_n 0, 1) := by decide +kernel
theorem dX4_question_44 : decode cX4_question 44 = .ok (.invokevirtual 255, 3) := by decide +kernel
theorem dX4_question_47 : decode cX4_question 47 = .ok (.invokevirtual 101, 3) := by decide +kernel
theorem dX4_question_50 : decode cX4_question 50 = .ok (.lconst 0, 1) := by decide +kernel
theorem dX4_question_51 : decode cX4_question 51 = .ok (.lcmp, 1) := by decide +kernel
theorem dX4_question_52 : decode cX4_question 52 = .ok (.ifCond .ne 24, 3) := by decide +kernel
theorem dX4_question_55 : decode cX4_question 55 = .ok (.aload_n 0, 1) := by decide +kernel
theorem dX4_question_56 : decode cX4_question 56 = .ok (.getfield 14, 3) := by decide +kernel
theorem dX4_question_59 : decode cX4_question 59 = .ok (.aload_n 0, 1) := by decide +kernel
theorem dX4_question_60 : decode cX4_question 60 = .ok (.invokevirtual 255, 3) := by decide +kernel
theorem dX4_question_63 : decode cX4_question 63 = .ok (.invokevirtual 91, 3) := by decide +kernel
theorem dX4_question_66 : decode cX4_question 66 = .ok (.dconst 0, 1) := by decide +kernel
theorem dX4_question_67 : decode cX4_question 67 = .ok (.dcmp .l, 1) := by decide +kernel
theorem dX4_question_68 : decode cX4_question 68 = .ok (.ifCond .ne 8, 3) := by decide +kernel
theorem dX4_question_71 : decode cX4_question 71 = .ok (.aload_n 0, 1) := by decide +kernel
theorem dX4_question_72 : decode cX4_question 72 = .ok (.iload_n 1, 1) := by decide +kernel
theorem dX4_question_73 : decode cX4_question 73 = .ok (.putfield 55, 3) := by decide +kernel
theorem dX4_question_76 : decode cX4_question 76 = .ok (.aload_n 0, 1) := by decide +kernel
theorem dX4_question_77 : decode cX4_question 77 = .ok (.getfield 14, 3) := by decide +kernel
theorem dX4_question_80 : decode cX4_question 80 = .ok (.iconst 1, 1) := by decide +kernel
theorem dX4_question_81 : decode cX4_question 81 = .ok (.invokevirtual 262, 3) := by decide +kernel
theorem dX4_question_84 : decode cX4_question 84 = .ok (.return_, 1) := by decide +kernel
theorem dX4_keepMark_0 : decode cX4_keepMark 0 = .ok (.aload_n 0, 1) := by decide +kernel
theorem dX4_keepMark_1 : decode cX4_keepMark 1 = .ok (.getfield 14, 3) := by decide +kernel
theorem dX4_keepMark_4 : decode cX4_keepMark 4 = .ok (.invokevirtual 265, 3) := by decide +kernel
theorem dX4_keepMark_7 : decode cX4_keepMark 7 = .ok (.istore_n 1, 1) := by decide +kernel
theorem dX4_keepMark_8 : decode cX4_keepMark 8 = .ok (.iload_n 1, 1) := by decide +kernel
theorem dX4_keepMark_9 : decode cX4_keepMark 9 = .ok (.iconst 4, 1) := by decide +kernel
theorem dX4_keepMark_10 : decode cX4_keepMark 10 = .ok (.if_icmp .ne 11, 3) := by decide +kernel
theorem dX4_keepMark_13 : decode cX4_keepMark 13 = .ok (.aload_n 0, 1) := by decide +kernel
theorem dX4_keepMark_14 : decode cX4_keepMark 14 = .ok (.iconst 3, 1) := by decide +kernel
theorem dX4_keepMark_15 : decode cX4_keepMark 15 = .ok (.putfield 58, 3) := by decide +kernel
theorem dX4_keepMark_18 : decode cX4_keepMark 18 = .ok (.goto 88, 3) := by decide +kernel
theorem dX4_keepMark_21 : decode cX4_keepMark 21 = .ok (.iload_n 1, 1) := by decide +kernel
theorem dX4_keepMark_22 : decode cX4_keepMark 22 = .ok (.iconst 1, 1) := by decide +kernel
theorem dX4_keepMark_23 : decode cX4_keepMark 23 = .ok (.if_icmp .eq 16, 3) := by decide +kernel
theorem dX4_keepMark_26 : decode cX4_keepMark 26 = .ok (.aload_n 0, 1) := by decide +kernel
theorem dX4_keepMark_27 : decode cX4_keepMark 27 = .ok (.iconst 4, 1) := by decide +kernel
theorem dX4_keepMark_28 : decode cX4_keepMark 28 = .ok (.iconst 1, 1) := by decide +kernel
theorem dX4_keepMark_29 : decode cX4_keepMark 29 = .ok (.invokevirtual 287, 3) := by decide +kernel
theorem dX4_keepMark_32 : decode cX4_keepMark 32 = .ok (.aload_n 0, 1) := by decide +kernel
theorem dX4_keepMark_33 : decode cX4_keepMark 33 = .ok (.invokevirtual 393, 3) := by decide +kernel
theorem dX4_keepMark_36 : decode cX4_keepMark 36 = .ok (.goto 70, 3) := by decide +kernel
theorem dX4_keepMark_39 : decode cX4_keepMark 39 = .ok (.aload_n 0, 1) := by decide +kernel
theorem dX4_keepMark_40 : decode cX4_keepMark 40 = .ok (.getfield 47, 3) := by decide +kernel
theorem dX4_keepMark_43 : decode cX4_keepMark 43 = .ok (.iconst 3, 1) := by decide +kernel
theorem dX4_keepMark_44 : decode cX4_keepMark 44 = .ok (.dup2, 1) := by decide +kernel
theorem dX4_keepMark_45 : decode cX4_keepMark 45 = .ok (.iaload, 1) := by decide +kernel
theorem dX4_keepMark_46 : decode cX4_keepMark 46 = .ok (.iconst 1, 1) := by decide +kernel
theorem dX4_keepMark_47 : decode cX4_keepMark 47 = .ok (.iadd, 1) := by decide +kernel
theorem dX4_keepMark_48 : decode cX4_keepMark 48 = .ok (.iastore, 1) := by decide +kernel
theorem dX4_keepMark_49 : decode cX4_keepMark 49 = .ok (.aload_n 0, 1) := by decide +kernel
theorem dX4_keepMark_50 : decode cX4_keepMark 50 = .ok (.getfield 23, 3) := by decide +kernel
theorem dX4_keepMark_53 : decode cX4_keepMark 53 = .ok (.invokevirtual 105, 3) := by decide +kernel
theorem dX4_keepMark_56 : decode cX4_keepMark 56 = .ok (.sipush 200, 3) := by decide +kernel
theorem dX4_keepMark_59 : decode cX4_keepMark 59 = .ok (.if_icmp .ge 39, 3) := by decide +kernel
theorem dX4_keepMark_62 : decode cX4_keepMark 62 = .ok (.aload_n 0, 1) := by decide +kernel
theorem dX4_keepMark_63 : decode cX4_keepMark 63 = .ok (.getfield 23, 3) := by decide +kernel
theorem dX4_keepMark_66 : decode cX4_keepMark 66 = .ok (.aload_n 0, 1) := by decide +kernel
theorem dX4_keepMark_67 : decode cX4_keepMark 67 = .ok (.getfield 36, 3) := by decide +kernel
theorem dX4_keepMark_70 : decode cX4_keepMark 70 = .ok (.invokevirtual 268, 3) := by decide +kernel
theorem dX4_keepMark_73 : decode cX4_keepMark 73 = .ok (.aload_n 0, 1) := by decide +kernel
theorem dX4_keepMark_74 : decode cX4_keepMark 74 = .ok (.getfield 14, 3) := by decide +kernel
theorem dX4_keepMark_77 : decode cX4_keepMark 77 = .ok (.aload_n 0, 1) := by decide +kernel
theorem dX4_keepMark_78 : decode cX4_keepMark 78 = .ok (.invokevirtual 255, 3) := by decide +kernel
theorem dX4_keepMark_81 : decode cX4_keepMark 81 = .ok (.invokevirtual 101, 3) := by decide +kernel
theorem dX4_keepMark_84 : decode cX4_keepMark 84 = .ok (.aload_n 0, 1) := by decide +kernel
theorem dX4_keepMark_85 : decode cX4_keepMark 85 = .ok (.getfield 14, 3) := by decide +kernel
theorem dX4_keepMark_88 : decode cX4_keepMark 88 = .ok (.aload_n 0, 1) := by decide +kernel
theorem dX4_keepMark_89 : decode cX4_keepMark 89 = .ok (.invokevirtual 255, 3) := by decide +kernel
theorem dX4_keepMark_92 : decode cX4_keepMark 92 = .ok (.invokevirtual 91, 3) := by decide +kernel
theorem dX4_keepMark_95 : decode cX4_keepMark 95 = .ok (.invokevirtual 161, 3) := by decide +kernel
theorem dX4_keepMark_98 : decode cX4_keepMark 98 = .ok (.aload_n 0, 1) := by decide +kernel
theorem dX4_keepMark_99 : decode cX4_keepMark 99 = .ok (.getfield 14, 3) := by decide +kernel
theorem dX4_keepMark_102 : decode cX4_keepMark 102 = .ok (.iconst 1, 1) := by decide +kernel
theorem dX4_keepMark_103 : decode cX4_keepMark 103 = .ok (.invokevirtual 262, 3) := by decide +kernel
theorem dX4_keepMark_106 : decode cX4_keepMark 106 = .ok (.return_, 1) := by decide +kernel
theorem dX4_newArray_0 : decode cX4_newArray 0 = .ok (.aload_n 0, 1) := by decide +kernel
theorem dX4_newArray_1 : decode cX4_newArray 1 = .ok (.invokevirtual 171, 3) := by decide +kernel
theorem dX4_newArray_4 : decode cX4_newArray 4 = .ok (.ifCond .ne 4, 3) := by decide +kernel
theorem dX4_newArray_7 : decode cX4_newArray 7 = .ok (.return_, 1) := by decide +kernel
theorem dX4_newArray_8 : decode cX4_newArray 8 = .ok (.aload_n 0, 1) := by decide +kernel
theorem dX4_newArray_9 : decode cX4_newArray 9 = .ok (.getfield 14, 3) := by decide +kernel
theorem dX4_newArray_12 : decode cX4_newArray 12 = .ok (.invokevirtual 265, 3) := by decide +kernel
theorem dX4_newArray_15 : decode cX4_newArray 15 = .ok (.iconst 1, 1) := by decide +kernel
theorem dX4_newArray_16 : decode cX4_newArray 16 = .ok (.if_icmp .eq 10, 3) := by decide +kernel
theorem dX4_newArray_19 : decode cX4_newArray 19 = .ok (.aload_n 0, 1) := by decide +kernel
theorem dX4_newArray_20 : decode cX4_newArray 20 = .ok (.iconst 4, 1) := by decide +kernel
theorem dX4_newArray_21 : decode cX4_newArray 21 = .ok (.iconst 1, 1) := by decide +kernel
theorem dX4_newArray_22 : decode cX4_newArray 22 = .ok (.invokevirtual 287, 3) := by decide +kernel
theorem dX4_newArray_25 : decode cX4_newArray 25 = .ok (.return_, 1) := by decide +kernel
theorem dX4_newArray_26 : decode cX4_newArray 26 = .ok (.aload_n 0, 1) := by decide +kernel
theorem dX4_newArray_27 : decode cX4_newArray 27 = .ok (.aload_n 0, 1) := by decide +kernel
theorem dX4_newArray_28 : decode cX4_newArray 28 = .ok (.invokevirtual 255, 3) := by decide +kernel
theorem dX4_newArray_31 : decode cX4_newArray 31 = .ok (.invokevirtual 441, 3) := by decide +kernel
theorem dX4_newArray_34 : decode cX4_newArray 34 = .ok (.istore_n 1, 1) := by decide +kernel
theorem dX4_newArray_35 : decode cX4_newArray 35 = .ok (.aload_n 0, 1) := by decide +kernel
theorem dX4_newArray_36 : decode cX4_newArray 36 = .ok (.getfield 20, 3) := by decide +kernel
theorem dX4_newArray_39 : decode cX4_newArray 39 = .ok (.invokevirtual 105, 3) := by decide +kernel
theorem dX4_newArray_42 : decode cX4_newArray 42 = .ok (.istore_n 2, 1) := by decide +kernel
theorem dX4_newArray_43 : decode cX4_newArray 43 = .ok (.iload_n 1, 1) := by decide +kernel
theorem dX4_newArray_44 : decode cX4_newArray 44 = .ok (.ifCond .lt 14, 3) := by decide +kernel
theorem dX4_newArray_47 : decode cX4_newArray 47 = .ok (.iload_n 2, 1) := by decide +kernel
theorem dX4_newArray_48 : decode cX4_newArray 48 = .ok (.iload_n 1, 1) := by decide +kernel
theorem dX4_newArray_49 : decode cX4_newArray 49 = .ok (.iadd, 1) := by decide +kernel
theorem dX4_newArray_50 : decode cX4_newArray 50 = .ok (.iconst 1, 1) := by decide +kernel
theorem dX4_newArray_51 : decode cX4_newArray 51 = .ok (.iadd, 1) := by decide +kernel
theorem dX4_newArray_52 : decode cX4_newArray 52 = .ok (.sipush 20000, 3) := by decide +kernel
theorem dX4_newArray_55 : decode cX4_newArray 55 = .ok (.if_icmp .le 10, 3) := by decide +kernel
theorem dX4_newArray_58 : decode cX4_newArray 58 = .ok (.aload_n 0, 1) := by decide +kernel
theorem dX4_newArray_59 : decode cX4_newArray 59 = .ok (.iconst 5, 1) := by decide +kernel
theorem dX4_newArray_60 : decode cX4_newArray 60 = .ok (.iconst 1, 1) := by decide +kernel
theorem dX4_newArray_61 : decode cX4_newArray 61 = .ok (.invokevirtual 287, 3) := by decide +kernel
theorem dX4_newArray_64 : decode cX4_newArray 64 = .ok (.return_, 1) := by decide +kernel
theorem dX4_newArray_65 : decode cX4_newArray 65 = .ok (.aload_n 0, 1) := by decide +kernel
theorem dX4_newArray_66 : decode cX4_newArray 66 = .ok (.getfield 20, 3) := by decide +kernel
theorem dX4_newArray_69 : decode cX4_newArray 69 = .ok (.iconst 0, 1) := by decide +kernel
theorem dX4_newArray_70 : decode cX4_newArray 70 = .ok (.iload_n 1, 1) := by decide +kernel
theorem dX4_newArray_71 : decode cX4_newArray 71 = .ok (.i2l, 1) := by decide +kernel
theorem dX4_newArray_72 : decode cX4_newArray 72 = .ok (.ldc2_w 444, 3) := by decide +kernel
theorem dX4_newArray_75 : decode cX4_newArray 75 = .ok (.lmul, 1) := by decide +kernel
theorem dX4_newArray_76 : decode cX4_newArray 76 = .ok (.aload_n 0, 1) := by decide +kernel
theorem dX4_newArray_77 : decode cX4_newArray 77 = .ok (.getfield 36, 3) := by decide +kernel
theorem dX4_newArray_80 : decode cX4_newArray 80 = .ok (.invokevirtual 268, 3) := by decide +kernel
theorem dX4_newArray_83 : decode cX4_newArray 83 = .ok (.i2l, 1) := by decide +kernel
theorem dX4_newArray_84 : decode cX4_newArray 84 = .ok (.ladd, 1) := by decide +kernel
theorem dX4_newArray_85 : decode cX4_newArray 85 = .ok (.dconst 0, 1) := by decide +kernel
theorem dX4_newArray_86 : decode cX4_newArray 86 = .ok (.invokevirtual 161, 3) := by decide +kernel
theorem dX4_newArray_89 : decode cX4_newArray 89 = .ok (.aload_n 0, 1) := by decide +kernel
theorem dX4_newArray_90 : decode cX4_newArray 90 = .ok (.getfield 20, 3) := by decide +kernel
theorem dX4_newArray_93 : decode cX4_newArray 93 = .ok (.iload_n 2, 1) := by decide +kernel
theorem dX4_newArray_94 : decode cX4_newArray 94 = .ok (.iconst 1, 1) := by decide +kernel
theorem dX4_newArray_95 : decode cX4_newArray 95 = .ok (.iadd, 1) := by decide +kernel
theorem dX4_newArray_96 : decode cX4_newArray 96 = .ok (.iload_n 1, 1) := by decide +kernel
theorem dX4_newArray_97 : decode cX4_newArray 97 = .ok (.iadd, 1) := by decide +kernel
theorem dX4_newArray_98 : decode cX4_newArray 98 = .ok (.invokevirtual 151, 3) := by decide +kernel
theorem dX4_newArray_101 : decode cX4_newArray 101 = .ok (.aload_n 0, 1) := by decide +kernel
theorem dX4_newArray_102 : decode cX4_newArray 102 = .ok (.getfield 14, 3) := by decide +kernel
theorem dX4_newArray_105 : decode cX4_newArray 105 = .ok (.aload_n 0, 1) := by decide +kernel
theorem dX4_newArray_106 : decode cX4_newArray 106 = .ok (.invokevirtual 255, 3) := by decide +kernel
theorem dX4_newArray_109 : decode cX4_newArray 109 = .ok (.iconst 2, 1) := by decide +kernel
theorem dX4_newArray_110 : decode cX4_newArray 110 = .ok (.iload_n 2, 1) := by decide +kernel
theorem dX4_newArray_111 : decode cX4_newArray 111 = .ok (.i2l, 1) := by decide +kernel
theorem dX4_newArray_112 : decode cX4_newArray 112 = .ok (.dconst 0, 1) := by decide +kernel
theorem dX4_newArray_113 : decode cX4_newArray 113 = .ok (.invokevirtual 365, 3) := by decide +kernel
theorem dX4_newArray_116 : decode cX4_newArray 116 = .ok (.return_, 1) := by decide +kernel
theorem dX4_lengthOfArray_0 : decode cX4_lengthOfArray 0 = .ok (.aload_n 0, 1) := by decide +kernel
theorem dX4_lengthOfArray_1 : decode cX4_lengthOfArray 1 = .ok (.getfield 14, 3) := by decide +kernel
theorem dX4_lengthOfArray_4 : decode cX4_lengthOfArray 4 = .ok (.invokevirtual 265, 3) := by decide +kernel
theorem dX4_lengthOfArray_7 : decode cX4_lengthOfArray 7 = .ok (.istore_n 1, 1) := by decide +kernel
theorem dX4_lengthOfArray_8 : decode cX4_lengthOfArray 8 = .ok (.iload_n 1, 1) := by decide +kernel
theorem dX4_lengthOfArray_9 : decode cX4_lengthOfArray 9 = .ok (.iconst 2, 1) := by decide +kernel
theorem dX4_lengthOfArray_10 : decode cX4_lengthOfArray 10 = .ok (.if_icmp .ne 26, 3) := by decide +kernel
theorem dX4_lengthOfArray_13 : decode cX4_lengthOfArray 13 = .ok (.aload_n 0, 1) := by decide +kernel
theorem dX4_lengthOfArray_14 : decode cX4_lengthOfArray 14 = .ok (.iconst 1, 1) := by decide +kernel
theorem dX4_lengthOfArray_15 : decode cX4_lengthOfArray 15 = .ok (.aload_n 0, 1) := by decide +kernel
theorem dX4_lengthOfArray_16 : decode cX4_lengthOfArray 16 = .ok (.aload_n 0, 1) := by decide +kernel
theorem dX4_lengthOfArray_17 : decode cX4_lengthOfArray 17 = .ok (.getfield 14, 3) := by decide +kernel
theorem dX4_lengthOfArray_20 : decode cX4_lengthOfArray 20 = .ok (.aload_n 0, 1) := by decide +kernel
theorem dX4_lengthOfArray_21 : decode cX4_lengthOfArray 21 = .ok (.invokevirtual 255, 3) := by decide +kernel
theorem dX4_lengthOfArray_24 : decode cX4_lengthOfArray 24 = .ok (.invokevirtual 101, 3) := by decide +kernel
theorem dX4_lengthOfArray_27 : decode cX4_lengthOfArray 27 = .ok (.invokevirtual 378, 3) := by decide +kernel
theorem dX4_lengthOfArray_30 : decode cX4_lengthOfArray 30 = .ok (.invokevirtual 401, 3) := by decide +kernel
theorem dX4_lengthOfArray_33 : decode cX4_lengthOfArray 33 = .ok (.goto 17, 3) := by decide +kernel
theorem dX4_lengthOfArray_36 : decode cX4_lengthOfArray 36 = .ok (.aload_n 0, 1) := by decide +kernel
theorem dX4_lengthOfArray_37 : decode cX4_lengthOfArray 37 = .ok (.iload_n 1, 1) := by decide +kernel
theorem dX4_lengthOfArray_38 : decode cX4_lengthOfArray 38 = .ok (.ifCond .ne 7, 3) := by decide +kernel
theorem dX4_lengthOfArray_41 : decode cX4_lengthOfArray 41 = .ok (.iconst 3, 1) := by decide +kernel
theorem dX4_lengthOfArray_42 : decode cX4_lengthOfArray 42 = .ok (.goto 4, 3) := by decide +kernel
theorem dX4_lengthOfArray_45 : decode cX4_lengthOfArray 45 = .ok (.iconst 4, 1) := by decide +kernel
theorem dX4_lengthOfArray_46 : decode cX4_lengthOfArray 46 = .ok (.iconst 1, 1) := by decide +kernel
theorem dX4_lengthOfArray_47 : decode cX4_lengthOfArray 47 = .ok (.invokevirtual 287, 3) := by decide +kernel
theorem dX4_lengthOfArray_50 : decode cX4_lengthOfArray 50 = .ok (.return_, 1) := by decide +kernel
theorem dX4_whatFailsAsArray_0 : decode cX4_whatFailsAsArray 0 = .ok (.aload_n 0, 1) := by decide +kernel
theorem dX4_whatFailsAsArray_1 : decode cX4_whatFailsAsArray 1 = .ok (.getfield 14, 3) := by decide +kernel
theorem dX4_whatFailsAsArray_4 : decode cX4_whatFailsAsArray 4 = .ok (.iload_n 1, 1) := by decide +kernel
theorem dX4_whatFailsAsArray_5 : decode cX4_whatFailsAsArray 5 = .ok (.invokevirtual 87, 3) := by decide +kernel
theorem dX4_whatFailsAsArray_8 : decode cX4_whatFailsAsArray 8 = .ok (.iconst 2, 1) := by decide +kernel
theorem dX4_whatFailsAsArray_9 : decode cX4_whatFailsAsArray 9 = .ok (.if_icmp .ne 5, 3) := by decide +kernel
theorem dX4_whatFailsAsArray_12 : decode cX4_whatFailsAsArray 12 = .ok (.iconst 0, 1) := by decide +kernel
theorem dX4_whatFailsAsArray_13 : decode cX4_whatFailsAsArray 13 = .ok (.ireturn, 1) := by decide +kernel
theorem dX4_whatFailsAsArray_14 : decode cX4_whatFailsAsArray 14 = .ok (.aload_n 0, 1) := by decide +kernel
theorem dX4_whatFailsAsArray_15 : decode cX4_whatFailsAsArray 15 = .ok (.getfield 14, 3) := by decide +kernel
theorem dX4_whatFailsAsArray_18 : decode cX4_whatFailsAsArray 18 = .ok (.iload_n 1, 1) := by decide +kernel
theorem dX4_whatFailsAsArray_19 : decode cX4_whatFailsAsArray 19 = .ok (.invokevirtual 87, 3) := by decide +kernel
theorem dX4_whatFailsAsArray_22 : decode cX4_whatFailsAsArray 22 = .ok (.ifCond .ne 7, 3) := by decide +kernel
theorem dX4_whatFailsAsArray_25 : decode cX4_whatFailsAsArray 25 = .ok (.iconst 3, 1) := by decide +kernel
theorem dX4_whatFailsAsArray_26 : decode cX4_whatFailsAsArray 26 = .ok (.goto 4, 3) := by decide +kernel
theorem dX4_whatFailsAsArray_29 : decode cX4_whatFailsAsArray 29 = .ok (.iconst 4, 1) := by decide +kernel
theorem dX4_whatFailsAsArray_30 : decode cX4_whatFailsAsArray 30 = .ok (.ireturn, 1) := by decide +kernel
theorem dX4_whatFailsAsIndex_0 : decode cX4_whatFailsAsIndex 0 = .ok (.aload_n 0, 1) := by decide +kernel
theorem dX4_whatFailsAsIndex_1 : decode cX4_whatFailsAsIndex 1 = .ok (.getfield 14, 3) := by decide +kernel
theorem dX4_whatFailsAsIndex_4 : decode cX4_whatFailsAsIndex 4 = .ok (.iload_n 2, 1) := by decide +kernel
theorem dX4_whatFailsAsIndex_5 : decode cX4_whatFailsAsIndex 5 = .ok (.invokevirtual 87, 3) := by decide +kernel
theorem dX4_whatFailsAsIndex_8 : decode cX4_whatFailsAsIndex 8 = .ok (.iconst 1, 1) := by decide +kernel
theorem dX4_whatFailsAsIndex_9 : decode cX4_whatFailsAsIndex 9 = .ok (.if_icmp .eq 5, 3) := by decide +kernel
theorem dX4_whatFailsAsIndex_12 : decode cX4_whatFailsAsIndex 12 = .ok (.iconst 4, 1) := by decide +kernel
theorem dX4_whatFailsAsIndex_13 : decode cX4_whatFailsAsIndex 13 = .ok (.ireturn, 1) := by decide +kernel
theorem dX4_whatFailsAsIndex_14 : decode cX4_whatFailsAsIndex 14 = .ok (.aload_n 0, 1) := by decide +kernel
theorem dX4_whatFailsAsIndex_15 : decode cX4_whatFailsAsIndex 15 = .ok (.iload_n 2, 1) := by decide +kernel
theorem dX4_whatFailsAsIndex_16 : decode cX4_whatFailsAsIndex 16 = .ok (.invokevirtual 441, 3) := by decide +kernel
theorem dX4_whatFailsAsIndex_19 : decode cX4_whatFailsAsIndex 19 = .ok (.istore_n 3, 1) := by decide +kernel
theorem dX4_whatFailsAsIndex_20 : decode cX4_whatFailsAsIndex 20 = .ok (.iload_n 3, 1) := by decide +kernel
theorem dX4_whatFailsAsIndex_21 : decode cX4_whatFailsAsIndex 21 = .ok (.ifCond .lt 19, 3) := by decide +kernel
theorem dX4_whatFailsAsIndex_24 : decode cX4_whatFailsAsIndex 24 = .ok (.iload_n 3, 1) := by decide +kernel
theorem dX4_whatFailsAsIndex_25 : decode cX4_whatFailsAsIndex 25 = .ok (.aload_n 0, 1) := by decide +kernel
theorem dX4_whatFailsAsIndex_26 : decode cX4_whatFailsAsIndex 26 = .ok (.aload_n 0, 1) := by decide +kernel
theorem dX4_whatFailsAsIndex_27 : decode cX4_whatFailsAsIndex 27 = .ok (.getfield 14, 3) := by decide +kernel
theorem dX4_whatFailsAsIndex_30 : decode cX4_whatFailsAsIndex 30 = .ok (.iload_n 1, 1) := by decide +kernel
theorem dX4_whatFailsAsIndex_31 : decode cX4_whatFailsAsIndex 31 = .ok (.invokevirtual 101, 3) := by decide +kernel
theorem dX4_whatFailsAsIndex_34 : decode cX4_whatFailsAsIndex 34 = .ok (.invokevirtual 378, 3) := by decide +kernel
theorem dX4_whatFailsAsIndex_37 : decode cX4_whatFailsAsIndex 37 = .ok (.if_icmp .lt 7, 3) := by decide +kernel
theorem dX4_whatFailsAsIndex_40 : decode cX4_whatFailsAsIndex 40 = .ok (.iconst 2, 1) := by decide +kernel
theorem dX4_whatFailsAsIndex_41 : decode cX4_whatFailsAsIndex 41 = .ok (.goto 4, 3) := by decide +kernel
theorem dX4_whatFailsAsIndex_44 : decode cX4_whatFailsAsIndex 44 = .ok (.iconst 0, 1) := by decide +kernel
theorem dX4_whatFailsAsIndex_45 : decode cX4_whatFailsAsIndex 45 = .ok (.ireturn, 1) := by decide +kernel
theorem dX4_cellAt_0 : decode cX4_cellAt 0 = .ok (.aload_n 0, 1) := by decide +kernel
theorem dX4_cellAt_1 : decode cX4_cellAt 1 = .ok (.getfield 14, 3) := by decide +kernel
theorem dX4_cellAt_4 : decode cX4_cellAt 4 = .ok (.iload_n 1, 1) := by decide +kernel
theorem dX4_cellAt_5 : decode cX4_cellAt 5 = .ok (.invokevirtual 101, 3) := by decide +kernel
theorem dX4_cellAt_8 : decode cX4_cellAt 8 = .ok (.l2i, 1) := by decide +kernel
theorem dX4_cellAt_9 : decode cX4_cellAt 9 = .ok (.iconst 1, 1) := by decide +kernel
theorem dX4_cellAt_10 : decode cX4_cellAt 10 = .ok (.iadd, 1) := by decide +kernel
theorem dX4_cellAt_11 : decode cX4_cellAt 11 = .ok (.aload_n 0, 1) := by decide +kernel
theorem dX4_cellAt_12 : decode cX4_cellAt 12 = .ok (.iload_n 2, 1) := by decide +kernel
theorem dX4_cellAt_13 : decode cX4_cellAt 13 = .ok (.invokevirtual 441, 3) := by decide +kernel
theorem dX4_cellAt_16 : decode cX4_cellAt 16 = .ok (.iadd, 1) := by decide +kernel
theorem dX4_cellAt_17 : decode cX4_cellAt 17 = .ok (.ireturn, 1) := by decide +kernel
theorem dX4_cellOfArray_0 : decode cX4_cellOfArray 0 = .ok (.aload_n 0, 1) := by decide +kernel
theorem dX4_cellOfArray_1 : decode cX4_cellOfArray 1 = .ok (.invokevirtual 255, 3) := by decide +kernel
theorem dX4_cellOfArray_4 : decode cX4_cellOfArray 4 = .ok (.iconst 1, 1) := by decide +kernel
theorem dX4_cellOfArray_5 : decode cX4_cellOfArray 5 = .ok (.isub, 1) := by decide +kernel
theorem dX4_cellOfArray_6 : decode cX4_cellOfArray 6 = .ok (.istore_n 1, 1) := by decide +kernel
theorem dX4_cellOfArray_7 : decode cX4_cellOfArray 7 = .ok (.aload_n 0, 1) := by decide +kernel
theorem dX4_cellOfArray_8 : decode cX4_cellOfArray 8 = .ok (.iload_n 1, 1) := by decide +kernel
theorem dX4_cellOfArray_9 : decode cX4_cellOfArray 9 = .ok (.invokevirtual 446, 3) := by decide +kernel
theorem dX4_cellOfArray_12 : decode cX4_cellOfArray 12 = .ok (.istore_n 2, 1) := by decide +kernel
theorem dX4_cellOfArray_13 : decode cX4_cellOfArray 13 = .ok (.iload_n 2, 1) := by decide +kernel
theorem dX4_cellOfArray_14 : decode cX4_cellOfArray 14 = .ok (.ifCond .ne 12, 3) := by decide +kernel
theorem dX4_cellOfArray_17 : decode cX4_cellOfArray 17 = .ok (.aload_n 0, 1) := by decide +kernel
theorem dX4_cellOfArray_18 : decode cX4_cellOfArray 18 = .ok (.iload_n 1, 1) := by decide +kernel
theorem dX4_cellOfArray_19 : decode cX4_cellOfArray 19 = .ok (.iload_n 1, 1) := by decide +kernel
theorem dX4_cellOfArray_20 : decode cX4_cellOfArray 20 = .ok (.iconst 1, 1) := by decide +kernel
theorem dX4_cellOfArray_21 : decode cX4_cellOfArray 21 = .ok (.iadd, 1) := by decide +kernel
theorem dX4_cellOfArray_22 : decode cX4_cellOfArray 22 = .ok (.invokevirtual 449, 3) := by decide +kernel
theorem dX4_cellOfArray_25 : decode cX4_cellOfArray 25 = .ok (.istore_n 2, 1) := by decide +kernel
theorem dX4_cellOfArray_26 : decode cX4_cellOfArray 26 = .ok (.iload_n 2, 1) := by decide +kernel
theorem dX4_cellOfArray_27 : decode cX4_cellOfArray 27 = .ok (.ifCond .eq 10, 3) := by decide +kernel
theorem dX4_cellOfArray_30 : decode cX4_cellOfArray 30 = .ok (.aload_n 0, 1) := by decide +kernel
theorem dX4_cellOfArray_31 : decode cX4_cellOfArray 31 = .ok (.iload_n 2, 1) := by decide +kernel
theorem dX4_cellOfArray_32 : decode cX4_cellOfArray 32 = .ok (.iconst 2, 1) := by decide +kernel
theorem dX4_cellOfArray_33 : decode cX4_cellOfArray 33 = .ok (.invokevirtual 287, 3) := by decide +kernel
theorem dX4_cellOfArray_36 : decode cX4_cellOfArray 36 = .ok (.return_, 1) := by decide +kernel
theorem dX4_cellOfArray_37 : decode cX4_cellOfArray 37 = .ok (.aload_n 0, 1) := by decide +kernel
theorem dX4_cellOfArray_38 : decode cX4_cellOfArray 38 = .ok (.iload_n 1, 1) := by decide +kernel
theorem dX4_cellOfArray_39 : decode cX4_cellOfArray 39 = .ok (.invokevirtual 452, 3) := by decide +kernel
theorem dX4_cellOfArray_42 : decode cX4_cellOfArray 42 = .ok (.istore_n 3, 1) := by decide +kernel
theorem dX4_cellOfArray_43 : decode cX4_cellOfArray 43 = .ok (.iload_n 3, 1) := by decide +kernel
theorem dX4_cellOfArray_44 : decode cX4_cellOfArray 44 = .ok (.aload_n 0, 1) := by decide +kernel
theorem dX4_cellOfArray_45 : decode cX4_cellOfArray 45 = .ok (.getfield 36, 3) := by decide +kernel
theorem dX4_cellOfArray_48 : decode cX4_cellOfArray 48 = .ok (.invokevirtual 268, 3) := by decide +kernel
theorem dX4_cellOfArray_51 : decode cX4_cellOfArray 51 = .ok (.if_icmp .eq 11, 3) := by decide +kernel
theorem dX4_cellOfArray_54 : decode cX4_cellOfArray 54 = .ok (.aload_n 0, 1) := by decide +kernel
theorem dX4_cellOfArray_55 : decode cX4_cellOfArray 55 = .ok (.invokevirtual 171, 3) := by decide +kernel
theorem dX4_cellOfArray_58 : decode cX4_cellOfArray 58 = .ok (.ifCond .ne 4, 3) := by decide +kernel
theorem dX4_cellOfArray_61 : decode cX4_cellOfArray 61 = .ok (.return_, 1) := by decide +kernel
theorem dX4_cellOfArray_62 : decode cX4_cellOfArray 62 = .ok (.aload_n 0, 1) := by decide +kernel
theorem dX4_cellOfArray_63 : decode cX4_cellOfArray 63 = .ok (.getfield 14, 3) := by decide +kernel
theorem dX4_cellOfArray_66 : decode cX4_cellOfArray 66 = .ok (.iload_n 1, 1) := by decide +kernel
theorem dX4_cellOfArray_67 : decode cX4_cellOfArray 67 = .ok (.aload_n 0, 1) := by decide +kernel
theorem dX4_cellOfArray_68 : decode cX4_cellOfArray 68 = .ok (.getfield 20, 3) := by decide +kernel
theorem dX4_cellOfArray_71 : decode cX4_cellOfArray 71 = .ok (.aload_n 0, 1) := by decide +kernel
theorem dX4_cellOfArray_72 : decode cX4_cellOfArray 72 = .ok (.iload_n 1, 1) := by decide +kernel
theorem dX4_cellOfArray_73 : decode cX4_cellOfArray 73 = .ok (.iload_n 1, 1) := by decide +kernel
theorem dX4_cellOfArray_74 : decode cX4_cellOfArray 74 = .ok (.iconst 1, 1) := by decide +kernel
theorem dX4_cellOfArray_75 : decode cX4_cellOfArray 75 = .ok (.iadd, 1) := by decide +kernel
theorem dX4_cellOfArray_76 : decode cX4_cellOfArray 76 = .ok (.invokevirtual 455, 3) := by decide +kernel
theorem dX4_cellOfArray_79 : decode cX4_cellOfArray 79 = .ok (.invokevirtual 258, 3) := by decide +kernel
theorem dX4_cellOfArray_82 : decode cX4_cellOfArray 82 = .ok (.aload_n 0, 1) := by decide +kernel
theorem dX4_cellOfArray_83 : decode cX4_cellOfArray 83 = .ok (.getfield 14, 3) := by decide +kernel
theorem dX4_cellOfArray_86 : decode cX4_cellOfArray 86 = .ok (.iconst 1, 1) := by decide +kernel
theorem dX4_cellOfArray_87 : decode cX4_cellOfArray 87 = .ok (.invokevirtual 262, 3) := by decide +kernel
theorem dX4_cellOfArray_90 : decode cX4_cellOfArray 90 = .ok (.aload_n 0, 1) := by decide +kernel
theorem dX4_cellOfArray_91 : decode cX4_cellOfArray 91 = .ok (.getfield 79, 3) := by decide +kernel
theorem dX4_cellOfArray_94 : decode cX4_cellOfArray 94 = .ok (.aload_n 0, 1) := by decide +kernel
theorem dX4_cellOfArray_95 : decode cX4_cellOfArray 95 = .ok (.getfield 14, 3) := by decide +kernel
theorem dX4_cellOfArray_98 : decode cX4_cellOfArray 98 = .ok (.iload_n 1, 1) := by decide +kernel
theorem dX4_cellOfArray_99 : decode cX4_cellOfArray 99 = .ok (.iload_n 3, 1) := by decide +kernel
theorem dX4_cellOfArray_100 : decode cX4_cellOfArray 100 = .ok (.aload_n 0, 1) := by decide +kernel
theorem dX4_cellOfArray_101 : decode cX4_cellOfArray 101 = .ok (.getfield 36, 3) := by decide +kernel
theorem dX4_cellOfArray_104 : decode cX4_cellOfArray 104 = .ok (.invokevirtual 268, 3) := by decide +kernel
theorem dX4_cellOfArray_107 : decode cX4_cellOfArray 107 = .ok (.invokevirtual 361, 3) := by decide +kernel
theorem dX4_cellOfArray_110 : decode cX4_cellOfArray 110 = .ok (.ifCond .ne 9, 3) := by decide +kernel
theorem dX4_cellOfArray_113 : decode cX4_cellOfArray 113 = .ok (.aload_n 0, 1) := by decide +kernel
theorem dX4_cellOfArray_114 : decode cX4_cellOfArray 114 = .ok (.iconst 4, 1) := by decide +kernel
theorem dX4_cellOfArray_115 : decode cX4_cellOfArray 115 = .ok (.iconst 1, 1) := by decide +kernel
theorem dX4_cellOfArray_116 : decode cX4_cellOfArray 116 = .ok (.invokevirtual 287, 3) := by decide +kernel
theorem dX4_cellOfArray_119 : decode cX4_cellOfArray 119 = .ok (.return_, 1) := by decide +kernel
theorem dX4_putIntoArray_0 : decode cX4_putIntoArray 0 = .ok (.aload_n 0, 1) := by decide +kernel
theorem dX4_putIntoArray_1 : decode cX4_putIntoArray 1 = .ok (.invokevirtual 255, 3) := by decide +kernel
theorem dX4_putIntoArray_4 : decode cX4_putIntoArray 4 = .ok (.iconst 2, 1) := by decide +kernel
theorem dX4_putIntoArray_5 : decode cX4_putIntoArray 5 = .ok (.isub, 1) := by decide +kernel
theorem dX4_putIntoArray_6 : decode cX4_putIntoArray 6 = .ok (.istore_n 1, 1) := by decide +kernel
theorem dX4_putIntoArray_7 : decode cX4_putIntoArray 7 = .ok (.iload_n 1, 1) := by decide +kernel
theorem dX4_putIntoArray_8 : decode cX4_putIntoArray 8 = .ok (.istore_n 2, 1) := by decide +kernel
theorem dX4_putIntoArray_9 : decode cX4_putIntoArray 9 = .ok (.aload_n 0, 1) := by decide +kernel
theorem dX4_putIntoArray_10 : decode cX4_putIntoArray 10 = .ok (.iload_n 1, 1) := by decide +kernel
theorem dX4_putIntoArray_11 : decode cX4_putIntoArray 11 = .ok (.invokevirtual 446, 3) := by decide +kernel
theorem dX4_putIntoArray_14 : decode cX4_putIntoArray 14 = .ok (.istore_n 3, 1) := by decide +kernel
theorem dX4_putIntoArray_15 : decode cX4_putIntoArray 15 = .ok (.iload_n 3, 1) := by decide +kernel
theorem dX4_putIntoArray_16 : decode cX4_putIntoArray 16 = .ok (.ifCond .ne 14, 3) := by decide +kernel
theorem dX4_putIntoArray_19 : decode cX4_putIntoArray 19 = .ok (.iload_n 1, 1) := by decide +kernel
theorem dX4_putIntoArray_20 : decode cX4_putIntoArray 20 = .ok (.iconst 1, 1) := by decide +kernel
theorem dX4_putIntoArray_21 : decode cX4_putIntoArray 21 = .ok (.iadd, 1) := by decide +kernel
theorem dX4_putIntoArray_22 : decode cX4_putIntoArray 22 = .ok (.istore_n 2, 1) := by decide +kernel
theorem dX4_putIntoArray_23 : decode cX4_putIntoArray 23 = .ok (.aload_n 0, 1) := by decide +kernel
theorem dX4_putIntoArray_24 : decode cX4_putIntoArray 24 = .ok (.iload_n 1, 1) := by decide +kernel
theorem dX4_putIntoArray_25 : decode cX4_putIntoArray 25 = .ok (.iload_n 2, 1) := by decide +kernel
theorem dX4_putIntoArray_26 : decode cX4_putIntoArray 26 = .ok (.invokevirtual 449, 3) := by decide +kernel
theorem dX4_putIntoArray_29 : decode cX4_putIntoArray 29 = .ok (.istore_n 3, 1) := by decide +kernel
theorem dX4_putIntoArray_30 : decode cX4_putIntoArray 30 = .ok (.iload_n 3, 1) := by decide +kernel
theorem dX4_putIntoArray_31 : decode cX4_putIntoArray 31 = .ok (.ifCond .ne 40, 3) := by decide +kernel
theorem dX4_putIntoArray_34 : decode cX4_putIntoArray 34 = .ok (.iload_n 1, 1) := by decide +kernel
theorem dX4_putIntoArray_35 : decode cX4_putIntoArray 35 = .ok (.iconst 2, 1) := by decide +kernel
theorem dX4_putIntoArray_36 : decode cX4_putIntoArray 36 = .ok (.iadd, 1) := by decide +kernel
theorem dX4_putIntoArray_37 : decode cX4_putIntoArray 37 = .ok (.istore_n 2, 1) := by decide +kernel
theorem dX4_putIntoArray_38 : decode cX4_putIntoArray 38 = .ok (.aload_n 0, 1) := by decide +kernel
theorem dX4_putIntoArray_39 : decode cX4_putIntoArray 39 = .ok (.getfield 79, 3) := by decide +kernel
theorem dX4_putIntoArray_42 : decode cX4_putIntoArray 42 = .ok (.aload_n 0, 1) := by decide +kernel
theorem dX4_putIntoArray_43 : decode cX4_putIntoArray 43 = .ok (.getfield 14, 3) := by decide +kernel
theorem dX4_putIntoArray_46 : decode cX4_putIntoArray 46 = .ok (.iload_n 2, 1) := by decide +kernel
theorem dX4_putIntoArray_47 : decode cX4_putIntoArray 47 = .ok (.aload_n 0, 1) := by decide +kernel
theorem dX4_putIntoArray_48 : decode cX4_putIntoArray 48 = .ok (.getfield 36, 3) := by decide +kernel
theorem dX4_putIntoArray_51 : decode cX4_putIntoArray 51 = .ok (.invokevirtual 268, 3) := by decide +kernel
theorem dX4_putIntoArray_54 : decode cX4_putIntoArray 54 = .ok (.aload_n 0, 1) := by decide +kernel
theorem dX4_putIntoArray_55 : decode cX4_putIntoArray 55 = .ok (.iload_n 1, 1) := by decide +kernel
theorem dX4_putIntoArray_56 : decode cX4_putIntoArray 56 = .ok (.invokevirtual 452, 3) := by decide +kernel
theorem dX4_putIntoArray_59 : decode cX4_putIntoArray 59 = .ok (.invokevirtual 361, 3) := by decide +kernel
theorem dX4_putIntoArray_62 : decode cX4_putIntoArray 62 = .ok (.ifCond .eq 7, 3) := by decide +kernel
theorem dX4_putIntoArray_65 : decode cX4_putIntoArray 65 = .ok (.iconst 0, 1) := by decide +kernel
theorem dX4_putIntoArray_66 : decode cX4_putIntoArray 66 = .ok (.goto 4, 3) := by decide +kernel
theorem dX4_putIntoArray_69 : decode cX4_putIntoArray 69 = .ok (.iconst 4, 1) := by decide +kernel
theorem dX4_putIntoArray_70 : decode cX4_putIntoArray 70 = .ok (.istore_n 3, 1) := by decide +kernel
theorem dX4_putIntoArray_71 : decode cX4_putIntoArray 71 = .ok (.aload_n 0, 1) := by decide +kernel
theorem dX4_putIntoArray_72 : decode cX4_putIntoArray 72 = .ok (.getfield 14, 3) := by decide +kernel
theorem dX4_putIntoArray_75 : decode cX4_putIntoArray 75 = .ok (.iload_n 2, 1) := by decide +kernel
theorem dX4_putIntoArray_76 : decode cX4_putIntoArray 76 = .ok (.invokevirtual 87, 3) := by decide +kernel
theorem dX4_putIntoArray_79 : decode cX4_putIntoArray 79 = .ok (.iconst 4, 1) := by decide +kernel
theorem dX4_putIntoArray_80 : decode cX4_putIntoArray 80 = .ok (.if_icmp .ne 21, 3) := by decide +kernel
theorem dX4_putIntoArray_83 : decode cX4_putIntoArray 83 = .ok (.aload_n 0, 1) := by decide +kernel
theorem dX4_putIntoArray_84 : decode cX4_putIntoArray 84 = .ok (.getfield 14, 3) := by decide +kernel
theorem dX4_putIntoArray_87 : decode cX4_putIntoArray 87 = .ok (.iload_n 2, 1) := by decide +kernel
theorem dX4_putIntoArray_88 : decode cX4_putIntoArray 88 = .ok (.iconst 1, 1) := by decide +kernel
theorem dX4_putIntoArray_89 : decode cX4_putIntoArray 89 = .ok (.iadd, 1) := by decide +kernel
theorem dX4_putIntoArray_90 : decode cX4_putIntoArray 90 = .ok (.invokevirtual 151, 3) := by decide +kernel
theorem dX4_putIntoArray_93 : decode cX4_putIntoArray 93 = .ok (.aload_n 0, 1) := by decide +kernel
theorem dX4_putIntoArray_94 : decode cX4_putIntoArray 94 = .ok (.iconst 3, 1) := by decide +kernel
theorem dX4_putIntoArray_95 : decode cX4_putIntoArray 95 = .ok (.putfield 58, 3) := by decide +kernel
theorem dX4_putIntoArray_98 : decode cX4_putIntoArray 98 = .ok (.goto 48, 3) := by decide +kernel
theorem dX4_putIntoArray_101 : decode cX4_putIntoArray 101 = .ok (.iload_n 3, 1) := by decide +kernel
theorem dX4_putIntoArray_102 : decode cX4_putIntoArray 102 = .ok (.ifCond .eq 16, 3) := by decide +kernel
theorem dX4_putIntoArray_105 : decode cX4_putIntoArray 105 = .ok (.aload_n 0, 1) := by decide +kernel
theorem dX4_putIntoArray_106 : decode cX4_putIntoArray 106 = .ok (.iload_n 3, 1) := by decide +kernel
theorem dX4_putIntoArray_107 : decode cX4_putIntoArray 107 = .ok (.iconst 3, 1) := by decide +kernel
theorem dX4_putIntoArray_108 : decode cX4_putIntoArray 108 = .ok (.invokevirtual 287, 3) := by decide +kernel
theorem dX4_putIntoArray_111 : decode cX4_putIntoArray 111 = .ok (.aload_n 0, 1) := by decide +kernel
theorem dX4_putIntoArray_112 : decode cX4_putIntoArray 112 = .ok (.invokevirtual 393, 3) := by decide +kernel
theorem dX4_putIntoArray_115 : decode cX4_putIntoArray 115 = .ok (.goto 31, 3) := by decide +kernel
theorem dX4_putIntoArray_118 : decode cX4_putIntoArray 118 = .ok (.aload_n 0, 1) := by decide +kernel
theorem dX4_putIntoArray_119 : decode cX4_putIntoArray 119 = .ok (.getfield 20, 3) := by decide +kernel
theorem dX4_putIntoArray_122 : decode cX4_putIntoArray 122 = .ok (.aload_n 0, 1) := by decide +kernel
theorem dX4_putIntoArray_123 : decode cX4_putIntoArray 123 = .ok (.iload_n 1, 1) := by decide +kernel
theorem dX4_putIntoArray_124 : decode cX4_putIntoArray 124 = .ok (.iload_n 1, 1) := by decide +kernel
theorem dX4_putIntoArray_125 : decode cX4_putIntoArray 125 = .ok (.iconst 1, 1) := by decide +kernel
theorem dX4_putIntoArray_126 : decode cX4_putIntoArray 126 = .ok (.iadd, 1) := by decide +kernel
theorem dX4_putIntoArray_127 : decode cX4_putIntoArray 127 = .ok (.invokevirtual 455, 3) := by decide +kernel
theorem dX4_putIntoArray_130 : decode cX4_putIntoArray 130 = .ok (.aload_n 0, 1) := by decide +kernel
theorem dX4_putIntoArray_131 : decode cX4_putIntoArray 131 = .ok (.getfield 14, 3) := by decide +kernel
theorem dX4_putIntoArray_134 : decode cX4_putIntoArray 134 = .ok (.iload_n 2, 1) := by decide +kernel
theorem dX4_putIntoArray_135 : decode cX4_putIntoArray 135 = .ok (.invokevirtual 258, 3) := by decide +kernel
theorem dX4_putIntoArray_138 : decode cX4_putIntoArray 138 = .ok (.aload_n 0, 1) := by decide +kernel
theorem dX4_putIntoArray_139 : decode cX4_putIntoArray 139 = .ok (.getfield 14, 3) := by decide +kernel
theorem dX4_putIntoArray_142 : decode cX4_putIntoArray 142 = .ok (.iconst 3, 1) := by decide +kernel
theorem dX4_putIntoArray_143 : decode cX4_putIntoArray 143 = .ok (.invokevirtual 262, 3) := by decide +kernel
theorem dX4_putIntoArray_146 : decode cX4_putIntoArray 146 = .ok (.return_, 1) := by decide +kernel
theorem dX4_functionItself_0 : decode cX4_functionItself 0 = .ok (.aload_n 0, 1) := by decide +kernel
theorem dX4_functionItself_1 : decode cX4_functionItself 1 = .ok (.getfield 71, 3) := by decide +kernel
theorem dX4_functionItself_4 : decode cX4_functionItself 4 = .ok (.iload_n 1, 1) := by decide +kernel
theorem dX4_functionItself_5 : decode cX4_functionItself 5 = .ok (.iconst 3, 1) := by decide +kernel
theorem dX4_functionItself_6 : decode cX4_functionItself 6 = .ok (.iand, 1) := by decide +kernel
theorem dX4_functionItself_7 : decode cX4_functionItself 7 = .ok (.aaload, 1) := by decide +kernel
theorem dX4_functionItself_8 : decode cX4_functionItself 8 = .ok (.aload_n 0, 1) := by decide +kernel
theorem dX4_functionItself_9 : decode cX4_functionItself 9 = .ok (.getfield 83, 3) := by decide +kernel
theorem dX4_functionItself_12 : decode cX4_functionItself 12 = .ok (.invokevirtual 175, 3) := by decide +kernel
theorem dX4_functionItself_15 : decode cX4_functionItself 15 = .ok (.iload_n 2, 1) := by decide +kernel
theorem dX4_functionItself_16 : decode cX4_functionItself 16 = .ok (.invokevirtual 101, 3) := by decide +kernel
theorem dX4_functionItself_19 : decode cX4_functionItself 19 = .ok (.invokevirtual 458, 3) := by decide +kernel
theorem dX4_functionItself_22 : decode cX4_functionItself 22 = .ok (.istore_n 3, 1) := by decide +kernel
theorem dX4_functionItself_23 : decode cX4_functionItself 23 = .ok (.iload_n 3, 1) := by decide +kernel
theorem dX4_functionItself_24 : decode cX4_functionItself 24 = .ok (.ifCond .ge 12, 3) := by decide +kernel
theorem dX4_functionItself_27 : decode cX4_functionItself 27 = .ok (.aload_n 0, 1) := by decide +kernel
theorem dX4_functionItself_28 : decode cX4_functionItself 28 = .ok (.iconst 3, 1) := by decide +kernel
theorem dX4_functionItself_29 : decode cX4_functionItself 29 = .ok (.iconst 0, 1) := by decide +kernel
theorem dX4_functionItself_30 : decode cX4_functionItself 30 = .ok (.invokevirtual 287, 3) := by decide +kernel
theorem dX4_functionItself_33 : decode cX4_functionItself 33 = .ok (.goto 21, 3) := by decide +kernel
theorem dX4_functionItself_36 : decode cX4_functionItself 36 = .ok (.aload_n 0, 1) := by decide +kernel
theorem dX4_functionItself_37 : decode cX4_functionItself 37 = .ok (.getfield 14, 3) := by decide +kernel
theorem dX4_functionItself_40 : decode cX4_functionItself 40 = .ok (.iconst 3, 1) := by decide +kernel
theorem dX4_functionItself_41 : decode cX4_functionItself 41 = .ok (.ldc2_w 461, 3) := by decide +kernel
theorem dX4_functionItself_44 : decode cX4_functionItself 44 = .ok (.iload_n 1, 1) := by decide +kernel
theorem dX4_functionItself_45 : decode cX4_functionItself 45 = .ok (.i2l, 1) := by decide +kernel
theorem dX4_functionItself_46 : decode cX4_functionItself 46 = .ok (.lmul, 1) := by decide +kernel
theorem dX4_functionItself_47 : decode cX4_functionItself 47 = .ok (.iload_n 3, 1) := by decide +kernel
theorem dX4_functionItself_48 : decode cX4_functionItself 48 = .ok (.i2l, 1) := by decide +kernel
theorem dX4_functionItself_49 : decode cX4_functionItself 49 = .ok (.ladd, 1) := by decide +kernel
theorem dX4_functionItself_50 : decode cX4_functionItself 50 = .ok (.dconst 0, 1) := by decide +kernel
theorem dX4_functionItself_51 : decode cX4_functionItself 51 = .ok (.invokevirtual 161, 3) := by decide +kernel
theorem dX4_functionItself_54 : decode cX4_functionItself 54 = .ok (.return_, 1) := by decide +kernel
set_option maxHeartbeats 4000000 in
set_option maxRecDepth 100000 in
theorem c_X4_newArray (ω : Om) (l : Launch) (μ : M3) (S : Int) (hI : IC μ) (hS : S = μ.1 33 3) (hSb : S < 240099) (hst : 0 ≤ μ.1 70 2 ∧ μ.1 70 2 ≤ 5000 ∧ 0 ≤ μ.1 70 8 ∧ μ.1 70 8 ≤ 80000 ∧ μ.1 45 1 ≤ μ.1 70 2) (h0s : μ.1 32 13 = 0) : CtV ω l yX4_newArray cX4_newArray 3 6 194 [.ref (oP ω 32)] μ (fun (μ' : M3) => (Fr [70, 32, 33, 34, 35, 36, 45, 46, 47, 48, 49, 50, 37, 38, 39, 40] μ μ') ∧ (IC μ') ∧ ((μ'.1 33 3 ≤ max S 1 ∧ μ'.1 32 13 = 0) ∨ (μ'.1 33 3 ≤ S + 1 ∧ (μ'.1 32 13 = 1 ∨ μ'.1 32 13 = 3 ∨ μ'.1 32 13 = 4))) ∧ (μ.1 70 2 ≤ μ'.1 70 2 ∧ μ'.1 70 2 ≤ 5000 ∧ 0 ≤ μ'.1 70 8 ∧ μ'.1 70 8 ≤ 80000 ∧ μ'.1 45 1 ≤ μ'.1 70 2) ∧ (μ'.1 70 1 = μ.1 70 1) ∧ (μ'.1 70 3 = μ.1 70 3) ∧ (μ'.1 70 4 = μ.1 70 4) ∧ (μ'.1 70 5 = μ.1 70 5) ∧ (μ'.1 70 6 = μ.1 70 6) ∧ (μ'.1 70 7 = μ.1 70 7) ∧ (μ'.1 32 10 = μ.1 32 10) ∧ (μ'.1 32 11 = μ.1 32 11) ∧ (μ'.1 32 12 = μ.1 32 12) ∧ (μ'.1 32 15 = μ.1 32 15) ∧ (μ'.1 32 16 = μ.1 32 16) ∧ (μ'.1 45 4 = μ.1 45 4)) := by
  refine CtV.go (by decide) (Nat.le_of_ble_eq_true rfl) (fun ρ p e s m below meth c R ls G hR hret hlk hl => ?_)
  have hx := G.1.1
  have hb := G.1.2.1
  have hl : lv_has ls 3 [(0, .ref (oP ω 32))] := hl
  generalize s.drawn = d0 at G ⊢
  have hk_1 := hI.row (r := 33) (by unfold isRow; decide)
  unfold rk at hk_1
  simp only [Int.reduceAdd] at hk_1
  have hbr_33 : BR 33 = 240100 := rfl
  have hk_2 := hI.row (r := 37) (by unfold isRow; decide)
  unfold rk at hk_2
  simp only [Int.reduceAdd] at hk_2
  have hbr_37 : BR 37 = 20410 := rfl
  refine lv_aload_n hx hb dX4_newArray_0 rfl (lv_at hl 0 rfl) ?_
  have hn_3 : 0 ≤ μ.1 45 1 ∧ 9 * μ.1 45 1 ≤ μ.2.1 46 := hI.nm.2.2.2.2.2.2.1
  refine xc_iV G (b := 32) (rest := []) (As := []) (c_X4_step ω l μ  hI (by omega)) (wm 6 2 rfl rfl) (wm 6 4 rfl rfl) (wm 0 75 rfl rfl) rfl rfl (by decide) rfl (wm 1 14 rfl rfl) (wm 6 5 rfl rfl) (by decide) hR (by decide) (n := 0) rfl rfl (Nat.le_of_ble_eq_true rfl) hl.1 dX4_newArray_1 (fun r_5 μ4 ρ d0 H locs hr_r_5 hp G => ?_)
  have hr_r_5 : -2147483648 ≤ r_5 ∧ r_5 ≤ 2147483647 := hr_r_5
  obtain ⟨F_6, hI_7, hp_8, hs_9, hs_10, hs_11, hs_12, hs_13, hs_14, hs_15, hs_16, hs_17, hs_18, hs_19, hs_20, hs_21⟩ := hp
  refine xb_if_ne (tgt := 8) hx hb (by unfold ir; omega) dX4_newArray_4 (by decide) (fun c_4 => ?_) (fun c_4 => ?_)
  · refine lv_aload_n hx hb dX4_newArray_8 rfl (lv_at hl 0 rfl) ?_
    refine xa_getr G fd_X4 (a := 32) (x := 33) 3 rfl (by decide) rfl (wm 2 147 rfl rfl) ⟨rfl, rfl, rfl⟩ dX4_newArray_9 rfl (G.sk 36 rfl) (by decide) rfl ?_
    refine xc_iV G (b := 33) (rest := []) (As := []) (c_X9_kindOfTop ω l μ4 33 (by unfold isRow; decide) hI_7) (wm 6 83 rfl rfl) (wm 5 152 rfl rfl) (wm 5 153 rfl rfl) rfl rfl (by decide) rfl (wm 1 10 rfl rfl) (wm 5 154 rfl rfl) (by decide) hR (by decide) (n := 0) rfl rfl (Nat.le_of_ble_eq_true rfl) hl.1 dX4_newArray_12 (fun r_23 μ22 ρ d0 H locs hr_r_23 hp G => ?_)
    have hr_r_23 : -2147483648 ≤ r_23 ∧ r_23 ≤ 2147483647 := hr_r_23
    have hsm_24 := hp
    have hsm_24 := Eq.symm hsm_24
    subst hsm_24
    refine lv_iconst (v := iv 1) hx hb dX4_newArray_15 rfl ?_
    refine xb_icmp_eq (tgt := 26) hx hb (by unfold ir; omega) (by unfold ir; omega) dX4_newArray_16 (by decide) (fun c_16 => ?_) (fun c_16 => ?_)
    · refine lv_aload_n hx hb dX4_newArray_26 rfl (lv_at hl 0 rfl) ?_
      refine lv_aload_n hx hb dX4_newArray_27 rfl (lv_at hl 0 rfl) ?_
      have e_25 : μ4.1 33 3 = S := ((F_6.1 33 (by decide) 3).trans hS.symm)
      refine xc_iV G (b := 32) (rest := [.ref (oP ω 32)]) (As := []) (c_X4_top ω l μ4 S hI_7 (by omega)) (wm 6 73 rfl rfl) (wm 6 75 rfl rfl) (wm 0 80 rfl rfl) rfl rfl (by decide) rfl (wm 1 14 rfl rfl) (wm 6 76 rfl rfl) (by decide) hR (by decide) (n := 0) rfl rfl (Nat.le_of_ble_eq_true rfl) hl.1 dX4_newArray_28 (fun r_27 μ26 ρ d0 H locs hr_r_27 hp G => ?_)
      have hr_r_27 : -2147483648 ≤ r_27 ∧ r_27 ≤ 2147483647 := hr_r_27
      obtain ⟨hsm_28, hp_29⟩ := hp
      have hsm_28 := Eq.symm hsm_28
      subst hsm_28
      refine xc_iV G (b := 32) (rest := []) (As := [.int (iv r_27)]) (c_X4_smallWhole ω l μ4 r_27 (by unfold ir; omega) hI_7) (wm 6 200 rfl rfl) (wm 6 202 rfl rfl) (wm 0 96 rfl rfl) rfl rfl (by decide) rfl (wm 1 14 rfl rfl) (wm 6 203 rfl rfl) (by decide) hR (by decide) (n := 1) rfl rfl (Nat.le_of_ble_eq_true rfl) hl.1 dX4_newArray_31 (fun r_31 μ30 ρ d0 H locs hr_r_31 hp G => ?_)
      have hr_r_31 : -2147483648 ≤ r_31 ∧ r_31 ≤ 2147483647 := hr_r_31
      obtain ⟨hsm_32, hp_33⟩ := hp
      have hsm_32 := Eq.symm hsm_32
      subst hsm_32
      refine lv_istore_n (lv' := [(1, .int (iv r_31)), (0, .ref (oP ω 32))]) hx hb dX4_newArray_34 rfl hl (by decide) rfl (fun ls hl => ?_)
      refine lv_aload_n hx hb dX4_newArray_35 rfl (lv_at hl 1 rfl) ?_
      refine xa_getr G fd_X4 (a := 32) (x := 37) 4 rfl (by decide) rfl (wm 2 148 rfl rfl) ⟨rfl, rfl, rfl⟩ dX4_newArray_36 rfl (G.sk 37 rfl) (by decide) rfl ?_
      have e_34 : μ4.1 37 3 = μ.1 37 3 := (F_6.1 37 (by decide) 3)
      refine xc_iV G (b := 37) (rest := []) (As := []) (c_X9_count ω l μ4 37 (by unfold isRow; decide) hI_7) (wm 5 79 rfl rfl) (wm 4 81 rfl rfl) (wm 4 82 rfl rfl) rfl rfl (by decide) rfl (wm 1 10 rfl rfl) (wm 4 83 rfl rfl) (by decide) hR (by decide) (n := 0) rfl rfl (Nat.le_of_ble_eq_true rfl) hl.1 dX4_newArray_39 (fun r_36 μ35 ρ d0 H locs hr_r_36 hp G => ?_)
      have hr_r_36 : -2147483648 ≤ r_36 ∧ r_36 ≤ 2147483647 := hr_r_36
      obtain ⟨hsm_37, hp_38⟩ := hp
      have hsm_37 := Eq.symm hsm_37
      subst hsm_37
      refine lv_istore_n (lv' := [(2, .int (iv r_36)), (1, .int (iv r_31)), (0, .ref (oP ω 32))]) hx hb dX4_newArray_42 rfl hl (by decide) rfl (fun ls hl => ?_)
      refine lv_iload_n hx hb dX4_newArray_43 rfl (lv_at hl 1 rfl) ?_
      refine xb_if_lt (tgt := 58) hx hb (by unfold ir; omega) dX4_newArray_44 (by decide) (fun c_44 => ?_) (fun c_44 => ?_)
      · refine lv_aload_n hx hb dX4_newArray_58 rfl (lv_at hl 2 rfl) ?_
        refine lv_iconst (v := iv 5) hx hb dX4_newArray_59 rfl ?_
        refine lv_iconst (v := iv 1) hx hb dX4_newArray_60 rfl ?_
        have e_39 : μ4.1 33 3 = S := ((F_6.1 33 (by decide) 3).trans hS.symm)
        have e_40 : μ4.1 45 1 = μ.1 45 1 := (F_6.1 45 (by decide) 1)
        have e_41 : ofF μ4 53 = ofF μ 53 := (ofF_fr F_6 (by decide) (by decide))
        have e_42 : μ4.1 70 1 = μ.1 70 1 := hs_9
        have e_43 : μ4.1 70 3 = μ.1 70 3 := hs_10
        have e_44 : μ4.1 70 4 = μ.1 70 4 := hs_11
        have e_45 : μ4.1 70 5 = μ.1 70 5 := hs_12
        have e_46 : μ4.1 70 6 = μ.1 70 6 := hs_13
        have e_47 : μ4.1 70 7 = μ.1 70 7 := hs_14
        have e_48 : μ4.1 32 10 = μ.1 32 10 := hs_16
        have e_49 : μ4.1 32 11 = μ.1 32 11 := hs_17
        have e_50 : μ4.1 32 12 = μ.1 32 12 := hs_18
        have e_51 : μ4.1 32 15 = μ.1 32 15 := hs_20
        have e_52 : μ4.1 32 16 = μ.1 32 16 := hs_21
        have hn_53 : 0 ≤ μ.1 45 4 ∧ 2 * μ.1 45 4 ≤ μ.2.1 51 := hI.nm.2.2.2.2.2.2.2.1
        have e_54 : μ4.1 45 4 = μ.1 45 4 := (F_6.1 45 (by decide) 4)
        refine xc_vV G (b := 32) (rest := []) (As := [.int (iv 5), .int (iv 1)]) (c_X4_fails ω l μ4 5 1 S (by unfold ir; omega) (by unfold ir; omega) hI_7 (by omega) (by omega) (by omega) (by omega)) (wm 6 93 rfl rfl) (wm 6 95 rfl rfl) (wm 0 82 rfl rfl) rfl rfl (by decide) rfl (wm 1 14 rfl rfl) (wm 6 96 rfl rfl) (by decide) hR (by decide) (n := 2) rfl rfl (Nat.le_of_ble_eq_true rfl) hl.1 dX4_newArray_61 (fun μ55 ρ d0 H locs hp G => ?_)
        obtain ⟨F_56, hI_57, hp_58, hp_59, hs_60, hs_61, hs_62, hs_63, hs_64, hs_65, hs_66, hs_67, hs_68, hs_69, hs_70, hs_71⟩ := hp
        have hk_72 := hI_57.row (r := 33) (by unfold isRow; decide)
        unfold rk at hk_72
        simp only [Int.reduceAdd] at hk_72
        have hn_73 : 0 ≤ μ55.1 45 1 ∧ 9 * μ55.1 45 1 ≤ μ55.2.1 46 := hI_57.nm.2.2.2.2.2.2.1
        have e_74 : μ55.1 70 1 = μ.1 70 1 := (hs_60.trans hs_9)
        have e_75 : μ55.1 70 3 = μ.1 70 3 := (hs_61.trans hs_10)
        have e_76 : μ55.1 70 4 = μ.1 70 4 := (hs_62.trans hs_11)
        have e_77 : μ55.1 70 5 = μ.1 70 5 := (hs_63.trans hs_12)
        have e_78 : μ55.1 70 6 = μ.1 70 6 := (hs_64.trans hs_13)
        have e_79 : μ55.1 70 7 = μ.1 70 7 := (hs_65.trans hs_14)
        have e_80 : μ55.1 32 10 = μ.1 32 10 := (hs_66.trans hs_16)
        have e_81 : μ55.1 32 11 = μ.1 32 11 := (hs_67.trans hs_17)
        have e_82 : μ55.1 32 12 = μ.1 32 12 := (hs_68.trans hs_18)
        have e_83 : μ55.1 32 15 = μ.1 32 15 := (hs_69.trans hs_20)
        have e_84 : μ55.1 32 16 = μ.1 32 16 := (hs_70.trans hs_21)
        have e_85 : μ55.1 45 4 = μ.1 45 4 := (hs_71.trans (F_6.1 45 (by decide) 4))
        exact xr_v G hret hlk dX4_newArray_64 ⟨(Fr.tr (Fr.tr Fr.rf F_6 (by decide)) F_56 (by decide)), hI_57, (by omega), (by omega), (by omega), (by omega), (by omega), (by omega), (by omega), (by omega), (by omega), (by omega), (by omega), (by omega), (by omega), (by omega)⟩
      · refine lv_iload_n hx hb dX4_newArray_47 rfl (lv_at hl 0 rfl) ?_
        refine lv_iload_n hx hb dX4_newArray_48 rfl (lv_at hl 1 rfl) ?_
        refine xb_iadd hx hb dX4_newArray_49 ?_
        refine lv_iconst (v := iv 1) hx hb dX4_newArray_50 rfl ?_
        refine xb_iadd hx hb dX4_newArray_51 ?_
        refine lv_sipush (v := iv 20000) hx hb dX4_newArray_52 rfl ?_
        refine xb_icmp_le (tgt := 65) hx hb (by unfold ir; omega) (by unfold ir; omega) dX4_newArray_55 (by decide) (fun c_55 => ?_) (fun c_55 => ?_)
        · refine lv_aload_n hx hb dX4_newArray_65 rfl (lv_at hl 2 rfl) ?_
          refine xa_getr G fd_X4 (a := 32) (x := 37) 4 rfl (by decide) rfl (wm 2 148 rfl rfl) ⟨rfl, rfl, rfl⟩ dX4_newArray_66 rfl (G.sk 37 rfl) (by decide) rfl ?_
          refine lv_iconst (v := iv 0) hx hb dX4_newArray_69 rfl ?_
          refine lv_iload_n hx hb dX4_newArray_70 rfl (lv_at hl 1 rfl) ?_
          refine xb_i2l hx hb (by unfold ir; omega) dX4_newArray_71 ?_
          refine lv_ldc2 (s := s.setDrawn d0) hx hb G.1.2.2.2.1 (dr_words G.1.2.2.2.2 d0 _ (wm 6 105 rfl rfl)) dX4_newArray_72 ?_
          refine xb_litl (x := 4) (by decide) ?_
          refine xb_lmul hx hb dX4_newArray_75 ?_
          refine xb_topl (fun z_86 hr_z_86 he_z_86 => ?_)
          refine lv_aload_n hx hb dX4_newArray_76 rfl (lv_at hl 2 rfl) ?_
          refine xa_getr G fd_X4 (a := 32) (x := 52) 7 rfl (by decide) rfl (wm 2 151 rfl rfl) ⟨rfl, rfl, rfl⟩ dX4_newArray_77 rfl (G.sk 40 rfl) (by decide) rfl ?_
          have e_87 : ofF μ4 53 = ofF μ 53 := (ofF_fr F_6 (by decide) (by decide))
          refine xc_iV G (b := 52) (rest := [.long (jv z_86), .int (iv 0), .ref (oP ω 37)]) (As := []) (c_X2_tongue ω l μ4  hI_7) (wm 5 218 rfl rfl) (wm 5 219 rfl rfl) (wm 5 220 rfl rfl) rfl rfl (by decide) rfl (wm 1 16 rfl rfl) (wm 5 221 rfl rfl) (by decide) hR (by decide) (n := 0) rfl rfl (Nat.le_of_ble_eq_true rfl) hl.1 dX4_newArray_80 (fun r_89 μ88 ρ d0 H locs hr_r_89 hp G => ?_)
          have hr_r_89 : -2147483648 ≤ r_89 ∧ r_89 ≤ 2147483647 := hr_r_89
          obtain ⟨hsm_90, hp_91⟩ := hp
          have hsm_90 := Eq.symm hsm_90
          subst hsm_90
          refine xb_i2l hx hb (by unfold ir; omega) dX4_newArray_83 ?_
          refine xb_ladd hx hb dX4_newArray_84 ?_
          refine xb_topl (fun z_92 hr_z_92 he_z_92 => ?_)
          refine lv_dconst0 hx hb dX4_newArray_85 ?_
          refine xb_topd (fun dd_93 he_dd_93 => ?_)
          have e_94 : μ4.1 37 3 = μ.1 37 3 := (F_6.1 37 (by decide) 3)
          have e_95 : μ4.1 37 3 = μ.1 37 3 := (F_6.1 37 (by decide) 3)
          have e_96 : μ4.1 37 3 = μ.1 37 3 := (F_6.1 37 (by decide) 3)
          have e_97 : μ4.1 37 3 = μ.1 37 3 := (F_6.1 37 (by decide) 3)
          refine xc_vV G (b := 37) (rest := []) (As := [.int (iv 0), .long (jv z_92), .double (dv dd_93)]) (c_X9_push ω l μ4 37 0 z_92 dd_93 (μ.1 37 3) (by unfold isRow; decide) (by unfold ir; omega) hr_z_92 hI_7 (by omega) (by omega)) (wm 5 74 rfl rfl) (wm 4 72 rfl rfl) (wm 4 73 rfl rfl) rfl rfl (by decide) rfl (wm 1 10 rfl rfl) (wm 4 74 rfl rfl) (by decide) hR (by decide) (n := 3) rfl rfl (Nat.le_of_ble_eq_true rfl) hl.1 dX4_newArray_86 (fun μ98 ρ d0 H locs hp G => ?_)
          obtain ⟨F_99, hI_100, hs_101⟩ := hp
          refine lv_aload_n hx hb dX4_newArray_89 rfl (lv_at hl 2 rfl) ?_
          refine xa_getr G fd_X4 (a := 32) (x := 37) 4 rfl (by decide) rfl (wm 2 148 rfl rfl) ⟨rfl, rfl, rfl⟩ dX4_newArray_90 rfl (G.sk 37 rfl) (by decide) rfl ?_
          refine lv_iload_n hx hb dX4_newArray_93 rfl (lv_at hl 0 rfl) ?_
          refine lv_iconst (v := iv 1) hx hb dX4_newArray_94 rfl ?_
          refine xb_iadd hx hb dX4_newArray_95 ?_
          refine lv_iload_n hx hb dX4_newArray_96 rfl (lv_at hl 1 rfl) ?_
          refine xb_iadd hx hb dX4_newArray_97 ?_
          refine xc_vV G (b := 37) (rest := []) (As := [.int (iv ((r_36 + 1) + r_31))]) (c_X9_resize ω l μ98 37 ((r_36 + 1) + r_31) (by unfold isRow; decide) (by unfold ir; omega) hI_100 (by omega)) (wm 5 55 rfl rfl) (wm 3 15 rfl rfl) (wm 3 16 rfl rfl) rfl rfl (by decide) rfl (wm 1 10 rfl rfl) (wm 3 17 rfl rfl) (by decide) hR (by decide) (n := 1) rfl rfl (Nat.le_of_ble_eq_true rfl) hl.1 dX4_newArray_98 (fun μ102 ρ d0 H locs hp G => ?_)
          obtain ⟨F_103, hI_104, hs_105⟩ := hp
          refine lv_aload_n hx hb dX4_newArray_101 rfl (lv_at hl 2 rfl) ?_
          refine xa_getr G fd_X4 (a := 32) (x := 33) 3 rfl (by decide) rfl (wm 2 147 rfl rfl) ⟨rfl, rfl, rfl⟩ dX4_newArray_102 rfl (G.sk 36 rfl) (by decide) rfl ?_
          refine lv_aload_n hx hb dX4_newArray_105 rfl (lv_at hl 2 rfl) ?_
          have e_106 : μ102.1 33 3 = S := ((F_103.1 33 (by decide) 3).trans ((F_99.1 33 (by decide) 3).trans ((F_6.1 33 (by decide) 3).trans hS.symm)))
          refine xc_iV G (b := 32) (rest := [.ref (oP ω 33)]) (As := []) (c_X4_top ω l μ102 S hI_104 (by omega)) (wm 6 73 rfl rfl) (wm 6 75 rfl rfl) (wm 0 80 rfl rfl) rfl rfl (by decide) rfl (wm 1 14 rfl rfl) (wm 6 76 rfl rfl) (by decide) hR (by decide) (n := 0) rfl rfl (Nat.le_of_ble_eq_true rfl) hl.1 dX4_newArray_106 (fun r_108 μ107 ρ d0 H locs hr_r_108 hp G => ?_)
          have hr_r_108 : -2147483648 ≤ r_108 ∧ r_108 ≤ 2147483647 := hr_r_108
          obtain ⟨hsm_109, hp_110⟩ := hp
          have hsm_109 := Eq.symm hsm_109
          subst hsm_109
          refine lv_iconst (v := iv 2) hx hb dX4_newArray_109 rfl ?_
          refine lv_iload_n hx hb dX4_newArray_110 rfl (lv_at hl 0 rfl) ?_
          refine xb_i2l hx hb (by unfold ir; omega) dX4_newArray_111 ?_
          refine lv_dconst0 hx hb dX4_newArray_112 ?_
          refine xb_topd (fun dd_111 he_dd_111 => ?_)
          refine xc_vV G (b := 33) (rest := []) (As := [.int (iv r_108), .int (iv 2), .long (jv r_36), .double (dv dd_111)]) (c_X9_set ω l μ102 33 r_108 2 r_36 dd_111 (by unfold isRow; decide) (by unfold ir; omega) (by unfold ir; omega) (by unfold jr; omega) hI_104) (wm 6 60 rfl rfl) (wm 4 77 rfl rfl) (wm 4 78 rfl rfl) rfl rfl (by decide) rfl (wm 1 10 rfl rfl) (wm 4 79 rfl rfl) (by decide) hR (by decide) (n := 4) rfl rfl (Nat.le_of_ble_eq_true rfl) hl.1 dX4_newArray_113 (fun μ112 ρ d0 H locs hp G => ?_)
          obtain ⟨F_113, hI_114, hp_115⟩ := hp
          have e_116 : μ112.1 33 3 = S := ((F_113.1 33 (by decide) 3).trans ((F_103.1 33 (by decide) 3).trans ((F_99.1 33 (by decide) 3).trans ((F_6.1 33 (by decide) 3).trans hS.symm))))
          have e_117 : μ112.1 32 13 = μ4.1 32 13 := ((F_113.1 32 (by decide) 13).trans ((F_103.1 32 (by decide) 13).trans (F_99.1 32 (by decide) 13)))
          have e_118 : μ112.1 33 3 = S := ((F_113.1 33 (by decide) 3).trans ((F_103.1 33 (by decide) 3).trans ((F_99.1 33 (by decide) 3).trans ((F_6.1 33 (by decide) 3).trans hS.symm))))
          have e_119 : μ112.1 32 13 = μ4.1 32 13 := ((F_113.1 32 (by decide) 13).trans ((F_103.1 32 (by decide) 13).trans (F_99.1 32 (by decide) 13)))
          have e_120 : μ112.1 32 13 = μ4.1 32 13 := ((F_113.1 32 (by decide) 13).trans ((F_103.1 32 (by decide) 13).trans (F_99.1 32 (by decide) 13)))
          have e_121 : μ112.1 32 13 = μ4.1 32 13 := ((F_113.1 32 (by decide) 13).trans ((F_103.1 32 (by decide) 13).trans (F_99.1 32 (by decide) 13)))
          have e_122 : μ112.1 70 2 = μ4.1 70 2 := ((F_113.1 70 (by decide) 2).trans ((F_103.1 70 (by decide) 2).trans (F_99.1 70 (by decide) 2)))
          have e_123 : μ112.1 70 2 = μ4.1 70 2 := ((F_113.1 70 (by decide) 2).trans ((F_103.1 70 (by decide) 2).trans (F_99.1 70 (by decide) 2)))
          have e_124 : μ112.1 70 8 = μ4.1 70 8 := ((F_113.1 70 (by decide) 8).trans ((F_103.1 70 (by decide) 8).trans (F_99.1 70 (by decide) 8)))
          have e_125 : μ112.1 70 8 = μ4.1 70 8 := ((F_113.1 70 (by decide) 8).trans ((F_103.1 70 (by decide) 8).trans (F_99.1 70 (by decide) 8)))
          have e_126 : μ112.1 45 1 = μ.1 45 1 := ((F_113.1 45 (by decide) 1).trans ((F_103.1 45 (by decide) 1).trans ((F_99.1 45 (by decide) 1).trans (F_6.1 45 (by decide) 1))))
          have e_127 : μ112.1 70 2 = μ4.1 70 2 := ((F_113.1 70 (by decide) 2).trans ((F_103.1 70 (by decide) 2).trans (F_99.1 70 (by decide) 2)))
          have e_128 : μ112.1 70 1 = μ.1 70 1 := ((F_113.1 70 (by decide) 1).trans ((F_103.1 70 (by decide) 1).trans ((F_99.1 70 (by decide) 1).trans hs_9)))
          have e_129 : μ112.1 70 3 = μ.1 70 3 := ((F_113.1 70 (by decide) 3).trans ((F_103.1 70 (by decide) 3).trans ((F_99.1 70 (by decide) 3).trans hs_10)))
          have e_130 : μ112.1 70 4 = μ.1 70 4 := ((F_113.1 70 (by decide) 4).trans ((F_103.1 70 (by decide) 4).trans ((F_99.1 70 (by decide) 4).trans hs_11)))
          have e_131 : μ112.1 70 5 = μ.1 70 5 := ((F_113.1 70 (by decide) 5).trans ((F_103.1 70 (by decide) 5).trans ((F_99.1 70 (by decide) 5).trans hs_12)))
          have e_132 : μ112.1 70 6 = μ.1 70 6 := ((F_113.1 70 (by decide) 6).trans ((F_103.1 70 (by decide) 6).trans ((F_99.1 70 (by decide) 6).trans hs_13)))
          have e_133 : μ112.1 70 7 = μ.1 70 7 := ((F_113.1 70 (by decide) 7).trans ((F_103.1 70 (by decide) 7).trans ((F_99.1 70 (by decide) 7).trans hs_14)))
          have e_134 : μ112.1 32 10 = μ.1 32 10 := ((F_113.1 32 (by decide) 10).trans ((F_103.1 32 (by decide) 10).trans ((F_99.1 32 (by decide) 10).trans hs_16)))
          have e_135 : μ112.1 32 11 = μ.1 32 11 := ((F_113.1 32 (by decide) 11).trans ((F_103.1 32 (by decide) 11).trans ((F_99.1 32 (by decide) 11).trans hs_17)))
          have e_136 : μ112.1 32 12 = μ.1 32 12 := ((F_113.1 32 (by decide) 12).trans ((F_103.1 32 (by decide) 12).trans ((F_99.1 32 (by decide) 12).trans hs_18)))
          have e_137 : μ112.1 32 15 = μ.1 32 15 := ((F_113.1 32 (by decide) 15).trans ((F_103.1 32 (by decide) 15).trans ((F_99.1 32 (by decide) 15).trans hs_20)))
          have e_138 : μ112.1 32 16 = μ.1 32 16 := ((F_113.1 32 (by decide) 16).trans ((F_103.1 32 (by decide) 16).trans ((F_99.1 32 (by decide) 16).trans hs_21)))
          have e_139 : μ112.1 45 4 = μ.1 45 4 := ((F_113.1 45 (by decide) 4).trans ((F_103.1 45 (by decide) 4).trans ((F_99.1 45 (by decide) 4).trans (F_6.1 45 (by decide) 4))))
          exact xr_v G hret hlk dX4_newArray_116 ⟨(Fr.tr (Fr.tr (Fr.tr (Fr.tr Fr.rf F_6 (by decide)) F_99 (by decide)) F_103 (by decide)) F_113 (by decide)), hI_114, (by omega), (by omega), (by omega), (by omega), (by omega), (by omega), (by omega), (by omega), (by omega), (by omega), (by omega), (by omega), (by omega), (by omega)⟩
        · refine lv_aload_n hx hb dX4_newArray_58 rfl (lv_at hl 2 rfl) ?_
          refine lv_iconst (v := iv 5) hx hb dX4_newArray_59 rfl ?_
          refine lv_iconst (v := iv 1) hx hb dX4_newArray_60 rfl ?_
          have e_140 : μ4.1 33 3 = S := ((F_6.1 33 (by decide) 3).trans hS.symm)
          have e_141 : μ4.1 45 1 = μ.1 45 1 := (F_6.1 45 (by decide) 1)
          have e_142 : ofF μ4 53 = ofF μ 53 := (ofF_fr F_6 (by decide) (by decide))
          have e_143 : μ4.1 70 1 = μ.1 70 1 := hs_9
          have e_144 : μ4.1 70 3 = μ.1 70 3 := hs_10
          have e_145 : μ4.1 70 4 = μ.1 70 4 := hs_11
          have e_146 : μ4.1 70 5 = μ.1 70 5 := hs_12
          have e_147 : μ4.1 70 6 = μ.1 70 6 := hs_13
          have e_148 : μ4.1 70 7 = μ.1 70 7 := hs_14
          have e_149 : μ4.1 32 10 = μ.1 32 10 := hs_16
          have e_150 : μ4.1 32 11 = μ.1 32 11 := hs_17
          have e_151 : μ4.1 32 12 = μ.1 32 12 := hs_18
          have e_152 : μ4.1 32 15 = μ.1 32 15 := hs_20
          have e_153 : μ4.1 32 16 = μ.1 32 16 := hs_21
          have hn_154 : 0 ≤ μ.1 45 4 ∧ 2 * μ.1 45 4 ≤ μ.2.1 51 := hI.nm.2.2.2.2.2.2.2.1
          have e_155 : μ4.1 45 4 = μ.1 45 4 := (F_6.1 45 (by decide) 4)
          refine xc_vV G (b := 32) (rest := []) (As := [.int (iv 5), .int (iv 1)]) (c_X4_fails ω l μ4 5 1 S (by unfold ir; omega) (by unfold ir; omega) hI_7 (by omega) (by omega) (by omega) (by omega)) (wm 6 93 rfl rfl) (wm 6 95 rfl rfl) (wm 0 82 rfl rfl) rfl rfl (by decide) rfl (wm 1 14 rfl rfl) (wm 6 96 rfl rfl) (by decide) hR (by decide) (n := 2) rfl rfl (Nat.le_of_ble_eq_true rfl) hl.1 dX4_newArray_61 (fun μ156 ρ d0 H locs hp G => ?_)
          obtain ⟨F_157, hI_158, hp_159, hp_160, hs_161, hs_162, hs_163, hs_164, hs_165, hs_166, hs_167, hs_168, hs_169, hs_170, hs_171, hs_172⟩ := hp
          have hk_173 := hI_158.row (r := 33) (by unfold isRow; decide)
          unfold rk at hk_173
          simp only [Int.reduceAdd] at hk_173
          have hn_174 : 0 ≤ μ156.1 45 1 ∧ 9 * μ156.1 45 1 ≤ μ156.2.1 46 := hI_158.nm.2.2.2.2.2.2.1
          have e_175 : μ156.1 70 1 = μ.1 70 1 := (hs_161.trans hs_9)
          have e_176 : μ156.1 70 3 = μ.1 70 3 := (hs_162.trans hs_10)
          have e_177 : μ156.1 70 4 = μ.1 70 4 := (hs_163.trans hs_11)
          have e_178 : μ156.1 70 5 = μ.1 70 5 := (hs_164.trans hs_12)
          have e_179 : μ156.1 70 6 = μ.1 70 6 := (hs_165.trans hs_13)
          have e_180 : μ156.1 70 7 = μ.1 70 7 := (hs_166.trans hs_14)
          have e_181 : μ156.1 32 10 = μ.1 32 10 := (hs_167.trans hs_16)
          have e_182 : μ156.1 32 11 = μ.1 32 11 := (hs_168.trans hs_17)
          have e_183 : μ156.1 32 12 = μ.1 32 12 := (hs_169.trans hs_18)
          have e_184 : μ156.1 32 15 = μ.1 32 15 := (hs_170.trans hs_20)
          have e_185 : μ156.1 32 16 = μ.1 32 16 := (hs_171.trans hs_21)
          have e_186 : μ156.1 45 4 = μ.1 45 4 := (hs_172.trans (F_6.1 45 (by decide) 4))
          exact xr_v G hret hlk dX4_newArray_64 ⟨(Fr.tr (Fr.tr Fr.rf F_6 (by decide)) F_157 (by decide)), hI_158, (by omega), (by omega), (by omega), (by omega), (by omega), (by omega), (by omega), (by omega), (by omega), (by omega), (by omega), (by omega), (by omega), (by omega)⟩
    · refine lv_aload_n hx hb dX4_newArray_19 rfl (lv_at hl 0 rfl) ?_
      refine lv_iconst (v := iv 4) hx hb dX4_newArray_20 rfl ?_
      refine lv_iconst (v := iv 1) hx hb dX4_newArray_21 rfl ?_
      have e_187 : μ4.1 33 3 = S := ((F_6.1 33 (by decide) 3).trans hS.symm)
      have e_188 : μ4.1 45 1 = μ.1 45 1 := (F_6.1 45 (by decide) 1)
      have e_189 : ofF μ4 53 = ofF μ 53 := (ofF_fr F_6 (by decide) (by decide))
      have e_190 : μ4.1 70 1 = μ.1 70 1 := hs_9
      have e_191 : μ4.1 70 3 = μ.1 70 3 := hs_10
      have e_192 : μ4.1 70 4 = μ.1 70 4 := hs_11
      have e_193 : μ4.1 70 5 = μ.1 70 5 := hs_12
      have e_194 : μ4.1 70 6 = μ.1 70 6 := hs_13
      have e_195 : μ4.1 70 7 = μ.1 70 7 := hs_14
      have e_196 : μ4.1 32 10 = μ.1 32 10 := hs_16
      have e_197 : μ4.1 32 11 = μ.1 32 11 := hs_17
      have e_198 : μ4.1 32 12 = μ.1 32 12 := hs_18
      have e_199 : μ4.1 32 15 = μ.1 32 15 := hs_20
      have e_200 : μ4.1 32 16 = μ.1 32 16 := hs_21
      have hn_201 : 0 ≤ μ.1 45 4 ∧ 2 * μ.1 45 4 ≤ μ.2.1 51 := hI.nm.2.2.2.2.2.2.2.1
      have e_202 : μ4.1 45 4 = μ.1 45 4 := (F_6.1 45 (by decide) 4)
      refine xc_vV G (b := 32) (rest := []) (As := [.int (iv 4), .int (iv 1)]) (c_X4_fails ω l μ4 4 1 S (by unfold ir; omega) (by unfold ir; omega) hI_7 (by omega) (by omega) (by omega) (by omega)) (wm 6 93 rfl rfl) (wm 6 95 rfl rfl) (wm 0 82 rfl rfl) rfl rfl (by decide) rfl (wm 1 14 rfl rfl) (wm 6 96 rfl rfl) (by decide) hR (by decide) (n := 2) rfl rfl (Nat.le_of_ble_eq_true rfl) hl.1 dX4_newArray_22 (fun μ203 ρ d0 H locs hp G => ?_)
      obtain ⟨F_204, hI_205, hp_206, hp_207, hs_208, hs_209, hs_210, hs_211, hs_212, hs_213, hs_214, hs_215, hs_216, hs_217, hs_218, hs_219⟩ := hp
      have hk_220 := hI_205.row (r := 33) (by unfold isRow; decide)
      unfold rk at hk_220
      simp only [Int.reduceAdd] at hk_220
      have hn_221 : 0 ≤ μ203.1 45 1 ∧ 9 * μ203.1 45 1 ≤ μ203.2.1 46 := hI_205.nm.2.2.2.2.2.2.1
      have e_222 : μ203.1 70 1 = μ.1 70 1 := (hs_208.trans hs_9)
      have e_223 : μ203.1 70 3 = μ.1 70 3 := (hs_209.trans hs_10)
      have e_224 : μ203.1 70 4 = μ.1 70 4 := (hs_210.trans hs_11)
      have e_225 : μ203.1 70 5 = μ.1 70 5 := (hs_211.trans hs_12)
      have e_226 : μ203.1 70 6 = μ.1 70 6 := (hs_212.trans hs_13)
      have e_227 : μ203.1 70 7 = μ.1 70 7 := (hs_213.trans hs_14)
      have e_228 : μ203.1 32 10 = μ.1 32 10 := (hs_214.trans hs_16)
      have e_229 : μ203.1 32 11 = μ.1 32 11 := (hs_215.trans hs_17)
      have e_230 : μ203.1 32 12 = μ.1 32 12 := (hs_216.trans hs_18)
      have e_231 : μ203.1 32 15 = μ.1 32 15 := (hs_217.trans hs_20)
      have e_232 : μ203.1 32 16 = μ.1 32 16 := (hs_218.trans hs_21)
      have e_233 : μ203.1 45 4 = μ.1 45 4 := (hs_219.trans (F_6.1 45 (by decide) 4))
      exact xr_v G hret hlk dX4_newArray_25 ⟨(Fr.tr (Fr.tr Fr.rf F_6 (by decide)) F_204 (by decide)), hI_205, (by omega), (by omega), (by omega), (by omega), (by omega), (by omega), (by omega), (by omega), (by omega), (by omega), (by omega), (by omega), (by omega), (by omega)⟩
  · have e_234 : μ4.1 33 3 = S := ((F_6.1 33 (by decide) 3).trans hS.symm)
    have e_235 : μ4.1 33 3 = S := ((F_6.1 33 (by decide) 3).trans hS.symm)
    have e_236 : μ4.1 45 1 = μ.1 45 1 := (F_6.1 45 (by decide) 1)
    have e_237 : μ4.1 70 1 = μ.1 70 1 := hs_9
    have e_238 : μ4.1 70 3 = μ.1 70 3 := hs_10
    have e_239 : μ4.1 70 4 = μ.1 70 4 := hs_11
    have e_240 : μ4.1 70 5 = μ.1 70 5 := hs_12
    have e_241 : μ4.1 70 6 = μ.1 70 6 := hs_13
    have e_242 : μ4.1 70 7 = μ.1 70 7 := hs_14
    have e_243 : μ4.1 32 10 = μ.1 32 10 := hs_16
    have e_244 : μ4.1 32 11 = μ.1 32 11 := hs_17
    have e_245 : μ4.1 32 12 = μ.1 32 12 := hs_18
    have e_246 : μ4.1 32 15 = μ.1 32 15 := hs_20
    have e_247 : μ4.1 32 16 = μ.1 32 16 := hs_21
    have e_248 : μ4.1 45 4 = μ.1 45 4 := (F_6.1 45 (by decide) 4)
    exact xr_v G hret hlk dX4_newArray_7 ⟨(Fr.tr Fr.rf F_6 (by decide)), hI_7, (by omega), (by omega), (by omega), (by omega), (by omega), (by omega), (by omega), (by omega), (by omega), (by omega), (by omega), (by omega), (by omega), (by omega)⟩

set_option maxHeartbeats 4000000 in
set_option maxRecDepth 100000 in
theorem c_X4_lengthOfArray (ω : Om) (l : Launch) (μ : M3) (S : Int) (hI : IC μ) (hS : S = μ.1 33 3) (hSb : S < 240099) (hst : 0 ≤ μ.1 70 2 ∧ μ.1 70 2 ≤ 5000 ∧ 0 ≤ μ.1 70 8 ∧ μ.1 70 8 ≤ 80000 ∧ μ.1 45 1 ≤ μ.1 70 2) (h0s : μ.1 32 13 = 0) : CtV ω l yX4_lengthOfArray cX4_lengthOfArray 2 6 195 [.ref (oP ω 32)] μ (fun (μ' : M3) => (Fr [33, 34, 35, 36, 70, 32, 45, 46, 47, 48, 49, 50] μ μ') ∧ (IC μ') ∧ ((μ'.1 33 3 ≤ max S 1 ∧ μ'.1 32 13 = 0) ∨ (μ'.1 33 3 ≤ S + 1 ∧ (μ'.1 32 13 = 1 ∨ μ'.1 32 13 = 3 ∨ μ'.1 32 13 = 4))) ∧ (μ.1 70 2 ≤ μ'.1 70 2 ∧ μ'.1 70 2 ≤ 5000 ∧ 0 ≤ μ'.1 70 8 ∧ μ'.1 70 8 ≤ 80000 ∧ μ'.1 45 1 ≤ μ'.1 70 2) ∧ (μ'.1 70 1 = μ.1 70 1) ∧ (μ'.1 70 3 = μ.1 70 3) ∧ (μ'.1 70 4 = μ.1 70 4) ∧ (μ'.1 70 5 = μ.1 70 5) ∧ (μ'.1 70 6 = μ.1 70 6) ∧ (μ'.1 70 7 = μ.1 70 7) ∧ (μ'.1 32 10 = μ.1 32 10) ∧ (μ'.1 32 11 = μ.1 32 11) ∧ (μ'.1 32 12 = μ.1 32 12) ∧ (μ'.1 32 15 = μ.1 32 15) ∧ (μ'.1 32 16 = μ.1 32 16) ∧ (μ'.1 45 4 = μ.1 45 4)) := by
  refine CtV.go (by decide) (Nat.le_of_ble_eq_true rfl) (fun ρ p e s m below meth c R ls G hR hret hlk hl => ?_)
  have hx := G.1.1
  have hb := G.1.2.1
  have hl : lv_has ls 2 [(0, .ref (oP ω 32))] := hl
  generalize s.drawn = d0 at G ⊢
  have hk_1 := hI.row (r := 33) (by unfold isRow; decide)
  unfold rk at hk_1
  simp only [Int.reduceAdd] at hk_1
  have hbr_33 : BR 33 = 240100 := rfl
  have hk_2 := hI.row (r := 37) (by unfold isRow; decide)
  unfold rk at hk_2
  simp only [Int.reduceAdd] at hk_2
  have hbr_37 : BR 37 = 20410 := rfl
  refine lv_aload_n hx hb dX4_lengthOfArray_0 rfl (lv_at hl 0 rfl) ?_
  refine xa_getr G fd_X4 (a := 32) (x := 33) 3 rfl (by decide) rfl (wm 2 147 rfl rfl) ⟨rfl, rfl, rfl⟩ dX4_lengthOfArray_1 rfl (G.sk 36 rfl) (by decide) rfl ?_
  refine xc_iV G (b := 33) (rest := []) (As := []) (c_X9_kindOfTop ω l μ 33 (by unfold isRow; decide) hI) (wm 6 83 rfl rfl) (wm 5 152 rfl rfl) (wm 5 153 rfl rfl) rfl rfl (by decide) rfl (wm 1 10 rfl rfl) (wm 5 154 rfl rfl) (by decide) hR (by decide) (n := 0) rfl rfl (Nat.le_of_ble_eq_true rfl) hl.1 dX4_lengthOfArray_4 (fun r_4 μ3 ρ d0 H locs hr_r_4 hp G => ?_)
  have hr_r_4 : -2147483648 ≤ r_4 ∧ r_4 ≤ 2147483647 := hr_r_4
  have hsm_5 := hp
  have hsm_5 := Eq.symm hsm_5
  subst hsm_5
  refine lv_istore_n (lv' := [(1, .int (iv r_4)), (0, .ref (oP ω 32))]) hx hb dX4_lengthOfArray_7 rfl hl (by decide) rfl (fun ls hl => ?_)
  refine lv_iload_n hx hb dX4_lengthOfArray_8 rfl (lv_at hl 0 rfl) ?_
  refine lv_iconst (v := iv 2) hx hb dX4_lengthOfArray_9 rfl ?_
  refine xb_icmp_ne (tgt := 36) hx hb (by unfold ir; omega) (by unfold ir; omega) dX4_lengthOfArray_10 (by decide) (fun c_10 => ?_) (fun c_10 => ?_)
  · refine lv_aload_n hx hb dX4_lengthOfArray_36 rfl (lv_at hl 1 rfl) ?_
    refine lv_iload_n hx hb dX4_lengthOfArray_37 rfl (lv_at hl 0 rfl) ?_
    refine xb_if_ne (tgt := 45) hx hb (by unfold ir; omega) dX4_lengthOfArray_38 (by decide) (fun c_38 => ?_) (fun c_38 => ?_)
    · refine lv_iconst (v := iv 4) hx hb dX4_lengthOfArray_45 rfl ?_
      refine lv_iconst (v := iv 1) hx hb dX4_lengthOfArray_46 rfl ?_
      have e_6 : μ.1 33 3 = S := hS.symm
      have hn_7 : 0 ≤ μ.1 45 1 ∧ 9 * μ.1 45 1 ≤ μ.2.1 46 := hI.nm.2.2.2.2.2.2.1
      have hn_8 : 0 ≤ μ.1 45 4 ∧ 2 * μ.1 45 4 ≤ μ.2.1 51 := hI.nm.2.2.2.2.2.2.2.1
      refine xc_vV G (b := 32) (rest := []) (As := [.int (iv 4), .int (iv 1)]) (c_X4_fails ω l μ 4 1 S (by unfold ir; omega) (by unfold ir; omega) hI (by omega) (by omega) (by omega) (by omega)) (wm 6 93 rfl rfl) (wm 6 95 rfl rfl) (wm 0 82 rfl rfl) rfl rfl (by decide) rfl (wm 1 14 rfl rfl) (wm 6 96 rfl rfl) (by decide) hR (by decide) (n := 2) rfl rfl (Nat.le_of_ble_eq_true rfl) hl.1 dX4_lengthOfArray_47 (fun μ9 ρ d0 H locs hp G => ?_)
      obtain ⟨F_10, hI_11, hp_12, hp_13, hs_14, hs_15, hs_16, hs_17, hs_18, hs_19, hs_20, hs_21, hs_22, hs_23, hs_24, hs_25⟩ := hp
      have hk_26 := hI_11.row (r := 33) (by unfold isRow; decide)
      unfold rk at hk_26
      simp only [Int.reduceAdd] at hk_26
      have hn_27 : 0 ≤ μ9.1 45 1 ∧ 9 * μ9.1 45 1 ≤ μ9.2.1 46 := hI_11.nm.2.2.2.2.2.2.1
      have e_28 : μ9.1 70 1 = μ.1 70 1 := hs_14
      have e_29 : μ9.1 70 3 = μ.1 70 3 := hs_15
      have e_30 : μ9.1 70 4 = μ.1 70 4 := hs_16
      have e_31 : μ9.1 70 5 = μ.1 70 5 := hs_17
      have e_32 : μ9.1 70 6 = μ.1 70 6 := hs_18
      have e_33 : μ9.1 70 7 = μ.1 70 7 := hs_19
      have e_34 : μ9.1 32 10 = μ.1 32 10 := hs_20
      have e_35 : μ9.1 32 11 = μ.1 32 11 := hs_21
      have e_36 : μ9.1 32 12 = μ.1 32 12 := hs_22
      have e_37 : μ9.1 32 15 = μ.1 32 15 := hs_23
      have e_38 : μ9.1 32 16 = μ.1 32 16 := hs_24
      have e_39 : μ9.1 45 4 = μ.1 45 4 := hs_25
      exact xr_v G hret hlk dX4_lengthOfArray_50 ⟨(Fr.tr Fr.rf F_10 (by decide)), hI_11, (by omega), (by omega), (by omega), (by omega), (by omega), (by omega), (by omega), (by omega), (by omega), (by omega), (by omega), (by omega), (by omega), (by omega)⟩
    · refine lv_iconst (v := iv 3) hx hb dX4_lengthOfArray_41 rfl ?_
      refine lv_goto (tgt := 46) hx hb dX4_lengthOfArray_42 (by decide) ?_
      refine lv_iconst (v := iv 1) hx hb dX4_lengthOfArray_46 rfl ?_
      have e_40 : μ.1 33 3 = S := hS.symm
      have hn_41 : 0 ≤ μ.1 45 1 ∧ 9 * μ.1 45 1 ≤ μ.2.1 46 := hI.nm.2.2.2.2.2.2.1
      have hn_42 : 0 ≤ μ.1 45 4 ∧ 2 * μ.1 45 4 ≤ μ.2.1 51 := hI.nm.2.2.2.2.2.2.2.1
      refine xc_vV G (b := 32) (rest := []) (As := [.int (iv 3), .int (iv 1)]) (c_X4_fails ω l μ 3 1 S (by unfold ir; omega) (by unfold ir; omega) hI (by omega) (by omega) (by omega) (by omega)) (wm 6 93 rfl rfl) (wm 6 95 rfl rfl) (wm 0 82 rfl rfl) rfl rfl (by decide) rfl (wm 1 14 rfl rfl) (wm 6 96 rfl rfl) (by decide) hR (by decide) (n := 2) rfl rfl (Nat.le_of_ble_eq_true rfl) hl.1 dX4_lengthOfArray_47 (fun μ43 ρ d0 H locs hp G => ?_)
      obtain ⟨F_44, hI_45, hp_46, hp_47, hs_48, hs_49, hs_50, hs_51, hs_52, hs_53, hs_54, hs_55, hs_56, hs_57, hs_58, hs_59⟩ := hp
      have hk_60 := hI_45.row (r := 33) (by unfold isRow; decide)
      unfold rk at hk_60
      simp only [Int.reduceAdd] at hk_60
      have hn_61 : 0 ≤ μ43.1 45 1 ∧ 9 * μ43.1 45 1 ≤ μ43.2.1 46 := hI_45.nm.2.2.2.2.2.2.1
      have e_62 : μ43.1 70 1 = μ.1 70 1 := hs_48
      have e_63 : μ43.1 70 3 = μ.1 70 3 := hs_49
      have e_64 : μ43.1 70 4 = μ.1 70 4 := hs_50
      have e_65 : μ43.1 70 5 = μ.1 70 5 := hs_51
      have e_66 : μ43.1 70 6 = μ.1 70 6 := hs_52
      have e_67 : μ43.1 70 7 = μ.1 70 7 := hs_53
      have e_68 : μ43.1 32 10 = μ.1 32 10 := hs_54
      have e_69 : μ43.1 32 11 = μ.1 32 11 := hs_55
      have e_70 : μ43.1 32 12 = μ.1 32 12 := hs_56
      have e_71 : μ43.1 32 15 = μ.1 32 15 := hs_57
      have e_72 : μ43.1 32 16 = μ.1 32 16 := hs_58
      have e_73 : μ43.1 45 4 = μ.1 45 4 := hs_59
      exact xr_v G hret hlk dX4_lengthOfArray_50 ⟨(Fr.tr Fr.rf F_44 (by decide)), hI_45, (by omega), (by omega), (by omega), (by omega), (by omega), (by omega), (by omega), (by omega), (by omega), (by omega), (by omega), (by omega), (by omega), (by omega)⟩
  · refine lv_aload_n hx hb dX4_lengthOfArray_13 rfl (lv_at hl 1 rfl) ?_
    refine lv_iconst (v := iv 1) hx hb dX4_lengthOfArray_14 rfl ?_
    refine lv_aload_n hx hb dX4_lengthOfArray_15 rfl (lv_at hl 1 rfl) ?_
    refine lv_aload_n hx hb dX4_lengthOfArray_16 rfl (lv_at hl 1 rfl) ?_
    refine xa_getr G fd_X4 (a := 32) (x := 33) 3 rfl (by decide) rfl (wm 2 147 rfl rfl) ⟨rfl, rfl, rfl⟩ dX4_lengthOfArray_17 rfl (G.sk 36 rfl) (by decide) rfl ?_
    refine lv_aload_n hx hb dX4_lengthOfArray_20 rfl (lv_at hl 1 rfl) ?_
    have e_74 : μ.1 33 3 = S := hS.symm
    refine xc_iV G (b := 32) (rest := [.ref (oP ω 33), .ref (oP ω 32), .int (iv 1), .ref (oP ω 32)]) (As := []) (c_X4_top ω l μ S hI (by omega)) (wm 6 73 rfl rfl) (wm 6 75 rfl rfl) (wm 0 80 rfl rfl) rfl rfl (by decide) rfl (wm 1 14 rfl rfl) (wm 6 76 rfl rfl) (by decide) hR (by decide) (n := 0) rfl rfl (Nat.le_of_ble_eq_true rfl) hl.1 dX4_lengthOfArray_21 (fun r_76 μ75 ρ d0 H locs hr_r_76 hp G => ?_)
    have hr_r_76 : -2147483648 ≤ r_76 ∧ r_76 ≤ 2147483647 := hr_r_76
    obtain ⟨hsm_77, hp_78⟩ := hp
    have hsm_77 := Eq.symm hsm_77
    subst hsm_77
    refine xc_lV G (b := 33) (rest := [.ref (oP ω 32), .int (iv 1), .ref (oP ω 32)]) (As := [.int (iv r_76)]) (c_X9_whole ω l μ 33 r_76 (by unfold isRow; decide) (by unfold ir; omega) hI) (wm 6 84 rfl rfl) (wm 5 160 rfl rfl) (wm 5 161 rfl rfl) rfl rfl (by decide) rfl (wm 1 10 rfl rfl) (wm 5 162 rfl rfl) (by decide) hR (by decide) (n := 1) rfl rfl (Nat.le_of_ble_eq_true rfl) hl.1 dX4_lengthOfArray_24 (fun r_80 μ79 ρ d0 H locs hr_r_80 hp G => ?_)
    have hsm_81 := hp
    have hsm_81 := Eq.symm hsm_81
    subst hsm_81
    refine xc_iV G (b := 32) (rest := [.int (iv 1), .ref (oP ω 32)]) (As := [.long (jv r_80)]) (c_X4_lengthAt ω l μ r_80 hr_r_80 hI) (wm 6 101 rfl rfl) (wm 6 103 rfl rfl) (wm 0 84 rfl rfl) rfl rfl (by decide) rfl (wm 1 14 rfl rfl) (wm 6 104 rfl rfl) (by decide) hR (by decide) (n := 1) rfl rfl (Nat.le_of_ble_eq_true rfl) hl.1 dX4_lengthOfArray_27 (fun r_83 μ82 ρ d0 H locs hr_r_83 hp G => ?_)
    have hr_r_83 : -2147483648 ≤ r_83 ∧ r_83 ≤ 2147483647 := hr_r_83
    have hsm_84 := hp
    have hsm_84 := Eq.symm hsm_84
    subst hsm_84
    have e_85 : μ.1 33 3 = S := hS.symm
    refine xc_vV G (b := 32) (rest := []) (As := [.int (iv 1), .int (iv r_83)]) (c_X4_replaceParts ω l μ 1 r_83 S (by unfold ir; omega) (by unfold ir; omega) hI (by omega) (by omega) (by omega)) (wm 6 147 rfl rfl) (wm 6 149 rfl rfl) (wm 0 90 rfl rfl) rfl rfl (by decide) rfl (wm 1 14 rfl rfl) (wm 6 150 rfl rfl) (by decide) hR (by decide) (n := 2) rfl rfl (Nat.le_of_ble_eq_true rfl) hl.1 dX4_lengthOfArray_30 (fun μ86 ρ d0 H locs hp G => ?_)
    obtain ⟨F_87, hI_88, hs_89⟩ := hp
    refine lv_goto (tgt := 50) hx hb dX4_lengthOfArray_33 (by decide) ?_
    have e_90 : μ86.1 33 3 = max (S - 1) 0 + 1 := hs_89
    have e_91 : μ86.1 32 13 = μ.1 32 13 := (F_87.1 32 (by decide) 13)
    have e_92 : μ86.1 33 3 = max (S - 1) 0 + 1 := hs_89
    have e_93 : μ86.1 32 13 = μ.1 32 13 := (F_87.1 32 (by decide) 13)
    have e_94 : μ86.1 32 13 = μ.1 32 13 := (F_87.1 32 (by decide) 13)
    have e_95 : μ86.1 32 13 = μ.1 32 13 := (F_87.1 32 (by decide) 13)
    have e_96 : μ86.1 70 2 = μ.1 70 2 := (F_87.1 70 (by decide) 2)
    have e_97 : μ86.1 70 2 = μ.1 70 2 := (F_87.1 70 (by decide) 2)
    have e_98 : μ86.1 70 8 = μ.1 70 8 := (F_87.1 70 (by decide) 8)
    have e_99 : μ86.1 70 8 = μ.1 70 8 := (F_87.1 70 (by decide) 8)
    have e_100 : μ86.1 45 1 = μ.1 45 1 := (F_87.1 45 (by decide) 1)
    have e_101 : μ86.1 70 2 = μ.1 70 2 := (F_87.1 70 (by decide) 2)
    have e_102 : μ86.1 70 1 = μ.1 70 1 := (F_87.1 70 (by decide) 1)
    have e_103 : μ86.1 70 3 = μ.1 70 3 := (F_87.1 70 (by decide) 3)
    have e_104 : μ86.1 70 4 = μ.1 70 4 := (F_87.1 70 (by decide) 4)
    have e_105 : μ86.1 70 5 = μ.1 70 5 := (F_87.1 70 (by decide) 5)
    have e_106 : μ86.1 70 6 = μ.1 70 6 := (F_87.1 70 (by decide) 6)
    have e_107 : μ86.1 70 7 = μ.1 70 7 := (F_87.1 70 (by decide) 7)
    have e_108 : μ86.1 32 10 = μ.1 32 10 := (F_87.1 32 (by decide) 10)
    have e_109 : μ86.1 32 11 = μ.1 32 11 := (F_87.1 32 (by decide) 11)
    have e_110 : μ86.1 32 12 = μ.1 32 12 := (F_87.1 32 (by decide) 12)
    have e_111 : μ86.1 32 15 = μ.1 32 15 := (F_87.1 32 (by decide) 15)
    have e_112 : μ86.1 32 16 = μ.1 32 16 := (F_87.1 32 (by decide) 16)
    have e_113 : μ86.1 45 4 = μ.1 45 4 := (F_87.1 45 (by decide) 4)
    exact xr_v G hret hlk dX4_lengthOfArray_50 ⟨(Fr.tr Fr.rf F_87 (by decide)), hI_88, (by omega), (by omega), (by omega), (by omega), (by omega), (by omega), (by omega), (by omega), (by omega), (by omega), (by omega), (by omega), (by omega), (by omega)⟩

set_option maxHeartbeats 4000000 in
set_option maxRecDepth 100000 in
theorem c_X4_whatFailsAsArray (ω : Om) (l : Launch) (μ : M3) (x1 : Int) (hx1 : ir x1) (hI : IC μ) : CtI ω l yX4_whatFailsAsArray cX4_whatFailsAsArray 2 .int 1 21 [.ref (oP ω 32), .int (iv x1)] μ (fun (r : Int) (μ' : M3) => (μ' = μ) ∧ (0 ≤ r ∧ r ≤ 4)) := by
  refine CtI.go (by decide) (Nat.le_of_ble_eq_true rfl) (fun ρ p e s m below meth c R ls G hR hret hlk hl => ?_)
  have hx := G.1.1
  have hb := G.1.2.1
  have hl : lv_has ls 2 [(0, .ref (oP ω 32)), (1, .int (iv x1))] := hl
  generalize s.drawn = d0 at G ⊢
  have hr_x1 : -2147483648 ≤ x1 ∧ x1 ≤ 2147483647 := hx1
  refine lv_aload_n hx hb dX4_whatFailsAsArray_0 rfl (lv_at hl 0 rfl) ?_
  refine xa_getr G fd_X4 (a := 32) (x := 33) 3 rfl (by decide) rfl (wm 2 147 rfl rfl) ⟨rfl, rfl, rfl⟩ dX4_whatFailsAsArray_1 rfl (G.sk 36 rfl) (by decide) rfl ?_
  refine lv_iload_n hx hb dX4_whatFailsAsArray_4 rfl (lv_at hl 1 rfl) ?_
  refine xc_iV G (b := 33) (rest := []) (As := [.int (iv x1)]) (c_X9_kind ω l μ 33 x1 (by unfold isRow; decide) (by unfold ir; omega) hI) (wm 6 146 rfl rfl) (wm 5 156 rfl rfl) (wm 5 157 rfl rfl) rfl rfl (by decide) rfl (wm 1 10 rfl rfl) (wm 5 158 rfl rfl) (by decide) hR (by decide) (n := 1) rfl rfl (Nat.le_of_ble_eq_true rfl) hl.1 dX4_whatFailsAsArray_5 (fun r_2 μ1 ρ d0 H locs hr_r_2 hp G => ?_)
  have hr_r_2 : -2147483648 ≤ r_2 ∧ r_2 ≤ 2147483647 := hr_r_2
  have hsm_3 := hp
  have hsm_3 := Eq.symm hsm_3
  subst hsm_3
  refine lv_iconst (v := iv 2) hx hb dX4_whatFailsAsArray_8 rfl ?_
  refine xb_icmp_ne (tgt := 14) hx hb (by unfold ir; omega) (by unfold ir; omega) dX4_whatFailsAsArray_9 (by decide) (fun c_9 => ?_) (fun c_9 => ?_)
  · refine lv_aload_n hx hb dX4_whatFailsAsArray_14 rfl (lv_at hl 0 rfl) ?_
    refine xa_getr G fd_X4 (a := 32) (x := 33) 3 rfl (by decide) rfl (wm 2 147 rfl rfl) ⟨rfl, rfl, rfl⟩ dX4_whatFailsAsArray_15 rfl (G.sk 36 rfl) (by decide) rfl ?_
    refine lv_iload_n hx hb dX4_whatFailsAsArray_18 rfl (lv_at hl 1 rfl) ?_
    refine xc_iV G (b := 33) (rest := []) (As := [.int (iv x1)]) (c_X9_kind ω l μ 33 x1 (by unfold isRow; decide) (by unfold ir; omega) hI) (wm 6 146 rfl rfl) (wm 5 156 rfl rfl) (wm 5 157 rfl rfl) rfl rfl (by decide) rfl (wm 1 10 rfl rfl) (wm 5 158 rfl rfl) (by decide) hR (by decide) (n := 1) rfl rfl (Nat.le_of_ble_eq_true rfl) hl.1 dX4_whatFailsAsArray_19 (fun r_5 μ4 ρ d0 H locs hr_r_5 hp G => ?_)
    have hr_r_5 : -2147483648 ≤ r_5 ∧ r_5 ≤ 2147483647 := hr_r_5
    have hsm_6 := hp
    have hsm_6 := Eq.symm hsm_6
    subst hsm_6
    refine xb_if_ne (tgt := 29) hx hb (by unfold ir; omega) dX4_whatFailsAsArray_22 (by decide) (fun c_22 => ?_) (fun c_22 => ?_)
    · refine lv_iconst (v := iv 4) hx hb dX4_whatFailsAsArray_29 rfl ?_
      exact xr_i G (x := 4) hret hlk (by unfold ir; omega) rfl dX4_whatFailsAsArray_30 ⟨rfl, (by omega)⟩
    · refine lv_iconst (v := iv 3) hx hb dX4_whatFailsAsArray_25 rfl ?_
      refine lv_goto (tgt := 30) hx hb dX4_whatFailsAsArray_26 (by decide) ?_
      exact xr_i G (x := 3) hret hlk (by unfold ir; omega) rfl dX4_whatFailsAsArray_30 ⟨rfl, (by omega)⟩
  · refine lv_iconst (v := iv 0) hx hb dX4_whatFailsAsArray_12 rfl ?_
    exact xr_i G (x := 0) hret hlk (by unfold ir; omega) rfl dX4_whatFailsAsArray_13 ⟨rfl, (by omega)⟩

set_option maxHeartbeats 4000000 in
set_option maxRecDepth 100000 in
theorem c_X4_whatFailsAsIndex (ω : Om) (l : Launch) (μ : M3) (x1 : Int) (x2 : Int) (hx1 : ir x1) (hx2 : ir x2) (hI : IC μ) : CtI ω l yX4_whatFailsAsIndex cX4_whatFailsAsIndex 4 .int 3 64 [.ref (oP ω 32), .int (iv x1), .int (iv x2)] μ (fun (r : Int) (μ' : M3) => (μ' = μ) ∧ (0 ≤ r ∧ r ≤ 4)) := by
  refine CtI.go (by decide) (Nat.le_of_ble_eq_true rfl) (fun ρ p e s m below meth c R ls G hR hret hlk hl => ?_)
  have hx := G.1.1
  have hb := G.1.2.1
  have hl : lv_has ls 4 [(0, .ref (oP ω 32)), (1, .int (iv x1)), (2, .int (iv x2))] := hl
  generalize s.drawn = d0 at G ⊢
  have hr_x1 : -2147483648 ≤ x1 ∧ x1 ≤ 2147483647 := hx1
  have hr_x2 : -2147483648 ≤ x2 ∧ x2 ≤ 2147483647 := hx2
  refine lv_aload_n hx hb dX4_whatFailsAsIndex_0 rfl (lv_at hl 0 rfl) ?_
  refine xa_getr G fd_X4 (a := 32) (x := 33) 3 rfl (by decide) rfl (wm 2 147 rfl rfl) ⟨rfl, rfl, rfl⟩ dX4_whatFailsAsIndex_1 rfl (G.sk 36 rfl) (by decide) rfl ?_
  refine lv_iload_n hx hb dX4_whatFailsAsIndex_4 rfl (lv_at hl 2 rfl) ?_
  refine xc_iV G (b := 33) (rest := []) (As := [.int (iv x2)]) (c_X9_kind ω l μ 33 x2 (by unfold isRow; decide) (by unfold ir; omega) hI) (wm 6 146 rfl rfl) (wm 5 156 rfl rfl) (wm 5 157 rfl rfl) rfl rfl (by decide) rfl (wm 1 10 rfl rfl) (wm 5 158 rfl rfl) (by decide) hR (by decide) (n := 1) rfl rfl (Nat.le_of_ble_eq_true rfl) hl.1 dX4_whatFailsAsIndex_5 (fun r_2 μ1 ρ d0 H locs hr_r_2 hp G => ?_)
  have hr_r_2 : -2147483648 ≤ r_2 ∧ r_2 ≤ 2147483647 := hr_r_2
  have hsm_3 := hp
  have hsm_3 := Eq.symm hsm_3
  subst hsm_3
  refine lv_iconst (v := iv 1) hx hb dX4_whatFailsAsIndex_8 rfl ?_
  refine xb_icmp_eq (tgt := 14) hx hb (by unfold ir; omega) (by unfold ir; omega) dX4_whatFailsAsIndex_9 (by decide) (fun c_9 => ?_) (fun c_9 => ?_)
  · refine lv_aload_n hx hb dX4_whatFailsAsIndex_14 rfl (lv_at hl 0 rfl) ?_
    refine lv_iload_n hx hb dX4_whatFailsAsIndex_15 rfl (lv_at hl 2 rfl) ?_
    refine xc_iV G (b := 32) (rest := []) (As := [.int (iv x2)]) (c_X4_smallWhole ω l μ x2 (by unfold ir; omega) hI) (wm 6 200 rfl rfl) (wm 6 202 rfl rfl) (wm 0 96 rfl rfl) rfl rfl (by decide) rfl (wm 1 14 rfl rfl) (wm 6 203 rfl rfl) (by decide) hR (by decide) (n := 1) rfl rfl (Nat.le_of_ble_eq_true rfl) hl.1 dX4_whatFailsAsIndex_16 (fun r_5 μ4 ρ d0 H locs hr_r_5 hp G => ?_)
    have hr_r_5 : -2147483648 ≤ r_5 ∧ r_5 ≤ 2147483647 := hr_r_5
    obtain ⟨hsm_6, hp_7⟩ := hp
    have hsm_6 := Eq.symm hsm_6
    subst hsm_6
    refine lv_istore_n (lv' := [(3, .int (iv r_5)), (0, .ref (oP ω 32)), (1, .int (iv x1)), (2, .int (iv x2))]) hx hb dX4_whatFailsAsIndex_19 rfl hl (by decide) rfl (fun ls hl => ?_)
    refine lv_iload_n hx hb dX4_whatFailsAsIndex_20 rfl (lv_at hl 0 rfl) ?_
    refine xb_if_lt (tgt := 40) hx hb (by unfold ir; omega) dX4_whatFailsAsIndex_21 (by decide) (fun c_21 => ?_) (fun c_21 => ?_)
    · refine lv_iconst (v := iv 2) hx hb dX4_whatFailsAsIndex_40 rfl ?_
      refine lv_goto (tgt := 45) hx hb dX4_whatFailsAsIndex_41 (by decide) ?_
      exact xr_i G (x := 2) hret hlk (by unfold ir; omega) rfl dX4_whatFailsAsIndex_45 ⟨rfl, (by omega)⟩
    · refine lv_iload_n hx hb dX4_whatFailsAsIndex_24 rfl (lv_at hl 0 rfl) ?_
      refine lv_aload_n hx hb dX4_whatFailsAsIndex_25 rfl (lv_at hl 1 rfl) ?_
      refine lv_aload_n hx hb dX4_whatFailsAsIndex_26 rfl (lv_at hl 1 rfl) ?_
      refine xa_getr G fd_X4 (a := 32) (x := 33) 3 rfl (by decide) rfl (wm 2 147 rfl rfl) ⟨rfl, rfl, rfl⟩ dX4_whatFailsAsIndex_27 rfl (G.sk 36 rfl) (by decide) rfl ?_
      refine lv_iload_n hx hb dX4_whatFailsAsIndex_30 rfl (lv_at hl 2 rfl) ?_
      refine xc_lV G (b := 33) (rest := [.ref (oP ω 32), .int (iv r_5)]) (As := [.int (iv x1)]) (c_X9_whole ω l μ 33 x1 (by unfold isRow; decide) (by unfold ir; omega) hI) (wm 6 84 rfl rfl) (wm 5 160 rfl rfl) (wm 5 161 rfl rfl) rfl rfl (by decide) rfl (wm 1 10 rfl rfl) (wm 5 162 rfl rfl) (by decide) hR (by decide) (n := 1) rfl rfl (Nat.le_of_ble_eq_true rfl) hl.1 dX4_whatFailsAsIndex_31 (fun r_9 μ8 ρ d0 H locs hr_r_9 hp G => ?_)
      have hsm_10 := hp
      have hsm_10 := Eq.symm hsm_10
      subst hsm_10
      refine xc_iV G (b := 32) (rest := [.int (iv r_5)]) (As := [.long (jv r_9)]) (c_X4_lengthAt ω l μ r_9 hr_r_9 hI) (wm 6 101 rfl rfl) (wm 6 103 rfl rfl) (wm 0 84 rfl rfl) rfl rfl (by decide) rfl (wm 1 14 rfl rfl) (wm 6 104 rfl rfl) (by decide) hR (by decide) (n := 1) rfl rfl (Nat.le_of_ble_eq_true rfl) hl.1 dX4_whatFailsAsIndex_34 (fun r_12 μ11 ρ d0 H locs hr_r_12 hp G => ?_)
      have hr_r_12 : -2147483648 ≤ r_12 ∧ r_12 ≤ 2147483647 := hr_r_12
      have hsm_13 := hp
      have hsm_13 := Eq.symm hsm_13
      subst hsm_13
      refine xb_icmp_lt (tgt := 44) hx hb (by unfold ir; omega) (by unfold ir; omega) dX4_whatFailsAsIndex_37 (by decide) (fun c_37 => ?_) (fun c_37 => ?_)
      · refine lv_iconst (v := iv 0) hx hb dX4_whatFailsAsIndex_44 rfl ?_
        exact xr_i G (x := 0) hret hlk (by unfold ir; omega) rfl dX4_whatFailsAsIndex_45 ⟨rfl, (by omega)⟩
      · refine lv_iconst (v := iv 2) hx hb dX4_whatFailsAsIndex_40 rfl ?_
        refine lv_goto (tgt := 45) hx hb dX4_whatFailsAsIndex_41 (by decide) ?_
        exact xr_i G (x := 2) hret hlk (by unfold ir; omega) rfl dX4_whatFailsAsIndex_45 ⟨rfl, (by omega)⟩
  · refine lv_iconst (v := iv 4) hx hb dX4_whatFailsAsIndex_12 rfl ?_
    exact xr_i G (x := 4) hret hlk (by unfold ir; omega) rfl dX4_whatFailsAsIndex_13 ⟨rfl, (by omega)⟩

set_option maxHeartbeats 4000000 in
set_option maxRecDepth 100000 in
theorem c_X4_cellAt (ω : Om) (l : Launch) (μ : M3) (x1 : Int) (x2 : Int) (hx1 : ir x1) (hx2 : ir x2) (hI : IC μ) : CtI ω l yX4_cellAt cX4_cellAt 3 .int 3 64 [.ref (oP ω 32), .int (iv x1), .int (iv x2)] μ (fun (r : Int) (μ' : M3) => (μ' = μ)) := by
  refine CtI.go (by decide) (Nat.le_of_ble_eq_true rfl) (fun ρ p e s m below meth c R ls G hR hret hlk hl => ?_)
  have hx := G.1.1
  have hb := G.1.2.1
  have hl : lv_has ls 3 [(0, .ref (oP ω 32)), (1, .int (iv x1)), (2, .int (iv x2))] := hl
  generalize s.drawn = d0 at G ⊢
  have hr_x1 : -2147483648 ≤ x1 ∧ x1 ≤ 2147483647 := hx1
  have hr_x2 : -2147483648 ≤ x2 ∧ x2 ≤ 2147483647 := hx2
  refine lv_aload_n hx hb dX4_cellAt_0 rfl (lv_at hl 0 rfl) ?_
  refine xa_getr G fd_X4 (a := 32) (x := 33) 3 rfl (by decide) rfl (wm 2 147 rfl rfl) ⟨rfl, rfl, rfl⟩ dX4_cellAt_1 rfl (G.sk 36 rfl) (by decide) rfl ?_
  refine lv_iload_n hx hb dX4_cellAt_4 rfl (lv_at hl 1 rfl) ?_
  refine xc_lV G (b := 33) (rest := []) (As := [.int (iv x1)]) (c_X9_whole ω l μ 33 x1 (by unfold isRow; decide) (by unfold ir; omega) hI) (wm 6 84 rfl rfl) (wm 5 160 rfl rfl) (wm 5 161 rfl rfl) rfl rfl (by decide) rfl (wm 1 10 rfl rfl) (wm 5 162 rfl rfl) (by decide) hR (by decide) (n := 1) rfl rfl (Nat.le_of_ble_eq_true rfl) hl.1 dX4_cellAt_5 (fun r_2 μ1 ρ d0 H locs hr_r_2 hp G => ?_)
  have hsm_3 := hp
  have hsm_3 := Eq.symm hsm_3
  subst hsm_3
  refine xb_l2i hx hb dX4_cellAt_8 ?_
  refine xb_topi (fun y_4 hr_y_4 he_y_4 => ?_)
  have hr_y_4 : -2147483648 ≤ y_4 ∧ y_4 ≤ 2147483647 := hr_y_4
  refine lv_iconst (v := iv 1) hx hb dX4_cellAt_9 rfl ?_
  refine xb_iadd hx hb dX4_cellAt_10 ?_
  refine xb_topi (fun y_5 hr_y_5 he_y_5 => ?_)
  have hr_y_5 : -2147483648 ≤ y_5 ∧ y_5 ≤ 2147483647 := hr_y_5
  refine lv_aload_n hx hb dX4_cellAt_11 rfl (lv_at hl 0 rfl) ?_
  refine lv_iload_n hx hb dX4_cellAt_12 rfl (lv_at hl 2 rfl) ?_
  refine xc_iV G (b := 32) (rest := [.int (iv y_5)]) (As := [.int (iv x2)]) (c_X4_smallWhole ω l μ x2 (by unfold ir; omega) hI) (wm 6 200 rfl rfl) (wm 6 202 rfl rfl) (wm 0 96 rfl rfl) rfl rfl (by decide) rfl (wm 1 14 rfl rfl) (wm 6 203 rfl rfl) (by decide) hR (by decide) (n := 1) rfl rfl (Nat.le_of_ble_eq_true rfl) hl.1 dX4_cellAt_13 (fun r_7 μ6 ρ d0 H locs hr_r_7 hp G => ?_)
  have hr_r_7 : -2147483648 ≤ r_7 ∧ r_7 ≤ 2147483647 := hr_r_7
  obtain ⟨hsm_8, hp_9⟩ := hp
  have hsm_8 := Eq.symm hsm_8
  subst hsm_8
  refine xb_iadd hx hb dX4_cellAt_16 ?_
  refine xb_topi (fun y_10 hr_y_10 he_y_10 => ?_)
  have hr_y_10 : -2147483648 ≤ y_10 ∧ y_10 ≤ 2147483647 := hr_y_10
  exact xr_i G (x := y_10) hret hlk (by unfold ir; omega) rfl dX4_cellAt_17 rfl

set_option maxHeartbeats 4000000 in
set_option maxRecDepth 100000 in
theorem c_X4_cellOfArray (ω : Om) (l : Launch) (μ : M3) (S : Int) (hI : IC μ) (hS : S = μ.1 33 3) (hSb : S < 240099) (hst : 0 ≤ μ.1 70 2 ∧ μ.1 70 2 ≤ 5000 ∧ 0 ≤ μ.1 70 8 ∧ μ.1 70 8 ≤ 80000 ∧ μ.1 45 1 ≤ μ.1 70 2) (h0s : μ.1 32 13 = 0) : CtV ω l yX4_cellOfArray cX4_cellOfArray 4 6 194 [.ref (oP ω 32)] μ (fun (μ' : M3) => (Fr [34, 35, 36, 33, 70, 32, 45, 46, 47, 48, 49, 50] μ μ') ∧ (IC μ') ∧ ((μ'.1 33 3 ≤ max (S - 1) 1 ∧ μ'.1 32 13 = 0) ∨ (μ'.1 33 3 ≤ S + 1 ∧ (μ'.1 32 13 = 1 ∨ μ'.1 32 13 = 3 ∨ μ'.1 32 13 = 4))) ∧ (μ.1 70 2 ≤ μ'.1 70 2 ∧ μ'.1 70 2 ≤ 5000 ∧ 0 ≤ μ'.1 70 8 ∧ μ'.1 70 8 ≤ 80000 ∧ μ'.1 45 1 ≤ μ'.1 70 2) ∧ (μ'.1 70 1 = μ.1 70 1) ∧ (μ'.1 70 3 = μ.1 70 3) ∧ (μ'.1 70 4 = μ.1 70 4) ∧ (μ'.1 70 5 = μ.1 70 5) ∧ (μ'.1 70 6 = μ.1 70 6) ∧ (μ'.1 70 7 = μ.1 70 7) ∧ (μ'.1 32 10 = μ.1 32 10) ∧ (μ'.1 32 11 = μ.1 32 11) ∧ (μ'.1 32 12 = μ.1 32 12) ∧ (μ'.1 32 15 = μ.1 32 15) ∧ (μ'.1 32 16 = μ.1 32 16) ∧ (μ'.1 45 4 = μ.1 45 4)) := by
  refine CtV.go (by decide) (Nat.le_of_ble_eq_true rfl) (fun ρ p e s m below meth c R ls G hR hret hlk hl => ?_)
  have hx := G.1.1
  have hb := G.1.2.1
  have hl : lv_has ls 4 [(0, .ref (oP ω 32))] := hl
  generalize s.drawn = d0 at G ⊢
  have hk_1 := hI.row (r := 33) (by unfold isRow; decide)
  unfold rk at hk_1
  simp only [Int.reduceAdd] at hk_1
  have hbr_33 : BR 33 = 240100 := rfl
  have hk_2 := hI.row (r := 37) (by unfold isRow; decide)
  unfold rk at hk_2
  simp only [Int.reduceAdd] at hk_2
  have hbr_37 : BR 37 = 20410 := rfl
  refine lv_aload_n hx hb dX4_cellOfArray_0 rfl (lv_at hl 0 rfl) ?_
  have e_3 : μ.1 33 3 = S := hS.symm
  refine xc_iV G (b := 32) (rest := []) (As := []) (c_X4_top ω l μ S hI (by omega)) (wm 6 73 rfl rfl) (wm 6 75 rfl rfl) (wm 0 80 rfl rfl) rfl rfl (by decide) rfl (wm 1 14 rfl rfl) (wm 6 76 rfl rfl) (by decide) hR (by decide) (n := 0) rfl rfl (Nat.le_of_ble_eq_true rfl) hl.1 dX4_cellOfArray_1 (fun r_5 μ4 ρ d0 H locs hr_r_5 hp G => ?_)
  have hr_r_5 : -2147483648 ≤ r_5 ∧ r_5 ≤ 2147483647 := hr_r_5
  obtain ⟨hsm_6, hp_7⟩ := hp
  have hsm_6 := Eq.symm hsm_6
  subst hsm_6
  refine lv_iconst (v := iv 1) hx hb dX4_cellOfArray_4 rfl ?_
  refine xb_isub hx hb dX4_cellOfArray_5 ?_
  refine lv_istore_n (lv' := [(1, .int (iv (r_5 - 1))), (0, .ref (oP ω 32))]) hx hb dX4_cellOfArray_6 rfl hl (by decide) rfl (fun ls hl => ?_)
  refine lv_aload_n hx hb dX4_cellOfArray_7 rfl (lv_at hl 1 rfl) ?_
  refine lv_iload_n hx hb dX4_cellOfArray_8 rfl (lv_at hl 0 rfl) ?_
  refine xc_iV G (b := 32) (rest := []) (As := [.int (iv (r_5 - 1))]) (c_X4_whatFailsAsArray ω l μ (r_5 - 1) (by unfold ir; omega) hI) (wm 6 214 rfl rfl) (wm 6 216 rfl rfl) (wm 0 99 rfl rfl) rfl rfl (by decide) rfl (wm 1 14 rfl rfl) (wm 6 217 rfl rfl) (by decide) hR (by decide) (n := 1) rfl rfl (Nat.le_of_ble_eq_true rfl) hl.1 dX4_cellOfArray_9 (fun r_9 μ8 ρ d0 H locs hr_r_9 hp G => ?_)
  have hr_r_9 : -2147483648 ≤ r_9 ∧ r_9 ≤ 2147483647 := hr_r_9
  obtain ⟨hsm_10, hp_11⟩ := hp
  have hsm_10 := Eq.symm hsm_10
  subst hsm_10
  refine lv_istore_n (lv' := [(2, .int (iv r_9)), (1, .int (iv (r_5 - 1))), (0, .ref (oP ω 32))]) hx hb dX4_cellOfArray_12 rfl hl (by decide) rfl (fun ls hl => ?_)
  refine lv_iload_n hx hb dX4_cellOfArray_13 rfl (lv_at hl 0 rfl) ?_
  refine xb_if_ne (tgt := 26) hx hb (by unfold ir; omega) dX4_cellOfArray_14 (by decide) (fun c_14 => ?_) (fun c_14 => ?_)
  · refine lv_iload_n hx hb dX4_cellOfArray_26 rfl (lv_at hl 0 rfl) ?_
    refine xb_if_eq (tgt := 37) hx hb (by unfold ir; omega) dX4_cellOfArray_27 (by decide) (fun c_27 => ?_) (fun c_27 => ?_)
    · refine lv_aload_n hx hb dX4_cellOfArray_37 rfl (lv_at hl 2 rfl) ?_
      refine lv_iload_n hx hb dX4_cellOfArray_38 rfl (lv_at hl 1 rfl) ?_
      refine xc_iV G (b := 32) (rest := []) (As := [.int (iv (r_5 - 1))]) (c_X4_tongueOfArray ω l μ (r_5 - 1) (by unfold ir; omega) hI) (wm 6 222 rfl rfl) (wm 6 224 rfl rfl) (wm 0 101 rfl rfl) rfl rfl (by decide) rfl (wm 1 14 rfl rfl) (wm 6 225 rfl rfl) (by decide) hR (by decide) (n := 1) rfl rfl (Nat.le_of_ble_eq_true rfl) hl.1 dX4_cellOfArray_39 (fun r_13 μ12 ρ d0 H locs hr_r_13 hp G => ?_)
      have hr_r_13 : -2147483648 ≤ r_13 ∧ r_13 ≤ 2147483647 := hr_r_13
      have hsm_14 := hp
      have hsm_14 := Eq.symm hsm_14
      subst hsm_14
      refine lv_istore_n (lv' := [(3, .int (iv r_13)), (2, .int (iv r_9)), (1, .int (iv (r_5 - 1))), (0, .ref (oP ω 32))]) hx hb dX4_cellOfArray_42 rfl hl (by decide) rfl (fun ls hl => ?_)
      refine lv_iload_n hx hb dX4_cellOfArray_43 rfl (lv_at hl 0 rfl) ?_
      refine lv_aload_n hx hb dX4_cellOfArray_44 rfl (lv_at hl 3 rfl) ?_
      refine xa_getr G fd_X4 (a := 32) (x := 52) 7 rfl (by decide) rfl (wm 2 151 rfl rfl) ⟨rfl, rfl, rfl⟩ dX4_cellOfArray_45 rfl (G.sk 40 rfl) (by decide) rfl ?_
      refine xc_iV G (b := 52) (rest := [.int (iv r_13)]) (As := []) (c_X2_tongue ω l μ  hI) (wm 5 218 rfl rfl) (wm 5 219 rfl rfl) (wm 5 220 rfl rfl) rfl rfl (by decide) rfl (wm 1 16 rfl rfl) (wm 5 221 rfl rfl) (by decide) hR (by decide) (n := 0) rfl rfl (Nat.le_of_ble_eq_true rfl) hl.1 dX4_cellOfArray_48 (fun r_16 μ15 ρ d0 H locs hr_r_16 hp G => ?_)
      have hr_r_16 : -2147483648 ≤ r_16 ∧ r_16 ≤ 2147483647 := hr_r_16
      obtain ⟨hsm_17, hp_18⟩ := hp
      have hsm_17 := Eq.symm hsm_17
      subst hsm_17
      refine xb_icmp_eq (tgt := 62) hx hb (by unfold ir; omega) (by unfold ir; omega) dX4_cellOfArray_51 (by decide) (fun c_51 => ?_) (fun c_51 => ?_)
      · refine lv_aload_n hx hb dX4_cellOfArray_62 rfl (lv_at hl 3 rfl) ?_
        refine xa_getr G fd_X4 (a := 32) (x := 33) 3 rfl (by decide) rfl (wm 2 147 rfl rfl) ⟨rfl, rfl, rfl⟩ dX4_cellOfArray_63 rfl (G.sk 36 rfl) (by decide) rfl ?_
        refine lv_iload_n hx hb dX4_cellOfArray_66 rfl (lv_at hl 2 rfl) ?_
        refine lv_aload_n hx hb dX4_cellOfArray_67 rfl (lv_at hl 3 rfl) ?_
        refine xa_getr G fd_X4 (a := 32) (x := 37) 4 rfl (by decide) rfl (wm 2 148 rfl rfl) ⟨rfl, rfl, rfl⟩ dX4_cellOfArray_68 rfl (G.sk 37 rfl) (by decide) rfl ?_
        refine lv_aload_n hx hb dX4_cellOfArray_71 rfl (lv_at hl 3 rfl) ?_
        refine lv_iload_n hx hb dX4_cellOfArray_72 rfl (lv_at hl 2 rfl) ?_
        refine lv_iload_n hx hb dX4_cellOfArray_73 rfl (lv_at hl 2 rfl) ?_
        refine lv_iconst (v := iv 1) hx hb dX4_cellOfArray_74 rfl ?_
        refine xb_iadd hx hb dX4_cellOfArray_75 ?_
        refine xb_ti (y := r_5) (by omega) ?_
        refine xc_iV G (b := 32) (rest := [.ref (oP ω 37), .int (iv (r_5 - 1)), .ref (oP ω 33)]) (As := [.int (iv (r_5 - 1)), .int (iv r_5)]) (c_X4_cellAt ω l μ (r_5 - 1) r_5 (by unfold ir; omega) (by unfold ir; omega) hI) (wm 6 226 rfl rfl) (wm 6 228 rfl rfl) (wm 0 102 rfl rfl) rfl rfl (by decide) rfl (wm 1 14 rfl rfl) (wm 6 229 rfl rfl) (by decide) hR (by decide) (n := 2) rfl rfl (Nat.le_of_ble_eq_true rfl) hl.1 dX4_cellOfArray_76 (fun r_20 μ19 ρ d0 H locs hr_r_20 hp G => ?_)
        have hr_r_20 : -2147483648 ≤ r_20 ∧ r_20 ≤ 2147483647 := hr_r_20
        have hsm_21 := hp
        have hsm_21 := Eq.symm hsm_21
        subst hsm_21
        refine xc_vV G (b := 33) (rest := []) (As := [.int (iv (r_5 - 1)), .ref (oP ω 37), .int (iv r_20)]) (c_X9_copy ω l μ 33 (r_5 - 1) 37 r_20 (by unfold isRow; decide) (by unfold ir; omega) (by unfold isRow; decide) (by unfold ir; omega) hI) (wm 6 28 rfl rfl) (wm 6 29 rfl rfl) (wm 6 30 rfl rfl) rfl rfl (by decide) rfl (wm 1 10 rfl rfl) (wm 6 31 rfl rfl) (by decide) hR (by decide) (n := 3) rfl rfl (Nat.le_of_ble_eq_true rfl) hl.1 dX4_cellOfArray_79 (fun μ22 ρ d0 H locs hp G => ?_)
        obtain ⟨F_23, hI_24, hp_25⟩ := hp
        refine lv_aload_n hx hb dX4_cellOfArray_82 rfl (lv_at hl 3 rfl) ?_
        refine xa_getr G fd_X4 (a := 32) (x := 33) 3 rfl (by decide) rfl (wm 2 147 rfl rfl) ⟨rfl, rfl, rfl⟩ dX4_cellOfArray_83 rfl (G.sk 36 rfl) (by decide) rfl ?_
        refine lv_iconst (v := iv 1) hx hb dX4_cellOfArray_86 rfl ?_
        have e_26 : μ22.1 33 3 = S := ((F_23.1 33 (by decide) 3).trans hS.symm)
        refine xc_vV G (b := 33) (rest := []) (As := [.int (iv 1)]) (c_X9_drop ω l μ22 33 1 S (by unfold isRow; decide) (by unfold ir; omega) hI_24 (by omega) (by omega)) (wm 6 89 rfl rfl) (wm 6 90 rfl rfl) (wm 6 91 rfl rfl) rfl rfl (by decide) rfl (wm 1 10 rfl rfl) (wm 6 92 rfl rfl) (by decide) hR (by decide) (n := 1) rfl rfl (Nat.le_of_ble_eq_true rfl) hl.1 dX4_cellOfArray_87 (fun μ27 ρ d0 H locs hp G => ?_)
        obtain ⟨F_28, hI_29, hs_30⟩ := hp
        refine lv_aload_n hx hb dX4_cellOfArray_90 rfl (lv_at hl 3 rfl) ?_
        refine xa_getr G fd_X4 (a := 32) (x := 6) 2 rfl (by decide) rfl (wm 2 146 rfl rfl) ⟨rfl, rfl, rfl⟩ dX4_cellOfArray_91 rfl (G.sk 35 rfl) (by decide) rfl ?_
        refine lv_aload_n hx hb dX4_cellOfArray_94 rfl (lv_at hl 3 rfl) ?_
        refine xa_getr G fd_X4 (a := 32) (x := 33) 3 rfl (by decide) rfl (wm 2 147 rfl rfl) ⟨rfl, rfl, rfl⟩ dX4_cellOfArray_95 rfl (G.sk 36 rfl) (by decide) rfl ?_
        refine lv_iload_n hx hb dX4_cellOfArray_98 rfl (lv_at hl 2 rfl) ?_
        refine lv_iload_n hx hb dX4_cellOfArray_99 rfl (lv_at hl 0 rfl) ?_
        refine lv_aload_n hx hb dX4_cellOfArray_100 rfl (lv_at hl 3 rfl) ?_
        refine xa_getr G fd_X4 (a := 32) (x := 52) 7 rfl (by decide) rfl (wm 2 151 rfl rfl) ⟨rfl, rfl, rfl⟩ dX4_cellOfArray_101 rfl (G.sk 40 rfl) (by decide) rfl ?_
        have e_31 : ofF μ27 53 = ofF μ 53 := ((ofF_fr F_28 (by decide) (by decide)).trans (ofF_fr F_23 (by decide) (by decide)))
        refine xc_iV G (b := 52) (rest := [.int (iv r_13), .int (iv (r_5 - 1)), .ref (oP ω 33), .ref (oP ω 6)]) (As := []) (c_X2_tongue ω l μ27  hI_29) (wm 5 218 rfl rfl) (wm 5 219 rfl rfl) (wm 5 220 rfl rfl) rfl rfl (by decide) rfl (wm 1 16 rfl rfl) (wm 5 221 rfl rfl) (by decide) hR (by decide) (n := 0) rfl rfl (Nat.le_of_ble_eq_true rfl) hl.1 dX4_cellOfArray_104 (fun r_33 μ32 ρ d0 H locs hr_r_33 hp G => ?_)
        have hr_r_33 : -2147483648 ≤ r_33 ∧ r_33 ≤ 2147483647 := hr_r_33
        obtain ⟨hsm_34, hp_35⟩ := hp
        have hsm_34 := Eq.symm hsm_34
        subst hsm_34
        have e_36 : μ27.1 33 3 = max (S - 1) 0 := hs_30
        refine xc_iV G (b := 6) (rest := []) (As := [.ref (oP ω 33), .int (iv (r_5 - 1)), .int (iv r_13), .int (iv r_33)]) (c_X0_turn ω l μ27 33 (r_5 - 1) r_13 r_33 (by unfold isRow; decide) (by unfold ir; omega) (by unfold ir; omega) (by unfold ir; omega) hI_29) (wm 6 32 rfl rfl) (wm 6 33 rfl rfl) (wm 6 34 rfl rfl) rfl rfl (by decide) rfl (wm 1 7 rfl rfl) (wm 6 35 rfl rfl) (by decide) hR (by decide) (n := 4) rfl rfl (Nat.le_of_ble_eq_true rfl) hl.1 dX4_cellOfArray_107 (fun r_38 μ37 ρ d0 H locs hr_r_38 hp G => ?_)
        have hr_r_38 : -2147483648 ≤ r_38 ∧ r_38 ≤ 2147483647 := hr_r_38
        obtain ⟨F_39, hI_40, hp_41, hp_42, hs_43⟩ := hp
        refine xb_if_ne (tgt := 119) hx hb (by unfold ir; omega) dX4_cellOfArray_110 (by decide) (fun c_110 => ?_) (fun c_110 => ?_)
        · have e_44 : μ37.1 33 3 = max (S - 1) 0 := (hs_43.trans hs_30)
          have e_45 : μ37.1 32 13 = μ.1 32 13 := ((F_39.1 32 (by decide) 13).trans ((F_28.1 32 (by decide) 13).trans (F_23.1 32 (by decide) 13)))
          have e_46 : μ37.1 33 3 = max (S - 1) 0 := (hs_43.trans hs_30)
          have e_47 : μ37.1 32 13 = μ.1 32 13 := ((F_39.1 32 (by decide) 13).trans ((F_28.1 32 (by decide) 13).trans (F_23.1 32 (by decide) 13)))
          have e_48 : μ37.1 32 13 = μ.1 32 13 := ((F_39.1 32 (by decide) 13).trans ((F_28.1 32 (by decide) 13).trans (F_23.1 32 (by decide) 13)))
          have e_49 : μ37.1 32 13 = μ.1 32 13 := ((F_39.1 32 (by decide) 13).trans ((F_28.1 32 (by decide) 13).trans (F_23.1 32 (by decide) 13)))
          have e_50 : μ37.1 70 2 = μ.1 70 2 := ((F_39.1 70 (by decide) 2).trans ((F_28.1 70 (by decide) 2).trans (F_23.1 70 (by decide) 2)))
          have e_51 : μ37.1 70 2 = μ.1 70 2 := ((F_39.1 70 (by decide) 2).trans ((F_28.1 70 (by decide) 2).trans (F_23.1 70 (by decide) 2)))
          have e_52 : μ37.1 70 8 = μ.1 70 8 := ((F_39.1 70 (by decide) 8).trans ((F_28.1 70 (by decide) 8).trans (F_23.1 70 (by decide) 8)))
          have e_53 : μ37.1 70 8 = μ.1 70 8 := ((F_39.1 70 (by decide) 8).trans ((F_28.1 70 (by decide) 8).trans (F_23.1 70 (by decide) 8)))
          have e_54 : μ37.1 45 1 = μ.1 45 1 := ((F_39.1 45 (by decide) 1).trans ((F_28.1 45 (by decide) 1).trans (F_23.1 45 (by decide) 1)))
          have e_55 : μ37.1 70 2 = μ.1 70 2 := ((F_39.1 70 (by decide) 2).trans ((F_28.1 70 (by decide) 2).trans (F_23.1 70 (by decide) 2)))
          have e_56 : μ37.1 70 1 = μ.1 70 1 := ((F_39.1 70 (by decide) 1).trans ((F_28.1 70 (by decide) 1).trans (F_23.1 70 (by decide) 1)))
          have e_57 : μ37.1 70 3 = μ.1 70 3 := ((F_39.1 70 (by decide) 3).trans ((F_28.1 70 (by decide) 3).trans (F_23.1 70 (by decide) 3)))
          have e_58 : μ37.1 70 4 = μ.1 70 4 := ((F_39.1 70 (by decide) 4).trans ((F_28.1 70 (by decide) 4).trans (F_23.1 70 (by decide) 4)))
          have e_59 : μ37.1 70 5 = μ.1 70 5 := ((F_39.1 70 (by decide) 5).trans ((F_28.1 70 (by decide) 5).trans (F_23.1 70 (by decide) 5)))
          have e_60 : μ37.1 70 6 = μ.1 70 6 := ((F_39.1 70 (by decide) 6).trans ((F_28.1 70 (by decide) 6).trans (F_23.1 70 (by decide) 6)))
          have e_61 : μ37.1 70 7 = μ.1 70 7 := ((F_39.1 70 (by decide) 7).trans ((F_28.1 70 (by decide) 7).trans (F_23.1 70 (by decide) 7)))
          have e_62 : μ37.1 32 10 = μ.1 32 10 := ((F_39.1 32 (by decide) 10).trans ((F_28.1 32 (by decide) 10).trans (F_23.1 32 (by decide) 10)))
          have e_63 : μ37.1 32 11 = μ.1 32 11 := ((F_39.1 32 (by decide) 11).trans ((F_28.1 32 (by decide) 11).trans (F_23.1 32 (by decide) 11)))
          have e_64 : μ37.1 32 12 = μ.1 32 12 := ((F_39.1 32 (by decide) 12).trans ((F_28.1 32 (by decide) 12).trans (F_23.1 32 (by decide) 12)))
          have e_65 : μ37.1 32 15 = μ.1 32 15 := ((F_39.1 32 (by decide) 15).trans ((F_28.1 32 (by decide) 15).trans (F_23.1 32 (by decide) 15)))
          have e_66 : μ37.1 32 16 = μ.1 32 16 := ((F_39.1 32 (by decide) 16).trans ((F_28.1 32 (by decide) 16).trans (F_23.1 32 (by decide) 16)))
          have e_67 : μ37.1 45 4 = μ.1 45 4 := ((F_39.1 45 (by decide) 4).trans ((F_28.1 45 (by decide) 4).trans (F_23.1 45 (by decide) 4)))
          exact xr_v G hret hlk dX4_cellOfArray_119 ⟨(Fr.tr (Fr.tr (Fr.tr Fr.rf F_23 (by decide)) F_28 (by decide)) F_39 (by decide)), hI_40, (by omega), (by omega), (by omega), (by omega), (by omega), (by omega), (by omega), (by omega), (by omega), (by omega), (by omega), (by omega), (by omega), (by omega)⟩
        · refine lv_aload_n hx hb dX4_cellOfArray_113 rfl (lv_at hl 3 rfl) ?_
          refine lv_iconst (v := iv 4) hx hb dX4_cellOfArray_114 rfl ?_
          refine lv_iconst (v := iv 1) hx hb dX4_cellOfArray_115 rfl ?_
          have e_68 : μ37.1 33 3 = max (S - 1) 0 := (hs_43.trans hs_30)
          have e_69 : μ37.1 70 2 = μ.1 70 2 := ((F_39.1 70 (by decide) 2).trans ((F_28.1 70 (by decide) 2).trans (F_23.1 70 (by decide) 2)))
          have e_70 : μ37.1 70 2 = μ.1 70 2 := ((F_39.1 70 (by decide) 2).trans ((F_28.1 70 (by decide) 2).trans (F_23.1 70 (by decide) 2)))
          have e_71 : μ37.1 70 8 = μ.1 70 8 := ((F_39.1 70 (by decide) 8).trans ((F_28.1 70 (by decide) 8).trans (F_23.1 70 (by decide) 8)))
          have e_72 : μ37.1 70 8 = μ.1 70 8 := ((F_39.1 70 (by decide) 8).trans ((F_28.1 70 (by decide) 8).trans (F_23.1 70 (by decide) 8)))
          have hn_73 : 0 ≤ μ.1 45 1 ∧ 9 * μ.1 45 1 ≤ μ.2.1 46 := hI.nm.2.2.2.2.2.2.1
          have e_74 : μ37.1 45 1 = μ.1 45 1 := ((F_39.1 45 (by decide) 1).trans ((F_28.1 45 (by decide) 1).trans (F_23.1 45 (by decide) 1)))
          have e_75 : μ37.1 70 2 = μ.1 70 2 := ((F_39.1 70 (by decide) 2).trans ((F_28.1 70 (by decide) 2).trans (F_23.1 70 (by decide) 2)))
          have e_76 : μ37.1 32 13 = μ.1 32 13 := ((F_39.1 32 (by decide) 13).trans ((F_28.1 32 (by decide) 13).trans (F_23.1 32 (by decide) 13)))
          have e_77 : ofF μ37 53 = ofF μ 53 := ((ofF_fr F_39 (by decide) (by decide)).trans ((ofF_fr F_28 (by decide) (by decide)).trans (ofF_fr F_23 (by decide) (by decide))))
          have e_78 : μ37.1 70 2 = μ.1 70 2 := ((F_39.1 70 (by decide) 2).trans ((F_28.1 70 (by decide) 2).trans (F_23.1 70 (by decide) 2)))
          have e_79 : μ37.1 70 1 = μ.1 70 1 := ((F_39.1 70 (by decide) 1).trans ((F_28.1 70 (by decide) 1).trans (F_23.1 70 (by decide) 1)))
          have e_80 : μ37.1 70 3 = μ.1 70 3 := ((F_39.1 70 (by decide) 3).trans ((F_28.1 70 (by decide) 3).trans (F_23.1 70 (by decide) 3)))
          have e_81 : μ37.1 70 4 = μ.1 70 4 := ((F_39.1 70 (by decide) 4).trans ((F_28.1 70 (by decide) 4).trans (F_23.1 70 (by decide) 4)))
          have e_82 : μ37.1 70 5 = μ.1 70 5 := ((F_39.1 70 (by decide) 5).trans ((F_28.1 70 (by decide) 5).trans (F_23.1 70 (by decide) 5)))
          have e_83 : μ37.1 70 6 = μ.1 70 6 := ((F_39.1 70 (by decide) 6).trans ((F_28.1 70 (by decide) 6).trans (F_23.1 70 (by decide) 6)))
          have e_84 : μ37.1 70 7 = μ.1 70 7 := ((F_39.1 70 (by decide) 7).trans ((F_28.1 70 (by decide) 7).trans (F_23.1 70 (by decide) 7)))
          have e_85 : μ37.1 32 10 = μ.1 32 10 := ((F_39.1 32 (by decide) 10).trans ((F_28.1 32 (by decide) 10).trans (F_23.1 32 (by decide) 10)))
          have e_86 : μ37.1 32 11 = μ.1 32 11 := ((F_39.1 32 (by decide) 11).trans ((F_28.1 32 (by decide) 11).trans (F_23.1 32 (by decide) 11)))
          have e_87 : μ37.1 32 12 = μ.1 32 12 := ((F_39.1 32 (by decide) 12).trans ((F_28.1 32 (by decide) 12).trans (F_23.1 32 (by decide) 12)))
          have e_88 : μ37.1 32 15 = μ.1 32 15 := ((F_39.1 32 (by decide) 15).trans ((F_28.1 32 (by decide) 15).trans (F_23.1 32 (by decide) 15)))
          have e_89 : μ37.1 32 16 = μ.1 32 16 := ((F_39.1 32 (by decide) 16).trans ((F_28.1 32 (by decide) 16).trans (F_23.1 32 (by decide) 16)))
          have hn_90 : 0 ≤ μ.1 45 4 ∧ 2 * μ.1 45 4 ≤ μ.2.1 51 := hI.nm.2.2.2.2.2.2.2.1
          have e_91 : μ37.1 45 4 = μ.1 45 4 := ((F_39.1 45 (by decide) 4).trans ((F_28.1 45 (by decide) 4).trans (F_23.1 45 (by decide) 4)))
          refine xc_vV G (b := 32) (rest := []) (As := [.int (iv 4), .int (iv 1)]) (c_X4_fails ω l μ37 4 1 (max (S - 1) 0) (by unfold ir; omega) (by unfold ir; omega) hI_40 (by omega) (by omega) (by omega) (by omega)) (wm 6 93 rfl rfl) (wm 6 95 rfl rfl) (wm 0 82 rfl rfl) rfl rfl (by decide) rfl (wm 1 14 rfl rfl) (wm 6 96 rfl rfl) (by decide) hR (by decide) (n := 2) rfl rfl (Nat.le_of_ble_eq_true rfl) hl.1 dX4_cellOfArray_116 (fun μ92 ρ d0 H locs hp G => ?_)
          obtain ⟨F_93, hI_94, hp_95, hp_96, hs_97, hs_98, hs_99, hs_100, hs_101, hs_102, hs_103, hs_104, hs_105, hs_106, hs_107, hs_108⟩ := hp
          have hk_109 := hI_94.row (r := 33) (by unfold isRow; decide)
          unfold rk at hk_109
          simp only [Int.reduceAdd] at hk_109
          have hn_110 : 0 ≤ μ92.1 45 1 ∧ 9 * μ92.1 45 1 ≤ μ92.2.1 46 := hI_94.nm.2.2.2.2.2.2.1
          have e_111 : μ92.1 70 1 = μ.1 70 1 := (hs_97.trans ((F_39.1 70 (by decide) 1).trans ((F_28.1 70 (by decide) 1).trans (F_23.1 70 (by decide) 1))))
          have e_112 : μ92.1 70 3 = μ.1 70 3 := (hs_98.trans ((F_39.1 70 (by decide) 3).trans ((F_28.1 70 (by decide) 3).trans (F_23.1 70 (by decide) 3))))
          have e_113 : μ92.1 70 4 = μ.1 70 4 := (hs_99.trans ((F_39.1 70 (by decide) 4).trans ((F_28.1 70 (by decide) 4).trans (F_23.1 70 (by decide) 4))))
          have e_114 : μ92.1 70 5 = μ.1 70 5 := (hs_100.trans ((F_39.1 70 (by decide) 5).trans ((F_28.1 70 (by decide) 5).trans (F_23.1 70 (by decide) 5))))
          have e_115 : μ92.1 70 6 = μ.1 70 6 := (hs_101.trans ((F_39.1 70 (by decide) 6).trans ((F_28.1 70 (by decide) 6).trans (F_23.1 70 (by decide) 6))))
          have e_116 : μ92.1 70 7 = μ.1 70 7 := (hs_102.trans ((F_39.1 70 (by decide) 7).trans ((F_28.1 70 (by decide) 7).trans (F_23.1 70 (by decide) 7))))
          have e_117 : μ92.1 32 10 = μ.1 32 10 := (hs_103.trans ((F_39.1 32 (by decide) 10).trans ((F_28.1 32 (by decide) 10).trans (F_23.1 32 (by decide) 10))))
          have e_118 : μ92.1 32 11 = μ.1 32 11 := (hs_104.trans ((F_39.1 32 (by decide) 11).trans ((F_28.1 32 (by decide) 11).trans (F_23.1 32 (by decide) 11))))
          have e_119 : μ92.1 32 12 = μ.1 32 12 := (hs_105.trans ((F_39.1 32 (by decide) 12).trans ((F_28.1 32 (by decide) 12).trans (F_23.1 32 (by decide) 12))))
          have e_120 : μ92.1 32 15 = μ.1 32 15 := (hs_106.trans ((F_39.1 32 (by decide) 15).trans ((F_28.1 32 (by decide) 15).trans (F_23.1 32 (by decide) 15))))
          have e_121 : μ92.1 32 16 = μ.1 32 16 := (hs_107.trans ((F_39.1 32 (by decide) 16).trans ((F_28.1 32 (by decide) 16).trans (F_23.1 32 (by decide) 16))))
          have e_122 : μ92.1 45 4 = μ.1 45 4 := (hs_108.trans ((F_39.1 45 (by decide) 4).trans ((F_28.1 45 (by decide) 4).trans (F_23.1 45 (by decide) 4))))
          exact xr_v G hret hlk dX4_cellOfArray_119 ⟨(Fr.tr (Fr.tr (Fr.tr (Fr.tr Fr.rf F_23 (by decide)) F_28 (by decide)) F_39 (by decide)) F_93 (by decide)), hI_94, (by omega), (by omega), (by omega), (by omega), (by omega), (by omega), (by omega), (by omega), (by omega), (by omega), (by omega), (by omega), (by omega), (by omega)⟩
      · refine lv_aload_n hx hb dX4_cellOfArray_54 rfl (lv_at hl 3 rfl) ?_
        have hn_123 : 0 ≤ μ.1 45 1 ∧ 9 * μ.1 45 1 ≤ μ.2.1 46 := hI.nm.2.2.2.2.2.2.1
        refine xc_iV G (b := 32) (rest := []) (As := []) (c_X4_step ω l μ  hI (by omega)) (wm 6 2 rfl rfl) (wm 6 4 rfl rfl) (wm 0 75 rfl rfl) rfl rfl (by decide) rfl (wm 1 14 rfl rfl) (wm 6 5 rfl rfl) (by decide) hR (by decide) (n := 0) rfl rfl (Nat.le_of_ble_eq_true rfl) hl.1 dX4_cellOfArray_55 (fun r_125 μ124 ρ d0 H locs hr_r_125 hp G => ?_)
        have hr_r_125 : -2147483648 ≤ r_125 ∧ r_125 ≤ 2147483647 := hr_r_125
        obtain ⟨F_126, hI_127, hp_128, hs_129, hs_130, hs_131, hs_132, hs_133, hs_134, hs_135, hs_136, hs_137, hs_138, hs_139, hs_140, hs_141⟩ := hp
        refine xb_if_ne (tgt := 62) hx hb (by unfold ir; omega) dX4_cellOfArray_58 (by decide) (fun c_58 => ?_) (fun c_58 => ?_)
        · refine lv_aload_n hx hb dX4_cellOfArray_62 rfl (lv_at hl 3 rfl) ?_
          refine xa_getr G fd_X4 (a := 32) (x := 33) 3 rfl (by decide) rfl (wm 2 147 rfl rfl) ⟨rfl, rfl, rfl⟩ dX4_cellOfArray_63 rfl (G.sk 36 rfl) (by decide) rfl ?_
          refine lv_iload_n hx hb dX4_cellOfArray_66 rfl (lv_at hl 2 rfl) ?_
          refine lv_aload_n hx hb dX4_cellOfArray_67 rfl (lv_at hl 3 rfl) ?_
          refine xa_getr G fd_X4 (a := 32) (x := 37) 4 rfl (by decide) rfl (wm 2 148 rfl rfl) ⟨rfl, rfl, rfl⟩ dX4_cellOfArray_68 rfl (G.sk 37 rfl) (by decide) rfl ?_
          refine lv_aload_n hx hb dX4_cellOfArray_71 rfl (lv_at hl 3 rfl) ?_
          refine lv_iload_n hx hb dX4_cellOfArray_72 rfl (lv_at hl 2 rfl) ?_
          refine lv_iload_n hx hb dX4_cellOfArray_73 rfl (lv_at hl 2 rfl) ?_
          refine lv_iconst (v := iv 1) hx hb dX4_cellOfArray_74 rfl ?_
          refine xb_iadd hx hb dX4_cellOfArray_75 ?_
          refine xb_ti (y := r_5) (by omega) ?_
          refine xc_iV G (b := 32) (rest := [.ref (oP ω 37), .int (iv (r_5 - 1)), .ref (oP ω 33)]) (As := [.int (iv (r_5 - 1)), .int (iv r_5)]) (c_X4_cellAt ω l μ124 (r_5 - 1) r_5 (by unfold ir; omega) (by unfold ir; omega) hI_127) (wm 6 226 rfl rfl) (wm 6 228 rfl rfl) (wm 0 102 rfl rfl) rfl rfl (by decide) rfl (wm 1 14 rfl rfl) (wm 6 229 rfl rfl) (by decide) hR (by decide) (n := 2) rfl rfl (Nat.le_of_ble_eq_true rfl) hl.1 dX4_cellOfArray_76 (fun r_143 μ142 ρ d0 H locs hr_r_143 hp G => ?_)
          have hr_r_143 : -2147483648 ≤ r_143 ∧ r_143 ≤ 2147483647 := hr_r_143
          have hsm_144 := hp
          have hsm_144 := Eq.symm hsm_144
          subst hsm_144
          refine xc_vV G (b := 33) (rest := []) (As := [.int (iv (r_5 - 1)), .ref (oP ω 37), .int (iv r_143)]) (c_X9_copy ω l μ124 33 (r_5 - 1) 37 r_143 (by unfold isRow; decide) (by unfold ir; omega) (by unfold isRow; decide) (by unfold ir; omega) hI_127) (wm 6 28 rfl rfl) (wm 6 29 rfl rfl) (wm 6 30 rfl rfl) rfl rfl (by decide) rfl (wm 1 10 rfl rfl) (wm 6 31 rfl rfl) (by decide) hR (by decide) (n := 3) rfl rfl (Nat.le_of_ble_eq_true rfl) hl.1 dX4_cellOfArray_79 (fun μ145 ρ d0 H locs hp G => ?_)
          obtain ⟨F_146, hI_147, hp_148⟩ := hp
          refine lv_aload_n hx hb dX4_cellOfArray_82 rfl (lv_at hl 3 rfl) ?_
          refine xa_getr G fd_X4 (a := 32) (x := 33) 3 rfl (by decide) rfl (wm 2 147 rfl rfl) ⟨rfl, rfl, rfl⟩ dX4_cellOfArray_83 rfl (G.sk 36 rfl) (by decide) rfl ?_
          refine lv_iconst (v := iv 1) hx hb dX4_cellOfArray_86 rfl ?_
          have e_149 : μ145.1 33 3 = S := ((F_146.1 33 (by decide) 3).trans ((F_126.1 33 (by decide) 3).trans hS.symm))
          refine xc_vV G (b := 33) (rest := []) (As := [.int (iv 1)]) (c_X9_drop ω l μ145 33 1 S (by unfold isRow; decide) (by unfold ir; omega) hI_147 (by omega) (by omega)) (wm 6 89 rfl rfl) (wm 6 90 rfl rfl) (wm 6 91 rfl rfl) rfl rfl (by decide) rfl (wm 1 10 rfl rfl) (wm 6 92 rfl rfl) (by decide) hR (by decide) (n := 1) rfl rfl (Nat.le_of_ble_eq_true rfl) hl.1 dX4_cellOfArray_87 (fun μ150 ρ d0 H locs hp G => ?_)
          obtain ⟨F_151, hI_152, hs_153⟩ := hp
          refine lv_aload_n hx hb dX4_cellOfArray_90 rfl (lv_at hl 3 rfl) ?_
          refine xa_getr G fd_X4 (a := 32) (x := 6) 2 rfl (by decide) rfl (wm 2 146 rfl rfl) ⟨rfl, rfl, rfl⟩ dX4_cellOfArray_91 rfl (G.sk 35 rfl) (by decide) rfl ?_
          refine lv_aload_n hx hb dX4_cellOfArray_94 rfl (lv_at hl 3 rfl) ?_
          refine xa_getr G fd_X4 (a := 32) (x := 33) 3 rfl (by decide) rfl (wm 2 147 rfl rfl) ⟨rfl, rfl, rfl⟩ dX4_cellOfArray_95 rfl (G.sk 36 rfl) (by decide) rfl ?_
          refine lv_iload_n hx hb dX4_cellOfArray_98 rfl (lv_at hl 2 rfl) ?_
          refine lv_iload_n hx hb dX4_cellOfArray_99 rfl (lv_at hl 0 rfl) ?_
          refine lv_aload_n hx hb dX4_cellOfArray_100 rfl (lv_at hl 3 rfl) ?_
          refine xa_getr G fd_X4 (a := 32) (x := 52) 7 rfl (by decide) rfl (wm 2 151 rfl rfl) ⟨rfl, rfl, rfl⟩ dX4_cellOfArray_101 rfl (G.sk 40 rfl) (by decide) rfl ?_
          have e_154 : ofF μ150 53 = ofF μ 53 := ((ofF_fr F_151 (by decide) (by decide)).trans ((ofF_fr F_146 (by decide) (by decide)).trans (ofF_fr F_126 (by decide) (by decide))))
          refine xc_iV G (b := 52) (rest := [.int (iv r_13), .int (iv (r_5 - 1)), .ref (oP ω 33), .ref (oP ω 6)]) (As := []) (c_X2_tongue ω l μ150  hI_152) (wm 5 218 rfl rfl) (wm 5 219 rfl rfl) (wm 5 220 rfl rfl) rfl rfl (by decide) rfl (wm 1 16 rfl rfl) (wm 5 221 rfl rfl) (by decide) hR (by decide) (n := 0) rfl rfl (Nat.le_of_ble_eq_true rfl) hl.1 dX4_cellOfArray_104 (fun r_156 μ155 ρ d0 H locs hr_r_156 hp G => ?_)
          have hr_r_156 : -2147483648 ≤ r_156 ∧ r_156 ≤ 2147483647 := hr_r_156
          obtain ⟨hsm_157, hp_158⟩ := hp
          have hsm_157 := Eq.symm hsm_157
          subst hsm_157
          have e_159 : μ150.1 33 3 = max (S - 1) 0 := hs_153
          refine xc_iV G (b := 6) (rest := []) (As := [.ref (oP ω 33), .int (iv (r_5 - 1)), .int (iv r_13), .int (iv r_156)]) (c_X0_turn ω l μ150 33 (r_5 - 1) r_13 r_156 (by unfold isRow; decide) (by unfold ir; omega) (by unfold ir; omega) (by unfold ir; omega) hI_152) (wm 6 32 rfl rfl) (wm 6 33 rfl rfl) (wm 6 34 rfl rfl) rfl rfl (by decide) rfl (wm 1 7 rfl rfl) (wm 6 35 rfl rfl) (by decide) hR (by decide) (n := 4) rfl rfl (Nat.le_of_ble_eq_true rfl) hl.1 dX4_cellOfArray_107 (fun r_161 μ160 ρ d0 H locs hr_r_161 hp G => ?_)
          have hr_r_161 : -2147483648 ≤ r_161 ∧ r_161 ≤ 2147483647 := hr_r_161
          obtain ⟨F_162, hI_163, hp_164, hp_165, hs_166⟩ := hp
          refine xb_if_ne (tgt := 119) hx hb (by unfold ir; omega) dX4_cellOfArray_110 (by decide) (fun c_110 => ?_) (fun c_110 => ?_)
          · have e_167 : μ160.1 33 3 = max (S - 1) 0 := (hs_166.trans hs_153)
            have e_168 : μ160.1 32 13 = μ124.1 32 13 := ((F_162.1 32 (by decide) 13).trans ((F_151.1 32 (by decide) 13).trans (F_146.1 32 (by decide) 13)))
            have e_169 : μ160.1 33 3 = max (S - 1) 0 := (hs_166.trans hs_153)
            have e_170 : μ160.1 32 13 = μ124.1 32 13 := ((F_162.1 32 (by decide) 13).trans ((F_151.1 32 (by decide) 13).trans (F_146.1 32 (by decide) 13)))
            have e_171 : μ160.1 32 13 = μ124.1 32 13 := ((F_162.1 32 (by decide) 13).trans ((F_151.1 32 (by decide) 13).trans (F_146.1 32 (by decide) 13)))
            have e_172 : μ160.1 32 13 = μ124.1 32 13 := ((F_162.1 32 (by decide) 13).trans ((F_151.1 32 (by decide) 13).trans (F_146.1 32 (by decide) 13)))
            have e_173 : μ160.1 70 2 = μ124.1 70 2 := ((F_162.1 70 (by decide) 2).trans ((F_151.1 70 (by decide) 2).trans (F_146.1 70 (by decide) 2)))
            have e_174 : μ160.1 70 2 = μ124.1 70 2 := ((F_162.1 70 (by decide) 2).trans ((F_151.1 70 (by decide) 2).trans (F_146.1 70 (by decide) 2)))
            have e_175 : μ160.1 70 8 = μ124.1 70 8 := ((F_162.1 70 (by decide) 8).trans ((F_151.1 70 (by decide) 8).trans (F_146.1 70 (by decide) 8)))
            have e_176 : μ160.1 70 8 = μ124.1 70 8 := ((F_162.1 70 (by decide) 8).trans ((F_151.1 70 (by decide) 8).trans (F_146.1 70 (by decide) 8)))
            have e_177 : μ160.1 45 1 = μ.1 45 1 := ((F_162.1 45 (by decide) 1).trans ((F_151.1 45 (by decide) 1).trans ((F_146.1 45 (by decide) 1).trans (F_126.1 45 (by decide) 1))))
            have e_178 : μ160.1 70 2 = μ124.1 70 2 := ((F_162.1 70 (by decide) 2).trans ((F_151.1 70 (by decide) 2).trans (F_146.1 70 (by decide) 2)))
            have e_179 : μ160.1 70 1 = μ.1 70 1 := ((F_162.1 70 (by decide) 1).trans ((F_151.1 70 (by decide) 1).trans ((F_146.1 70 (by decide) 1).trans hs_129)))
            have e_180 : μ160.1 70 3 = μ.1 70 3 := ((F_162.1 70 (by decide) 3).trans ((F_151.1 70 (by decide) 3).trans ((F_146.1 70 (by decide) 3).trans hs_130)))
            have e_181 : μ160.1 70 4 = μ.1 70 4 := ((F_162.1 70 (by decide) 4).trans ((F_151.1 70 (by decide) 4).trans ((F_146.1 70 (by decide) 4).trans hs_131)))
            have e_182 : μ160.1 70 5 = μ.1 70 5 := ((F_162.1 70 (by decide) 5).trans ((F_151.1 70 (by decide) 5).trans ((F_146.1 70 (by decide) 5).trans hs_132)))
            have e_183 : μ160.1 70 6 = μ.1 70 6 := ((F_162.1 70 (by decide) 6).trans ((F_151.1 70 (by decide) 6).trans ((F_146.1 70 (by decide) 6).trans hs_133)))
            have e_184 : μ160.1 70 7 = μ.1 70 7 := ((F_162.1 70 (by decide) 7).trans ((F_151.1 70 (by decide) 7).trans ((F_146.1 70 (by decide) 7).trans hs_134)))
            have e_185 : μ160.1 32 10 = μ.1 32 10 := ((F_162.1 32 (by decide) 10).trans ((F_151.1 32 (by decide) 10).trans ((F_146.1 32 (by decide) 10).trans hs_136)))
            have e_186 : μ160.1 32 11 = μ.1 32 11 := ((F_162.1 32 (by decide) 11).trans ((F_151.1 32 (by decide) 11).trans ((F_146.1 32 (by decide) 11).trans hs_137)))
            have e_187 : μ160.1 32 12 = μ.1 32 12 := ((F_162.1 32 (by decide) 12).trans ((F_151.1 32 (by decide) 12).trans ((F_146.1 32 (by decide) 12).trans hs_138)))
            have e_188 : μ160.1 32 15 = μ.1 32 15 := ((F_162.1 32 (by decide) 15).trans ((F_151.1 32 (by decide) 15).trans ((F_146.1 32 (by decide) 15).trans hs_140)))
            have e_189 : μ160.1 32 16 = μ.1 32 16 := ((F_162.1 32 (by decide) 16).trans ((F_151.1 32 (by decide) 16).trans ((F_146.1 32 (by decide) 16).trans hs_141)))
            have e_190 : μ160.1 45 4 = μ.1 45 4 := ((F_162.1 45 (by decide) 4).trans ((F_151.1 45 (by decide) 4).trans ((F_146.1 45 (by decide) 4).trans (F_126.1 45 (by decide) 4))))
            exact xr_v G hret hlk dX4_cellOfArray_119 ⟨(Fr.tr (Fr.tr (Fr.tr (Fr.tr Fr.rf F_126 (by decide)) F_146 (by decide)) F_151 (by decide)) F_162 (by decide)), hI_163, (by omega), (by omega), (by omega), (by omega), (by omega), (by omega), (by omega), (by omega), (by omega), (by omega), (by omega), (by omega), (by omega), (by omega)⟩
          · refine lv_aload_n hx hb dX4_cellOfArray_113 rfl (lv_at hl 3 rfl) ?_
            refine lv_iconst (v := iv 4) hx hb dX4_cellOfArray_114 rfl ?_
            refine lv_iconst (v := iv 1) hx hb dX4_cellOfArray_115 rfl ?_
            have e_191 : μ160.1 33 3 = max (S - 1) 0 := (hs_166.trans hs_153)
            have e_192 : μ160.1 70 2 = μ124.1 70 2 := ((F_162.1 70 (by decide) 2).trans ((F_151.1 70 (by decide) 2).trans (F_146.1 70 (by decide) 2)))
            have e_193 : μ160.1 70 2 = μ124.1 70 2 := ((F_162.1 70 (by decide) 2).trans ((F_151.1 70 (by decide) 2).trans (F_146.1 70 (by decide) 2)))
            have e_194 : μ160.1 70 8 = μ124.1 70 8 := ((F_162.1 70 (by decide) 8).trans ((F_151.1 70 (by decide) 8).trans (F_146.1 70 (by decide) 8)))
            have e_195 : μ160.1 70 8 = μ124.1 70 8 := ((F_162.1 70 (by decide) 8).trans ((F_151.1 70 (by decide) 8).trans (F_146.1 70 (by decide) 8)))
            have e_196 : μ160.1 45 1 = μ.1 45 1 := ((F_162.1 45 (by decide) 1).trans ((F_151.1 45 (by decide) 1).trans ((F_146.1 45 (by decide) 1).trans (F_126.1 45 (by decide) 1))))
            have e_197 : μ160.1 70 2 = μ124.1 70 2 := ((F_162.1 70 (by decide) 2).trans ((F_151.1 70 (by decide) 2).trans (F_146.1 70 (by decide) 2)))
            have e_198 : μ160.1 32 13 = μ124.1 32 13 := ((F_162.1 32 (by decide) 13).trans ((F_151.1 32 (by decide) 13).trans (F_146.1 32 (by decide) 13)))
            have e_199 : ofF μ160 53 = ofF μ 53 := ((ofF_fr F_162 (by decide) (by decide)).trans ((ofF_fr F_151 (by decide) (by decide)).trans ((ofF_fr F_146 (by decide) (by decide)).trans (ofF_fr F_126 (by decide) (by decide)))))
            have e_200 : μ160.1 70 2 = μ124.1 70 2 := ((F_162.1 70 (by decide) 2).trans ((F_151.1 70 (by decide) 2).trans (F_146.1 70 (by decide) 2)))
            have e_201 : μ160.1 70 1 = μ.1 70 1 := ((F_162.1 70 (by decide) 1).trans ((F_151.1 70 (by decide) 1).trans ((F_146.1 70 (by decide) 1).trans hs_129)))
            have e_202 : μ160.1 70 3 = μ.1 70 3 := ((F_162.1 70 (by decide) 3).trans ((F_151.1 70 (by decide) 3).trans ((F_146.1 70 (by decide) 3).trans hs_130)))
            have e_203 : μ160.1 70 4 = μ.1 70 4 := ((F_162.1 70 (by decide) 4).trans ((F_151.1 70 (by decide) 4).trans ((F_146.1 70 (by decide) 4).trans hs_131)))
            have e_204 : μ160.1 70 5 = μ.1 70 5 := ((F_162.1 70 (by decide) 5).trans ((F_151.1 70 (by decide) 5).trans ((F_146.1 70 (by decide) 5).trans hs_132)))
            have e_205 : μ160.1 70 6 = μ.1 70 6 := ((F_162.1 70 (by decide) 6).trans ((F_151.1 70 (by decide) 6).trans ((F_146.1 70 (by decide) 6).trans hs_133)))
            have e_206 : μ160.1 70 7 = μ.1 70 7 := ((F_162.1 70 (by decide) 7).trans ((F_151.1 70 (by decide) 7).trans ((F_146.1 70 (by decide) 7).trans hs_134)))
            have e_207 : μ160.1 32 10 = μ.1 32 10 := ((F_162.1 32 (by decide) 10).trans ((F_151.1 32 (by decide) 10).trans ((F_146.1 32 (by decide) 10).trans hs_136)))
            have e_208 : μ160.1 32 11 = μ.1 32 11 := ((F_162.1 32 (by decide) 11).trans ((F_151.1 32 (by decide) 11).trans ((F_146.1 32 (by decide) 11).trans hs_137)))
            have e_209 : μ160.1 32 12 = μ.1 32 12 := ((F_162.1 32 (by decide) 12).trans ((F_151.1 32 (by decide) 12).trans ((F_146.1 32 (by decide) 12).trans hs_138)))
            have e_210 : μ160.1 32 15 = μ.1 32 15 := ((F_162.1 32 (by decide) 15).trans ((F_151.1 32 (by decide) 15).trans ((F_146.1 32 (by decide) 15).trans hs_140)))
            have e_211 : μ160.1 32 16 = μ.1 32 16 := ((F_162.1 32 (by decide) 16).trans ((F_151.1 32 (by decide) 16).trans ((F_146.1 32 (by decide) 16).trans hs_141)))
            have hn_212 : 0 ≤ μ.1 45 4 ∧ 2 * μ.1 45 4 ≤ μ.2.1 51 := hI.nm.2.2.2.2.2.2.2.1
            have e_213 : μ160.1 45 4 = μ.1 45 4 := ((F_162.1 45 (by decide) 4).trans ((F_151.1 45 (by decide) 4).trans ((F_146.1 45 (by decide) 4).trans (F_126.1 45 (by decide) 4))))
            refine xc_vV G (b := 32) (rest := []) (As := [.int (iv 4), .int (iv 1)]) (c_X4_fails ω l μ160 4 1 (max (S - 1) 0) (by unfold ir; omega) (by unfold ir; omega) hI_163 (by omega) (by omega) (by omega) (by omega)) (wm 6 93 rfl rfl) (wm 6 95 rfl rfl) (wm 0 82 rfl rfl) rfl rfl (by decide) rfl (wm 1 14 rfl rfl) (wm 6 96 rfl rfl) (by decide) hR (by decide) (n := 2) rfl rfl (Nat.le_of_ble_eq_true rfl) hl.1 dX4_cellOfArray_116 (fun μ214 ρ d0 H locs hp G => ?_)
            obtain ⟨F_215, hI_216, hp_217, hp_218, hs_219, hs_220, hs_221, hs_222, hs_223, hs_224, hs_225, hs_226, hs_227, hs_228, hs_229, hs_230⟩ := hp
            have hk_231 := hI_216.row (r := 33) (by unfold isRow; decide)
            unfold rk at hk_231
            simp only [Int.reduceAdd] at hk_231
            have hn_232 : 0 ≤ μ214.1 45 1 ∧ 9 * μ214.1 45 1 ≤ μ214.2.1 46 := hI_216.nm.2.2.2.2.2.2.1
            have e_233 : μ214.1 70 1 = μ.1 70 1 := (hs_219.trans ((F_162.1 70 (by decide) 1).trans ((F_151.1 70 (by decide) 1).trans ((F_146.1 70 (by decide) 1).trans hs_129))))
            have e_234 : μ214.1 70 3 = μ.1 70 3 := (hs_220.trans ((F_162.1 70 (by decide) 3).trans ((F_151.1 70 (by decide) 3).trans ((F_146.1 70 (by decide) 3).trans hs_130))))
            have e_235 : μ214.1 70 4 = μ.1 70 4 := (hs_221.trans ((F_162.1 70 (by decide) 4).trans ((F_151.1 70 (by decide) 4).trans ((F_146.1 70 (by decide) 4).trans hs_131))))
            have e_236 : μ214.1 70 5 = μ.1 70 5 := (hs_222.trans ((F_162.1 70 (by decide) 5).trans ((F_151.1 70 (by decide) 5).trans ((F_146.1 70 (by decide) 5).trans hs_132))))
            have e_237 : μ214.1 70 6 = μ.1 70 6 := (hs_223.trans ((F_162.1 70 (by decide) 6).trans ((F_151.1 70 (by decide) 6).trans ((F_146.1 70 (by decide) 6).trans hs_133))))
            have e_238 : μ214.1 70 7 = μ.1 70 7 := (hs_224.trans ((F_162.1 70 (by decide) 7).trans ((F_151.1 70 (by decide) 7).trans ((F_146.1 70 (by decide) 7).trans hs_134))))
            have e_239 : μ214.1 32 10 = μ.1 32 10 := (hs_225.trans ((F_162.1 32 (by decide) 10).trans ((F_151.1 32 (by decide) 10).trans ((F_146.1 32 (by decide) 10).trans hs_136))))
            have e_240 : μ214.1 32 11 = μ.1 32 11 := (hs_226.trans ((F_162.1 32 (by decide) 11).trans ((F_151.1 32 (by decide) 11).trans ((F_146.1 32 (by decide) 11).trans hs_137))))
            have e_241 : μ214.1 32 12 = μ.1 32 12 := (hs_227.trans ((F_162.1 32 (by decide) 12).trans ((F_151.1 32 (by decide) 12).trans ((F_146.1 32 (by decide) 12).trans hs_138))))
            have e_242 : μ214.1 32 15 = μ.1 32 15 := (hs_228.trans ((F_162.1 32 (by decide) 15).trans ((F_151.1 32 (by decide) 15).trans ((F_146.1 32 (by decide) 15).trans hs_140))))
            have e_243 : μ214.1 32 16 = μ.1 32 16 := (hs_229.trans ((F_162.1 32 (by decide) 16).trans ((F_151.1 32 (by decide) 16).trans ((F_146.1 32 (by decide) 16).trans hs_141))))
            have e_244 : μ214.1 45 4 = μ.1 45 4 := (hs_230.trans ((F_162.1 45 (by decide) 4).trans ((F_151.1 45 (by decide) 4).trans ((F_146.1 45 (by decide) 4).trans (F_126.1 45 (by decide) 4)))))
            exact xr_v G hret hlk dX4_cellOfArray_119 ⟨(Fr.tr (Fr.tr (Fr.tr (Fr.tr (Fr.tr Fr.rf F_126 (by decide)) F_146 (by decide)) F_151 (by decide)) F_162 (by decide)) F_215 (by decide)), hI_216, (by omega), (by omega), (by omega), (by omega), (by omega), (by omega), (by omega), (by omega), (by omega), (by omega), (by omega), (by omega), (by omega), (by omega)⟩
        · have e_245 : μ124.1 33 3 = S := ((F_126.1 33 (by decide) 3).trans hS.symm)
          have e_246 : μ124.1 33 3 = S := ((F_126.1 33 (by decide) 3).trans hS.symm)
          have e_247 : μ124.1 45 1 = μ.1 45 1 := (F_126.1 45 (by decide) 1)
          have e_248 : μ124.1 70 1 = μ.1 70 1 := hs_129
          have e_249 : μ124.1 70 3 = μ.1 70 3 := hs_130
          have e_250 : μ124.1 70 4 = μ.1 70 4 := hs_131
          have e_251 : μ124.1 70 5 = μ.1 70 5 := hs_132
          have e_252 : μ124.1 70 6 = μ.1 70 6 := hs_133
          have e_253 : μ124.1 70 7 = μ.1 70 7 := hs_134
          have e_254 : μ124.1 32 10 = μ.1 32 10 := hs_136
          have e_255 : μ124.1 32 11 = μ.1 32 11 := hs_137
          have e_256 : μ124.1 32 12 = μ.1 32 12 := hs_138
          have e_257 : μ124.1 32 15 = μ.1 32 15 := hs_140
          have e_258 : μ124.1 32 16 = μ.1 32 16 := hs_141
          have e_259 : μ124.1 45 4 = μ.1 45 4 := (F_126.1 45 (by decide) 4)
          exact xr_v G hret hlk dX4_cellOfArray_61 ⟨(Fr.tr Fr.rf F_126 (by decide)), hI_127, (by omega), (by omega), (by omega), (by omega), (by omega), (by omega), (by omega), (by omega), (by omega), (by omega), (by omega), (by omega), (by omega), (by omega)⟩
    · refine lv_aload_n hx hb dX4_cellOfArray_30 rfl (lv_at hl 2 rfl) ?_
      refine lv_iload_n hx hb dX4_cellOfArray_31 rfl (lv_at hl 0 rfl) ?_
      refine lv_iconst (v := iv 2) hx hb dX4_cellOfArray_32 rfl ?_
      have e_260 : μ.1 33 3 = S := hS.symm
      have hn_261 : 0 ≤ μ.1 45 1 ∧ 9 * μ.1 45 1 ≤ μ.2.1 46 := hI.nm.2.2.2.2.2.2.1
      have hn_262 : 0 ≤ μ.1 45 4 ∧ 2 * μ.1 45 4 ≤ μ.2.1 51 := hI.nm.2.2.2.2.2.2.2.1
      refine xc_vV G (b := 32) (rest := []) (As := [.int (iv r_9), .int (iv 2)]) (c_X4_fails ω l μ r_9 2 S (by unfold ir; omega) (by unfold ir; omega) hI (by omega) (by omega) (by omega) (by omega)) (wm 6 93 rfl rfl) (wm 6 95 rfl rfl) (wm 0 82 rfl rfl) rfl rfl (by decide) rfl (wm 1 14 rfl rfl) (wm 6 96 rfl rfl) (by decide) hR (by decide) (n := 2) rfl rfl (Nat.le_of_ble_eq_true rfl) hl.1 dX4_cellOfArray_33 (fun μ263 ρ d0 H locs hp G => ?_)
      obtain ⟨F_264, hI_265, hp_266, hp_267, hs_268, hs_269, hs_270, hs_271, hs_272, hs_273, hs_274, hs_275, hs_276, hs_277, hs_278, hs_279⟩ := hp
      have hk_280 := hI_265.row (r := 33) (by unfold isRow; decide)
      unfold rk at hk_280
      simp only [Int.reduceAdd] at hk_280
      have hn_281 : 0 ≤ μ263.1 45 1 ∧ 9 * μ263.1 45 1 ≤ μ263.2.1 46 := hI_265.nm.2.2.2.2.2.2.1
      have e_282 : μ263.1 70 1 = μ.1 70 1 := hs_268
      have e_283 : μ263.1 70 3 = μ.1 70 3 := hs_269
      have e_284 : μ263.1 70 4 = μ.1 70 4 := hs_270
      have e_285 : μ263.1 70 5 = μ.1 70 5 := hs_271
      have e_286 : μ263.1 70 6 = μ.1 70 6 := hs_272
      have e_287 : μ263.1 70 7 = μ.1 70 7 := hs_273
      have e_288 : μ263.1 32 10 = μ.1 32 10 := hs_274
      have e_289 : μ263.1 32 11 = μ.1 32 11 := hs_275
      have e_290 : μ263.1 32 12 = μ.1 32 12 := hs_276
      have e_291 : μ263.1 32 15 = μ.1 32 15 := hs_277
      have e_292 : μ263.1 32 16 = μ.1 32 16 := hs_278
      have e_293 : μ263.1 45 4 = μ.1 45 4 := hs_279
      exact xr_v G hret hlk dX4_cellOfArray_36 ⟨(Fr.tr Fr.rf F_264 (by decide)), hI_265, (by omega), (by omega), (by omega), (by omega), (by omega), (by omega), (by omega), (by omega), (by omega), (by omega), (by omega), (by omega), (by omega), (by omega)⟩
  · refine lv_aload_n hx hb dX4_cellOfArray_17 rfl (lv_at hl 2 rfl) ?_
    refine lv_iload_n hx hb dX4_cellOfArray_18 rfl (lv_at hl 1 rfl) ?_
    refine lv_iload_n hx hb dX4_cellOfArray_19 rfl (lv_at hl 1 rfl) ?_
    refine lv_iconst (v := iv 1) hx hb dX4_cellOfArray_20 rfl ?_
    refine xb_iadd hx hb dX4_cellOfArray_21 ?_
    refine xb_ti (y := r_5) (by omega) ?_
    refine xc_iV G (b := 32) (rest := []) (As := [.int (iv (r_5 - 1)), .int (iv r_5)]) (c_X4_whatFailsAsIndex ω l μ (r_5 - 1) r_5 (by unfold ir; omega) (by unfold ir; omega) hI) (wm 6 218 rfl rfl) (wm 6 220 rfl rfl) (wm 0 100 rfl rfl) rfl rfl (by decide) rfl (wm 1 14 rfl rfl) (wm 6 221 rfl rfl) (by decide) hR (by decide) (n := 2) rfl rfl (Nat.le_of_ble_eq_true rfl) hl.1 dX4_cellOfArray_22 (fun r_295 μ294 ρ d0 H locs hr_r_295 hp G => ?_)
    have hr_r_295 : -2147483648 ≤ r_295 ∧ r_295 ≤ 2147483647 := hr_r_295
    obtain ⟨hsm_296, hp_297⟩ := hp
    have hsm_296 := Eq.symm hsm_296
    subst hsm_296
    refine lv_istore_n (lv' := [(2, .int (iv r_295)), (1, .int (iv (r_5 - 1))), (0, .ref (oP ω 32))]) hx hb dX4_cellOfArray_25 rfl hl (by decide) rfl (fun ls hl => ?_)
    refine lv_iload_n hx hb dX4_cellOfArray_26 rfl (lv_at hl 0 rfl) ?_
    refine xb_if_eq (tgt := 37) hx hb (by unfold ir; omega) dX4_cellOfArray_27 (by decide) (fun c_27 => ?_) (fun c_27 => ?_)
    · refine lv_aload_n hx hb dX4_cellOfArray_37 rfl (lv_at hl 2 rfl) ?_
      refine lv_iload_n hx hb dX4_cellOfArray_38 rfl (lv_at hl 1 rfl) ?_
      refine xc_iV G (b := 32) (rest := []) (As := [.int (iv (r_5 - 1))]) (c_X4_tongueOfArray ω l μ (r_5 - 1) (by unfold ir; omega) hI) (wm 6 222 rfl rfl) (wm 6 224 rfl rfl) (wm 0 101 rfl rfl) rfl rfl (by decide) rfl (wm 1 14 rfl rfl) (wm 6 225 rfl rfl) (by decide) hR (by decide) (n := 1) rfl rfl (Nat.le_of_ble_eq_true rfl) hl.1 dX4_cellOfArray_39 (fun r_299 μ298 ρ d0 H locs hr_r_299 hp G => ?_)
      have hr_r_299 : -2147483648 ≤ r_299 ∧ r_299 ≤ 2147483647 := hr_r_299
      have hsm_300 := hp
      have hsm_300 := Eq.symm hsm_300
      subst hsm_300
      refine lv_istore_n (lv' := [(3, .int (iv r_299)), (2, .int (iv r_295)), (1, .int (iv (r_5 - 1))), (0, .ref (oP ω 32))]) hx hb dX4_cellOfArray_42 rfl hl (by decide) rfl (fun ls hl => ?_)
      refine lv_iload_n hx hb dX4_cellOfArray_43 rfl (lv_at hl 0 rfl) ?_
      refine lv_aload_n hx hb dX4_cellOfArray_44 rfl (lv_at hl 3 rfl) ?_
      refine xa_getr G fd_X4 (a := 32) (x := 52) 7 rfl (by decide) rfl (wm 2 151 rfl rfl) ⟨rfl, rfl, rfl⟩ dX4_cellOfArray_45 rfl (G.sk 40 rfl) (by decide) rfl ?_
      refine xc_iV G (b := 52) (rest := [.int (iv r_299)]) (As := []) (c_X2_tongue ω l μ  hI) (wm 5 218 rfl rfl) (wm 5 219 rfl rfl) (wm 5 220 rfl rfl) rfl rfl (by decide) rfl (wm 1 16 rfl rfl) (wm 5 221 rfl rfl) (by decide) hR (by decide) (n := 0) rfl rfl (Nat.le_of_ble_eq_true rfl) hl.1 dX4_cellOfArray_48 (fun r_302 μ301 ρ d0 H locs hr_r_302 hp G => ?_)
      have hr_r_302 : -2147483648 ≤ r_302 ∧ r_302 ≤ 2147483647 := hr_r_302
      obtain ⟨hsm_303, hp_304⟩ := hp
      have hsm_303 := Eq.symm hsm_303
      subst hsm_303
      refine xb_icmp_eq (tgt := 62) hx hb (by unfold ir; omega) (by unfold ir; omega) dX4_cellOfArray_51 (by decide) (fun c_51 => ?_) (fun c_51 => ?_)
      · refine lv_aload_n hx hb dX4_cellOfArray_62 rfl (lv_at hl 3 rfl) ?_
        refine xa_getr G fd_X4 (a := 32) (x := 33) 3 rfl (by decide) rfl (wm 2 147 rfl rfl) ⟨rfl, rfl, rfl⟩ dX4_cellOfArray_63 rfl (G.sk 36 rfl) (by decide) rfl ?_
        refine lv_iload_n hx hb dX4_cellOfArray_66 rfl (lv_at hl 2 rfl) ?_
        refine lv_aload_n hx hb dX4_cellOfArray_67 rfl (lv_at hl 3 rfl) ?_
        refine xa_getr G fd_X4 (a := 32) (x := 37) 4 rfl (by decide) rfl (wm 2 148 rfl rfl) ⟨rfl, rfl, rfl⟩ dX4_cellOfArray_68 rfl (G.sk 37 rfl) (by decide) rfl ?_
        refine lv_aload_n hx hb dX4_cellOfArray_71 rfl (lv_at hl 3 rfl) ?_
        refine lv_iload_n hx hb dX4_cellOfArray_72 rfl (lv_at hl 2 rfl) ?_
        refine lv_iload_n hx hb dX4_cellOfArray_73 rfl (lv_at hl 2 rfl) ?_
        refine lv_iconst (v := iv 1) hx hb dX4_cellOfArray_74 rfl ?_
        refine xb_iadd hx hb dX4_cellOfArray_75 ?_
        refine xb_ti (y := r_5) (by omega) ?_
        refine xc_iV G (b := 32) (rest := [.ref (oP ω 37), .int (iv (r_5 - 1)), .ref (oP ω 33)]) (As := [.int (iv (r_5 - 1)), .int (iv r_5)]) (c_X4_cellAt ω l μ (r_5 - 1) r_5 (by unfold ir; omega) (by unfold ir; omega) hI) (wm 6 226 rfl rfl) (wm 6 228 rfl rfl) (wm 0 102 rfl rfl) rfl rfl (by decide) rfl (wm 1 14 rfl rfl) (wm 6 229 rfl rfl) (by decide) hR (by decide) (n := 2) rfl rfl (Nat.le_of_ble_eq_true rfl) hl.1 dX4_cellOfArray_76 (fun r_306 μ305 ρ d0 H locs hr_r_306 hp G => ?_)
        have hr_r_306 : -2147483648 ≤ r_306 ∧ r_306 ≤ 2147483647 := hr_r_306
        have hsm_307 := hp
        have hsm_307 := Eq.symm hsm_307
        subst hsm_307
        refine xc_vV G (b := 33) (rest := []) (As := [.int (iv (r_5 - 1)), .ref (oP ω 37), .int (iv r_306)]) (c_X9_copy ω l μ 33 (r_5 - 1) 37 r_306 (by unfold isRow; decide) (by unfold ir; omega) (by unfold isRow; decide) (by unfold ir; omega) hI) (wm 6 28 rfl rfl) (wm 6 29 rfl rfl) (wm 6 30 rfl rfl) rfl rfl (by decide) rfl (wm 1 10 rfl rfl) (wm 6 31 rfl rfl) (by decide) hR (by decide) (n := 3) rfl rfl (Nat.le_of_ble_eq_true rfl) hl.1 dX4_cellOfArray_79 (fun μ308 ρ d0 H locs hp G => ?_)
        obtain ⟨F_309, hI_310, hp_311⟩ := hp
        refine lv_aload_n hx hb dX4_cellOfArray_82 rfl (lv_at hl 3 rfl) ?_
        refine xa_getr G fd_X4 (a := 32) (x := 33) 3 rfl (by decide) rfl (wm 2 147 rfl rfl) ⟨rfl, rfl, rfl⟩ dX4_cellOfArray_83 rfl (G.sk 36 rfl) (by decide) rfl ?_
        refine lv_iconst (v := iv 1) hx hb dX4_cellOfArray_86 rfl ?_
        have e_312 : μ308.1 33 3 = S := ((F_309.1 33 (by decide) 3).trans hS.symm)
        refine xc_vV G (b := 33) (rest := []) (As := [.int (iv 1)]) (c_X9_drop ω l μ308 33 1 S (by unfold isRow; decide) (by unfold ir; omega) hI_310 (by omega) (by omega)) (wm 6 89 rfl rfl) (wm 6 90 rfl rfl) (wm 6 91 rfl rfl) rfl rfl (by decide) rfl (wm 1 10 rfl rfl) (wm 6 92 rfl rfl) (by decide) hR (by decide) (n := 1) rfl rfl (Nat.le_of_ble_eq_true rfl) hl.1 dX4_cellOfArray_87 (fun μ313 ρ d0 H locs hp G => ?_)
        obtain ⟨F_314, hI_315, hs_316⟩ := hp
        refine lv_aload_n hx hb dX4_cellOfArray_90 rfl (lv_at hl 3 rfl) ?_
        refine xa_getr G fd_X4 (a := 32) (x := 6) 2 rfl (by decide) rfl (wm 2 146 rfl rfl) ⟨rfl, rfl, rfl⟩ dX4_cellOfArray_91 rfl (G.sk 35 rfl) (by decide) rfl ?_
        refine lv_aload_n hx hb dX4_cellOfArray_94 rfl (lv_at hl 3 rfl) ?_
        refine xa_getr G fd_X4 (a := 32) (x := 33) 3 rfl (by decide) rfl (wm 2 147 rfl rfl) ⟨rfl, rfl, rfl⟩ dX4_cellOfArray_95 rfl (G.sk 36 rfl) (by decide) rfl ?_
        refine lv_iload_n hx hb dX4_cellOfArray_98 rfl (lv_at hl 2 rfl) ?_
        refine lv_iload_n hx hb dX4_cellOfArray_99 rfl (lv_at hl 0 rfl) ?_
        refine lv_aload_n hx hb dX4_cellOfArray_100 rfl (lv_at hl 3 rfl) ?_
        refine xa_getr G fd_X4 (a := 32) (x := 52) 7 rfl (by decide) rfl (wm 2 151 rfl rfl) ⟨rfl, rfl, rfl⟩ dX4_cellOfArray_101 rfl (G.sk 40 rfl) (by decide) rfl ?_
        have e_317 : ofF μ313 53 = ofF μ 53 := ((ofF_fr F_314 (by decide) (by decide)).trans (ofF_fr F_309 (by decide) (by decide)))
        refine xc_iV G (b := 52) (rest := [.int (iv r_299), .int (iv (r_5 - 1)), .ref (oP ω 33), .ref (oP ω 6)]) (As := []) (c_X2_tongue ω l μ313  hI_315) (wm 5 218 rfl rfl) (wm 5 219 rfl rfl) (wm 5 220 rfl rfl) rfl rfl (by decide) rfl (wm 1 16 rfl rfl) (wm 5 221 rfl rfl) (by decide) hR (by decide) (n := 0) rfl rfl (Nat.le_of_ble_eq_true rfl) hl.1 dX4_cellOfArray_104 (fun r_319 μ318 ρ d0 H locs hr_r_319 hp G => ?_)
        have hr_r_319 : -2147483648 ≤ r_319 ∧ r_319 ≤ 2147483647 := hr_r_319
        obtain ⟨hsm_320, hp_321⟩ := hp
        have hsm_320 := Eq.symm hsm_320
        subst hsm_320
        have e_322 : μ313.1 33 3 = max (S - 1) 0 := hs_316
        refine xc_iV G (b := 6) (rest := []) (As := [.ref (oP ω 33), .int (iv (r_5 - 1)), .int (iv r_299), .int (iv r_319)]) (c_X0_turn ω l μ313 33 (r_5 - 1) r_299 r_319 (by unfold isRow; decide) (by unfold ir; omega) (by unfold ir; omega) (by unfold ir; omega) hI_315) (wm 6 32 rfl rfl) (wm 6 33 rfl rfl) (wm 6 34 rfl rfl) rfl rfl (by decide) rfl (wm 1 7 rfl rfl) (wm 6 35 rfl rfl) (by decide) hR (by decide) (n := 4) rfl rfl (Nat.le_of_ble_eq_true rfl) hl.1 dX4_cellOfArray_107 (fun r_324 μ323 ρ d0 H locs hr_r_324 hp G => ?_)
        have hr_r_324 : -2147483648 ≤ r_324 ∧ r_324 ≤ 2147483647 := hr_r_324
        obtain ⟨F_325, hI_326, hp_327, hp_328, hs_329⟩ := hp
        refine xb_if_ne (tgt := 119) hx hb (by unfold ir; omega) dX4_cellOfArray_110 (by decide) (fun c_110 => ?_) (fun c_110 => ?_)
        · have e_330 : μ323.1 33 3 = max (S - 1) 0 := (hs_329.trans hs_316)
          have e_331 : μ323.1 32 13 = μ.1 32 13 := ((F_325.1 32 (by decide) 13).trans ((F_314.1 32 (by decide) 13).trans (F_309.1 32 (by decide) 13)))
          have e_332 : μ323.1 33 3 = max (S - 1) 0 := (hs_329.trans hs_316)
          have e_333 : μ323.1 32 13 = μ.1 32 13 := ((F_325.1 32 (by decide) 13).trans ((F_314.1 32 (by decide) 13).trans (F_309.1 32 (by decide) 13)))
          have e_334 : μ323.1 32 13 = μ.1 32 13 := ((F_325.1 32 (by decide) 13).trans ((F_314.1 32 (by decide) 13).trans (F_309.1 32 (by decide) 13)))
          have e_335 : μ323.1 32 13 = μ.1 32 13 := ((F_325.1 32 (by decide) 13).trans ((F_314.1 32 (by decide) 13).trans (F_309.1 32 (by decide) 13)))
          have e_336 : μ323.1 70 2 = μ.1 70 2 := ((F_325.1 70 (by decide) 2).trans ((F_314.1 70 (by decide) 2).trans (F_309.1 70 (by decide) 2)))
          have e_337 : μ323.1 70 2 = μ.1 70 2 := ((F_325.1 70 (by decide) 2).trans ((F_314.1 70 (by decide) 2).trans (F_309.1 70 (by decide) 2)))
          have e_338 : μ323.1 70 8 = μ.1 70 8 := ((F_325.1 70 (by decide) 8).trans ((F_314.1 70 (by decide) 8).trans (F_309.1 70 (by decide) 8)))
          have e_339 : μ323.1 70 8 = μ.1 70 8 := ((F_325.1 70 (by decide) 8).trans ((F_314.1 70 (by decide) 8).trans (F_309.1 70 (by decide) 8)))
          have e_340 : μ323.1 45 1 = μ.1 45 1 := ((F_325.1 45 (by decide) 1).trans ((F_314.1 45 (by decide) 1).trans (F_309.1 45 (by decide) 1)))
          have e_341 : μ323.1 70 2 = μ.1 70 2 := ((F_325.1 70 (by decide) 2).trans ((F_314.1 70 (by decide) 2).trans (F_309.1 70 (by decide) 2)))
          have e_342 : μ323.1 70 1 = μ.1 70 1 := ((F_325.1 70 (by decide) 1).trans ((F_314.1 70 (by decide) 1).trans (F_309.1 70 (by decide) 1)))
          have e_343 : μ323.1 70 3 = μ.1 70 3 := ((F_325.1 70 (by decide) 3).trans ((F_314.1 70 (by decide) 3).trans (F_309.1 70 (by decide) 3)))
          have e_344 : μ323.1 70 4 = μ.1 70 4 := ((F_325.1 70 (by decide) 4).trans ((F_314.1 70 (by decide) 4).trans (F_309.1 70 (by decide) 4)))
          have e_345 : μ323.1 70 5 = μ.1 70 5 := ((F_325.1 70 (by decide) 5).trans ((F_314.1 70 (by decide) 5).trans (F_309.1 70 (by decide) 5)))
          have e_346 : μ323.1 70 6 = μ.1 70 6 := ((F_325.1 70 (by decide) 6).trans ((F_314.1 70 (by decide) 6).trans (F_309.1 70 (by decide) 6)))
          have e_347 : μ323.1 70 7 = μ.1 70 7 := ((F_325.1 70 (by decide) 7).trans ((F_314.1 70 (by decide) 7).trans (F_309.1 70 (by decide) 7)))
          have e_348 : μ323.1 32 10 = μ.1 32 10 := ((F_325.1 32 (by decide) 10).trans ((F_314.1 32 (by decide) 10).trans (F_309.1 32 (by decide) 10)))
          have e_349 : μ323.1 32 11 = μ.1 32 11 := ((F_325.1 32 (by decide) 11).trans ((F_314.1 32 (by decide) 11).trans (F_309.1 32 (by decide) 11)))
          have e_350 : μ323.1 32 12 = μ.1 32 12 := ((F_325.1 32 (by decide) 12).trans ((F_314.1 32 (by decide) 12).trans (F_309.1 32 (by decide) 12)))
          have e_351 : μ323.1 32 15 = μ.1 32 15 := ((F_325.1 32 (by decide) 15).trans ((F_314.1 32 (by decide) 15).trans (F_309.1 32 (by decide) 15)))
          have e_352 : μ323.1 32 16 = μ.1 32 16 := ((F_325.1 32 (by decide) 16).trans ((F_314.1 32 (by decide) 16).trans (F_309.1 32 (by decide) 16)))
          have e_353 : μ323.1 45 4 = μ.1 45 4 := ((F_325.1 45 (by decide) 4).trans ((F_314.1 45 (by decide) 4).trans (F_309.1 45 (by decide) 4)))
          exact xr_v G hret hlk dX4_cellOfArray_119 ⟨(Fr.tr (Fr.tr (Fr.tr Fr.rf F_309 (by decide)) F_314 (by decide)) F_325 (by decide)), hI_326, (by omega), (by omega), (by omega), (by omega), (by omega), (by omega), (by omega), (by omega), (by omega), (by omega), (by omega), (by omega), (by omega), (by omega)⟩
        · refine lv_aload_n hx hb dX4_cellOfArray_113 rfl (lv_at hl 3 rfl) ?_
          refine lv_iconst (v := iv 4) hx hb dX4_cellOfArray_114 rfl ?_
          refine lv_iconst (v := iv 1) hx hb dX4_cellOfArray_115 rfl ?_
          have e_354 : μ323.1 33 3 = max (S - 1) 0 := (hs_329.trans hs_316)
          have e_355 : μ323.1 70 2 = μ.1 70 2 := ((F_325.1 70 (by decide) 2).trans ((F_314.1 70 (by decide) 2).trans (F_309.1 70 (by decide) 2)))
          have e_356 : μ323.1 70 2 = μ.1 70 2 := ((F_325.1 70 (by decide) 2).trans ((F_314.1 70 (by decide) 2).trans (F_309.1 70 (by decide) 2)))
          have e_357 : μ323.1 70 8 = μ.1 70 8 := ((F_325.1 70 (by decide) 8).trans ((F_314.1 70 (by decide) 8).trans (F_309.1 70 (by decide) 8)))
          have e_358 : μ323.1 70 8 = μ.1 70 8 := ((F_325.1 70 (by decide) 8).trans ((F_314.1 70 (by decide) 8).trans (F_309.1 70 (by decide) 8)))
          have hn_359 : 0 ≤ μ.1 45 1 ∧ 9 * μ.1 45 1 ≤ μ.2.1 46 := hI.nm.2.2.2.2.2.2.1
          have e_360 : μ323.1 45 1 = μ.1 45 1 := ((F_325.1 45 (by decide) 1).trans ((F_314.1 45 (by decide) 1).trans (F_309.1 45 (by decide) 1)))
          have e_361 : μ323.1 70 2 = μ.1 70 2 := ((F_325.1 70 (by decide) 2).trans ((F_314.1 70 (by decide) 2).trans (F_309.1 70 (by decide) 2)))
          have e_362 : μ323.1 32 13 = μ.1 32 13 := ((F_325.1 32 (by decide) 13).trans ((F_314.1 32 (by decide) 13).trans (F_309.1 32 (by decide) 13)))
          have e_363 : ofF μ323 53 = ofF μ 53 := ((ofF_fr F_325 (by decide) (by decide)).trans ((ofF_fr F_314 (by decide) (by decide)).trans (ofF_fr F_309 (by decide) (by decide))))
          have e_364 : μ323.1 70 2 = μ.1 70 2 := ((F_325.1 70 (by decide) 2).trans ((F_314.1 70 (by decide) 2).trans (F_309.1 70 (by decide) 2)))
          have e_365 : μ323.1 70 1 = μ.1 70 1 := ((F_325.1 70 (by decide) 1).trans ((F_314.1 70 (by decide) 1).trans (F_309.1 70 (by decide) 1)))
          have e_366 : μ323.1 70 3 = μ.1 70 3 := ((F_325.1 70 (by decide) 3).trans ((F_314.1 70 (by decide) 3).trans (F_309.1 70 (by decide) 3)))
          have e_367 : μ323.1 70 4 = μ.1 70 4 := ((F_325.1 70 (by decide) 4).trans ((F_314.1 70 (by decide) 4).trans (F_309.1 70 (by decide) 4)))
          have e_368 : μ323.1 70 5 = μ.1 70 5 := ((F_325.1 70 (by decide) 5).trans ((F_314.1 70 (by decide) 5).trans (F_309.1 70 (by decide) 5)))
          have e_369 : μ323.1 70 6 = μ.1 70 6 := ((F_325.1 70 (by decide) 6).trans ((F_314.1 70 (by decide) 6).trans (F_309.1 70 (by decide) 6)))
          have e_370 : μ323.1 70 7 = μ.1 70 7 := ((F_325.1 70 (by decide) 7).trans ((F_314.1 70 (by decide) 7).trans (F_309.1 70 (by decide) 7)))
          have e_371 : μ323.1 32 10 = μ.1 32 10 := ((F_325.1 32 (by decide) 10).trans ((F_314.1 32 (by decide) 10).trans (F_309.1 32 (by decide) 10)))
          have e_372 : μ323.1 32 11 = μ.1 32 11 := ((F_325.1 32 (by decide) 11).trans ((F_314.1 32 (by decide) 11).trans (F_309.1 32 (by decide) 11)))
          have e_373 : μ323.1 32 12 = μ.1 32 12 := ((F_325.1 32 (by decide) 12).trans ((F_314.1 32 (by decide) 12).trans (F_309.1 32 (by decide) 12)))
          have e_374 : μ323.1 32 15 = μ.1 32 15 := ((F_325.1 32 (by decide) 15).trans ((F_314.1 32 (by decide) 15).trans (F_309.1 32 (by decide) 15)))
          have e_375 : μ323.1 32 16 = μ.1 32 16 := ((F_325.1 32 (by decide) 16).trans ((F_314.1 32 (by decide) 16).trans (F_309.1 32 (by decide) 16)))
          have hn_376 : 0 ≤ μ.1 45 4 ∧ 2 * μ.1 45 4 ≤ μ.2.1 51 := hI.nm.2.2.2.2.2.2.2.1
          have e_377 : μ323.1 45 4 = μ.1 45 4 := ((F_325.1 45 (by decide) 4).trans ((F_314.1 45 (by decide) 4).trans (F_309.1 45 (by decide) 4)))
          refine xc_vV G (b := 32) (rest := []) (As := [.int (iv 4), .int (iv 1)]) (c_X4_fails ω l μ323 4 1 (max (S - 1) 0) (by unfold ir; omega) (by unfold ir; omega) hI_326 (by omega) (by omega) (by omega) (by omega)) (wm 6 93 rfl rfl) (wm 6 95 rfl rfl) (wm 0 82 rfl rfl) rfl rfl (by decide) rfl (wm 1 14 rfl rfl) (wm 6 96 rfl rfl) (by decide) hR (by decide) (n := 2) rfl rfl (Nat.le_of_ble_eq_true rfl) hl.1 dX4_cellOfArray_116 (fun μ378 ρ d0 H locs hp G => ?_)
          obtain ⟨F_379, hI_380, hp_381, hp_382, hs_383, hs_384, hs_385, hs_386, hs_387, hs_388, hs_389, hs_390, hs_391, hs_392, hs_393, hs_394⟩ := hp
          have hk_395 := hI_380.row (r := 33) (by unfold isRow; decide)
          unfold rk at hk_395
          simp only [Int.reduceAdd] at hk_395
          have hn_396 : 0 ≤ μ378.1 45 1 ∧ 9 * μ378.1 45 1 ≤ μ378.2.1 46 := hI_380.nm.2.2.2.2.2.2.1
          have e_397 : μ378.1 70 1 = μ.1 70 1 := (hs_383.trans ((F_325.1 70 (by decide) 1).trans ((F_314.1 70 (by decide) 1).trans (F_309.1 70 (by decide) 1))))
          have e_398 : μ378.1 70 3 = μ.1 70 3 := (hs_384.trans ((F_325.1 70 (by decide) 3).trans ((F_314.1 70 (by decide) 3).trans (F_309.1 70 (by decide) 3))))
          have e_399 : μ378.1 70 4 = μ.1 70 4 := (hs_385.trans ((F_325.1 70 (by decide) 4).trans ((F_314.1 70 (by decide) 4).trans (F_309.1 70 (by decide) 4))))
          have e_400 : μ378.1 70 5 = μ.1 70 5 := (hs_386.trans ((F_325.1 70 (by decide) 5).trans ((F_314.1 70 (by decide) 5).trans (F_309.1 70 (by decide) 5))))
          have e_401 : μ378.1 70 6 = μ.1 70 6 := (hs_387.trans ((F_325.1 70 (by decide) 6).trans ((F_314.1 70 (by decide) 6).trans (F_309.1 70 (by decide) 6))))
          have e_402 : μ378.1 70 7 = μ.1 70 7 := (hs_388.trans ((F_325.1 70 (by decide) 7).trans ((F_314.1 70 (by decide) 7).trans (F_309.1 70 (by decide) 7))))
          have e_403 : μ378.1 32 10 = μ.1 32 10 := (hs_389.trans ((F_325.1 32 (by decide) 10).trans ((F_314.1 32 (by decide) 10).trans (F_309.1 32 (by decide) 10))))
          have e_404 : μ378.1 32 11 = μ.1 32 11 := (hs_390.trans ((F_325.1 32 (by decide) 11).trans ((F_314.1 32 (by decide) 11).trans (F_309.1 32 (by decide) 11))))
          have e_405 : μ378.1 32 12 = μ.1 32 12 := (hs_391.trans ((F_325.1 32 (by decide) 12).trans ((F_314.1 32 (by decide) 12).trans (F_309.1 32 (by decide) 12))))
          have e_406 : μ378.1 32 15 = μ.1 32 15 := (hs_392.trans ((F_325.1 32 (by decide) 15).trans ((F_314.1 32 (by decide) 15).trans (F_309.1 32 (by decide) 15))))
          have e_407 : μ378.1 32 16 = μ.1 32 16 := (hs_393.trans ((F_325.1 32 (by decide) 16).trans ((F_314.1 32 (by decide) 16).trans (F_309.1 32 (by decide) 16))))
          have e_408 : μ378.1 45 4 = μ.1 45 4 := (hs_394.trans ((F_325.1 45 (by decide) 4).trans ((F_314.1 45 (by decide) 4).trans (F_309.1 45 (by decide) 4))))
          exact xr_v G hret hlk dX4_cellOfArray_119 ⟨(Fr.tr (Fr.tr (Fr.tr (Fr.tr Fr.rf F_309 (by decide)) F_314 (by decide)) F_325 (by decide)) F_379 (by decide)), hI_380, (by omega), (by omega), (by omega), (by omega), (by omega), (by omega), (by omega), (by omega), (by omega), (by omega), (by omega), (by omega), (by omega), (by omega)⟩
      · refine lv_aload_n hx hb dX4_cellOfArray_54 rfl (lv_at hl 3 rfl) ?_
        have hn_409 : 0 ≤ μ.1 45 1 ∧ 9 * μ.1 45 1 ≤ μ.2.1 46 := hI.nm.2.2.2.2.2.2.1
        refine xc_iV G (b := 32) (rest := []) (As := []) (c_X4_step ω l μ  hI (by omega)) (wm 6 2 rfl rfl) (wm 6 4 rfl rfl) (wm 0 75 rfl rfl) rfl rfl (by decide) rfl (wm 1 14 rfl rfl) (wm 6 5 rfl rfl) (by decide) hR (by decide) (n := 0) rfl rfl (Nat.le_of_ble_eq_true rfl) hl.1 dX4_cellOfArray_55 (fun r_411 μ410 ρ d0 H locs hr_r_411 hp G => ?_)
        have hr_r_411 : -2147483648 ≤ r_411 ∧ r_411 ≤ 2147483647 := hr_r_411
        obtain ⟨F_412, hI_413, hp_414, hs_415, hs_416, hs_417, hs_418, hs_419, hs_420, hs_421, hs_422, hs_423, hs_424, hs_425, hs_426, hs_427⟩ := hp
        refine xb_if_ne (tgt := 62) hx hb (by unfold ir; omega) dX4_cellOfArray_58 (by decide) (fun c_58 => ?_) (fun c_58 => ?_)
        · refine lv_aload_n hx hb dX4_cellOfArray_62 rfl (lv_at hl 3 rfl) ?_
          refine xa_getr G fd_X4 (a := 32) (x := 33) 3 rfl (by decide) rfl (wm 2 147 rfl rfl) ⟨rfl, rfl, rfl⟩ dX4_cellOfArray_63 rfl (G.sk 36 rfl) (by decide) rfl ?_
          refine lv_iload_n hx hb dX4_cellOfArray_66 rfl (lv_at hl 2 rfl) ?_
          refine lv_aload_n hx hb dX4_cellOfArray_67 rfl (lv_at hl 3 rfl) ?_
          refine xa_getr G fd_X4 (a := 32) (x := 37) 4 rfl (by decide) rfl (wm 2 148 rfl rfl) ⟨rfl, rfl, rfl⟩ dX4_cellOfArray_68 rfl (G.sk 37 rfl) (by decide) rfl ?_
          refine lv_aload_n hx hb dX4_cellOfArray_71 rfl (lv_at hl 3 rfl) ?_
          refine lv_iload_n hx hb dX4_cellOfArray_72 rfl (lv_at hl 2 rfl) ?_
          refine lv_iload_n hx hb dX4_cellOfArray_73 rfl (lv_at hl 2 rfl) ?_
          refine lv_iconst (v := iv 1) hx hb dX4_cellOfArray_74 rfl ?_
          refine xb_iadd hx hb dX4_cellOfArray_75 ?_
          refine xb_ti (y := r_5) (by omega) ?_
          refine xc_iV G (b := 32) (rest := [.ref (oP ω 37), .int (iv (r_5 - 1)), .ref (oP ω 33)]) (As := [.int (iv (r_5 - 1)), .int (iv r_5)]) (c_X4_cellAt ω l μ410 (r_5 - 1) r_5 (by unfold ir; omega) (by unfold ir; omega) hI_413) (wm 6 226 rfl rfl) (wm 6 228 rfl rfl) (wm 0 102 rfl rfl) rfl rfl (by decide) rfl (wm 1 14 rfl rfl) (wm 6 229 rfl rfl) (by decide) hR (by decide) (n := 2) rfl rfl (Nat.le_of_ble_eq_true rfl) hl.1 dX4_cellOfArray_76 (fun r_429 μ428 ρ d0 H locs hr_r_429 hp G => ?_)
          have hr_r_429 : -2147483648 ≤ r_429 ∧ r_429 ≤ 2147483647 := hr_r_429
          have hsm_430 := hp
          have hsm_430 := Eq.symm hsm_430
          subst hsm_430
          refine xc_vV G (b := 33) (rest := []) (As := [.int (iv (r_5 - 1)), .ref (oP ω 37), .int (iv r_429)]) (c_X9_copy ω l μ410 33 (r_5 - 1) 37 r_429 (by unfold isRow; decide) (by unfold ir; omega) (by unfold isRow; decide) (by unfold ir; omega) hI_413) (wm 6 28 rfl rfl) (wm 6 29 rfl rfl) (wm 6 30 rfl rfl) rfl rfl (by decide) rfl (wm 1 10 rfl rfl) (wm 6 31 rfl rfl) (by decide) hR (by decide) (n := 3) rfl rfl (Nat.le_of_ble_eq_true rfl) hl.1 dX4_cellOfArray_79 (fun μ431 ρ d0 H locs hp G => ?_)
          obtain ⟨F_432, hI_433, hp_434⟩ := hp
          refine lv_aload_n hx hb dX4_cellOfArray_82 rfl (lv_at hl 3 rfl) ?_
          refine xa_getr G fd_X4 (a := 32) (x := 33) 3 rfl (by decide) rfl (wm 2 147 rfl rfl) ⟨rfl, rfl, rfl⟩ dX4_cellOfArray_83 rfl (G.sk 36 rfl) (by decide) rfl ?_
          refine lv_iconst (v := iv 1) hx hb dX4_cellOfArray_86 rfl ?_
          have e_435 : μ431.1 33 3 = S := ((F_432.1 33 (by decide) 3).trans ((F_412.1 33 (by decide) 3).trans hS.symm))
          refine xc_vV G (b := 33) (rest := []) (As := [.int (iv 1)]) (c_X9_drop ω l μ431 33 1 S (by unfold isRow; decide) (by unfold ir; omega) hI_433 (by omega) (by omega)) (wm 6 89 rfl rfl) (wm 6 90 rfl rfl) (wm 6 91 rfl rfl) rfl rfl (by decide) rfl (wm 1 10 rfl rfl) (wm 6 92 rfl rfl) (by decide) hR (by decide) (n := 1) rfl rfl (Nat.le_of_ble_eq_true rfl) hl.1 dX4_cellOfArray_87 (fun μ436 ρ d0 H locs hp G => ?_)
          obtain ⟨F_437, hI_438, hs_439⟩ := hp
          refine lv_aload_n hx hb dX4_cellOfArray_90 rfl (lv_at hl 3 rfl) ?_
          refine xa_getr G fd_X4 (a := 32) (x := 6) 2 rfl (by decide) rfl (wm 2 146 rfl rfl) ⟨rfl, rfl, rfl⟩ dX4_cellOfArray_91 rfl (G.sk 35 rfl) (by decide) rfl ?_
          refine lv_aload_n hx hb dX4_cellOfArray_94 rfl (lv_at hl 3 rfl) ?_
          refine xa_getr G fd_X4 (a := 32) (x := 33) 3 rfl (by decide) rfl (wm 2 147 rfl rfl) ⟨rfl, rfl, rfl⟩ dX4_cellOfArray_95 rfl (G.sk 36 rfl) (by decide) rfl ?_
          refine lv_iload_n hx hb dX4_cellOfArray_98 rfl (lv_at hl 2 rfl) ?_
          refine lv_iload_n hx hb dX4_cellOfArray_99 rfl (lv_at hl 0 rfl) ?_
          refine lv_aload_n hx hb dX4_cellOfArray_100 rfl (lv_at hl 3 rfl) ?_
          refine xa_getr G fd_X4 (a := 32) (x := 52) 7 rfl (by decide) rfl (wm 2 151 rfl rfl) ⟨rfl, rfl, rfl⟩ dX4_cellOfArray_101 rfl (G.sk 40 rfl) (by decide) rfl ?_
          have e_440 : ofF μ436 53 = ofF μ 53 := ((ofF_fr F_437 (by decide) (by decide)).trans ((ofF_fr F_432 (by decide) (by decide)).trans (ofF_fr F_412 (by decide) (by decide))))
          refine xc_iV G (b := 52) (rest := [.int (iv r_299), .int (iv (r_5 - 1)), .ref (oP ω 33), .ref (oP ω 6)]) (As := []) (c_X2_tongue ω l μ436  hI_438) (wm 5 218 rfl rfl) (wm 5 219 rfl rfl) (wm 5 220 rfl rfl) rfl rfl (by decide) rfl (wm 1 16 rfl rfl) (wm 5 221 rfl rfl) (by decide) hR (by decide) (n := 0) rfl rfl (Nat.le_of_ble_eq_true rfl) hl.1 dX4_cellOfArray_104 (fun r_442 μ441 ρ d0 H locs hr_r_442 hp G => ?_)
          have hr_r_442 : -2147483648 ≤ r_442 ∧ r_442 ≤ 2147483647 := hr_r_442
          obtain ⟨hsm_443, hp_444⟩ := hp
          have hsm_443 := Eq.symm hsm_443
          subst hsm_443
          have e_445 : μ436.1 33 3 = max (S - 1) 0 := hs_439
          refine xc_iV G (b := 6) (rest := []) (As := [.ref (oP ω 33), .int (iv (r_5 - 1)), .int (iv r_299), .int (iv r_442)]) (c_X0_turn ω l μ436 33 (r_5 - 1) r_299 r_442 (by unfold isRow; decide) (by unfold ir; omega) (by unfold ir; omega) (by unfold ir; omega) hI_438) (wm 6 32 rfl rfl) (wm 6 33 rfl rfl) (wm 6 34 rfl rfl) rfl rfl (by decide) rfl (wm 1 7 rfl rfl) (wm 6 35 rfl rfl) (by decide) hR (by decide) (n := 4) rfl rfl (Nat.le_of_ble_eq_true rfl) hl.1 dX4_cellOfArray_107 (fun r_447 μ446 ρ d0 H locs hr_r_447 hp G => ?_)
          have hr_r_447 : -2147483648 ≤ r_447 ∧ r_447 ≤ 2147483647 := hr_r_447
          obtain ⟨F_448, hI_449, hp_450, hp_451, hs_452⟩ := hp
          refine xb_if_ne (tgt := 119) hx hb (by unfold ir; omega) dX4_cellOfArray_110 (by decide) (fun c_110 => ?_) (fun c_110 => ?_)
          · have e_453 : μ446.1 33 3 = max (S - 1) 0 := (hs_452.trans hs_439)
            have e_454 : μ446.1 32 13 = μ410.1 32 13 := ((F_448.1 32 (by decide) 13).trans ((F_437.1 32 (by decide) 13).trans (F_432.1 32 (by decide) 13)))
            have e_455 : μ446.1 33 3 = max (S - 1) 0 := (hs_452.trans hs_439)
            have e_456 : μ446.1 32 13 = μ410.1 32 13 := ((F_448.1 32 (by decide) 13).trans ((F_437.1 32 (by decide) 13).trans (F_432.1 32 (by decide) 13)))
            have e_457 : μ446.1 32 13 = μ410.1 32 13 := ((F_448.1 32 (by decide) 13).trans ((F_437.1 32 (by decide) 13).trans (F_432.1 32 (by decide) 13)))
            have e_458 : μ446.1 32 13 = μ410.1 32 13 := ((F_448.1 32 (by decide) 13).trans ((F_437.1 32 (by decide) 13).trans (F_432.1 32 (by decide) 13)))
            have e_459 : μ446.1 70 2 = μ410.1 70 2 := ((F_448.1 70 (by decide) 2).trans ((F_437.1 70 (by decide) 2).trans (F_432.1 70 (by decide) 2)))
            have e_460 : μ446.1 70 2 = μ410.1 70 2 := ((F_448.1 70 (by decide) 2).trans ((F_437.1 70 (by decide) 2).trans (F_432.1 70 (by decide) 2)))
            have e_461 : μ446.1 70 8 = μ410.1 70 8 := ((F_448.1 70 (by decide) 8).trans ((F_437.1 70 (by decide) 8).trans (F_432.1 70 (by decide) 8)))
            have e_462 : μ446.1 70 8 = μ410.1 70 8 := ((F_448.1 70 (by decide) 8).trans ((F_437.1 70 (by decide) 8).trans (F_432.1 70 (by decide) 8)))
            have e_463 : μ446.1 45 1 = μ.1 45 1 := ((F_448.1 45 (by decide) 1).trans ((F_437.1 45 (by decide) 1).trans ((F_432.1 45 (by decide) 1).trans (F_412.1 45 (by decide) 1))))
            have e_464 : μ446.1 70 2 = μ410.1 70 2 := ((F_448.1 70 (by decide) 2).trans ((F_437.1 70 (by decide) 2).trans (F_432.1 70 (by decide) 2)))
            have e_465 : μ446.1 70 1 = μ.1 70 1 := ((F_448.1 70 (by decide) 1).trans ((F_437.1 70 (by decide) 1).trans ((F_432.1 70 (by decide) 1).trans hs_415)))
            have e_466 : μ446.1 70 3 = μ.1 70 3 := ((F_448.1 70 (by decide) 3).trans ((F_437.1 70 (by decide) 3).trans ((F_432.1 70 (by decide) 3).trans hs_416)))
            have e_467 : μ446.1 70 4 = μ.1 70 4 := ((F_448.1 70 (by decide) 4).trans ((F_437.1 70 (by decide) 4).trans ((F_432.1 70 (by decide) 4).trans hs_417)))
            have e_468 : μ446.1 70 5 = μ.1 70 5 := ((F_448.1 70 (by decide) 5).trans ((F_437.1 70 (by decide) 5).trans ((F_432.1 70 (by decide) 5).trans hs_418)))
            have e_469 : μ446.1 70 6 = μ.1 70 6 := ((F_448.1 70 (by decide) 6).trans ((F_437.1 70 (by decide) 6).trans ((F_432.1 70 (by decide) 6).trans hs_419)))
            have e_470 : μ446.1 70 7 = μ.1 70 7 := ((F_448.1 70 (by decide) 7).trans ((F_437.1 70 (by decide) 7).trans ((F_432.1 70 (by decide) 7).trans hs_420)))
            have e_471 : μ446.1 32 10 = μ.1 32 10 := ((F_448.1 32 (by decide) 10).trans ((F_437.1 32 (by decide) 10).trans ((F_432.1 32 (by decide) 10).trans hs_422)))
            have e_472 : μ446.1 32 11 = μ.1 32 11 := ((F_448.1 32 (by decide) 11).trans ((F_437.1 32 (by decide) 11).trans ((F_432.1 32 (by decide) 11).trans hs_423)))
            have e_473 : μ446.1 32 12 = μ.1 32 12 := ((F_448.1 32 (by decide) 12).trans ((F_437.1 32 (by decide) 12).trans ((F_432.1 32 (by decide) 12).trans hs_424)))
            have e_474 : μ446.1 32 15 = μ.1 32 15 := ((F_448.1 32 (by decide) 15).trans ((F_437.1 32 (by decide) 15).trans ((F_432.1 32 (by decide) 15).trans hs_426)))
            have e_475 : μ446.1 32 16 = μ.1 32 16 := ((F_448.1 32 (by decide) 16).trans ((F_437.1 32 (by decide) 16).trans ((F_432.1 32 (by decide) 16).trans hs_427)))
            have e_476 : μ446.1 45 4 = μ.1 45 4 := ((F_448.1 45 (by decide) 4).trans ((F_437.1 45 (by decide) 4).trans ((F_432.1 45 (by decide) 4).trans (F_412.1 45 (by decide) 4))))
            exact xr_v G hret hlk dX4_cellOfArray_119 ⟨(Fr.tr (Fr.tr (Fr.tr (Fr.tr Fr.rf F_412 (by decide)) F_432 (by decide)) F_437 (by decide)) F_448 (by decide)), hI_449, (by omega), (by omega), (by omega), (by omega), (by omega), (by omega), (by omega), (by omega), (by omega), (by omega), (by omega), (by omega), (by omega), (by omega)⟩
          · refine lv_aload_n hx hb dX4_cellOfArray_113 rfl (lv_at hl 3 rfl) ?_
            refine lv_iconst (v := iv 4) hx hb dX4_cellOfArray_114 rfl ?_
            refine lv_iconst (v := iv 1) hx hb dX4_cellOfArray_115 rfl ?_
            have e_477 : μ446.1 33 3 = max (S - 1) 0 := (hs_452.trans hs_439)
            have e_478 : μ446.1 70 2 = μ410.1 70 2 := ((F_448.1 70 (by decide) 2).trans ((F_437.1 70 (by decide) 2).trans (F_432.1 70 (by decide) 2)))
            have e_479 : μ446.1 70 2 = μ410.1 70 2 := ((F_448.1 70 (by decide) 2).trans ((F_437.1 70 (by decide) 2).trans (F_432.1 70 (by decide) 2)))
            have e_480 : μ446.1 70 8 = μ410.1 70 8 := ((F_448.1 70 (by decide) 8).trans ((F_437.1 70 (by decide) 8).trans (F_432.1 70 (by decide) 8)))
            have e_481 : μ446.1 70 8 = μ410.1 70 8 := ((F_448.1 70 (by decide) 8).trans ((F_437.1 70 (by decide) 8).trans (F_432.1 70 (by decide) 8)))
            have e_482 : μ446.1 45 1 = μ.1 45 1 := ((F_448.1 45 (by decide) 1).trans ((F_437.1 45 (by decide) 1).trans ((F_432.1 45 (by decide) 1).trans (F_412.1 45 (by decide) 1))))
            have e_483 : μ446.1 70 2 = μ410.1 70 2 := ((F_448.1 70 (by decide) 2).trans ((F_437.1 70 (by decide) 2).trans (F_432.1 70 (by decide) 2)))
            have e_484 : μ446.1 32 13 = μ410.1 32 13 := ((F_448.1 32 (by decide) 13).trans ((F_437.1 32 (by decide) 13).trans (F_432.1 32 (by decide) 13)))
            have e_485 : ofF μ446 53 = ofF μ 53 := ((ofF_fr F_448 (by decide) (by decide)).trans ((ofF_fr F_437 (by decide) (by decide)).trans ((ofF_fr F_432 (by decide) (by decide)).trans (ofF_fr F_412 (by decide) (by decide)))))
            have e_486 : μ446.1 70 2 = μ410.1 70 2 := ((F_448.1 70 (by decide) 2).trans ((F_437.1 70 (by decide) 2).trans (F_432.1 70 (by decide) 2)))
            have e_487 : μ446.1 70 1 = μ.1 70 1 := ((F_448.1 70 (by decide) 1).trans ((F_437.1 70 (by decide) 1).trans ((F_432.1 70 (by decide) 1).trans hs_415)))
            have e_488 : μ446.1 70 3 = μ.1 70 3 := ((F_448.1 70 (by decide) 3).trans ((F_437.1 70 (by decide) 3).trans ((F_432.1 70 (by decide) 3).trans hs_416)))
            have e_489 : μ446.1 70 4 = μ.1 70 4 := ((F_448.1 70 (by decide) 4).trans ((F_437.1 70 (by decide) 4).trans ((F_432.1 70 (by decide) 4).trans hs_417)))
            have e_490 : μ446.1 70 5 = μ.1 70 5 := ((F_448.1 70 (by decide) 5).trans ((F_437.1 70 (by decide) 5).trans ((F_432.1 70 (by decide) 5).trans hs_418)))
            have e_491 : μ446.1 70 6 = μ.1 70 6 := ((F_448.1 70 (by decide) 6).trans ((F_437.1 70 (by decide) 6).trans ((F_432.1 70 (by decide) 6).trans hs_419)))
            have e_492 : μ446.1 70 7 = μ.1 70 7 := ((F_448.1 70 (by decide) 7).trans ((F_437.1 70 (by decide) 7).trans ((F_432.1 70 (by decide) 7).trans hs_420)))
            have e_493 : μ446.1 32 10 = μ.1 32 10 := ((F_448.1 32 (by decide) 10).trans ((F_437.1 32 (by decide) 10).trans ((F_432.1 32 (by decide) 10).trans hs_422)))
            have e_494 : μ446.1 32 11 = μ.1 32 11 := ((F_448.1 32 (by decide) 11).trans ((F_437.1 32 (by decide) 11).trans ((F_432.1 32 (by decide) 11).trans hs_423)))
            have e_495 : μ446.1 32 12 = μ.1 32 12 := ((F_448.1 32 (by decide) 12).trans ((F_437.1 32 (by decide) 12).trans ((F_432.1 32 (by decide) 12).trans hs_424)))
            have e_496 : μ446.1 32 15 = μ.1 32 15 := ((F_448.1 32 (by decide) 15).trans ((F_437.1 32 (by decide) 15).trans ((F_432.1 32 (by decide) 15).trans hs_426)))
            have e_497 : μ446.1 32 16 = μ.1 32 16 := ((F_448.1 32 (by decide) 16).trans ((F_437.1 32 (by decide) 16).trans ((F_432.1 32 (by decide) 16).trans hs_427)))
            have hn_498 : 0 ≤ μ.1 45 4 ∧ 2 * μ.1 45 4 ≤ μ.2.1 51 := hI.nm.2.2.2.2.2.2.2.1
            have e_499 : μ446.1 45 4 = μ.1 45 4 := ((F_448.1 45 (by decide) 4).trans ((F_437.1 45 (by decide) 4).trans ((F_432.1 45 (by decide) 4).trans (F_412.1 45 (by decide) 4))))
            refine xc_vV G (b := 32) (rest := []) (As := [.int (iv 4), .int (iv 1)]) (c_X4_fails ω l μ446 4 1 (max (S - 1) 0) (by unfold ir; omega) (by unfold ir; omega) hI_449 (by omega) (by omega) (by omega) (by omega)) (wm 6 93 rfl rfl) (wm 6 95 rfl rfl) (wm 0 82 rfl rfl) rfl rfl (by decide) rfl (wm 1 14 rfl rfl) (wm 6 96 rfl rfl) (by decide) hR (by decide) (n := 2) rfl rfl (Nat.le_of_ble_eq_true rfl) hl.1 dX4_cellOfArray_116 (fun μ500 ρ d0 H locs hp G => ?_)
            obtain ⟨F_501, hI_502, hp_503, hp_504, hs_505, hs_506, hs_507, hs_508, hs_509, hs_510, hs_511, hs_512, hs_513, hs_514, hs_515, hs_516⟩ := hp
            have hk_517 := hI_502.row (r := 33) (by unfold isRow; decide)
            unfold rk at hk_517
            simp only [Int.reduceAdd] at hk_517
            have hn_518 : 0 ≤ μ500.1 45 1 ∧ 9 * μ500.1 45 1 ≤ μ500.2.1 46 := hI_502.nm.2.2.2.2.2.2.1
            have e_519 : μ500.1 70 1 = μ.1 70 1 := (hs_505.trans ((F_448.1 70 (by decide) 1).trans ((F_437.1 70 (by decide) 1).trans ((F_432.1 70 (by decide) 1).trans hs_415))))
            have e_520 : μ500.1 70 3 = μ.1 70 3 := (hs_506.trans ((F_448.1 70 (by decide) 3).trans ((F_437.1 70 (by decide) 3).trans ((F_432.1 70 (by decide) 3).trans hs_416))))
            have e_521 : μ500.1 70 4 = μ.1 70 4 := (hs_507.trans ((F_448.1 70 (by decide) 4).trans ((F_437.1 70 (by decide) 4).trans ((F_432.1 70 (by decide) 4).trans hs_417))))
            have e_522 : μ500.1 70 5 = μ.1 70 5 := (hs_508.trans ((F_448.1 70 (by decide) 5).trans ((F_437.1 70 (by decide) 5).trans ((F_432.1 70 (by decide) 5).trans hs_418))))
            have e_523 : μ500.1 70 6 = μ.1 70 6 := (hs_509.trans ((F_448.1 70 (by decide) 6).trans ((F_437.1 70 (by decide) 6).trans ((F_432.1 70 (by decide) 6).trans hs_419))))
            have e_524 : μ500.1 70 7 = μ.1 70 7 := (hs_510.trans ((F_448.1 70 (by decide) 7).trans ((F_437.1 70 (by decide) 7).trans ((F_432.1 70 (by decide) 7).trans hs_420))))
            have e_525 : μ500.1 32 10 = μ.1 32 10 := (hs_511.trans ((F_448.1 32 (by decide) 10).trans ((F_437.1 32 (by decide) 10).trans ((F_432.1 32 (by decide) 10).trans hs_422))))
            have e_526 : μ500.1 32 11 = μ.1 32 11 := (hs_512.trans ((F_448.1 32 (by decide) 11).trans ((F_437.1 32 (by decide) 11).trans ((F_432.1 32 (by decide) 11).trans hs_423))))
            have e_527 : μ500.1 32 12 = μ.1 32 12 := (hs_513.trans ((F_448.1 32 (by decide) 12).trans ((F_437.1 32 (by decide) 12).trans ((F_432.1 32 (by decide) 12).trans hs_424))))
            have e_528 : μ500.1 32 15 = μ.1 32 15 := (hs_514.trans ((F_448.1 32 (by decide) 15).trans ((F_437.1 32 (by decide) 15).trans ((F_432.1 32 (by decide) 15).trans hs_426))))
            have e_529 : μ500.1 32 16 = μ.1 32 16 := (hs_515.trans ((F_448.1 32 (by decide) 16).trans ((F_437.1 32 (by decide) 16).trans ((F_432.1 32 (by decide) 16).trans hs_427))))
            have e_530 : μ500.1 45 4 = μ.1 45 4 := (hs_516.trans ((F_448.1 45 (by decide) 4).trans ((F_437.1 45 (by decide) 4).trans ((F_432.1 45 (by decide) 4).trans (F_412.1 45 (by decide) 4)))))
            exact xr_v G hret hlk dX4_cellOfArray_119 ⟨(Fr.tr (Fr.tr (Fr.tr (Fr.tr (Fr.tr Fr.rf F_412 (by decide)) F_432 (by decide)) F_437 (by decide)) F_448 (by decide)) F_501 (by decide)), hI_502, (by omega), (by omega), (by omega), (by omega), (by omega), (by omega), (by omega), (by omega), (by omega), (by omega), (by omega), (by omega), (by omega), (by omega)⟩
        · have e_531 : μ410.1 33 3 = S := ((F_412.1 33 (by decide) 3).trans hS.symm)
          have e_532 : μ410.1 33 3 = S := ((F_412.1 33 (by decide) 3).trans hS.symm)
          have e_533 : μ410.1 45 1 = μ.1 45 1 := (F_412.1 45 (by decide) 1)
          have e_534 : μ410.1 70 1 = μ.1 70 1 := hs_415
          have e_535 : μ410.1 70 3 = μ.1 70 3 := hs_416
          have e_536 : μ410.1 70 4 = μ.1 70 4 := hs_417
          have e_537 : μ410.1 70 5 = μ.1 70 5 := hs_418
          have e_538 : μ410.1 70 6 = μ.1 70 6 := hs_419
          have e_539 : μ410.1 70 7 = μ.1 70 7 := hs_420
          have e_540 : μ410.1 32 10 = μ.1 32 10 := hs_422
          have e_541 : μ410.1 32 11 = μ.1 32 11 := hs_423
          have e_542 : μ410.1 32 12 = μ.1 32 12 := hs_424
          have e_543 : μ410.1 32 15 = μ.1 32 15 := hs_426
          have e_544 : μ410.1 32 16 = μ.1 32 16 := hs_427
          have e_545 : μ410.1 45 4 = μ.1 45 4 := (F_412.1 45 (by decide) 4)
          exact xr_v G hret hlk dX4_cellOfArray_61 ⟨(Fr.tr Fr.rf F_412 (by decide)), hI_413, (by omega), (by omega), (by omega), (by omega), (by omega), (by omega), (by omega), (by omega), (by omega), (by omega), (by omega), (by omega), (by omega), (by omega)⟩
    · refine lv_aload_n hx hb dX4_cellOfArray_30 rfl (lv_at hl 2 rfl) ?_
      refine lv_iload_n hx hb dX4_cellOfArray_31 rfl (lv_at hl 0 rfl) ?_
      refine lv_iconst (v := iv 2) hx hb dX4_cellOfArray_32 rfl ?_
      have e_546 : μ.1 33 3 = S := hS.symm
      have hn_547 : 0 ≤ μ.1 45 1 ∧ 9 * μ.1 45 1 ≤ μ.2.1 46 := hI.nm.2.2.2.2.2.2.1
      have hn_548 : 0 ≤ μ.1 45 4 ∧ 2 * μ.1 45 4 ≤ μ.2.1 51 := hI.nm.2.2.2.2.2.2.2.1
      refine xc_vV G (b := 32) (rest := []) (As := [.int (iv r_295), .int (iv 2)]) (c_X4_fails ω l μ r_295 2 S (by unfold ir; omega) (by unfold ir; omega) hI (by omega) (by omega) (by omega) (by omega)) (wm 6 93 rfl rfl) (wm 6 95 rfl rfl) (wm 0 82 rfl rfl) rfl rfl (by decide) rfl (wm 1 14 rfl rfl) (wm 6 96 rfl rfl) (by decide) hR (by decide) (n := 2) rfl rfl (Nat.le_of_ble_eq_true rfl) hl.1 dX4_cellOfArray_33 (fun μ549 ρ d0 H locs hp G => ?_)
      obtain ⟨F_550, hI_551, hp_552, hp_553, hs_554, hs_555, hs_556, hs_557, hs_558, hs_559, hs_560, hs_561, hs_562, hs_563, hs_564, hs_565⟩ := hp
      have hk_566 := hI_551.row (r := 33) (by unfold isRow; decide)
      unfold rk at hk_566
      simp only [Int.reduceAdd] at hk_566
      have hn_567 : 0 ≤ μ549.1 45 1 ∧ 9 * μ549.1 45 1 ≤ μ549.2.1 46 := hI_551.nm.2.2.2.2.2.2.1
      have e_568 : μ549.1 70 1 = μ.1 70 1 := hs_554
      have e_569 : μ549.1 70 3 = μ.1 70 3 := hs_555
      have e_570 : μ549.1 70 4 = μ.1 70 4 := hs_556
      have e_571 : μ549.1 70 5 = μ.1 70 5 := hs_557
      have e_572 : μ549.1 70 6 = μ.1 70 6 := hs_558
      have e_573 : μ549.1 70 7 = μ.1 70 7 := hs_559
      have e_574 : μ549.1 32 10 = μ.1 32 10 := hs_560
      have e_575 : μ549.1 32 11 = μ.1 32 11 := hs_561
      have e_576 : μ549.1 32 12 = μ.1 32 12 := hs_562
      have e_577 : μ549.1 32 15 = μ.1 32 15 := hs_563
      have e_578 : μ549.1 32 16 = μ.1 32 16 := hs_564
      have e_579 : μ549.1 45 4 = μ.1 45 4 := hs_565
      exact xr_v G hret hlk dX4_cellOfArray_36 ⟨(Fr.tr Fr.rf F_550 (by decide)), hI_551, (by omega), (by omega), (by omega), (by omega), (by omega), (by omega), (by omega), (by omega), (by omega), (by omega), (by omega), (by omega), (by omega), (by omega)⟩

set_option maxHeartbeats 4000000 in
set_option maxRecDepth 100000 in
theorem c_X4_putIntoArray (ω : Om) (l : Launch) (μ : M3) (S : Int) (hI : IC μ) (hS : S = μ.1 33 3) (hSb : S < 240099) (hst : 0 ≤ μ.1 70 2 ∧ μ.1 70 2 ≤ 5000 ∧ 0 ≤ μ.1 70 8 ∧ μ.1 70 8 ≤ 80000 ∧ μ.1 45 1 ≤ μ.1 70 2) (h0s : μ.1 32 13 = 0) : CtV ω l yX4_putIntoArray cX4_putIntoArray 4 6 194 [.ref (oP ω 32)] μ (fun (μ' : M3) => (Fr [38, 39, 40, 33, 34, 35, 36, 70, 32, 45, 46, 47, 48, 49, 50] μ μ') ∧ (IC μ') ∧ ((μ'.1 33 3 ≤ max (S - 3) 0 ∧ μ'.1 32 13 = 0) ∨ (μ'.1 33 3 ≤ S + 1 ∧ (μ'.1 32 13 = 1 ∨ μ'.1 32 13 = 3 ∨ μ'.1 32 13 = 4))) ∧ (μ.1 70 2 ≤ μ'.1 70 2 ∧ μ'.1 70 2 ≤ 5000 ∧ 0 ≤ μ'.1 70 8 ∧ μ'.1 70 8 ≤ 80000 ∧ μ'.1 45 1 ≤ μ'.1 70 2) ∧ (μ'.1 70 1 = μ.1 70 1) ∧ (μ'.1 70 3 = μ.1 70 3) ∧ (μ'.1 70 4 = μ.1 70 4) ∧ (μ'.1 70 5 = μ.1 70 5) ∧ (μ'.1 70 6 = μ.1 70 6) ∧ (μ'.1 70 7 = μ.1 70 7) ∧ (μ'.1 32 10 = μ.1 32 10) ∧ (μ'.1 32 11 = μ.1 32 11) ∧ (μ'.1 32 12 = μ.1 32 12) ∧ (μ'.1 32 15 = μ.1 32 15) ∧ (μ'.1 32 16 = μ.1 32 16) ∧ (μ'.1 45 4 = μ.1 45 4)) := by
  refine CtV.go (by decide) (Nat.le_of_ble_eq_true rfl) (fun ρ p e s m below meth c R ls G hR hret hlk hl => ?_)
  have hx := G.1.1
  have hb := G.1.2.1
  have hl : lv_has ls 4 [(0, .ref (oP ω 32))] := hl
  generalize s.drawn = d0 at G ⊢
  have hk_1 := hI.row (r := 33) (by unfold isRow; decide)
  unfold rk at hk_1
  simp only [Int.reduceAdd] at hk_1
  have hbr_33 : BR 33 = 240100 := rfl
  have hk_2 := hI.row (r := 37) (by unfold isRow; decide)
  unfold rk at hk_2
  simp only [Int.reduceAdd] at hk_2
  have hbr_37 : BR 37 = 20410 := rfl
  refine lv_aload_n hx hb dX4_putIntoArray_0 rfl (lv_at hl 0 rfl) ?_
  have e_3 : μ.1 33 3 = S := hS.symm
  refine xc_iV G (b := 32) (rest := []) (As := []) (c_X4_top ω l μ S hI (by omega)) (wm 6 73 rfl rfl) (wm 6 75 rfl rfl) (wm 0 80 rfl rfl) rfl rfl (by decide) rfl (wm 1 14 rfl rfl) (wm 6 76 rfl rfl) (by decide) hR (by decide) (n := 0) rfl rfl (Nat.le_of_ble_eq_true rfl) hl.1 dX4_putIntoArray_1 (fun r_5 μ4 ρ d0 H locs hr_r_5 hp G => ?_)
  have hr_r_5 : -2147483648 ≤ r_5 ∧ r_5 ≤ 2147483647 := hr_r_5
  obtain ⟨hsm_6, hp_7⟩ := hp
  have hsm_6 := Eq.symm hsm_6
  subst hsm_6
  refine lv_iconst (v := iv 2) hx hb dX4_putIntoArray_4 rfl ?_
  refine xb_isub hx hb dX4_putIntoArray_5 ?_
  refine lv_istore_n (lv' := [(1, .int (iv (r_5 - 2))), (0, .ref (oP ω 32))]) hx hb dX4_putIntoArray_6 rfl hl (by decide) rfl (fun ls hl => ?_)
  refine lv_iload_n hx hb dX4_putIntoArray_7 rfl (lv_at hl 0 rfl) ?_
  refine lv_istore_n (lv' := [(2, .int (iv (r_5 - 2))), (1, .int (iv (r_5 - 2))), (0, .ref (oP ω 32))]) hx hb dX4_putIntoArray_8 rfl hl (by decide) rfl (fun ls hl => ?_)
  refine lv_aload_n hx hb dX4_putIntoArray_9 rfl (lv_at hl 2 rfl) ?_
  refine lv_iload_n hx hb dX4_putIntoArray_10 rfl (lv_at hl 1 rfl) ?_
  refine xc_iV G (b := 32) (rest := []) (As := [.int (iv (r_5 - 2))]) (c_X4_whatFailsAsArray ω l μ (r_5 - 2) (by unfold ir; omega) hI) (wm 6 214 rfl rfl) (wm 6 216 rfl rfl) (wm 0 99 rfl rfl) rfl rfl (by decide) rfl (wm 1 14 rfl rfl) (wm 6 217 rfl rfl) (by decide) hR (by decide) (n := 1) rfl rfl (Nat.le_of_ble_eq_true rfl) hl.1 dX4_putIntoArray_11 (fun r_9 μ8 ρ d0 H locs hr_r_9 hp G => ?_)
  have hr_r_9 : -2147483648 ≤ r_9 ∧ r_9 ≤ 2147483647 := hr_r_9
  obtain ⟨hsm_10, hp_11⟩ := hp
  have hsm_10 := Eq.symm hsm_10
  subst hsm_10
  refine lv_istore_n (lv' := [(3, .int (iv r_9)), (2, .int (iv (r_5 - 2))), (1, .int (iv (r_5 - 2))), (0, .ref (oP ω 32))]) hx hb dX4_putIntoArray_14 rfl hl (by decide) rfl (fun ls hl => ?_)
  refine lv_iload_n hx hb dX4_putIntoArray_15 rfl (lv_at hl 0 rfl) ?_
  refine xb_if_ne (tgt := 30) hx hb (by unfold ir; omega) dX4_putIntoArray_16 (by decide) (fun c_16 => ?_) (fun c_16 => ?_)
  · refine lv_iload_n hx hb dX4_putIntoArray_30 rfl (lv_at hl 0 rfl) ?_
    refine xb_if_ne (tgt := 71) hx hb (by unfold ir; omega) dX4_putIntoArray_31 (by decide) (fun c_31 => ?_) (fun c_31 => ?_)
    · refine lv_aload_n hx hb dX4_putIntoArray_71 rfl (lv_at hl 3 rfl) ?_
      refine xa_getr G fd_X4 (a := 32) (x := 33) 3 rfl (by decide) rfl (wm 2 147 rfl rfl) ⟨rfl, rfl, rfl⟩ dX4_putIntoArray_72 rfl (G.sk 36 rfl) (by decide) rfl ?_
      refine lv_iload_n hx hb dX4_putIntoArray_75 rfl (lv_at hl 1 rfl) ?_
      refine xc_iV G (b := 33) (rest := []) (As := [.int (iv (r_5 - 2))]) (c_X9_kind ω l μ 33 (r_5 - 2) (by unfold isRow; decide) (by unfold ir; omega) hI) (wm 6 146 rfl rfl) (wm 5 156 rfl rfl) (wm 5 157 rfl rfl) rfl rfl (by decide) rfl (wm 1 10 rfl rfl) (wm 5 158 rfl rfl) (by decide) hR (by decide) (n := 1) rfl rfl (Nat.le_of_ble_eq_true rfl) hl.1 dX4_putIntoArray_76 (fun r_13 μ12 ρ d0 H locs hr_r_13 hp G => ?_)
      have hr_r_13 : -2147483648 ≤ r_13 ∧ r_13 ≤ 2147483647 := hr_r_13
      have hsm_14 := hp
      have hsm_14 := Eq.symm hsm_14
      subst hsm_14
      refine lv_iconst (v := iv 4) hx hb dX4_putIntoArray_79 rfl ?_
      refine xb_icmp_ne (tgt := 101) hx hb (by unfold ir; omega) (by unfold ir; omega) dX4_putIntoArray_80 (by decide) (fun c_80 => ?_) (fun c_80 => ?_)
      · refine lv_iload_n hx hb dX4_putIntoArray_101 rfl (lv_at hl 0 rfl) ?_
        refine xb_if_eq (tgt := 118) hx hb (by unfold ir; omega) dX4_putIntoArray_102 (by decide) (fun c_102 => ?_) (fun c_102 => ?_)
        · refine lv_aload_n hx hb dX4_putIntoArray_118 rfl (lv_at hl 3 rfl) ?_
          refine xa_getr G fd_X4 (a := 32) (x := 37) 4 rfl (by decide) rfl (wm 2 148 rfl rfl) ⟨rfl, rfl, rfl⟩ dX4_putIntoArray_119 rfl (G.sk 37 rfl) (by decide) rfl ?_
          refine lv_aload_n hx hb dX4_putIntoArray_122 rfl (lv_at hl 3 rfl) ?_
          refine lv_iload_n hx hb dX4_putIntoArray_123 rfl (lv_at hl 2 rfl) ?_
          refine lv_iload_n hx hb dX4_putIntoArray_124 rfl (lv_at hl 2 rfl) ?_
          refine lv_iconst (v := iv 1) hx hb dX4_putIntoArray_125 rfl ?_
          refine xb_iadd hx hb dX4_putIntoArray_126 ?_
          refine xb_ti (y := r_5 - 1) (by omega) ?_
          refine xc_iV G (b := 32) (rest := [.ref (oP ω 37)]) (As := [.int (iv (r_5 - 2)), .int (iv (r_5 - 1))]) (c_X4_cellAt ω l μ (r_5 - 2) (r_5 - 1) (by unfold ir; omega) (by unfold ir; omega) hI) (wm 6 226 rfl rfl) (wm 6 228 rfl rfl) (wm 0 102 rfl rfl) rfl rfl (by decide) rfl (wm 1 14 rfl rfl) (wm 6 229 rfl rfl) (by decide) hR (by decide) (n := 2) rfl rfl (Nat.le_of_ble_eq_true rfl) hl.1 dX4_putIntoArray_127 (fun r_16 μ15 ρ d0 H locs hr_r_16 hp G => ?_)
          have hr_r_16 : -2147483648 ≤ r_16 ∧ r_16 ≤ 2147483647 := hr_r_16
          have hsm_17 := hp
          have hsm_17 := Eq.symm hsm_17
          subst hsm_17
          refine lv_aload_n hx hb dX4_putIntoArray_130 rfl (lv_at hl 3 rfl) ?_
          refine xa_getr G fd_X4 (a := 32) (x := 33) 3 rfl (by decide) rfl (wm 2 147 rfl rfl) ⟨rfl, rfl, rfl⟩ dX4_putIntoArray_131 rfl (G.sk 36 rfl) (by decide) rfl ?_
          refine lv_iload_n hx hb dX4_putIntoArray_134 rfl (lv_at hl 1 rfl) ?_
          refine xc_vV G (b := 37) (rest := []) (As := [.int (iv r_16), .ref (oP ω 33), .int (iv (r_5 - 2))]) (c_X9_copy ω l μ 37 r_16 33 (r_5 - 2) (by unfold isRow; decide) (by unfold ir; omega) (by unfold isRow; decide) (by unfold ir; omega) hI) (wm 6 28 rfl rfl) (wm 6 29 rfl rfl) (wm 6 30 rfl rfl) rfl rfl (by decide) rfl (wm 1 10 rfl rfl) (wm 6 31 rfl rfl) (by decide) hR (by decide) (n := 3) rfl rfl (Nat.le_of_ble_eq_true rfl) hl.1 dX4_putIntoArray_135 (fun μ18 ρ d0 H locs hp G => ?_)
          obtain ⟨F_19, hI_20, hp_21⟩ := hp
          refine lv_aload_n hx hb dX4_putIntoArray_138 rfl (lv_at hl 3 rfl) ?_
          refine xa_getr G fd_X4 (a := 32) (x := 33) 3 rfl (by decide) rfl (wm 2 147 rfl rfl) ⟨rfl, rfl, rfl⟩ dX4_putIntoArray_139 rfl (G.sk 36 rfl) (by decide) rfl ?_
          refine lv_iconst (v := iv 3) hx hb dX4_putIntoArray_142 rfl ?_
          have e_22 : μ18.1 33 3 = S := ((F_19.1 33 (by decide) 3).trans hS.symm)
          refine xc_vV G (b := 33) (rest := []) (As := [.int (iv 3)]) (c_X9_drop ω l μ18 33 3 S (by unfold isRow; decide) (by unfold ir; omega) hI_20 (by omega) (by omega)) (wm 6 89 rfl rfl) (wm 6 90 rfl rfl) (wm 6 91 rfl rfl) rfl rfl (by decide) rfl (wm 1 10 rfl rfl) (wm 6 92 rfl rfl) (by decide) hR (by decide) (n := 1) rfl rfl (Nat.le_of_ble_eq_true rfl) hl.1 dX4_putIntoArray_143 (fun μ23 ρ d0 H locs hp G => ?_)
          obtain ⟨F_24, hI_25, hs_26⟩ := hp
          have e_27 : μ23.1 33 3 = max (S - 3) 0 := hs_26
          have e_28 : μ23.1 32 13 = μ.1 32 13 := ((F_24.1 32 (by decide) 13).trans (F_19.1 32 (by decide) 13))
          have e_29 : μ23.1 33 3 = max (S - 3) 0 := hs_26
          have e_30 : μ23.1 32 13 = μ.1 32 13 := ((F_24.1 32 (by decide) 13).trans (F_19.1 32 (by decide) 13))
          have e_31 : μ23.1 32 13 = μ.1 32 13 := ((F_24.1 32 (by decide) 13).trans (F_19.1 32 (by decide) 13))
          have e_32 : μ23.1 32 13 = μ.1 32 13 := ((F_24.1 32 (by decide) 13).trans (F_19.1 32 (by decide) 13))
          have e_33 : μ23.1 70 2 = μ.1 70 2 := ((F_24.1 70 (by decide) 2).trans (F_19.1 70 (by decide) 2))
          have e_34 : μ23.1 70 2 = μ.1 70 2 := ((F_24.1 70 (by decide) 2).trans (F_19.1 70 (by decide) 2))
          have e_35 : μ23.1 70 8 = μ.1 70 8 := ((F_24.1 70 (by decide) 8).trans (F_19.1 70 (by decide) 8))
          have e_36 : μ23.1 70 8 = μ.1 70 8 := ((F_24.1 70 (by decide) 8).trans (F_19.1 70 (by decide) 8))
          have e_37 : μ23.1 45 1 = μ.1 45 1 := ((F_24.1 45 (by decide) 1).trans (F_19.1 45 (by decide) 1))
          have e_38 : μ23.1 70 2 = μ.1 70 2 := ((F_24.1 70 (by decide) 2).trans (F_19.1 70 (by decide) 2))
          have e_39 : μ23.1 70 1 = μ.1 70 1 := ((F_24.1 70 (by decide) 1).trans (F_19.1 70 (by decide) 1))
          have e_40 : μ23.1 70 3 = μ.1 70 3 := ((F_24.1 70 (by decide) 3).trans (F_19.1 70 (by decide) 3))
          have e_41 : μ23.1 70 4 = μ.1 70 4 := ((F_24.1 70 (by decide) 4).trans (F_19.1 70 (by decide) 4))
          have e_42 : μ23.1 70 5 = μ.1 70 5 := ((F_24.1 70 (by decide) 5).trans (F_19.1 70 (by decide) 5))
          have e_43 : μ23.1 70 6 = μ.1 70 6 := ((F_24.1 70 (by decide) 6).trans (F_19.1 70 (by decide) 6))
          have e_44 : μ23.1 70 7 = μ.1 70 7 := ((F_24.1 70 (by decide) 7).trans (F_19.1 70 (by decide) 7))
          have e_45 : μ23.1 32 10 = μ.1 32 10 := ((F_24.1 32 (by decide) 10).trans (F_19.1 32 (by decide) 10))
          have e_46 : μ23.1 32 11 = μ.1 32 11 := ((F_24.1 32 (by decide) 11).trans (F_19.1 32 (by decide) 11))
          have e_47 : μ23.1 32 12 = μ.1 32 12 := ((F_24.1 32 (by decide) 12).trans (F_19.1 32 (by decide) 12))
          have e_48 : μ23.1 32 15 = μ.1 32 15 := ((F_24.1 32 (by decide) 15).trans (F_19.1 32 (by decide) 15))
          have e_49 : μ23.1 32 16 = μ.1 32 16 := ((F_24.1 32 (by decide) 16).trans (F_19.1 32 (by decide) 16))
          have e_50 : μ23.1 45 4 = μ.1 45 4 := ((F_24.1 45 (by decide) 4).trans (F_19.1 45 (by decide) 4))
          exact xr_v G hret hlk dX4_putIntoArray_146 ⟨(Fr.tr (Fr.tr Fr.rf F_19 (by decide)) F_24 (by decide)), hI_25, (by omega), (by omega), (by omega), (by omega), (by omega), (by omega), (by omega), (by omega), (by omega), (by omega), (by omega), (by omega), (by omega), (by omega)⟩
        · refine lv_aload_n hx hb dX4_putIntoArray_105 rfl (lv_at hl 3 rfl) ?_
          refine lv_iload_n hx hb dX4_putIntoArray_106 rfl (lv_at hl 0 rfl) ?_
          refine lv_iconst (v := iv 3) hx hb dX4_putIntoArray_107 rfl ?_
          have e_51 : μ.1 33 3 = S := hS.symm
          have hn_52 : 0 ≤ μ.1 45 1 ∧ 9 * μ.1 45 1 ≤ μ.2.1 46 := hI.nm.2.2.2.2.2.2.1
          have hn_53 : 0 ≤ μ.1 45 4 ∧ 2 * μ.1 45 4 ≤ μ.2.1 51 := hI.nm.2.2.2.2.2.2.2.1
          refine xc_vV G (b := 32) (rest := []) (As := [.int (iv r_9), .int (iv 3)]) (c_X4_fails ω l μ r_9 3 S (by unfold ir; omega) (by unfold ir; omega) hI (by omega) (by omega) (by omega) (by omega)) (wm 6 93 rfl rfl) (wm 6 95 rfl rfl) (wm 0 82 rfl rfl) rfl rfl (by decide) rfl (wm 1 14 rfl rfl) (wm 6 96 rfl rfl) (by decide) hR (by decide) (n := 2) rfl rfl (Nat.le_of_ble_eq_true rfl) hl.1 dX4_putIntoArray_108 (fun μ54 ρ d0 H locs hp G => ?_)
          obtain ⟨F_55, hI_56, hp_57, hp_58, hs_59, hs_60, hs_61, hs_62, hs_63, hs_64, hs_65, hs_66, hs_67, hs_68, hs_69, hs_70⟩ := hp
          have hk_71 := hI_56.row (r := 33) (by unfold isRow; decide)
          unfold rk at hk_71
          simp only [Int.reduceAdd] at hk_71
          have hn_72 : 0 ≤ μ54.1 45 1 ∧ 9 * μ54.1 45 1 ≤ μ54.2.1 46 := hI_56.nm.2.2.2.2.2.2.1
          refine lv_aload_n hx hb dX4_putIntoArray_111 rfl (lv_at hl 3 rfl) ?_
          have e_73 : μ54.1 32 10 = μ.1 32 10 := hs_65
          have e_74 : μ54.1 32 11 = μ.1 32 11 := hs_66
          have e_75 : μ54.1 32 12 = μ.1 32 12 := hs_67
          have e_76 : μ54.1 32 15 = μ.1 32 15 := hs_68
          have e_77 : μ54.1 32 16 = μ.1 32 16 := hs_69
          refine xc_vV G (b := 32) (rest := []) (As := []) (c_X4_leaveIfGoing ω l μ54  hI_56) (wm 6 234 rfl rfl) (wm 6 236 rfl rfl) (wm 0 104 rfl rfl) rfl rfl (by decide) rfl (wm 1 14 rfl rfl) (wm 6 237 rfl rfl) (by decide) hR (by decide) (n := 0) rfl rfl (Nat.le_of_ble_eq_true rfl) hl.1 dX4_putIntoArray_112 (fun μ78 ρ d0 H locs hp G => ?_)
          obtain ⟨F_79, hI_80, hp_81, hs_82, hs_83, hs_84, hs_85, hs_86, hs_87⟩ := hp
          refine lv_goto (tgt := 146) hx hb dX4_putIntoArray_115 (by decide) ?_
          have e_88 : μ78.1 33 3 = μ54.1 33 3 := (F_79.1 33 (by decide) 3)
          have e_89 : μ78.1 33 3 = μ54.1 33 3 := (F_79.1 33 (by decide) 3)
          have e_90 : μ78.1 70 2 = μ54.1 70 2 := (F_79.1 70 (by decide) 2)
          have e_91 : μ78.1 70 2 = μ54.1 70 2 := (F_79.1 70 (by decide) 2)
          have e_92 : μ78.1 70 8 = μ54.1 70 8 := (F_79.1 70 (by decide) 8)
          have e_93 : μ78.1 70 8 = μ54.1 70 8 := (F_79.1 70 (by decide) 8)
          have e_94 : μ78.1 45 1 = μ54.1 45 1 := (F_79.1 45 (by decide) 1)
          have e_95 : μ78.1 70 2 = μ54.1 70 2 := (F_79.1 70 (by decide) 2)
          have e_96 : μ78.1 70 1 = μ.1 70 1 := ((F_79.1 70 (by decide) 1).trans hs_59)
          have e_97 : μ78.1 70 3 = μ.1 70 3 := ((F_79.1 70 (by decide) 3).trans hs_60)
          have e_98 : μ78.1 70 4 = μ.1 70 4 := ((F_79.1 70 (by decide) 4).trans hs_61)
          have e_99 : μ78.1 70 5 = μ.1 70 5 := ((F_79.1 70 (by decide) 5).trans hs_62)
          have e_100 : μ78.1 70 6 = μ.1 70 6 := ((F_79.1 70 (by decide) 6).trans hs_63)
          have e_101 : μ78.1 70 7 = μ.1 70 7 := ((F_79.1 70 (by decide) 7).trans hs_64)
          have e_102 : μ78.1 32 10 = μ.1 32 10 := (hs_82.trans hs_65)
          have e_103 : μ78.1 32 11 = μ.1 32 11 := (hs_83.trans hs_66)
          have e_104 : μ78.1 32 12 = μ.1 32 12 := (hs_84.trans hs_67)
          have e_105 : μ78.1 32 15 = μ.1 32 15 := (hs_86.trans hs_68)
          have e_106 : μ78.1 32 16 = μ.1 32 16 := (hs_87.trans hs_69)
          have e_107 : μ78.1 45 4 = μ.1 45 4 := ((F_79.1 45 (by decide) 4).trans hs_70)
          exact xr_v G hret hlk dX4_putIntoArray_146 ⟨(Fr.tr (Fr.tr Fr.rf F_55 (by decide)) F_79 (by decide)), hI_80, (by omega), (by omega), (by omega), (by omega), (by omega), (by omega), (by omega), (by omega), (by omega), (by omega), (by omega), (by omega), (by omega), (by omega)⟩
      · refine lv_aload_n hx hb dX4_putIntoArray_83 rfl (lv_at hl 3 rfl) ?_
        refine xa_getr G fd_X4 (a := 32) (x := 33) 3 rfl (by decide) rfl (wm 2 147 rfl rfl) ⟨rfl, rfl, rfl⟩ dX4_putIntoArray_84 rfl (G.sk 36 rfl) (by decide) rfl ?_
        refine lv_iload_n hx hb dX4_putIntoArray_87 rfl (lv_at hl 1 rfl) ?_
        refine lv_iconst (v := iv 1) hx hb dX4_putIntoArray_88 rfl ?_
        refine xb_iadd hx hb dX4_putIntoArray_89 ?_
        refine xb_ti (y := r_5 - 1) (by omega) ?_
        refine xc_vV G (b := 33) (rest := []) (As := [.int (iv (r_5 - 1))]) (c_X9_resize ω l μ 33 (r_5 - 1) (by unfold isRow; decide) (by unfold ir; omega) hI (by omega)) (wm 5 55 rfl rfl) (wm 3 15 rfl rfl) (wm 3 16 rfl rfl) rfl rfl (by decide) rfl (wm 1 10 rfl rfl) (wm 3 17 rfl rfl) (by decide) hR (by decide) (n := 1) rfl rfl (Nat.le_of_ble_eq_true rfl) hl.1 dX4_putIntoArray_90 (fun μ108 ρ d0 H locs hp G => ?_)
        obtain ⟨F_109, hI_110, hs_111⟩ := hp
        refine lv_aload_n hx hb dX4_putIntoArray_93 rfl (lv_at hl 3 rfl) ?_
        refine lv_iconst (v := iv 3) hx hb dX4_putIntoArray_94 rfl ?_
        refine xa_puti G fd_X4 (a := 32) (x := 3) 13 (kz := 13) rfl rfl (by decide) rfl (by unfold ir; omega) (wm 2 157 rfl rfl) ⟨rfl, rfl, rfl, rfl⟩ rfl dX4_putIntoArray_95 rfl (fun H locs G => ?_)
        refine lv_goto (tgt := 146) hx hb dX4_putIntoArray_98 (by decide) ?_
        have hI_112 : IC (sv μ108 32 13 3) := (IC.put hI_110 (by decide +kernel))
        have e_113 : (sv μ108 32 13 3).1 33 3 = max (r_5 - 1) 0 := ((sv_n _ (fun h9 => absurd h9.1 (by decide))).trans hs_111)
        have e_114 : (sv μ108 32 13 3).1 32 13 = 3 := (sv_s _ _ _ _)
        have e_115 : (sv μ108 32 13 3).1 33 3 = max (r_5 - 1) 0 := ((sv_n _ (fun h9 => absurd h9.1 (by decide))).trans hs_111)
        have e_116 : (sv μ108 32 13 3).1 32 13 = 3 := (sv_s _ _ _ _)
        have e_117 : (sv μ108 32 13 3).1 32 13 = 3 := (sv_s _ _ _ _)
        have e_118 : (sv μ108 32 13 3).1 32 13 = 3 := (sv_s _ _ _ _)
        have e_119 : (sv μ108 32 13 3).1 70 2 = μ.1 70 2 := ((sv_n _ (fun h9 => absurd h9.1 (by decide))).trans (F_109.1 70 (by decide) 2))
        have e_120 : (sv μ108 32 13 3).1 70 2 = μ.1 70 2 := ((sv_n _ (fun h9 => absurd h9.1 (by decide))).trans (F_109.1 70 (by decide) 2))
        have e_121 : (sv μ108 32 13 3).1 70 8 = μ.1 70 8 := ((sv_n _ (fun h9 => absurd h9.1 (by decide))).trans (F_109.1 70 (by decide) 8))
        have e_122 : (sv μ108 32 13 3).1 70 8 = μ.1 70 8 := ((sv_n _ (fun h9 => absurd h9.1 (by decide))).trans (F_109.1 70 (by decide) 8))
        have e_123 : (sv μ108 32 13 3).1 45 1 = μ.1 45 1 := ((sv_n _ (fun h9 => absurd h9.1 (by decide))).trans (F_109.1 45 (by decide) 1))
        have e_124 : (sv μ108 32 13 3).1 70 2 = μ.1 70 2 := ((sv_n _ (fun h9 => absurd h9.1 (by decide))).trans (F_109.1 70 (by decide) 2))
        have e_125 : (sv μ108 32 13 3).1 70 1 = μ.1 70 1 := ((sv_n _ (fun h9 => absurd h9.1 (by decide))).trans (F_109.1 70 (by decide) 1))
        have e_126 : (sv μ108 32 13 3).1 70 3 = μ.1 70 3 := ((sv_n _ (fun h9 => absurd h9.1 (by decide))).trans (F_109.1 70 (by decide) 3))
        have e_127 : (sv μ108 32 13 3).1 70 4 = μ.1 70 4 := ((sv_n _ (fun h9 => absurd h9.1 (by decide))).trans (F_109.1 70 (by decide) 4))
        have e_128 : (sv μ108 32 13 3).1 70 5 = μ.1 70 5 := ((sv_n _ (fun h9 => absurd h9.1 (by decide))).trans (F_109.1 70 (by decide) 5))
        have e_129 : (sv μ108 32 13 3).1 70 6 = μ.1 70 6 := ((sv_n _ (fun h9 => absurd h9.1 (by decide))).trans (F_109.1 70 (by decide) 6))
        have e_130 : (sv μ108 32 13 3).1 70 7 = μ.1 70 7 := ((sv_n _ (fun h9 => absurd h9.1 (by decide))).trans (F_109.1 70 (by decide) 7))
        have e_131 : (sv μ108 32 13 3).1 32 10 = μ.1 32 10 := ((sv_n _ (by decide)).trans (F_109.1 32 (by decide) 10))
        have e_132 : (sv μ108 32 13 3).1 32 11 = μ.1 32 11 := ((sv_n _ (by decide)).trans (F_109.1 32 (by decide) 11))
        have e_133 : (sv μ108 32 13 3).1 32 12 = μ.1 32 12 := ((sv_n _ (by decide)).trans (F_109.1 32 (by decide) 12))
        have e_134 : (sv μ108 32 13 3).1 32 15 = μ.1 32 15 := ((sv_n _ (by decide)).trans (F_109.1 32 (by decide) 15))
        have e_135 : (sv μ108 32 13 3).1 32 16 = μ.1 32 16 := ((sv_n _ (by decide)).trans (F_109.1 32 (by decide) 16))
        have e_136 : (sv μ108 32 13 3).1 45 4 = μ.1 45 4 := ((sv_n _ (fun h9 => absurd h9.1 (by decide))).trans (F_109.1 45 (by decide) 4))
        exact xr_v G hret hlk dX4_putIntoArray_146 ⟨(Fr.put (Fr.tr Fr.rf F_109 (by decide)) (by decide)), hI_112, (by omega), (by omega), (by omega), (by omega), (by omega), (by omega), (by omega), (by omega), (by omega), (by omega), (by omega), (by omega), (by omega), (by omega)⟩
    · refine lv_iload_n hx hb dX4_putIntoArray_34 rfl (lv_at hl 2 rfl) ?_
      refine lv_iconst (v := iv 2) hx hb dX4_putIntoArray_35 rfl ?_
      refine xb_iadd hx hb dX4_putIntoArray_36 ?_
      refine xb_ti (y := r_5) (by omega) ?_
      refine lv_istore_n (lv' := [(2, .int (iv r_5)), (3, .int (iv r_9)), (1, .int (iv (r_5 - 2))), (0, .ref (oP ω 32))]) hx hb dX4_putIntoArray_37 rfl hl (by decide) rfl (fun ls hl => ?_)
      refine lv_aload_n hx hb dX4_putIntoArray_38 rfl (lv_at hl 3 rfl) ?_
      refine xa_getr G fd_X4 (a := 32) (x := 6) 2 rfl (by decide) rfl (wm 2 146 rfl rfl) ⟨rfl, rfl, rfl⟩ dX4_putIntoArray_39 rfl (G.sk 35 rfl) (by decide) rfl ?_
      refine lv_aload_n hx hb dX4_putIntoArray_42 rfl (lv_at hl 3 rfl) ?_
      refine xa_getr G fd_X4 (a := 32) (x := 33) 3 rfl (by decide) rfl (wm 2 147 rfl rfl) ⟨rfl, rfl, rfl⟩ dX4_putIntoArray_43 rfl (G.sk 36 rfl) (by decide) rfl ?_
      refine lv_iload_n hx hb dX4_putIntoArray_46 rfl (lv_at hl 0 rfl) ?_
      refine lv_aload_n hx hb dX4_putIntoArray_47 rfl (lv_at hl 3 rfl) ?_
      refine xa_getr G fd_X4 (a := 32) (x := 52) 7 rfl (by decide) rfl (wm 2 151 rfl rfl) ⟨rfl, rfl, rfl⟩ dX4_putIntoArray_48 rfl (G.sk 40 rfl) (by decide) rfl ?_
      refine xc_iV G (b := 52) (rest := [.int (iv r_5), .ref (oP ω 33), .ref (oP ω 6)]) (As := []) (c_X2_tongue ω l μ  hI) (wm 5 218 rfl rfl) (wm 5 219 rfl rfl) (wm 5 220 rfl rfl) rfl rfl (by decide) rfl (wm 1 16 rfl rfl) (wm 5 221 rfl rfl) (by decide) hR (by decide) (n := 0) rfl rfl (Nat.le_of_ble_eq_true rfl) hl.1 dX4_putIntoArray_51 (fun r_138 μ137 ρ d0 H locs hr_r_138 hp G => ?_)
      have hr_r_138 : -2147483648 ≤ r_138 ∧ r_138 ≤ 2147483647 := hr_r_138
      obtain ⟨hsm_139, hp_140⟩ := hp
      have hsm_139 := Eq.symm hsm_139
      subst hsm_139
      refine lv_aload_n hx hb dX4_putIntoArray_54 rfl (lv_at hl 3 rfl) ?_
      refine lv_iload_n hx hb dX4_putIntoArray_55 rfl (lv_at hl 2 rfl) ?_
      refine xc_iV G (b := 32) (rest := [.int (iv r_138), .int (iv r_5), .ref (oP ω 33), .ref (oP ω 6)]) (As := [.int (iv (r_5 - 2))]) (c_X4_tongueOfArray ω l μ (r_5 - 2) (by unfold ir; omega) hI) (wm 6 222 rfl rfl) (wm 6 224 rfl rfl) (wm 0 101 rfl rfl) rfl rfl (by decide) rfl (wm 1 14 rfl rfl) (wm 6 225 rfl rfl) (by decide) hR (by decide) (n := 1) rfl rfl (Nat.le_of_ble_eq_true rfl) hl.1 dX4_putIntoArray_56 (fun r_142 μ141 ρ d0 H locs hr_r_142 hp G => ?_)
      have hr_r_142 : -2147483648 ≤ r_142 ∧ r_142 ≤ 2147483647 := hr_r_142
      have hsm_143 := hp
      have hsm_143 := Eq.symm hsm_143
      subst hsm_143
      have e_144 : μ.1 33 3 = S := hS.symm
      refine xc_iV G (b := 6) (rest := []) (As := [.ref (oP ω 33), .int (iv r_5), .int (iv r_138), .int (iv r_142)]) (c_X0_turn ω l μ 33 r_5 r_138 r_142 (by unfold isRow; decide) (by unfold ir; omega) (by unfold ir; omega) (by unfold ir; omega) hI) (wm 6 32 rfl rfl) (wm 6 33 rfl rfl) (wm 6 34 rfl rfl) rfl rfl (by decide) rfl (wm 1 7 rfl rfl) (wm 6 35 rfl rfl) (by decide) hR (by decide) (n := 4) rfl rfl (Nat.le_of_ble_eq_true rfl) hl.1 dX4_putIntoArray_59 (fun r_146 μ145 ρ d0 H locs hr_r_146 hp G => ?_)
      have hr_r_146 : -2147483648 ≤ r_146 ∧ r_146 ≤ 2147483647 := hr_r_146
      obtain ⟨F_147, hI_148, hp_149, hp_150, hs_151⟩ := hp
      refine xb_if_eq (tgt := 69) hx hb (by unfold ir; omega) dX4_putIntoArray_62 (by decide) (fun c_62 => ?_) (fun c_62 => ?_)
      · refine lv_iconst (v := iv 4) hx hb dX4_putIntoArray_69 rfl ?_
        refine lv_istore_n (lv' := [(3, .int (iv 4)), (2, .int (iv r_5)), (1, .int (iv (r_5 - 2))), (0, .ref (oP ω 32))]) hx hb dX4_putIntoArray_70 rfl hl (by decide) rfl (fun ls hl => ?_)
        refine lv_aload_n hx hb dX4_putIntoArray_71 rfl (lv_at hl 3 rfl) ?_
        refine xa_getr G fd_X4 (a := 32) (x := 33) 3 rfl (by decide) rfl (wm 2 147 rfl rfl) ⟨rfl, rfl, rfl⟩ dX4_putIntoArray_72 rfl (G.sk 36 rfl) (by decide) rfl ?_
        refine lv_iload_n hx hb dX4_putIntoArray_75 rfl (lv_at hl 1 rfl) ?_
        refine xc_iV G (b := 33) (rest := []) (As := [.int (iv r_5)]) (c_X9_kind ω l μ145 33 r_5 (by unfold isRow; decide) (by unfold ir; omega) hI_148) (wm 6 146 rfl rfl) (wm 5 156 rfl rfl) (wm 5 157 rfl rfl) rfl rfl (by decide) rfl (wm 1 10 rfl rfl) (wm 5 158 rfl rfl) (by decide) hR (by decide) (n := 1) rfl rfl (Nat.le_of_ble_eq_true rfl) hl.1 dX4_putIntoArray_76 (fun r_153 μ152 ρ d0 H locs hr_r_153 hp G => ?_)
        have hr_r_153 : -2147483648 ≤ r_153 ∧ r_153 ≤ 2147483647 := hr_r_153
        have hsm_154 := hp
        have hsm_154 := Eq.symm hsm_154
        subst hsm_154
        refine lv_iconst (v := iv 4) hx hb dX4_putIntoArray_79 rfl ?_
        refine xb_icmp_ne (tgt := 101) hx hb (by unfold ir; omega) (by unfold ir; omega) dX4_putIntoArray_80 (by decide) (fun c_80 => ?_) (fun c_80 => ?_)
        · refine lv_iload_n hx hb dX4_putIntoArray_101 rfl (lv_at hl 0 rfl) ?_
          refine xb_if_eq (tgt := 118) hx hb (x := 4) (by unfold ir; omega) dX4_putIntoArray_102 (by decide) (fun c_102 => absurd c_102 (by decide)) (fun c_102 => ?_)
          refine lv_aload_n hx hb dX4_putIntoArray_105 rfl (lv_at hl 3 rfl) ?_
          refine lv_iload_n hx hb dX4_putIntoArray_106 rfl (lv_at hl 0 rfl) ?_
          refine lv_iconst (v := iv 3) hx hb dX4_putIntoArray_107 rfl ?_
          have e_155 : μ145.1 33 3 = S := (hs_151.trans hS.symm)
          have e_156 : μ145.1 70 2 = μ.1 70 2 := (F_147.1 70 (by decide) 2)
          have e_157 : μ145.1 70 2 = μ.1 70 2 := (F_147.1 70 (by decide) 2)
          have e_158 : μ145.1 70 8 = μ.1 70 8 := (F_147.1 70 (by decide) 8)
          have e_159 : μ145.1 70 8 = μ.1 70 8 := (F_147.1 70 (by decide) 8)
          have hn_160 : 0 ≤ μ.1 45 1 ∧ 9 * μ.1 45 1 ≤ μ.2.1 46 := hI.nm.2.2.2.2.2.2.1
          have e_161 : μ145.1 45 1 = μ.1 45 1 := (F_147.1 45 (by decide) 1)
          have e_162 : μ145.1 70 2 = μ.1 70 2 := (F_147.1 70 (by decide) 2)
          have e_163 : μ145.1 32 13 = μ.1 32 13 := (F_147.1 32 (by decide) 13)
          have e_164 : ofF μ145 53 = ofF μ 53 := (ofF_fr F_147 (by decide) (by decide))
          have e_165 : μ145.1 70 2 = μ.1 70 2 := (F_147.1 70 (by decide) 2)
          have e_166 : μ145.1 70 1 = μ.1 70 1 := (F_147.1 70 (by decide) 1)
          have e_167 : μ145.1 70 3 = μ.1 70 3 := (F_147.1 70 (by decide) 3)
          have e_168 : μ145.1 70 4 = μ.1 70 4 := (F_147.1 70 (by decide) 4)
          have e_169 : μ145.1 70 5 = μ.1 70 5 := (F_147.1 70 (by decide) 5)
          have e_170 : μ145.1 70 6 = μ.1 70 6 := (F_147.1 70 (by decide) 6)
          have e_171 : μ145.1 70 7 = μ.1 70 7 := (F_147.1 70 (by decide) 7)
          have e_172 : μ145.1 32 10 = μ.1 32 10 := (F_147.1 32 (by decide) 10)
          have e_173 : μ145.1 32 11 = μ.1 32 11 := (F_147.1 32 (by decide) 11)
          have e_174 : μ145.1 32 12 = μ.1 32 12 := (F_147.1 32 (by decide) 12)
          have e_175 : μ145.1 32 15 = μ.1 32 15 := (F_147.1 32 (by decide) 15)
          have e_176 : μ145.1 32 16 = μ.1 32 16 := (F_147.1 32 (by decide) 16)
          have hn_177 : 0 ≤ μ.1 45 4 ∧ 2 * μ.1 45 4 ≤ μ.2.1 51 := hI.nm.2.2.2.2.2.2.2.1
          have e_178 : μ145.1 45 4 = μ.1 45 4 := (F_147.1 45 (by decide) 4)
          refine xc_vV G (b := 32) (rest := []) (As := [.int (iv 4), .int (iv 3)]) (c_X4_fails ω l μ145 4 3 S (by unfold ir; omega) (by unfold ir; omega) hI_148 (by omega) (by omega) (by omega) (by omega)) (wm 6 93 rfl rfl) (wm 6 95 rfl rfl) (wm 0 82 rfl rfl) rfl rfl (by decide) rfl (wm 1 14 rfl rfl) (wm 6 96 rfl rfl) (by decide) hR (by decide) (n := 2) rfl rfl (Nat.le_of_ble_eq_true rfl) hl.1 dX4_putIntoArray_108 (fun μ179 ρ d0 H locs hp G => ?_)
          obtain ⟨F_180, hI_181, hp_182, hp_183, hs_184, hs_185, hs_186, hs_187, hs_188, hs_189, hs_190, hs_191, hs_192, hs_193, hs_194, hs_195⟩ := hp
          have hk_196 := hI_181.row (r := 33) (by unfold isRow; decide)
          unfold rk at hk_196
          simp only [Int.reduceAdd] at hk_196
          have hn_197 : 0 ≤ μ179.1 45 1 ∧ 9 * μ179.1 45 1 ≤ μ179.2.1 46 := hI_181.nm.2.2.2.2.2.2.1
          refine lv_aload_n hx hb dX4_putIntoArray_111 rfl (lv_at hl 3 rfl) ?_
          have e_198 : μ179.1 32 10 = μ.1 32 10 := (hs_190.trans (F_147.1 32 (by decide) 10))
          have e_199 : μ179.1 32 11 = μ.1 32 11 := (hs_191.trans (F_147.1 32 (by decide) 11))
          have e_200 : μ179.1 32 12 = μ.1 32 12 := (hs_192.trans (F_147.1 32 (by decide) 12))
          have e_201 : μ179.1 32 15 = μ.1 32 15 := (hs_193.trans (F_147.1 32 (by decide) 15))
          have e_202 : μ179.1 32 16 = μ.1 32 16 := (hs_194.trans (F_147.1 32 (by decide) 16))
          refine xc_vV G (b := 32) (rest := []) (As := []) (c_X4_leaveIfGoing ω l μ179  hI_181) (wm 6 234 rfl rfl) (wm 6 236 rfl rfl) (wm 0 104 rfl rfl) rfl rfl (by decide) rfl (wm 1 14 rfl rfl) (wm 6 237 rfl rfl) (by decide) hR (by decide) (n := 0) rfl rfl (Nat.le_of_ble_eq_true rfl) hl.1 dX4_putIntoArray_112 (fun μ203 ρ d0 H locs hp G => ?_)
          obtain ⟨F_204, hI_205, hp_206, hs_207, hs_208, hs_209, hs_210, hs_211, hs_212⟩ := hp
          refine lv_goto (tgt := 146) hx hb dX4_putIntoArray_115 (by decide) ?_
          have e_213 : μ203.1 33 3 = μ179.1 33 3 := (F_204.1 33 (by decide) 3)
          have e_214 : μ203.1 33 3 = μ179.1 33 3 := (F_204.1 33 (by decide) 3)
          have e_215 : μ203.1 70 2 = μ179.1 70 2 := (F_204.1 70 (by decide) 2)
          have e_216 : μ203.1 70 2 = μ179.1 70 2 := (F_204.1 70 (by decide) 2)
          have e_217 : μ203.1 70 8 = μ179.1 70 8 := (F_204.1 70 (by decide) 8)
          have e_218 : μ203.1 70 8 = μ179.1 70 8 := (F_204.1 70 (by decide) 8)
          have e_219 : μ203.1 45 1 = μ179.1 45 1 := (F_204.1 45 (by decide) 1)
          have e_220 : μ203.1 70 2 = μ179.1 70 2 := (F_204.1 70 (by decide) 2)
          have e_221 : μ203.1 70 1 = μ.1 70 1 := ((F_204.1 70 (by decide) 1).trans (hs_184.trans (F_147.1 70 (by decide) 1)))
          have e_222 : μ203.1 70 3 = μ.1 70 3 := ((F_204.1 70 (by decide) 3).trans (hs_185.trans (F_147.1 70 (by decide) 3)))
          have e_223 : μ203.1 70 4 = μ.1 70 4 := ((F_204.1 70 (by decide) 4).trans (hs_186.trans (F_147.1 70 (by decide) 4)))
          have e_224 : μ203.1 70 5 = μ.1 70 5 := ((F_204.1 70 (by decide) 5).trans (hs_187.trans (F_147.1 70 (by decide) 5)))
          have e_225 : μ203.1 70 6 = μ.1 70 6 := ((F_204.1 70 (by decide) 6).trans (hs_188.trans (F_147.1 70 (by decide) 6)))
          have e_226 : μ203.1 70 7 = μ.1 70 7 := ((F_204.1 70 (by decide) 7).trans (hs_189.trans (F_147.1 70 (by decide) 7)))
          have e_227 : μ203.1 32 10 = μ.1 32 10 := (hs_207.trans (hs_190.trans (F_147.1 32 (by decide) 10)))
          have e_228 : μ203.1 32 11 = μ.1 32 11 := (hs_208.trans (hs_191.trans (F_147.1 32 (by decide) 11)))
          have e_229 : μ203.1 32 12 = μ.1 32 12 := (hs_209.trans (hs_192.trans (F_147.1 32 (by decide) 12)))
          have e_230 : μ203.1 32 15 = μ.1 32 15 := (hs_211.trans (hs_193.trans (F_147.1 32 (by decide) 15)))
          have e_231 : μ203.1 32 16 = μ.1 32 16 := (hs_212.trans (hs_194.trans (F_147.1 32 (by decide) 16)))
          have e_232 : μ203.1 45 4 = μ.1 45 4 := ((F_204.1 45 (by decide) 4).trans (hs_195.trans (F_147.1 45 (by decide) 4)))
          exact xr_v G hret hlk dX4_putIntoArray_146 ⟨(Fr.tr (Fr.tr (Fr.tr Fr.rf F_147 (by decide)) F_180 (by decide)) F_204 (by decide)), hI_205, (by omega), (by omega), (by omega), (by omega), (by omega), (by omega), (by omega), (by omega), (by omega), (by omega), (by omega), (by omega), (by omega), (by omega)⟩
        · refine lv_aload_n hx hb dX4_putIntoArray_83 rfl (lv_at hl 3 rfl) ?_
          refine xa_getr G fd_X4 (a := 32) (x := 33) 3 rfl (by decide) rfl (wm 2 147 rfl rfl) ⟨rfl, rfl, rfl⟩ dX4_putIntoArray_84 rfl (G.sk 36 rfl) (by decide) rfl ?_
          refine lv_iload_n hx hb dX4_putIntoArray_87 rfl (lv_at hl 1 rfl) ?_
          refine lv_iconst (v := iv 1) hx hb dX4_putIntoArray_88 rfl ?_
          refine xb_iadd hx hb dX4_putIntoArray_89 ?_
          refine xc_vV G (b := 33) (rest := []) (As := [.int (iv (r_5 + 1))]) (c_X9_resize ω l μ145 33 (r_5 + 1) (by unfold isRow; decide) (by unfold ir; omega) hI_148 (by omega)) (wm 5 55 rfl rfl) (wm 3 15 rfl rfl) (wm 3 16 rfl rfl) rfl rfl (by decide) rfl (wm 1 10 rfl rfl) (wm 3 17 rfl rfl) (by decide) hR (by decide) (n := 1) rfl rfl (Nat.le_of_ble_eq_true rfl) hl.1 dX4_putIntoArray_90 (fun μ233 ρ d0 H locs hp G => ?_)
          obtain ⟨F_234, hI_235, hs_236⟩ := hp
          refine lv_aload_n hx hb dX4_putIntoArray_93 rfl (lv_at hl 3 rfl) ?_
          refine lv_iconst (v := iv 3) hx hb dX4_putIntoArray_94 rfl ?_
          refine xa_puti G fd_X4 (a := 32) (x := 3) 13 (kz := 13) rfl rfl (by decide) rfl (by unfold ir; omega) (wm 2 157 rfl rfl) ⟨rfl, rfl, rfl, rfl⟩ rfl dX4_putIntoArray_95 rfl (fun H locs G => ?_)
          refine lv_goto (tgt := 146) hx hb dX4_putIntoArray_98 (by decide) ?_
          have hI_237 : IC (sv μ233 32 13 3) := (IC.put hI_235 (by decide +kernel))
          have e_238 : (sv μ233 32 13 3).1 33 3 = max (r_5 + 1) 0 := ((sv_n _ (fun h9 => absurd h9.1 (by decide))).trans hs_236)
          have e_239 : (sv μ233 32 13 3).1 32 13 = 3 := (sv_s _ _ _ _)
          have e_240 : (sv μ233 32 13 3).1 33 3 = max (r_5 + 1) 0 := ((sv_n _ (fun h9 => absurd h9.1 (by decide))).trans hs_236)
          have e_241 : (sv μ233 32 13 3).1 32 13 = 3 := (sv_s _ _ _ _)
          have e_242 : (sv μ233 32 13 3).1 32 13 = 3 := (sv_s _ _ _ _)
          have e_243 : (sv μ233 32 13 3).1 32 13 = 3 := (sv_s _ _ _ _)
          have e_244 : (sv μ233 32 13 3).1 70 2 = μ.1 70 2 := ((sv_n _ (fun h9 => absurd h9.1 (by decide))).trans ((F_234.1 70 (by decide) 2).trans (F_147.1 70 (by decide) 2)))
          have e_245 : (sv μ233 32 13 3).1 70 2 = μ.1 70 2 := ((sv_n _ (fun h9 => absurd h9.1 (by decide))).trans ((F_234.1 70 (by decide) 2).trans (F_147.1 70 (by decide) 2)))
          have e_246 : (sv μ233 32 13 3).1 70 8 = μ.1 70 8 := ((sv_n _ (fun h9 => absurd h9.1 (by decide))).trans ((F_234.1 70 (by decide) 8).trans (F_147.1 70 (by decide) 8)))
          have e_247 : (sv μ233 32 13 3).1 70 8 = μ.1 70 8 := ((sv_n _ (fun h9 => absurd h9.1 (by decide))).trans ((F_234.1 70 (by decide) 8).trans (F_147.1 70 (by decide) 8)))
          have e_248 : (sv μ233 32 13 3).1 45 1 = μ.1 45 1 := ((sv_n _ (fun h9 => absurd h9.1 (by decide))).trans ((F_234.1 45 (by decide) 1).trans (F_147.1 45 (by decide) 1)))
          have e_249 : (sv μ233 32 13 3).1 70 2 = μ.1 70 2 := ((sv_n _ (fun h9 => absurd h9.1 (by decide))).trans ((F_234.1 70 (by decide) 2).trans (F_147.1 70 (by decide) 2)))
          have e_250 : (sv μ233 32 13 3).1 70 1 = μ.1 70 1 := ((sv_n _ (fun h9 => absurd h9.1 (by decide))).trans ((F_234.1 70 (by decide) 1).trans (F_147.1 70 (by decide) 1)))
          have e_251 : (sv μ233 32 13 3).1 70 3 = μ.1 70 3 := ((sv_n _ (fun h9 => absurd h9.1 (by decide))).trans ((F_234.1 70 (by decide) 3).trans (F_147.1 70 (by decide) 3)))
          have e_252 : (sv μ233 32 13 3).1 70 4 = μ.1 70 4 := ((sv_n _ (fun h9 => absurd h9.1 (by decide))).trans ((F_234.1 70 (by decide) 4).trans (F_147.1 70 (by decide) 4)))
          have e_253 : (sv μ233 32 13 3).1 70 5 = μ.1 70 5 := ((sv_n _ (fun h9 => absurd h9.1 (by decide))).trans ((F_234.1 70 (by decide) 5).trans (F_147.1 70 (by decide) 5)))
          have e_254 : (sv μ233 32 13 3).1 70 6 = μ.1 70 6 := ((sv_n _ (fun h9 => absurd h9.1 (by decide))).trans ((F_234.1 70 (by decide) 6).trans (F_147.1 70 (by decide) 6)))
          have e_255 : (sv μ233 32 13 3).1 70 7 = μ.1 70 7 := ((sv_n _ (fun h9 => absurd h9.1 (by decide))).trans ((F_234.1 70 (by decide) 7).trans (F_147.1 70 (by decide) 7)))
          have e_256 : (sv μ233 32 13 3).1 32 10 = μ.1 32 10 := ((sv_n _ (by decide)).trans ((F_234.1 32 (by decide) 10).trans (F_147.1 32 (by decide) 10)))
          have e_257 : (sv μ233 32 13 3).1 32 11 = μ.1 32 11 := ((sv_n _ (by decide)).trans ((F_234.1 32 (by decide) 11).trans (F_147.1 32 (by decide) 11)))
          have e_258 : (sv μ233 32 13 3).1 32 12 = μ.1 32 12 := ((sv_n _ (by decide)).trans ((F_234.1 32 (by decide) 12).trans (F_147.1 32 (by decide) 12)))
          have e_259 : (sv μ233 32 13 3).1 32 15 = μ.1 32 15 := ((sv_n _ (by decide)).trans ((F_234.1 32 (by decide) 15).trans (F_147.1 32 (by decide) 15)))
          have e_260 : (sv μ233 32 13 3).1 32 16 = μ.1 32 16 := ((sv_n _ (by decide)).trans ((F_234.1 32 (by decide) 16).trans (F_147.1 32 (by decide) 16)))
          have e_261 : (sv μ233 32 13 3).1 45 4 = μ.1 45 4 := ((sv_n _ (fun h9 => absurd h9.1 (by decide))).trans ((F_234.1 45 (by decide) 4).trans (F_147.1 45 (by decide) 4)))
          exact xr_v G hret hlk dX4_putIntoArray_146 ⟨(Fr.put (Fr.tr (Fr.tr Fr.rf F_147 (by decide)) F_234 (by decide)) (by decide)), hI_237, (by omega), (by omega), (by omega), (by omega), (by omega), (by omega), (by omega), (by omega), (by omega), (by omega), (by omega), (by omega), (by omega), (by omega)⟩
      · refine lv_iconst (v := iv 0) hx hb dX4_putIntoArray_65 rfl ?_
        refine lv_goto (tgt := 70) hx hb dX4_putIntoArray_66 (by decide) ?_
        refine lv_istore_n (lv' := [(3, .int (iv 0)), (2, .int (iv r_5)), (1, .int (iv (r_5 - 2))), (0, .ref (oP ω 32))]) hx hb dX4_putIntoArray_70 rfl hl (by decide) rfl (fun ls hl => ?_)
        refine lv_aload_n hx hb dX4_putIntoArray_71 rfl (lv_at hl 3 rfl) ?_
        refine xa_getr G fd_X4 (a := 32) (x := 33) 3 rfl (by decide) rfl (wm 2 147 rfl rfl) ⟨rfl, rfl, rfl⟩ dX4_putIntoArray_72 rfl (G.sk 36 rfl) (by decide) rfl ?_
        refine lv_iload_n hx hb dX4_putIntoArray_75 rfl (lv_at hl 1 rfl) ?_
        refine xc_iV G (b := 33) (rest := []) (As := [.int (iv r_5)]) (c_X9_kind ω l μ145 33 r_5 (by unfold isRow; decide) (by unfold ir; omega) hI_148) (wm 6 146 rfl rfl) (wm 5 156 rfl rfl) (wm 5 157 rfl rfl) rfl rfl (by decide) rfl (wm 1 10 rfl rfl) (wm 5 158 rfl rfl) (by decide) hR (by decide) (n := 1) rfl rfl (Nat.le_of_ble_eq_true rfl) hl.1 dX4_putIntoArray_76 (fun r_263 μ262 ρ d0 H locs hr_r_263 hp G => ?_)
        have hr_r_263 : -2147483648 ≤ r_263 ∧ r_263 ≤ 2147483647 := hr_r_263
        have hsm_264 := hp
        have hsm_264 := Eq.symm hsm_264
        subst hsm_264
        refine lv_iconst (v := iv 4) hx hb dX4_putIntoArray_79 rfl ?_
        refine xb_icmp_ne (tgt := 101) hx hb (by unfold ir; omega) (by unfold ir; omega) dX4_putIntoArray_80 (by decide) (fun c_80 => ?_) (fun c_80 => ?_)
        · refine lv_iload_n hx hb dX4_putIntoArray_101 rfl (lv_at hl 0 rfl) ?_
          refine xb_if_eq (tgt := 118) hx hb (x := 0) (by unfold ir; omega) dX4_putIntoArray_102 (by decide) (fun c_102 => ?_) (fun c_102 => absurd (by decide) c_102)
          refine lv_aload_n hx hb dX4_putIntoArray_118 rfl (lv_at hl 3 rfl) ?_
          refine xa_getr G fd_X4 (a := 32) (x := 37) 4 rfl (by decide) rfl (wm 2 148 rfl rfl) ⟨rfl, rfl, rfl⟩ dX4_putIntoArray_119 rfl (G.sk 37 rfl) (by decide) rfl ?_
          refine lv_aload_n hx hb dX4_putIntoArray_122 rfl (lv_at hl 3 rfl) ?_
          refine lv_iload_n hx hb dX4_putIntoArray_123 rfl (lv_at hl 2 rfl) ?_
          refine lv_iload_n hx hb dX4_putIntoArray_124 rfl (lv_at hl 2 rfl) ?_
          refine lv_iconst (v := iv 1) hx hb dX4_putIntoArray_125 rfl ?_
          refine xb_iadd hx hb dX4_putIntoArray_126 ?_
          refine xb_ti (y := r_5 - 1) (by omega) ?_
          refine xc_iV G (b := 32) (rest := [.ref (oP ω 37)]) (As := [.int (iv (r_5 - 2)), .int (iv (r_5 - 1))]) (c_X4_cellAt ω l μ145 (r_5 - 2) (r_5 - 1) (by unfold ir; omega) (by unfold ir; omega) hI_148) (wm 6 226 rfl rfl) (wm 6 228 rfl rfl) (wm 0 102 rfl rfl) rfl rfl (by decide) rfl (wm 1 14 rfl rfl) (wm 6 229 rfl rfl) (by decide) hR (by decide) (n := 2) rfl rfl (Nat.le_of_ble_eq_true rfl) hl.1 dX4_putIntoArray_127 (fun r_266 μ265 ρ d0 H locs hr_r_266 hp G => ?_)
          have hr_r_266 : -2147483648 ≤ r_266 ∧ r_266 ≤ 2147483647 := hr_r_266
          have hsm_267 := hp
          have hsm_267 := Eq.symm hsm_267
          subst hsm_267
          refine lv_aload_n hx hb dX4_putIntoArray_130 rfl (lv_at hl 3 rfl) ?_
          refine xa_getr G fd_X4 (a := 32) (x := 33) 3 rfl (by decide) rfl (wm 2 147 rfl rfl) ⟨rfl, rfl, rfl⟩ dX4_putIntoArray_131 rfl (G.sk 36 rfl) (by decide) rfl ?_
          refine lv_iload_n hx hb dX4_putIntoArray_134 rfl (lv_at hl 1 rfl) ?_
          refine xc_vV G (b := 37) (rest := []) (As := [.int (iv r_266), .ref (oP ω 33), .int (iv r_5)]) (c_X9_copy ω l μ145 37 r_266 33 r_5 (by unfold isRow; decide) (by unfold ir; omega) (by unfold isRow; decide) (by unfold ir; omega) hI_148) (wm 6 28 rfl rfl) (wm 6 29 rfl rfl) (wm 6 30 rfl rfl) rfl rfl (by decide) rfl (wm 1 10 rfl rfl) (wm 6 31 rfl rfl) (by decide) hR (by decide) (n := 3) rfl rfl (Nat.le_of_ble_eq_true rfl) hl.1 dX4_putIntoArray_135 (fun μ268 ρ d0 H locs hp G => ?_)
          obtain ⟨F_269, hI_270, hp_271⟩ := hp
          refine lv_aload_n hx hb dX4_putIntoArray_138 rfl (lv_at hl 3 rfl) ?_
          refine xa_getr G fd_X4 (a := 32) (x := 33) 3 rfl (by decide) rfl (wm 2 147 rfl rfl) ⟨rfl, rfl, rfl⟩ dX4_putIntoArray_139 rfl (G.sk 36 rfl) (by decide) rfl ?_
          refine lv_iconst (v := iv 3) hx hb dX4_putIntoArray_142 rfl ?_
          have e_272 : μ268.1 33 3 = S := ((F_269.1 33 (by decide) 3).trans (hs_151.trans hS.symm))
          refine xc_vV G (b := 33) (rest := []) (As := [.int (iv 3)]) (c_X9_drop ω l μ268 33 3 S (by unfold isRow; decide) (by unfold ir; omega) hI_270 (by omega) (by omega)) (wm 6 89 rfl rfl) (wm 6 90 rfl rfl) (wm 6 91 rfl rfl) rfl rfl (by decide) rfl (wm 1 10 rfl rfl) (wm 6 92 rfl rfl) (by decide) hR (by decide) (n := 1) rfl rfl (Nat.le_of_ble_eq_true rfl) hl.1 dX4_putIntoArray_143 (fun μ273 ρ d0 H locs hp G => ?_)
          obtain ⟨F_274, hI_275, hs_276⟩ := hp
          have e_277 : μ273.1 33 3 = max (S - 3) 0 := hs_276
          have e_278 : μ273.1 32 13 = μ.1 32 13 := ((F_274.1 32 (by decide) 13).trans ((F_269.1 32 (by decide) 13).trans (F_147.1 32 (by decide) 13)))
          have e_279 : μ273.1 33 3 = max (S - 3) 0 := hs_276
          have e_280 : μ273.1 32 13 = μ.1 32 13 := ((F_274.1 32 (by decide) 13).trans ((F_269.1 32 (by decide) 13).trans (F_147.1 32 (by decide) 13)))
          have e_281 : μ273.1 32 13 = μ.1 32 13 := ((F_274.1 32 (by decide) 13).trans ((F_269.1 32 (by decide) 13).trans (F_147.1 32 (by decide) 13)))
          have e_282 : μ273.1 32 13 = μ.1 32 13 := ((F_274.1 32 (by decide) 13).trans ((F_269.1 32 (by decide) 13).trans (F_147.1 32 (by decide) 13)))
          have e_283 : μ273.1 70 2 = μ.1 70 2 := ((F_274.1 70 (by decide) 2).trans ((F_269.1 70 (by decide) 2).trans (F_147.1 70 (by decide) 2)))
          have e_284 : μ273.1 70 2 = μ.1 70 2 := ((F_274.1 70 (by decide) 2).trans ((F_269.1 70 (by decide) 2).trans (F_147.1 70 (by decide) 2)))
          have e_285 : μ273.1 70 8 = μ.1 70 8 := ((F_274.1 70 (by decide) 8).trans ((F_269.1 70 (by decide) 8).trans (F_147.1 70 (by decide) 8)))
          have e_286 : μ273.1 70 8 = μ.1 70 8 := ((F_274.1 70 (by decide) 8).trans ((F_269.1 70 (by decide) 8).trans (F_147.1 70 (by decide) 8)))
          have e_287 : μ273.1 45 1 = μ.1 45 1 := ((F_274.1 45 (by decide) 1).trans ((F_269.1 45 (by decide) 1).trans (F_147.1 45 (by decide) 1)))
          have e_288 : μ273.1 70 2 = μ.1 70 2 := ((F_274.1 70 (by decide) 2).trans ((F_269.1 70 (by decide) 2).trans (F_147.1 70 (by decide) 2)))
          have e_289 : μ273.1 70 1 = μ.1 70 1 := ((F_274.1 70 (by decide) 1).trans ((F_269.1 70 (by decide) 1).trans (F_147.1 70 (by decide) 1)))
          have e_290 : μ273.1 70 3 = μ.1 70 3 := ((F_274.1 70 (by decide) 3).trans ((F_269.1 70 (by decide) 3).trans (F_147.1 70 (by decide) 3)))
          have e_291 : μ273.1 70 4 = μ.1 70 4 := ((F_274.1 70 (by decide) 4).trans ((F_269.1 70 (by decide) 4).trans (F_147.1 70 (by decide) 4)))
          have e_292 : μ273.1 70 5 = μ.1 70 5 := ((F_274.1 70 (by decide) 5).trans ((F_269.1 70 (by decide) 5).trans (F_147.1 70 (by decide) 5)))
          have e_293 : μ273.1 70 6 = μ.1 70 6 := ((F_274.1 70 (by decide) 6).trans ((F_269.1 70 (by decide) 6).trans (F_147.1 70 (by decide) 6)))
          have e_294 : μ273.1 70 7 = μ.1 70 7 := ((F_274.1 70 (by decide) 7).trans ((F_269.1 70 (by decide) 7).trans (F_147.1 70 (by decide) 7)))
          have e_295 : μ273.1 32 10 = μ.1 32 10 := ((F_274.1 32 (by decide) 10).trans ((F_269.1 32 (by decide) 10).trans (F_147.1 32 (by decide) 10)))
          have e_296 : μ273.1 32 11 = μ.1 32 11 := ((F_274.1 32 (by decide) 11).trans ((F_269.1 32 (by decide) 11).trans (F_147.1 32 (by decide) 11)))
          have e_297 : μ273.1 32 12 = μ.1 32 12 := ((F_274.1 32 (by decide) 12).trans ((F_269.1 32 (by decide) 12).trans (F_147.1 32 (by decide) 12)))
          have e_298 : μ273.1 32 15 = μ.1 32 15 := ((F_274.1 32 (by decide) 15).trans ((F_269.1 32 (by decide) 15).trans (F_147.1 32 (by decide) 15)))
          have e_299 : μ273.1 32 16 = μ.1 32 16 := ((F_274.1 32 (by decide) 16).trans ((F_269.1 32 (by decide) 16).trans (F_147.1 32 (by decide) 16)))
          have e_300 : μ273.1 45 4 = μ.1 45 4 := ((F_274.1 45 (by decide) 4).trans ((F_269.1 45 (by decide) 4).trans (F_147.1 45 (by decide) 4)))
          exact xr_v G hret hlk dX4_putIntoArray_146 ⟨(Fr.tr (Fr.tr (Fr.tr Fr.rf F_147 (by decide)) F_269 (by decide)) F_274 (by decide)), hI_275, (by omega), (by omega), (by omega), (by omega), (by omega), (by omega), (by omega), (by omega), (by omega), (by omega), (by omega), (by omega), (by omega), (by omega)⟩
        · refine lv_aload_n hx hb dX4_putIntoArray_83 rfl (lv_at hl 3 rfl) ?_
          refine xa_getr G fd_X4 (a := 32) (x := 33) 3 rfl (by decide) rfl (wm 2 147 rfl rfl) ⟨rfl, rfl, rfl⟩ dX4_putIntoArray_84 rfl (G.sk 36 rfl) (by decide) rfl ?_
          refine lv_iload_n hx hb dX4_putIntoArray_87 rfl (lv_at hl 1 rfl) ?_
          refine lv_iconst (v := iv 1) hx hb dX4_putIntoArray_88 rfl ?_
          refine xb_iadd hx hb dX4_putIntoArray_89 ?_
          refine xc_vV G (b := 33) (rest := []) (As := [.int (iv (r_5 + 1))]) (c_X9_resize ω l μ145 33 (r_5 + 1) (by unfold isRow; decide) (by unfold ir; omega) hI_148 (by omega)) (wm 5 55 rfl rfl) (wm 3 15 rfl rfl) (wm 3 16 rfl rfl) rfl rfl (by decide) rfl (wm 1 10 rfl rfl) (wm 3 17 rfl rfl) (by decide) hR (by decide) (n := 1) rfl rfl (Nat.le_of_ble_eq_true rfl) hl.1 dX4_putIntoArray_90 (fun μ301 ρ d0 H locs hp G => ?_)
          obtain ⟨F_302, hI_303, hs_304⟩ := hp
          refine lv_aload_n hx hb dX4_putIntoArray_93 rfl (lv_at hl 3 rfl) ?_
          refine lv_iconst (v := iv 3) hx hb dX4_putIntoArray_94 rfl ?_
          refine xa_puti G fd_X4 (a := 32) (x := 3) 13 (kz := 13) rfl rfl (by decide) rfl (by unfold ir; omega) (wm 2 157 rfl rfl) ⟨rfl, rfl, rfl, rfl⟩ rfl dX4_putIntoArray_95 rfl (fun H locs G => ?_)
          refine lv_goto (tgt := 146) hx hb dX4_putIntoArray_98 (by decide) ?_
          have hI_305 : IC (sv μ301 32 13 3) := (IC.put hI_303 (by decide +kernel))
          have e_306 : (sv μ301 32 13 3).1 33 3 = max (r_5 + 1) 0 := ((sv_n _ (fun h9 => absurd h9.1 (by decide))).trans hs_304)
          have e_307 : (sv μ301 32 13 3).1 32 13 = 3 := (sv_s _ _ _ _)
          have e_308 : (sv μ301 32 13 3).1 33 3 = max (r_5 + 1) 0 := ((sv_n _ (fun h9 => absurd h9.1 (by decide))).trans hs_304)
          have e_309 : (sv μ301 32 13 3).1 32 13 = 3 := (sv_s _ _ _ _)
          have e_310 : (sv μ301 32 13 3).1 32 13 = 3 := (sv_s _ _ _ _)
          have e_311 : (sv μ301 32 13 3).1 32 13 = 3 := (sv_s _ _ _ _)
          have e_312 : (sv μ301 32 13 3).1 70 2 = μ.1 70 2 := ((sv_n _ (fun h9 => absurd h9.1 (by decide))).trans ((F_302.1 70 (by decide) 2).trans (F_147.1 70 (by decide) 2)))
          have e_313 : (sv μ301 32 13 3).1 70 2 = μ.1 70 2 := ((sv_n _ (fun h9 => absurd h9.1 (by decide))).trans ((F_302.1 70 (by decide) 2).trans (F_147.1 70 (by decide) 2)))
          have e_314 : (sv μ301 32 13 3).1 70 8 = μ.1 70 8 := ((sv_n _ (fun h9 => absurd h9.1 (by decide))).trans ((F_302.1 70 (by decide) 8).trans (F_147.1 70 (by decide) 8)))
          have e_315 : (sv μ301 32 13 3).1 70 8 = μ.1 70 8 := ((sv_n _ (fun h9 => absurd h9.1 (by decide))).trans ((F_302.1 70 (by decide) 8).trans (F_147.1 70 (by decide) 8)))
          have e_316 : (sv μ301 32 13 3).1 45 1 = μ.1 45 1 := ((sv_n _ (fun h9 => absurd h9.1 (by decide))).trans ((F_302.1 45 (by decide) 1).trans (F_147.1 45 (by decide) 1)))
          have e_317 : (sv μ301 32 13 3).1 70 2 = μ.1 70 2 := ((sv_n _ (fun h9 => absurd h9.1 (by decide))).trans ((F_302.1 70 (by decide) 2).trans (F_147.1 70 (by decide) 2)))
          have e_318 : (sv μ301 32 13 3).1 70 1 = μ.1 70 1 := ((sv_n _ (fun h9 => absurd h9.1 (by decide))).trans ((F_302.1 70 (by decide) 1).trans (F_147.1 70 (by decide) 1)))
          have e_319 : (sv μ301 32 13 3).1 70 3 = μ.1 70 3 := ((sv_n _ (fun h9 => absurd h9.1 (by decide))).trans ((F_302.1 70 (by decide) 3).trans (F_147.1 70 (by decide) 3)))
          have e_320 : (sv μ301 32 13 3).1 70 4 = μ.1 70 4 := ((sv_n _ (fun h9 => absurd h9.1 (by decide))).trans ((F_302.1 70 (by decide) 4).trans (F_147.1 70 (by decide) 4)))
          have e_321 : (sv μ301 32 13 3).1 70 5 = μ.1 70 5 := ((sv_n _ (fun h9 => absurd h9.1 (by decide))).trans ((F_302.1 70 (by decide) 5).trans (F_147.1 70 (by decide) 5)))
          have e_322 : (sv μ301 32 13 3).1 70 6 = μ.1 70 6 := ((sv_n _ (fun h9 => absurd h9.1 (by decide))).trans ((F_302.1 70 (by decide) 6).trans (F_147.1 70 (by decide) 6)))
          have e_323 : (sv μ301 32 13 3).1 70 7 = μ.1 70 7 := ((sv_n _ (fun h9 => absurd h9.1 (by decide))).trans ((F_302.1 70 (by decide) 7).trans (F_147.1 70 (by decide) 7)))
          have e_324 : (sv μ301 32 13 3).1 32 10 = μ.1 32 10 := ((sv_n _ (by decide)).trans ((F_302.1 32 (by decide) 10).trans (F_147.1 32 (by decide) 10)))
          have e_325 : (sv μ301 32 13 3).1 32 11 = μ.1 32 11 := ((sv_n _ (by decide)).trans ((F_302.1 32 (by decide) 11).trans (F_147.1 32 (by decide) 11)))
          have e_326 : (sv μ301 32 13 3).1 32 12 = μ.1 32 12 := ((sv_n _ (by decide)).trans ((F_302.1 32 (by decide) 12).trans (F_147.1 32 (by decide) 12)))
          have e_327 : (sv μ301 32 13 3).1 32 15 = μ.1 32 15 := ((sv_n _ (by decide)).trans ((F_302.1 32 (by decide) 15).trans (F_147.1 32 (by decide) 15)))
          have e_328 : (sv μ301 32 13 3).1 32 16 = μ.1 32 16 := ((sv_n _ (by decide)).trans ((F_302.1 32 (by decide) 16).trans (F_147.1 32 (by decide) 16)))
          have e_329 : (sv μ301 32 13 3).1 45 4 = μ.1 45 4 := ((sv_n _ (fun h9 => absurd h9.1 (by decide))).trans ((F_302.1 45 (by decide) 4).trans (F_147.1 45 (by decide) 4)))
          exact xr_v G hret hlk dX4_putIntoArray_146 ⟨(Fr.put (Fr.tr (Fr.tr Fr.rf F_147 (by decide)) F_302 (by decide)) (by decide)), hI_305, (by omega), (by omega), (by omega), (by omega), (by omega), (by omega), (by omega), (by omega), (by omega), (by omega), (by omega), (by omega), (by omega), (by omega)⟩
  · refine lv_iload_n hx hb dX4_putIntoArray_19 rfl (lv_at hl 2 rfl) ?_
    refine lv_iconst (v := iv 1) hx hb dX4_putIntoArray_20 rfl ?_
    refine xb_iadd hx hb dX4_putIntoArray_21 ?_
    refine xb_ti (y := r_5 - 1) (by omega) ?_
    refine lv_istore_n (lv' := [(2, .int (iv (r_5 - 1))), (3, .int (iv r_9)), (1, .int (iv (r_5 - 2))), (0, .ref (oP ω 32))]) hx hb dX4_putIntoArray_22 rfl hl (by decide) rfl (fun ls hl => ?_)
    refine lv_aload_n hx hb dX4_putIntoArray_23 rfl (lv_at hl 3 rfl) ?_
    refine lv_iload_n hx hb dX4_putIntoArray_24 rfl (lv_at hl 2 rfl) ?_
    refine lv_iload_n hx hb dX4_putIntoArray_25 rfl (lv_at hl 0 rfl) ?_
    refine xc_iV G (b := 32) (rest := []) (As := [.int (iv (r_5 - 2)), .int (iv (r_5 - 1))]) (c_X4_whatFailsAsIndex ω l μ (r_5 - 2) (r_5 - 1) (by unfold ir; omega) (by unfold ir; omega) hI) (wm 6 218 rfl rfl) (wm 6 220 rfl rfl) (wm 0 100 rfl rfl) rfl rfl (by decide) rfl (wm 1 14 rfl rfl) (wm 6 221 rfl rfl) (by decide) hR (by decide) (n := 2) rfl rfl (Nat.le_of_ble_eq_true rfl) hl.1 dX4_putIntoArray_26 (fun r_331 μ330 ρ d0 H locs hr_r_331 hp G => ?_)
    have hr_r_331 : -2147483648 ≤ r_331 ∧ r_331 ≤ 2147483647 := hr_r_331
    obtain ⟨hsm_332, hp_333⟩ := hp
    have hsm_332 := Eq.symm hsm_332
    subst hsm_332
    refine lv_istore_n (lv' := [(3, .int (iv r_331)), (2, .int (iv (r_5 - 1))), (1, .int (iv (r_5 - 2))), (0, .ref (oP ω 32))]) hx hb dX4_putIntoArray_29 rfl hl (by decide) rfl (fun ls hl => ?_)
    refine lv_iload_n hx hb dX4_putIntoArray_30 rfl (lv_at hl 0 rfl) ?_
    refine xb_if_ne (tgt := 71) hx hb (by unfold ir; omega) dX4_putIntoArray_31 (by decide) (fun c_31 => ?_) (fun c_31 => ?_)
    · refine lv_aload_n hx hb dX4_putIntoArray_71 rfl (lv_at hl 3 rfl) ?_
      refine xa_getr G fd_X4 (a := 32) (x := 33) 3 rfl (by decide) rfl (wm 2 147 rfl rfl) ⟨rfl, rfl, rfl⟩ dX4_putIntoArray_72 rfl (G.sk 36 rfl) (by decide) rfl ?_
      refine lv_iload_n hx hb dX4_putIntoArray_75 rfl (lv_at hl 1 rfl) ?_
      refine xc_iV G (b := 33) (rest := []) (As := [.int (iv (r_5 - 1))]) (c_X9_kind ω l μ 33 (r_5 - 1) (by unfold isRow; decide) (by unfold ir; omega) hI) (wm 6 146 rfl rfl) (wm 5 156 rfl rfl) (wm 5 157 rfl rfl) rfl rfl (by decide) rfl (wm 1 10 rfl rfl) (wm 5 158 rfl rfl) (by decide) hR (by decide) (n := 1) rfl rfl (Nat.le_of_ble_eq_true rfl) hl.1 dX4_putIntoArray_76 (fun r_335 μ334 ρ d0 H locs hr_r_335 hp G => ?_)
      have hr_r_335 : -2147483648 ≤ r_335 ∧ r_335 ≤ 2147483647 := hr_r_335
      have hsm_336 := hp
      have hsm_336 := Eq.symm hsm_336
      subst hsm_336
      refine lv_iconst (v := iv 4) hx hb dX4_putIntoArray_79 rfl ?_
      refine xb_icmp_ne (tgt := 101) hx hb (by unfold ir; omega) (by unfold ir; omega) dX4_putIntoArray_80 (by decide) (fun c_80 => ?_) (fun c_80 => ?_)
      · refine lv_iload_n hx hb dX4_putIntoArray_101 rfl (lv_at hl 0 rfl) ?_
        refine xb_if_eq (tgt := 118) hx hb (by unfold ir; omega) dX4_putIntoArray_102 (by decide) (fun c_102 => ?_) (fun c_102 => ?_)
        · refine lv_aload_n hx hb dX4_putIntoArray_118 rfl (lv_at hl 3 rfl) ?_
          refine xa_getr G fd_X4 (a := 32) (x := 37) 4 rfl (by decide) rfl (wm 2 148 rfl rfl) ⟨rfl, rfl, rfl⟩ dX4_putIntoArray_119 rfl (G.sk 37 rfl) (by decide) rfl ?_
          refine lv_aload_n hx hb dX4_putIntoArray_122 rfl (lv_at hl 3 rfl) ?_
          refine lv_iload_n hx hb dX4_putIntoArray_123 rfl (lv_at hl 2 rfl) ?_
          refine lv_iload_n hx hb dX4_putIntoArray_124 rfl (lv_at hl 2 rfl) ?_
          refine lv_iconst (v := iv 1) hx hb dX4_putIntoArray_125 rfl ?_
          refine xb_iadd hx hb dX4_putIntoArray_126 ?_
          refine xb_ti (y := r_5 - 1) (by omega) ?_
          refine xc_iV G (b := 32) (rest := [.ref (oP ω 37)]) (As := [.int (iv (r_5 - 2)), .int (iv (r_5 - 1))]) (c_X4_cellAt ω l μ (r_5 - 2) (r_5 - 1) (by unfold ir; omega) (by unfold ir; omega) hI) (wm 6 226 rfl rfl) (wm 6 228 rfl rfl) (wm 0 102 rfl rfl) rfl rfl (by decide) rfl (wm 1 14 rfl rfl) (wm 6 229 rfl rfl) (by decide) hR (by decide) (n := 2) rfl rfl (Nat.le_of_ble_eq_true rfl) hl.1 dX4_putIntoArray_127 (fun r_338 μ337 ρ d0 H locs hr_r_338 hp G => ?_)
          have hr_r_338 : -2147483648 ≤ r_338 ∧ r_338 ≤ 2147483647 := hr_r_338
          have hsm_339 := hp
          have hsm_339 := Eq.symm hsm_339
          subst hsm_339
          refine lv_aload_n hx hb dX4_putIntoArray_130 rfl (lv_at hl 3 rfl) ?_
          refine xa_getr G fd_X4 (a := 32) (x := 33) 3 rfl (by decide) rfl (wm 2 147 rfl rfl) ⟨rfl, rfl, rfl⟩ dX4_putIntoArray_131 rfl (G.sk 36 rfl) (by decide) rfl ?_
          refine lv_iload_n hx hb dX4_putIntoArray_134 rfl (lv_at hl 1 rfl) ?_
          refine xc_vV G (b := 37) (rest := []) (As := [.int (iv r_338), .ref (oP ω 33), .int (iv (r_5 - 1))]) (c_X9_copy ω l μ 37 r_338 33 (r_5 - 1) (by unfold isRow; decide) (by unfold ir; omega) (by unfold isRow; decide) (by unfold ir; omega) hI) (wm 6 28 rfl rfl) (wm 6 29 rfl rfl) (wm 6 30 rfl rfl) rfl rfl (by decide) rfl (wm 1 10 rfl rfl) (wm 6 31 rfl rfl) (by decide) hR (by decide) (n := 3) rfl rfl (Nat.le_of_ble_eq_true rfl) hl.1 dX4_putIntoArray_135 (fun μ340 ρ d0 H locs hp G => ?_)
          obtain ⟨F_341, hI_342, hp_343⟩ := hp
          refine lv_aload_n hx hb dX4_putIntoArray_138 rfl (lv_at hl 3 rfl) ?_
          refine xa_getr G fd_X4 (a := 32) (x := 33) 3 rfl (by decide) rfl (wm 2 147 rfl rfl) ⟨rfl, rfl, rfl⟩ dX4_putIntoArray_139 rfl (G.sk 36 rfl) (by decide) rfl ?_
          refine lv_iconst (v := iv 3) hx hb dX4_putIntoArray_142 rfl ?_
          have e_344 : μ340.1 33 3 = S := ((F_341.1 33 (by decide) 3).trans hS.symm)
          refine xc_vV G (b := 33) (rest := []) (As := [.int (iv 3)]) (c_X9_drop ω l μ340 33 3 S (by unfold isRow; decide) (by unfold ir; omega) hI_342 (by omega) (by omega)) (wm 6 89 rfl rfl) (wm 6 90 rfl rfl) (wm 6 91 rfl rfl) rfl rfl (by decide) rfl (wm 1 10 rfl rfl) (wm 6 92 rfl rfl) (by decide) hR (by decide) (n := 1) rfl rfl (Nat.le_of_ble_eq_true rfl) hl.1 dX4_putIntoArray_143 (fun μ345 ρ d0 H locs hp G => ?_)
          obtain ⟨F_346, hI_347, hs_348⟩ := hp
          have e_349 : μ345.1 33 3 = max (S - 3) 0 := hs_348
          have e_350 : μ345.1 32 13 = μ.1 32 13 := ((F_346.1 32 (by decide) 13).trans (F_341.1 32 (by decide) 13))
          have e_351 : μ345.1 33 3 = max (S - 3) 0 := hs_348
          have e_352 : μ345.1 32 13 = μ.1 32 13 := ((F_346.1 32 (by decide) 13).trans (F_341.1 32 (by decide) 13))
          have e_353 : μ345.1 32 13 = μ.1 32 13 := ((F_346.1 32 (by decide) 13).trans (F_341.1 32 (by decide) 13))
          have e_354 : μ345.1 32 13 = μ.1 32 13 := ((F_346.1 32 (by decide) 13).trans (F_341.1 32 (by decide) 13))
          have e_355 : μ345.1 70 2 = μ.1 70 2 := ((F_346.1 70 (by decide) 2).trans (F_341.1 70 (by decide) 2))
          have e_356 : μ345.1 70 2 = μ.1 70 2 := ((F_346.1 70 (by decide) 2).trans (F_341.1 70 (by decide) 2))
          have e_357 : μ345.1 70 8 = μ.1 70 8 := ((F_346.1 70 (by decide) 8).trans (F_341.1 70 (by decide) 8))
          have e_358 : μ345.1 70 8 = μ.1 70 8 := ((F_346.1 70 (by decide) 8).trans (F_341.1 70 (by decide) 8))
          have e_359 : μ345.1 45 1 = μ.1 45 1 := ((F_346.1 45 (by decide) 1).trans (F_341.1 45 (by decide) 1))
          have e_360 : μ345.1 70 2 = μ.1 70 2 := ((F_346.1 70 (by decide) 2).trans (F_341.1 70 (by decide) 2))
          have e_361 : μ345.1 70 1 = μ.1 70 1 := ((F_346.1 70 (by decide) 1).trans (F_341.1 70 (by decide) 1))
          have e_362 : μ345.1 70 3 = μ.1 70 3 := ((F_346.1 70 (by decide) 3).trans (F_341.1 70 (by decide) 3))
          have e_363 : μ345.1 70 4 = μ.1 70 4 := ((F_346.1 70 (by decide) 4).trans (F_341.1 70 (by decide) 4))
          have e_364 : μ345.1 70 5 = μ.1 70 5 := ((F_346.1 70 (by decide) 5).trans (F_341.1 70 (by decide) 5))
          have e_365 : μ345.1 70 6 = μ.1 70 6 := ((F_346.1 70 (by decide) 6).trans (F_341.1 70 (by decide) 6))
          have e_366 : μ345.1 70 7 = μ.1 70 7 := ((F_346.1 70 (by decide) 7).trans (F_341.1 70 (by decide) 7))
          have e_367 : μ345.1 32 10 = μ.1 32 10 := ((F_346.1 32 (by decide) 10).trans (F_341.1 32 (by decide) 10))
          have e_368 : μ345.1 32 11 = μ.1 32 11 := ((F_346.1 32 (by decide) 11).trans (F_341.1 32 (by decide) 11))
          have e_369 : μ345.1 32 12 = μ.1 32 12 := ((F_346.1 32 (by decide) 12).trans (F_341.1 32 (by decide) 12))
          have e_370 : μ345.1 32 15 = μ.1 32 15 := ((F_346.1 32 (by decide) 15).trans (F_341.1 32 (by decide) 15))
          have e_371 : μ345.1 32 16 = μ.1 32 16 := ((F_346.1 32 (by decide) 16).trans (F_341.1 32 (by decide) 16))
          have e_372 : μ345.1 45 4 = μ.1 45 4 := ((F_346.1 45 (by decide) 4).trans (F_341.1 45 (by decide) 4))
          exact xr_v G hret hlk dX4_putIntoArray_146 ⟨(Fr.tr (Fr.tr Fr.rf F_341 (by decide)) F_346 (by decide)), hI_347, (by omega), (by omega), (by omega), (by omega), (by omega), (by omega), (by omega), (by omega), (by omega), (by omega), (by omega), (by omega), (by omega), (by omega)⟩
        · refine lv_aload_n hx hb dX4_putIntoArray_105 rfl (lv_at hl 3 rfl) ?_
          refine lv_iload_n hx hb dX4_putIntoArray_106 rfl (lv_at hl 0 rfl) ?_
          refine lv_iconst (v := iv 3) hx hb dX4_putIntoArray_107 rfl ?_
          have e_373 : μ.1 33 3 = S := hS.symm
          have hn_374 : 0 ≤ μ.1 45 1 ∧ 9 * μ.1 45 1 ≤ μ.2.1 46 := hI.nm.2.2.2.2.2.2.1
          have hn_375 : 0 ≤ μ.1 45 4 ∧ 2 * μ.1 45 4 ≤ μ.2.1 51 := hI.nm.2.2.2.2.2.2.2.1
          refine xc_vV G (b := 32) (rest := []) (As := [.int (iv r_331), .int (iv 3)]) (c_X4_fails ω l μ r_331 3 S (by unfold ir; omega) (by unfold ir; omega) hI (by omega) (by omega) (by omega) (by omega)) (wm 6 93 rfl rfl) (wm 6 95 rfl rfl) (wm 0 82 rfl rfl) rfl rfl (by decide) rfl (wm 1 14 rfl rfl) (wm 6 96 rfl rfl) (by decide) hR (by decide) (n := 2) rfl rfl (Nat.le_of_ble_eq_true rfl) hl.1 dX4_putIntoArray_108 (fun μ376 ρ d0 H locs hp G => ?_)
          obtain ⟨F_377, hI_378, hp_379, hp_380, hs_381, hs_382, hs_383, hs_384, hs_385, hs_386, hs_387, hs_388, hs_389, hs_390, hs_391, hs_392⟩ := hp
          have hk_393 := hI_378.row (r := 33) (by unfold isRow; decide)
          unfold rk at hk_393
          simp only [Int.reduceAdd] at hk_393
          have hn_394 : 0 ≤ μ376.1 45 1 ∧ 9 * μ376.1 45 1 ≤ μ376.2.1 46 := hI_378.nm.2.2.2.2.2.2.1
          refine lv_aload_n hx hb dX4_putIntoArray_111 rfl (lv_at hl 3 rfl) ?_
          have e_395 : μ376.1 32 10 = μ.1 32 10 := hs_387
          have e_396 : μ376.1 32 11 = μ.1 32 11 := hs_388
          have e_397 : μ376.1 32 12 = μ.1 32 12 := hs_389
          have e_398 : μ376.1 32 15 = μ.1 32 15 := hs_390
          have e_399 : μ376.1 32 16 = μ.1 32 16 := hs_391
          refine xc_vV G (b := 32) (rest := []) (As := []) (c_X4_leaveIfGoing ω l μ376  hI_378) (wm 6 234 rfl rfl) (wm 6 236 rfl rfl) (wm 0 104 rfl rfl) rfl rfl (by decide) rfl (wm 1 14 rfl rfl) (wm 6 237 rfl rfl) (by decide) hR (by decide) (n := 0) rfl rfl (Nat.le_of_ble_eq_true rfl) hl.1 dX4_putIntoArray_112 (fun μ400 ρ d0 H locs hp G => ?_)
          obtain ⟨F_401, hI_402, hp_403, hs_404, hs_405, hs_406, hs_407, hs_408, hs_409⟩ := hp
          refine lv_goto (tgt := 146) hx hb dX4_putIntoArray_115 (by decide) ?_
          have e_410 : μ400.1 33 3 = μ376.1 33 3 := (F_401.1 33 (by decide) 3)
          have e_411 : μ400.1 33 3 = μ376.1 33 3 := (F_401.1 33 (by decide) 3)
          have e_412 : μ400.1 70 2 = μ376.1 70 2 := (F_401.1 70 (by decide) 2)
          have e_413 : μ400.1 70 2 = μ376.1 70 2 := (F_401.1 70 (by decide) 2)
          have e_414 : μ400.1 70 8 = μ376.1 70 8 := (F_401.1 70 (by decide) 8)
          have e_415 : μ400.1 70 8 = μ376.1 70 8 := (F_401.1 70 (by decide) 8)
          have e_416 : μ400.1 45 1 = μ376.1 45 1 := (F_401.1 45 (by decide) 1)
          have e_417 : μ400.1 70 2 = μ376.1 70 2 := (F_401.1 70 (by decide) 2)
          have e_418 : μ400.1 70 1 = μ.1 70 1 := ((F_401.1 70 (by decide) 1).trans hs_381)
          have e_419 : μ400.1 70 3 = μ.1 70 3 := ((F_401.1 70 (by decide) 3).trans hs_382)
          have e_420 : μ400.1 70 4 = μ.1 70 4 := ((F_401.1 70 (by decide) 4).trans hs_383)
          have e_421 : μ400.1 70 5 = μ.1 70 5 := ((F_401.1 70 (by decide) 5).trans hs_384)
          have e_422 : μ400.1 70 6 = μ.1 70 6 := ((F_401.1 70 (by decide) 6).trans hs_385)
          have e_423 : μ400.1 70 7 = μ.1 70 7 := ((F_401.1 70 (by decide) 7).trans hs_386)
          have e_424 : μ400.1 32 10 = μ.1 32 10 := (hs_404.trans hs_387)
          have e_425 : μ400.1 32 11 = μ.1 32 11 := (hs_405.trans hs_388)
          have e_426 : μ400.1 32 12 = μ.1 32 12 := (hs_406.trans hs_389)
          have e_427 : μ400.1 32 15 = μ.1 32 15 := (hs_408.trans hs_390)
          have e_428 : μ400.1 32 16 = μ.1 32 16 := (hs_409.trans hs_391)
          have e_429 : μ400.1 45 4 = μ.1 45 4 := ((F_401.1 45 (by decide) 4).trans hs_392)
          exact xr_v G hret hlk dX4_putIntoArray_146 ⟨(Fr.tr (Fr.tr Fr.rf F_377 (by decide)) F_401 (by decide)), hI_402, (by omega), (by omega), (by omega), (by omega), (by omega), (by omega), (by omega), (by omega), (by omega), (by omega), (by omega), (by omega), (by omega), (by omega)⟩
      · refine lv_aload_n hx hb dX4_putIntoArray_83 rfl (lv_at hl 3 rfl) ?_
        refine xa_getr G fd_X4 (a := 32) (x := 33) 3 rfl (by decide) rfl (wm 2 147 rfl rfl) ⟨rfl, rfl, rfl⟩ dX4_putIntoArray_84 rfl (G.sk 36 rfl) (by decide) rfl ?_
        refine lv_iload_n hx hb dX4_putIntoArray_87 rfl (lv_at hl 1 rfl) ?_
        refine lv_iconst (v := iv 1) hx hb dX4_putIntoArray_88 rfl ?_
        refine xb_iadd hx hb dX4_putIntoArray_89 ?_
        refine xb_ti (y := r_5) (by omega) ?_
        refine xc_vV G (b := 33) (rest := []) (As := [.int (iv r_5)]) (c_X9_resize ω l μ 33 r_5 (by unfold isRow; decide) (by unfold ir; omega) hI (by omega)) (wm 5 55 rfl rfl) (wm 3 15 rfl rfl) (wm 3 16 rfl rfl) rfl rfl (by decide) rfl (wm 1 10 rfl rfl) (wm 3 17 rfl rfl) (by decide) hR (by decide) (n := 1) rfl rfl (Nat.le_of_ble_eq_true rfl) hl.1 dX4_putIntoArray_90 (fun μ430 ρ d0 H locs hp G => ?_)
        obtain ⟨F_431, hI_432, hs_433⟩ := hp
        refine lv_aload_n hx hb dX4_putIntoArray_93 rfl (lv_at hl 3 rfl) ?_
        refine lv_iconst (v := iv 3) hx hb dX4_putIntoArray_94 rfl ?_
        refine xa_puti G fd_X4 (a := 32) (x := 3) 13 (kz := 13) rfl rfl (by decide) rfl (by unfold ir; omega) (wm 2 157 rfl rfl) ⟨rfl, rfl, rfl, rfl⟩ rfl dX4_putIntoArray_95 rfl (fun H locs G => ?_)
        refine lv_goto (tgt := 146) hx hb dX4_putIntoArray_98 (by decide) ?_
        have hI_434 : IC (sv μ430 32 13 3) := (IC.put hI_432 (by decide +kernel))
        have e_435 : (sv μ430 32 13 3).1 33 3 = max r_5 0 := ((sv_n _ (fun h9 => absurd h9.1 (by decide))).trans hs_433)
        have e_436 : (sv μ430 32 13 3).1 32 13 = 3 := (sv_s _ _ _ _)
        have e_437 : (sv μ430 32 13 3).1 33 3 = max r_5 0 := ((sv_n _ (fun h9 => absurd h9.1 (by decide))).trans hs_433)
        have e_438 : (sv μ430 32 13 3).1 32 13 = 3 := (sv_s _ _ _ _)
        have e_439 : (sv μ430 32 13 3).1 32 13 = 3 := (sv_s _ _ _ _)
        have e_440 : (sv μ430 32 13 3).1 32 13 = 3 := (sv_s _ _ _ _)
        have e_441 : (sv μ430 32 13 3).1 70 2 = μ.1 70 2 := ((sv_n _ (fun h9 => absurd h9.1 (by decide))).trans (F_431.1 70 (by decide) 2))
        have e_442 : (sv μ430 32 13 3).1 70 2 = μ.1 70 2 := ((sv_n _ (fun h9 => absurd h9.1 (by decide))).trans (F_431.1 70 (by decide) 2))
        have e_443 : (sv μ430 32 13 3).1 70 8 = μ.1 70 8 := ((sv_n _ (fun h9 => absurd h9.1 (by decide))).trans (F_431.1 70 (by decide) 8))
        have e_444 : (sv μ430 32 13 3).1 70 8 = μ.1 70 8 := ((sv_n _ (fun h9 => absurd h9.1 (by decide))).trans (F_431.1 70 (by decide) 8))
        have e_445 : (sv μ430 32 13 3).1 45 1 = μ.1 45 1 := ((sv_n _ (fun h9 => absurd h9.1 (by decide))).trans (F_431.1 45 (by decide) 1))
        have e_446 : (sv μ430 32 13 3).1 70 2 = μ.1 70 2 := ((sv_n _ (fun h9 => absurd h9.1 (by decide))).trans (F_431.1 70 (by decide) 2))
        have e_447 : (sv μ430 32 13 3).1 70 1 = μ.1 70 1 := ((sv_n _ (fun h9 => absurd h9.1 (by decide))).trans (F_431.1 70 (by decide) 1))
        have e_448 : (sv μ430 32 13 3).1 70 3 = μ.1 70 3 := ((sv_n _ (fun h9 => absurd h9.1 (by decide))).trans (F_431.1 70 (by decide) 3))
        have e_449 : (sv μ430 32 13 3).1 70 4 = μ.1 70 4 := ((sv_n _ (fun h9 => absurd h9.1 (by decide))).trans (F_431.1 70 (by decide) 4))
        have e_450 : (sv μ430 32 13 3).1 70 5 = μ.1 70 5 := ((sv_n _ (fun h9 => absurd h9.1 (by decide))).trans (F_431.1 70 (by decide) 5))
        have e_451 : (sv μ430 32 13 3).1 70 6 = μ.1 70 6 := ((sv_n _ (fun h9 => absurd h9.1 (by decide))).trans (F_431.1 70 (by decide) 6))
        have e_452 : (sv μ430 32 13 3).1 70 7 = μ.1 70 7 := ((sv_n _ (fun h9 => absurd h9.1 (by decide))).trans (F_431.1 70 (by decide) 7))
        have e_453 : (sv μ430 32 13 3).1 32 10 = μ.1 32 10 := ((sv_n _ (by decide)).trans (F_431.1 32 (by decide) 10))
        have e_454 : (sv μ430 32 13 3).1 32 11 = μ.1 32 11 := ((sv_n _ (by decide)).trans (F_431.1 32 (by decide) 11))
        have e_455 : (sv μ430 32 13 3).1 32 12 = μ.1 32 12 := ((sv_n _ (by decide)).trans (F_431.1 32 (by decide) 12))
        have e_456 : (sv μ430 32 13 3).1 32 15 = μ.1 32 15 := ((sv_n _ (by decide)).trans (F_431.1 32 (by decide) 15))
        have e_457 : (sv μ430 32 13 3).1 32 16 = μ.1 32 16 := ((sv_n _ (by decide)).trans (F_431.1 32 (by decide) 16))
        have e_458 : (sv μ430 32 13 3).1 45 4 = μ.1 45 4 := ((sv_n _ (fun h9 => absurd h9.1 (by decide))).trans (F_431.1 45 (by decide) 4))
        exact xr_v G hret hlk dX4_putIntoArray_146 ⟨(Fr.put (Fr.tr Fr.rf F_431 (by decide)) (by decide)), hI_434, (by omega), (by omega), (by omega), (by omega), (by omega), (by omega), (by omega), (by omega), (by omega), (by omega), (by omega), (by omega), (by omega), (by omega)⟩
    · refine lv_iload_n hx hb dX4_putIntoArray_34 rfl (lv_at hl 2 rfl) ?_
      refine lv_iconst (v := iv 2) hx hb dX4_putIntoArray_35 rfl ?_
      refine xb_iadd hx hb dX4_putIntoArray_36 ?_
      refine xb_ti (y := r_5) (by omega) ?_
      refine lv_istore_n (lv' := [(2, .int (iv r_5)), (3, .int (iv r_331)), (1, .int (iv (r_5 - 2))), (0, .ref (oP ω 32))]) hx hb dX4_putIntoArray_37 rfl hl (by decide) rfl (fun ls hl => ?_)
      refine lv_aload_n hx hb dX4_putIntoArray_38 rfl (lv_at hl 3 rfl) ?_
      refine xa_getr G fd_X4 (a := 32) (x := 6) 2 rfl (by decide) rfl (wm 2 146 rfl rfl) ⟨rfl, rfl, rfl⟩ dX4_putIntoArray_39 rfl (G.sk 35 rfl) (by decide) rfl ?_
      refine lv_aload_n hx hb dX4_putIntoArray_42 rfl (lv_at hl 3 rfl) ?_
      refine xa_getr G fd_X4 (a := 32) (x := 33) 3 rfl (by decide) rfl (wm 2 147 rfl rfl) ⟨rfl, rfl, rfl⟩ dX4_putIntoArray_43 rfl (G.sk 36 rfl) (by decide) rfl ?_
      refine lv_iload_n hx hb dX4_putIntoArray_46 rfl (lv_at hl 0 rfl) ?_
      refine lv_aload_n hx hb dX4_putIntoArray_47 rfl (lv_at hl 3 rfl) ?_
      refine xa_getr G fd_X4 (a := 32) (x := 52) 7 rfl (by decide) rfl (wm 2 151 rfl rfl) ⟨rfl, rfl, rfl⟩ dX4_putIntoArray_48 rfl (G.sk 40 rfl) (by decide) rfl ?_
      refine xc_iV G (b := 52) (rest := [.int (iv r_5), .ref (oP ω 33), .ref (oP ω 6)]) (As := []) (c_X2_tongue ω l μ  hI) (wm 5 218 rfl rfl) (wm 5 219 rfl rfl) (wm 5 220 rfl rfl) rfl rfl (by decide) rfl (wm 1 16 rfl rfl) (wm 5 221 rfl rfl) (by decide) hR (by decide) (n := 0) rfl rfl (Nat.le_of_ble_eq_true rfl) hl.1 dX4_putIntoArray_51 (fun r_460 μ459 ρ d0 H locs hr_r_460 hp G => ?_)
      have hr_r_460 : -2147483648 ≤ r_460 ∧ r_460 ≤ 2147483647 := hr_r_460
      obtain ⟨hsm_461, hp_462⟩ := hp
      have hsm_461 := Eq.symm hsm_461
      subst hsm_461
      refine lv_aload_n hx hb dX4_putIntoArray_54 rfl (lv_at hl 3 rfl) ?_
      refine lv_iload_n hx hb dX4_putIntoArray_55 rfl (lv_at hl 2 rfl) ?_
      refine xc_iV G (b := 32) (rest := [.int (iv r_460), .int (iv r_5), .ref (oP ω 33), .ref (oP ω 6)]) (As := [.int (iv (r_5 - 2))]) (c_X4_tongueOfArray ω l μ (r_5 - 2) (by unfold ir; omega) hI) (wm 6 222 rfl rfl) (wm 6 224 rfl rfl) (wm 0 101 rfl rfl) rfl rfl (by decide) rfl (wm 1 14 rfl rfl) (wm 6 225 rfl rfl) (by decide) hR (by decide) (n := 1) rfl rfl (Nat.le_of_ble_eq_true rfl) hl.1 dX4_putIntoArray_56 (fun r_464 μ463 ρ d0 H locs hr_r_464 hp G => ?_)
      have hr_r_464 : -2147483648 ≤ r_464 ∧ r_464 ≤ 2147483647 := hr_r_464
      have hsm_465 := hp
      have hsm_465 := Eq.symm hsm_465
      subst hsm_465
      have e_466 : μ.1 33 3 = S := hS.symm
      refine xc_iV G (b := 6) (rest := []) (As := [.ref (oP ω 33), .int (iv r_5), .int (iv r_460), .int (iv r_464)]) (c_X0_turn ω l μ 33 r_5 r_460 r_464 (by unfold isRow; decide) (by unfold ir; omega) (by unfold ir; omega) (by unfold ir; omega) hI) (wm 6 32 rfl rfl) (wm 6 33 rfl rfl) (wm 6 34 rfl rfl) rfl rfl (by decide) rfl (wm 1 7 rfl rfl) (wm 6 35 rfl rfl) (by decide) hR (by decide) (n := 4) rfl rfl (Nat.le_of_ble_eq_true rfl) hl.1 dX4_putIntoArray_59 (fun r_468 μ467 ρ d0 H locs hr_r_468 hp G => ?_)
      have hr_r_468 : -2147483648 ≤ r_468 ∧ r_468 ≤ 2147483647 := hr_r_468
      obtain ⟨F_469, hI_470, hp_471, hp_472, hs_473⟩ := hp
      refine xb_if_eq (tgt := 69) hx hb (by unfold ir; omega) dX4_putIntoArray_62 (by decide) (fun c_62 => ?_) (fun c_62 => ?_)
      · refine lv_iconst (v := iv 4) hx hb dX4_putIntoArray_69 rfl ?_
        refine lv_istore_n (lv' := [(3, .int (iv 4)), (2, .int (iv r_5)), (1, .int (iv (r_5 - 2))), (0, .ref (oP ω 32))]) hx hb dX4_putIntoArray_70 rfl hl (by decide) rfl (fun ls hl => ?_)
        refine lv_aload_n hx hb dX4_putIntoArray_71 rfl (lv_at hl 3 rfl) ?_
        refine xa_getr G fd_X4 (a := 32) (x := 33) 3 rfl (by decide) rfl (wm 2 147 rfl rfl) ⟨rfl, rfl, rfl⟩ dX4_putIntoArray_72 rfl (G.sk 36 rfl) (by decide) rfl ?_
        refine lv_iload_n hx hb dX4_putIntoArray_75 rfl (lv_at hl 1 rfl) ?_
        refine xc_iV G (b := 33) (rest := []) (As := [.int (iv r_5)]) (c_X9_kind ω l μ467 33 r_5 (by unfold isRow; decide) (by unfold ir; omega) hI_470) (wm 6 146 rfl rfl) (wm 5 156 rfl rfl) (wm 5 157 rfl rfl) rfl rfl (by decide) rfl (wm 1 10 rfl rfl) (wm 5 158 rfl rfl) (by decide) hR (by decide) (n := 1) rfl rfl (Nat.le_of_ble_eq_true rfl) hl.1 dX4_putIntoArray_76 (fun r_475 μ474 ρ d0 H locs hr_r_475 hp G => ?_)
        have hr_r_475 : -2147483648 ≤ r_475 ∧ r_475 ≤ 2147483647 := hr_r_475
        have hsm_476 := hp
        have hsm_476 := Eq.symm hsm_476
        subst hsm_476
        refine lv_iconst (v := iv 4) hx hb dX4_putIntoArray_79 rfl ?_
        refine xb_icmp_ne (tgt := 101) hx hb (by unfold ir; omega) (by unfold ir; omega) dX4_putIntoArray_80 (by decide) (fun c_80 => ?_) (fun c_80 => ?_)
        · refine lv_iload_n hx hb dX4_putIntoArray_101 rfl (lv_at hl 0 rfl) ?_
          refine xb_if_eq (tgt := 118) hx hb (x := 4) (by unfold ir; omega) dX4_putIntoArray_102 (by decide) (fun c_102 => absurd c_102 (by decide)) (fun c_102 => ?_)
          refine lv_aload_n hx hb dX4_putIntoArray_105 rfl (lv_at hl 3 rfl) ?_
          refine lv_iload_n hx hb dX4_putIntoArray_106 rfl (lv_at hl 0 rfl) ?_
          refine lv_iconst (v := iv 3) hx hb dX4_putIntoArray_107 rfl ?_
          have e_477 : μ467.1 33 3 = S := (hs_473.trans hS.symm)
          have e_478 : μ467.1 70 2 = μ.1 70 2 := (F_469.1 70 (by decide) 2)
          have e_479 : μ467.1 70 2 = μ.1 70 2 := (F_469.1 70 (by decide) 2)
          have e_480 : μ467.1 70 8 = μ.1 70 8 := (F_469.1 70 (by decide) 8)
          have e_481 : μ467.1 70 8 = μ.1 70 8 := (F_469.1 70 (by decide) 8)
          have hn_482 : 0 ≤ μ.1 45 1 ∧ 9 * μ.1 45 1 ≤ μ.2.1 46 := hI.nm.2.2.2.2.2.2.1
          have e_483 : μ467.1 45 1 = μ.1 45 1 := (F_469.1 45 (by decide) 1)
          have e_484 : μ467.1 70 2 = μ.1 70 2 := (F_469.1 70 (by decide) 2)
          have e_485 : μ467.1 32 13 = μ.1 32 13 := (F_469.1 32 (by decide) 13)
          have e_486 : ofF μ467 53 = ofF μ 53 := (ofF_fr F_469 (by decide) (by decide))
          have e_487 : μ467.1 70 2 = μ.1 70 2 := (F_469.1 70 (by decide) 2)
          have e_488 : μ467.1 70 1 = μ.1 70 1 := (F_469.1 70 (by decide) 1)
          have e_489 : μ467.1 70 3 = μ.1 70 3 := (F_469.1 70 (by decide) 3)
          have e_490 : μ467.1 70 4 = μ.1 70 4 := (F_469.1 70 (by decide) 4)
          have e_491 : μ467.1 70 5 = μ.1 70 5 := (F_469.1 70 (by decide) 5)
          have e_492 : μ467.1 70 6 = μ.1 70 6 := (F_469.1 70 (by decide) 6)
          have e_493 : μ467.1 70 7 = μ.1 70 7 := (F_469.1 70 (by decide) 7)
          have e_494 : μ467.1 32 10 = μ.1 32 10 := (F_469.1 32 (by decide) 10)
          have e_495 : μ467.1 32 11 = μ.1 32 11 := (F_469.1 32 (by decide) 11)
          have e_496 : μ467.1 32 12 = μ.1 32 12 := (F_469.1 32 (by decide) 12)
          have e_497 : μ467.1 32 15 = μ.1 32 15 := (F_469.1 32 (by decide) 15)
          have e_498 : μ467.1 32 16 = μ.1 32 16 := (F_469.1 32 (by decide) 16)
          have hn_499 : 0 ≤ μ.1 45 4 ∧ 2 * μ.1 45 4 ≤ μ.2.1 51 := hI.nm.2.2.2.2.2.2.2.1
          have e_500 : μ467.1 45 4 = μ.1 45 4 := (F_469.1 45 (by decide) 4)
          refine xc_vV G (b := 32) (rest := []) (As := [.int (iv 4), .int (iv 3)]) (c_X4_fails ω l μ467 4 3 S (by unfold ir; omega) (by unfold ir; omega) hI_470 (by omega) (by omega) (by omega) (by omega)) (wm 6 93 rfl rfl) (wm 6 95 rfl rfl) (wm 0 82 rfl rfl) rfl rfl (by decide) rfl (wm 1 14 rfl rfl) (wm 6 96 rfl rfl) (by decide) hR (by decide) (n := 2) rfl rfl (Nat.le_of_ble_eq_true rfl) hl.1 dX4_putIntoArray_108 (fun μ501 ρ d0 H locs hp G => ?_)
          obtain ⟨F_502, hI_503, hp_504, hp_505, hs_506, hs_507, hs_508, hs_509, hs_510, hs_511, hs_512, hs_513, hs_514, hs_515, hs_516, hs_517⟩ := hp
          have hk_518 := hI_503.row (r := 33) (by unfold isRow; decide)
          unfold rk at hk_518
          simp only [Int.reduceAdd] at hk_518
          have hn_519 : 0 ≤ μ501.1 45 1 ∧ 9 * μ501.1 45 1 ≤ μ501.2.1 46 := hI_503.nm.2.2.2.2.2.2.1
          refine lv_aload_n hx hb dX4_putIntoArray_111 rfl (lv_at hl 3 rfl) ?_
          have e_520 : μ501.1 32 10 = μ.1 32 10 := (hs_512.trans (F_469.1 32 (by decide) 10))
          have e_521 : μ501.1 32 11 = μ.1 32 11 := (hs_513.trans (F_469.1 32 (by decide) 11))
          have e_522 : μ501.1 32 12 = μ.1 32 12 := (hs_514.trans (F_469.1 32 (by decide) 12))
          have e_523 : μ501.1 32 15 = μ.1 32 15 := (hs_515.trans (F_469.1 32 (by decide) 15))
          have e_524 : μ501.1 32 16 = μ.1 32 16 := (hs_516.trans (F_469.1 32 (by decide) 16))
          refine xc_vV G (b := 32) (rest := []) (As := []) (c_X4_leaveIfGoing ω l μ501  hI_503) (wm 6 234 rfl rfl) (wm 6 236 rfl rfl) (wm 0 104 rfl rfl) rfl rfl (by decide) rfl (wm 1 14 rfl rfl) (wm 6 237 rfl rfl) (by decide) hR (by decide) (n := 0) rfl rfl (Nat.le_of_ble_eq_true rfl) hl.1 dX4_putIntoArray_112 (fun μ525 ρ d0 H locs hp G => ?_)
          obtain ⟨F_526, hI_527, hp_528, hs_529, hs_530, hs_531, hs_532, hs_533, hs_534⟩ := hp
          refine lv_goto (tgt := 146) hx hb dX4_putIntoArray_115 (by decide) ?_
          have e_535 : μ525.1 33 3 = μ501.1 33 3 := (F_526.1 33 (by decide) 3)
          have e_536 : μ525.1 33 3 = μ501.1 33 3 := (F_526.1 33 (by decide) 3)
          have e_537 : μ525.1 70 2 = μ501.1 70 2 := (F_526.1 70 (by decide) 2)
          have e_538 : μ525.1 70 2 = μ501.1 70 2 := (F_526.1 70 (by decide) 2)
          have e_539 : μ525.1 70 8 = μ501.1 70 8 := (F_526.1 70 (by decide) 8)
          have e_540 : μ525.1 70 8 = μ501.1 70 8 := (F_526.1 70 (by decide) 8)
          have e_541 : μ525.1 45 1 = μ501.1 45 1 := (F_526.1 45 (by decide) 1)
          have e_542 : μ525.1 70 2 = μ501.1 70 2 := (F_526.1 70 (by decide) 2)
          have e_543 : μ525.1 70 1 = μ.1 70 1 := ((F_526.1 70 (by decide) 1).trans (hs_506.trans (F_469.1 70 (by decide) 1)))
          have e_544 : μ525.1 70 3 = μ.1 70 3 := ((F_526.1 70 (by decide) 3).trans (hs_507.trans (F_469.1 70 (by decide) 3)))
          have e_545 : μ525.1 70 4 = μ.1 70 4 := ((F_526.1 70 (by decide) 4).trans (hs_508.trans (F_469.1 70 (by decide) 4)))
          have e_546 : μ525.1 70 5 = μ.1 70 5 := ((F_526.1 70 (by decide) 5).trans (hs_509.trans (F_469.1 70 (by decide) 5)))
          have e_547 : μ525.1 70 6 = μ.1 70 6 := ((F_526.1 70 (by decide) 6).trans (hs_510.trans (F_469.1 70 (by decide) 6)))
          have e_548 : μ525.1 70 7 = μ.1 70 7 := ((F_526.1 70 (by decide) 7).trans (hs_511.trans (F_469.1 70 (by decide) 7)))
          have e_549 : μ525.1 32 10 = μ.1 32 10 := (hs_529.trans (hs_512.trans (F_469.1 32 (by decide) 10)))
          have e_550 : μ525.1 32 11 = μ.1 32 11 := (hs_530.trans (hs_513.trans (F_469.1 32 (by decide) 11)))
          have e_551 : μ525.1 32 12 = μ.1 32 12 := (hs_531.trans (hs_514.trans (F_469.1 32 (by decide) 12)))
          have e_552 : μ525.1 32 15 = μ.1 32 15 := (hs_533.trans (hs_515.trans (F_469.1 32 (by decide) 15)))
          have e_553 : μ525.1 32 16 = μ.1 32 16 := (hs_534.trans (hs_516.trans (F_469.1 32 (by decide) 16)))
          have e_554 : μ525.1 45 4 = μ.1 45 4 := ((F_526.1 45 (by decide) 4).trans (hs_517.trans (F_469.1 45 (by decide) 4)))
          exact xr_v G hret hlk dX4_putIntoArray_146 ⟨(Fr.tr (Fr.tr (Fr.tr Fr.rf F_469 (by decide)) F_502 (by decide)) F_526 (by decide)), hI_527, (by omega), (by omega), (by omega), (by omega), (by omega), (by omega), (by omega), (by omega), (by omega), (by omega), (by omega), (by omega), (by omega), (by omega)⟩
        · refine lv_aload_n hx hb dX4_putIntoArray_83 rfl (lv_at hl 3 rfl) ?_
          refine xa_getr G fd_X4 (a := 32) (x := 33) 3 rfl (by decide) rfl (wm 2 147 rfl rfl) ⟨rfl, rfl, rfl⟩ dX4_putIntoArray_84 rfl (G.sk 36 rfl) (by decide) rfl ?_
          refine lv_iload_n hx hb dX4_putIntoArray_87 rfl (lv_at hl 1 rfl) ?_
          refine lv_iconst (v := iv 1) hx hb dX4_putIntoArray_88 rfl ?_
          refine xb_iadd hx hb dX4_putIntoArray_89 ?_
          refine xc_vV G (b := 33) (rest := []) (As := [.int (iv (r_5 + 1))]) (c_X9_resize ω l μ467 33 (r_5 + 1) (by unfold isRow; decide) (by unfold ir; omega) hI_470 (by omega)) (wm 5 55 rfl rfl) (wm 3 15 rfl rfl) (wm 3 16 rfl rfl) rfl rfl (by decide) rfl (wm 1 10 rfl rfl) (wm 3 17 rfl rfl) (by decide) hR (by decide) (n := 1) rfl rfl (Nat.le_of_ble_eq_true rfl) hl.1 dX4_putIntoArray_90 (fun μ555 ρ d0 H locs hp G => ?_)
          obtain ⟨F_556, hI_557, hs_558⟩ := hp
          refine lv_aload_n hx hb dX4_putIntoArray_93 rfl (lv_at hl 3 rfl) ?_
          refine lv_iconst (v := iv 3) hx hb dX4_putIntoArray_94 rfl ?_
          refine xa_puti G fd_X4 (a := 32) (x := 3) 13 (kz := 13) rfl rfl (by decide) rfl (by unfold ir; omega) (wm 2 157 rfl rfl) ⟨rfl, rfl, rfl, rfl⟩ rfl dX4_putIntoArray_95 rfl (fun H locs G => ?_)
          refine lv_goto (tgt := 146) hx hb dX4_putIntoArray_98 (by decide) ?_
          have hI_559 : IC (sv μ555 32 13 3) := (IC.put hI_557 (by decide +kernel))
          have e_560 : (sv μ555 32 13 3).1 33 3 = max (r_5 + 1) 0 := ((sv_n _ (fun h9 => absurd h9.1 (by decide))).trans hs_558)
          have e_561 : (sv μ555 32 13 3).1 32 13 = 3 := (sv_s _ _ _ _)
          have e_562 : (sv μ555 32 13 3).1 33 3 = max (r_5 + 1) 0 := ((sv_n _ (fun h9 => absurd h9.1 (by decide))).trans hs_558)
          have e_563 : (sv μ555 32 13 3).1 32 13 = 3 := (sv_s _ _ _ _)
          have e_564 : (sv μ555 32 13 3).1 32 13 = 3 := (sv_s _ _ _ _)
          have e_565 : (sv μ555 32 13 3).1 32 13 = 3 := (sv_s _ _ _ _)
          have e_566 : (sv μ555 32 13 3).1 70 2 = μ.1 70 2 := ((sv_n _ (fun h9 => absurd h9.1 (by decide))).trans ((F_556.1 70 (by decide) 2).trans (F_469.1 70 (by decide) 2)))
          have e_567 : (sv μ555 32 13 3).1 70 2 = μ.1 70 2 := ((sv_n _ (fun h9 => absurd h9.1 (by decide))).trans ((F_556.1 70 (by decide) 2).trans (F_469.1 70 (by decide) 2)))
          have e_568 : (sv μ555 32 13 3).1 70 8 = μ.1 70 8 := ((sv_n _ (fun h9 => absurd h9.1 (by decide))).trans ((F_556.1 70 (by decide) 8).trans (F_469.1 70 (by decide) 8)))
          have e_569 : (sv μ555 32 13 3).1 70 8 = μ.1 70 8 := ((sv_n _ (fun h9 => absurd h9.1 (by decide))).trans ((F_556.1 70 (by decide) 8).trans (F_469.1 70 (by decide) 8)))
          have e_570 : (sv μ555 32 13 3).1 45 1 = μ.1 45 1 := ((sv_n _ (fun h9 => absurd h9.1 (by decide))).trans ((F_556.1 45 (by decide) 1).trans (F_469.1 45 (by decide) 1)))
          have e_571 : (sv μ555 32 13 3).1 70 2 = μ.1 70 2 := ((sv_n _ (fun h9 => absurd h9.1 (by decide))).trans ((F_556.1 70 (by decide) 2).trans (F_469.1 70 (by decide) 2)))
          have e_572 : (sv μ555 32 13 3).1 70 1 = μ.1 70 1 := ((sv_n _ (fun h9 => absurd h9.1 (by decide))).trans ((F_556.1 70 (by decide) 1).trans (F_469.1 70 (by decide) 1)))
          have e_573 : (sv μ555 32 13 3).1 70 3 = μ.1 70 3 := ((sv_n _ (fun h9 => absurd h9.1 (by decide))).trans ((F_556.1 70 (by decide) 3).trans (F_469.1 70 (by decide) 3)))
          have e_574 : (sv μ555 32 13 3).1 70 4 = μ.1 70 4 := ((sv_n _ (fun h9 => absurd h9.1 (by decide))).trans ((F_556.1 70 (by decide) 4).trans (F_469.1 70 (by decide) 4)))
          have e_575 : (sv μ555 32 13 3).1 70 5 = μ.1 70 5 := ((sv_n _ (fun h9 => absurd h9.1 (by decide))).trans ((F_556.1 70 (by decide) 5).trans (F_469.1 70 (by decide) 5)))
          have e_576 : (sv μ555 32 13 3).1 70 6 = μ.1 70 6 := ((sv_n _ (fun h9 => absurd h9.1 (by decide))).trans ((F_556.1 70 (by decide) 6).trans (F_469.1 70 (by decide) 6)))
          have e_577 : (sv μ555 32 13 3).1 70 7 = μ.1 70 7 := ((sv_n _ (fun h9 => absurd h9.1 (by decide))).trans ((F_556.1 70 (by decide) 7).trans (F_469.1 70 (by decide) 7)))
          have e_578 : (sv μ555 32 13 3).1 32 10 = μ.1 32 10 := ((sv_n _ (by decide)).trans ((F_556.1 32 (by decide) 10).trans (F_469.1 32 (by decide) 10)))
          have e_579 : (sv μ555 32 13 3).1 32 11 = μ.1 32 11 := ((sv_n _ (by decide)).trans ((F_556.1 32 (by decide) 11).trans (F_469.1 32 (by decide) 11)))
          have e_580 : (sv μ555 32 13 3).1 32 12 = μ.1 32 12 := ((sv_n _ (by decide)).trans ((F_556.1 32 (by decide) 12).trans (F_469.1 32 (by decide) 12)))
          have e_581 : (sv μ555 32 13 3).1 32 15 = μ.1 32 15 := ((sv_n _ (by decide)).trans ((F_556.1 32 (by decide) 15).trans (F_469.1 32 (by decide) 15)))
          have e_582 : (sv μ555 32 13 3).1 32 16 = μ.1 32 16 := ((sv_n _ (by decide)).trans ((F_556.1 32 (by decide) 16).trans (F_469.1 32 (by decide) 16)))
          have e_583 : (sv μ555 32 13 3).1 45 4 = μ.1 45 4 := ((sv_n _ (fun h9 => absurd h9.1 (by decide))).trans ((F_556.1 45 (by decide) 4).trans (F_469.1 45 (by decide) 4)))
          exact xr_v G hret hlk dX4_putIntoArray_146 ⟨(Fr.put (Fr.tr (Fr.tr Fr.rf F_469 (by decide)) F_556 (by decide)) (by decide)), hI_559, (by omega), (by omega), (by omega), (by omega), (by omega), (by omega), (by omega), (by omega), (by omega), (by omega), (by omega), (by omega), (by omega), (by omega)⟩
      · refine lv_iconst (v := iv 0) hx hb dX4_putIntoArray_65 rfl ?_
        refine lv_goto (tgt := 70) hx hb dX4_putIntoArray_66 (by decide) ?_
        refine lv_istore_n (lv' := [(3, .int (iv 0)), (2, .int (iv r_5)), (1, .int (iv (r_5 - 2))), (0, .ref (oP ω 32))]) hx hb dX4_putIntoArray_70 rfl hl (by decide) rfl (fun ls hl => ?_)
        refine lv_aload_n hx hb dX4_putIntoArray_71 rfl (lv_at hl 3 rfl) ?_
        refine xa_getr G fd_X4 (a := 32) (x := 33) 3 rfl (by decide) rfl (wm 2 147 rfl rfl) ⟨rfl, rfl, rfl⟩ dX4_putIntoArray_72 rfl (G.sk 36 rfl) (by decide) rfl ?_
        refine lv_iload_n hx hb dX4_putIntoArray_75 rfl (lv_at hl 1 rfl) ?_
        refine xc_iV G (b := 33) (rest := []) (As := [.int (iv r_5)]) (c_X9_kind ω l μ467 33 r_5 (by unfold isRow; decide) (by unfold ir; omega) hI_470) (wm 6 146 rfl rfl) (wm 5 156 rfl rfl) (wm 5 157 rfl rfl) rfl rfl (by decide) rfl (wm 1 10 rfl rfl) (wm 5 158 rfl rfl) (by decide) hR (by decide) (n := 1) rfl rfl (Nat.le_of_ble_eq_true rfl) hl.1 dX4_putIntoArray_76 (fun r_585 μ584 ρ d0 H locs hr_r_585 hp G => ?_)
        have hr_r_585 : -2147483648 ≤ r_585 ∧ r_585 ≤ 2147483647 := hr_r_585
        have hsm_586 := hp
        have hsm_586 := Eq.symm hsm_586
        subst hsm_586
        refine lv_iconst (v := iv 4) hx hb dX4_putIntoArray_79 rfl ?_
        refine xb_icmp_ne (tgt := 101) hx hb (by unfold ir; omega) (by unfold ir; omega) dX4_putIntoArray_80 (by decide) (fun c_80 => ?_) (fun c_80 => ?_)
        · refine lv_iload_n hx hb dX4_putIntoArray_101 rfl (lv_at hl 0 rfl) ?_
          refine xb_if_eq (tgt := 118) hx hb (x := 0) (by unfold ir; omega) dX4_putIntoArray_102 (by decide) (fun c_102 => ?_) (fun c_102 => absurd (by decide) c_102)
          refine lv_aload_n hx hb dX4_putIntoArray_118 rfl (lv_at hl 3 rfl) ?_
          refine xa_getr G fd_X4 (a := 32) (x := 37) 4 rfl (by decide) rfl (wm 2 148 rfl rfl) ⟨rfl, rfl, rfl⟩ dX4_putIntoArray_119 rfl (G.sk 37 rfl) (by decide) rfl ?_
          refine lv_aload_n hx hb dX4_putIntoArray_122 rfl (lv_at hl 3 rfl) ?_
          refine lv_iload_n hx hb dX4_putIntoArray_123 rfl (lv_at hl 2 rfl) ?_
          refine lv_iload_n hx hb dX4_putIntoArray_124 rfl (lv_at hl 2 rfl) ?_
          refine lv_iconst (v := iv 1) hx hb dX4_putIntoArray_125 rfl ?_
          refine xb_iadd hx hb dX4_putIntoArray_126 ?_
          refine xb_ti (y := r_5 - 1) (by omega) ?_
          refine xc_iV G (b := 32) (rest := [.ref (oP ω 37)]) (As := [.int (iv (r_5 - 2)), .int (iv (r_5 - 1))]) (c_X4_cellAt ω l μ467 (r_5 - 2) (r_5 - 1) (by unfold ir; omega) (by unfold ir; omega) hI_470) (wm 6 226 rfl rfl) (wm 6 228 rfl rfl) (wm 0 102 rfl rfl) rfl rfl (by decide) rfl (wm 1 14 rfl rfl) (wm 6 229 rfl rfl) (by decide) hR (by decide) (n := 2) rfl rfl (Nat.le_of_ble_eq_true rfl) hl.1 dX4_putIntoArray_127 (fun r_588 μ587 ρ d0 H locs hr_r_588 hp G => ?_)
          have hr_r_588 : -2147483648 ≤ r_588 ∧ r_588 ≤ 2147483647 := hr_r_588
          have hsm_589 := hp
          have hsm_589 := Eq.symm hsm_589
          subst hsm_589
          refine lv_aload_n hx hb dX4_putIntoArray_130 rfl (lv_at hl 3 rfl) ?_
          refine xa_getr G fd_X4 (a := 32) (x := 33) 3 rfl (by decide) rfl (wm 2 147 rfl rfl) ⟨rfl, rfl, rfl⟩ dX4_putIntoArray_131 rfl (G.sk 36 rfl) (by decide) rfl ?_
          refine lv_iload_n hx hb dX4_putIntoArray_134 rfl (lv_at hl 1 rfl) ?_
          refine xc_vV G (b := 37) (rest := []) (As := [.int (iv r_588), .ref (oP ω 33), .int (iv r_5)]) (c_X9_copy ω l μ467 37 r_588 33 r_5 (by unfold isRow; decide) (by unfold ir; omega) (by unfold isRow; decide) (by unfold ir; omega) hI_470) (wm 6 28 rfl rfl) (wm 6 29 rfl rfl) (wm 6 30 rfl rfl) rfl rfl (by decide) rfl (wm 1 10 rfl rfl) (wm 6 31 rfl rfl) (by decide) hR (by decide) (n := 3) rfl rfl (Nat.le_of_ble_eq_true rfl) hl.1 dX4_putIntoArray_135 (fun μ590 ρ d0 H locs hp G => ?_)
          obtain ⟨F_591, hI_592, hp_593⟩ := hp
          refine lv_aload_n hx hb dX4_putIntoArray_138 rfl (lv_at hl 3 rfl) ?_
          refine xa_getr G fd_X4 (a := 32) (x := 33) 3 rfl (by decide) rfl (wm 2 147 rfl rfl) ⟨rfl, rfl, rfl⟩ dX4_putIntoArray_139 rfl (G.sk 36 rfl) (by decide) rfl ?_
          refine lv_iconst (v := iv 3) hx hb dX4_putIntoArray_142 rfl ?_
          have e_594 : μ590.1 33 3 = S := ((F_591.1 33 (by decide) 3).trans (hs_473.trans hS.symm))
          refine xc_vV G (b := 33) (rest := []) (As := [.int (iv 3)]) (c_X9_drop ω l μ590 33 3 S (by unfold isRow; decide) (by unfold ir; omega) hI_592 (by omega) (by omega)) (wm 6 89 rfl rfl) (wm 6 90 rfl rfl) (wm 6 91 rfl rfl) rfl rfl (by decide) rfl (wm 1 10 rfl rfl) (wm 6 92 rfl rfl) (by decide) hR (by decide) (n := 1) rfl rfl (Nat.le_of_ble_eq_true rfl) hl.1 dX4_putIntoArray_143 (fun μ595 ρ d0 H locs hp G => ?_)
          obtain ⟨F_596, hI_597, hs_598⟩ := hp
          have e_599 : μ595.1 33 3 = max (S - 3) 0 := hs_598
          have e_600 : μ595.1 32 13 = μ.1 32 13 := ((F_596.1 32 (by decide) 13).trans ((F_591.1 32 (by decide) 13).trans (F_469.1 32 (by decide) 13)))
          have e_601 : μ595.1 33 3 = max (S - 3) 0 := hs_598
          have e_602 : μ595.1 32 13 = μ.1 32 13 := ((F_596.1 32 (by decide) 13).trans ((F_591.1 32 (by decide) 13).trans (F_469.1 32 (by decide) 13)))
          have e_603 : μ595.1 32 13 = μ.1 32 13 := ((F_596.1 32 (by decide) 13).trans ((F_591.1 32 (by decide) 13).trans (F_469.1 32 (by decide) 13)))
          have e_604 : μ595.1 32 13 = μ.1 32 13 := ((F_596.1 32 (by decide) 13).trans ((F_591.1 32 (by decide) 13).trans (F_469.1 32 (by decide) 13)))
          have e_605 : μ595.1 70 2 = μ.1 70 2 := ((F_596.1 70 (by decide) 2).trans ((F_591.1 70 (by decide) 2).trans (F_469.1 70 (by decide) 2)))
          have e_606 : μ595.1 70 2 = μ.1 70 2 := ((F_596.1 70 (by decide) 2).trans ((F_591.1 70 (by decide) 2).trans (F_469.1 70 (by decide) 2)))
          have e_607 : μ595.1 70 8 = μ.1 70 8 := ((F_596.1 70 (by decide) 8).trans ((F_591.1 70 (by decide) 8).trans (F_469.1 70 (by decide) 8)))
          have e_608 : μ595.1 70 8 = μ.1 70 8 := ((F_596.1 70 (by decide) 8).trans ((F_591.1 70 (by decide) 8).trans (F_469.1 70 (by decide) 8)))
          have e_609 : μ595.1 45 1 = μ.1 45 1 := ((F_596.1 45 (by decide) 1).trans ((F_591.1 45 (by decide) 1).trans (F_469.1 45 (by decide) 1)))
          have e_610 : μ595.1 70 2 = μ.1 70 2 := ((F_596.1 70 (by decide) 2).trans ((F_591.1 70 (by decide) 2).trans (F_469.1 70 (by decide) 2)))
          have e_611 : μ595.1 70 1 = μ.1 70 1 := ((F_596.1 70 (by decide) 1).trans ((F_591.1 70 (by decide) 1).trans (F_469.1 70 (by decide) 1)))
          have e_612 : μ595.1 70 3 = μ.1 70 3 := ((F_596.1 70 (by decide) 3).trans ((F_591.1 70 (by decide) 3).trans (F_469.1 70 (by decide) 3)))
          have e_613 : μ595.1 70 4 = μ.1 70 4 := ((F_596.1 70 (by decide) 4).trans ((F_591.1 70 (by decide) 4).trans (F_469.1 70 (by decide) 4)))
          have e_614 : μ595.1 70 5 = μ.1 70 5 := ((F_596.1 70 (by decide) 5).trans ((F_591.1 70 (by decide) 5).trans (F_469.1 70 (by decide) 5)))
          have e_615 : μ595.1 70 6 = μ.1 70 6 := ((F_596.1 70 (by decide) 6).trans ((F_591.1 70 (by decide) 6).trans (F_469.1 70 (by decide) 6)))
          have e_616 : μ595.1 70 7 = μ.1 70 7 := ((F_596.1 70 (by decide) 7).trans ((F_591.1 70 (by decide) 7).trans (F_469.1 70 (by decide) 7)))
          have e_617 : μ595.1 32 10 = μ.1 32 10 := ((F_596.1 32 (by decide) 10).trans ((F_591.1 32 (by decide) 10).trans (F_469.1 32 (by decide) 10)))
          have e_618 : μ595.1 32 11 = μ.1 32 11 := ((F_596.1 32 (by decide) 11).trans ((F_591.1 32 (by decide) 11).trans (F_469.1 32 (by decide) 11)))
          have e_619 : μ595.1 32 12 = μ.1 32 12 := ((F_596.1 32 (by decide) 12).trans ((F_591.1 32 (by decide) 12).trans (F_469.1 32 (by decide) 12)))
          have e_620 : μ595.1 32 15 = μ.1 32 15 := ((F_596.1 32 (by decide) 15).trans ((F_591.1 32 (by decide) 15).trans (F_469.1 32 (by decide) 15)))
          have e_621 : μ595.1 32 16 = μ.1 32 16 := ((F_596.1 32 (by decide) 16).trans ((F_591.1 32 (by decide) 16).trans (F_469.1 32 (by decide) 16)))
          have e_622 : μ595.1 45 4 = μ.1 45 4 := ((F_596.1 45 (by decide) 4).trans ((F_591.1 45 (by decide) 4).trans (F_469.1 45 (by decide) 4)))
          exact xr_v G hret hlk dX4_putIntoArray_146 ⟨(Fr.tr (Fr.tr (Fr.tr Fr.rf F_469 (by decide)) F_591 (by decide)) F_596 (by decide)), hI_597, (by omega), (by omega), (by omega), (by omega), (by omega), (by omega), (by omega), (by omega), (by omega), (by omega), (by omega), (by omega), (by omega), (by omega)⟩
        · refine lv_aload_n hx hb dX4_putIntoArray_83 rfl (lv_at hl 3 rfl) ?_
          refine xa_getr G fd_X4 (a := 32) (x := 33) 3 rfl (by decide) rfl (wm 2 147 rfl rfl) ⟨rfl, rfl, rfl⟩ dX4_putIntoArray_84 rfl (G.sk 36 rfl) (by decide) rfl ?_
          refine lv_iload_n hx hb dX4_putIntoArray_87 rfl (lv_at hl 1 rfl) ?_
          refine lv_iconst (v := iv 1) hx hb dX4_putIntoArray_88 rfl ?_
          refine xb_iadd hx hb dX4_putIntoArray_89 ?_
          refine xc_vV G (b := 33) (rest := []) (As := [.int (iv (r_5 + 1))]) (c_X9_resize ω l μ467 33 (r_5 + 1) (by unfold isRow; decide) (by unfold ir; omega) hI_470 (by omega)) (wm 5 55 rfl rfl) (wm 3 15 rfl rfl) (wm 3 16 rfl rfl) rfl rfl (by decide) rfl (wm 1 10 rfl rfl) (wm 3 17 rfl rfl) (by decide) hR (by decide) (n := 1) rfl rfl (Nat.le_of_ble_eq_true rfl) hl.1 dX4_putIntoArray_90 (fun μ623 ρ d0 H locs hp G => ?_)
          obtain ⟨F_624, hI_625, hs_626⟩ := hp
          refine lv_aload_n hx hb dX4_putIntoArray_93 rfl (lv_at hl 3 rfl) ?_
          refine lv_iconst (v := iv 3) hx hb dX4_putIntoArray_94 rfl ?_
          refine xa_puti G fd_X4 (a := 32) (x := 3) 13 (kz := 13) rfl rfl (by decide) rfl (by unfold ir; omega) (wm 2 157 rfl rfl) ⟨rfl, rfl, rfl, rfl⟩ rfl dX4_putIntoArray_95 rfl (fun H locs G => ?_)
          refine lv_goto (tgt := 146) hx hb dX4_putIntoArray_98 (by decide) ?_
          have hI_627 : IC (sv μ623 32 13 3) := (IC.put hI_625 (by decide +kernel))
          have e_628 : (sv μ623 32 13 3).1 33 3 = max (r_5 + 1) 0 := ((sv_n _ (fun h9 => absurd h9.1 (by decide))).trans hs_626)
          have e_629 : (sv μ623 32 13 3).1 32 13 = 3 := (sv_s _ _ _ _)
          have e_630 : (sv μ623 32 13 3).1 33 3 = max (r_5 + 1) 0 := ((sv_n _ (fun h9 => absurd h9.1 (by decide))).trans hs_626)
          have e_631 : (sv μ623 32 13 3).1 32 13 = 3 := (sv_s _ _ _ _)
          have e_632 : (sv μ623 32 13 3).1 32 13 = 3 := (sv_s _ _ _ _)
          have e_633 : (sv μ623 32 13 3).1 32 13 = 3 := (sv_s _ _ _ _)
          have e_634 : (sv μ623 32 13 3).1 70 2 = μ.1 70 2 := ((sv_n _ (fun h9 => absurd h9.1 (by decide))).trans ((F_624.1 70 (by decide) 2).trans (F_469.1 70 (by decide) 2)))
          have e_635 : (sv μ623 32 13 3).1 70 2 = μ.1 70 2 := ((sv_n _ (fun h9 => absurd h9.1 (by decide))).trans ((F_624.1 70 (by decide) 2).trans (F_469.1 70 (by decide) 2)))
          have e_636 : (sv μ623 32 13 3).1 70 8 = μ.1 70 8 := ((sv_n _ (fun h9 => absurd h9.1 (by decide))).trans ((F_624.1 70 (by decide) 8).trans (F_469.1 70 (by decide) 8)))
          have e_637 : (sv μ623 32 13 3).1 70 8 = μ.1 70 8 := ((sv_n _ (fun h9 => absurd h9.1 (by decide))).trans ((F_624.1 70 (by decide) 8).trans (F_469.1 70 (by decide) 8)))
          have e_638 : (sv μ623 32 13 3).1 45 1 = μ.1 45 1 := ((sv_n _ (fun h9 => absurd h9.1 (by decide))).trans ((F_624.1 45 (by decide) 1).trans (F_469.1 45 (by decide) 1)))
          have e_639 : (sv μ623 32 13 3).1 70 2 = μ.1 70 2 := ((sv_n _ (fun h9 => absurd h9.1 (by decide))).trans ((F_624.1 70 (by decide) 2).trans (F_469.1 70 (by decide) 2)))
          have e_640 : (sv μ623 32 13 3).1 70 1 = μ.1 70 1 := ((sv_n _ (fun h9 => absurd h9.1 (by decide))).trans ((F_624.1 70 (by decide) 1).trans (F_469.1 70 (by decide) 1)))
          have e_641 : (sv μ623 32 13 3).1 70 3 = μ.1 70 3 := ((sv_n _ (fun h9 => absurd h9.1 (by decide))).trans ((F_624.1 70 (by decide) 3).trans (F_469.1 70 (by decide) 3)))
          have e_642 : (sv μ623 32 13 3).1 70 4 = μ.1 70 4 := ((sv_n _ (fun h9 => absurd h9.1 (by decide))).trans ((F_624.1 70 (by decide) 4).trans (F_469.1 70 (by decide) 4)))
          have e_643 : (sv μ623 32 13 3).1 70 5 = μ.1 70 5 := ((sv_n _ (fun h9 => absurd h9.1 (by decide))).trans ((F_624.1 70 (by decide) 5).trans (F_469.1 70 (by decide) 5)))
          have e_644 : (sv μ623 32 13 3).1 70 6 = μ.1 70 6 := ((sv_n _ (fun h9 => absurd h9.1 (by decide))).trans ((F_624.1 70 (by decide) 6).trans (F_469.1 70 (by decide) 6)))
          have e_645 : (sv μ623 32 13 3).1 70 7 = μ.1 70 7 := ((sv_n _ (fun h9 => absurd h9.1 (by decide))).trans ((F_624.1 70 (by decide) 7).trans (F_469.1 70 (by decide) 7)))
          have e_646 : (sv μ623 32 13 3).1 32 10 = μ.1 32 10 := ((sv_n _ (by decide)).trans ((F_624.1 32 (by decide) 10).trans (F_469.1 32 (by decide) 10)))
          have e_647 : (sv μ623 32 13 3).1 32 11 = μ.1 32 11 := ((sv_n _ (by decide)).trans ((F_624.1 32 (by decide) 11).trans (F_469.1 32 (by decide) 11)))
          have e_648 : (sv μ623 32 13 3).1 32 12 = μ.1 32 12 := ((sv_n _ (by decide)).trans ((F_624.1 32 (by decide) 12).trans (F_469.1 32 (by decide) 12)))
          have e_649 : (sv μ623 32 13 3).1 32 15 = μ.1 32 15 := ((sv_n _ (by decide)).trans ((F_624.1 32 (by decide) 15).trans (F_469.1 32 (by decide) 15)))
          have e_650 : (sv μ623 32 13 3).1 32 16 = μ.1 32 16 := ((sv_n _ (by decide)).trans ((F_624.1 32 (by decide) 16).trans (F_469.1 32 (by decide) 16)))
          have e_651 : (sv μ623 32 13 3).1 45 4 = μ.1 45 4 := ((sv_n _ (fun h9 => absurd h9.1 (by decide))).trans ((F_624.1 45 (by decide) 4).trans (F_469.1 45 (by decide) 4)))
          exact xr_v G hret hlk dX4_putIntoArray_146 ⟨(Fr.put (Fr.tr (Fr.tr Fr.rf F_469 (by decide)) F_624 (by decide)) (by decide)), hI_627, (by omega), (by omega), (by omega), (by omega), (by omega), (by omega), (by omega), (by omega), (by omega), (by omega), (by omega), (by omega), (by omega), (by omega)⟩

set_option maxHeartbeats 4000000 in
set_option maxRecDepth 100000 in
theorem c_X4_functionItself (ω : Om) (l : Launch) (μ : M3) (x1 : Int) (x2 : Int) (S : Int) (hx1 : ir x1) (hx2 : ir x2) (hI : IC μ) (hS : S = μ.1 33 3) (hSb : S < 240099) (hst : 0 ≤ μ.1 70 2 ∧ μ.1 70 2 ≤ 5000 ∧ 0 ≤ μ.1 70 8 ∧ μ.1 70 8 ≤ 80000 ∧ μ.1 45 1 ≤ μ.1 70 2) (h0s : μ.1 32 13 = 0) : CtV ω l yX4_functionItself cX4_functionItself 4 6 194 [.ref (oP ω 32), .int (iv x1), .int (iv x2)] μ (fun (μ' : M3) => (Fr [33, 34, 35, 36, 70, 32, 45, 46, 47, 48, 49, 50] μ μ') ∧ (IC μ') ∧ ((μ'.1 33 3 ≤ S + 1 ∧ μ'.1 32 13 = 0) ∨ (μ'.1 33 3 ≤ S + 1 ∧ (μ'.1 32 13 = 1 ∨ μ'.1 32 13 = 3 ∨ μ'.1 32 13 = 4))) ∧ (μ.1 70 2 ≤ μ'.1 70 2 ∧ μ'.1 70 2 ≤ 5000 ∧ 0 ≤ μ'.1 70 8 ∧ μ'.1 70 8 ≤ 80000 ∧ μ'.1 45 1 ≤ μ'.1 70 2) ∧ (μ'.1 70 1 = μ.1 70 1) ∧ (μ'.1 70 3 = μ.1 70 3) ∧ (μ'.1 70 4 = μ.1 70 4) ∧ (μ'.1 70 5 = μ.1 70 5) ∧ (μ'.1 70 6 = μ.1 70 6) ∧ (μ'.1 70 7 = μ.1 70 7) ∧ (μ'.1 32 10 = μ.1 32 10) ∧ (μ'.1 32 11 = μ.1 32 11) ∧ (μ'.1 32 12 = μ.1 32 12) ∧ (μ'.1 32 15 = μ.1 32 15) ∧ (μ'.1 32 16 = μ.1 32 16) ∧ (μ'.1 45 4 = μ.1 45 4)) := by
  refine CtV.go (by decide) (Nat.le_of_ble_eq_true rfl) (fun ρ p e s m below meth c R ls G hR hret hlk hl => ?_)
  have hx := G.1.1
  have hb := G.1.2.1
  have hl : lv_has ls 4 [(0, .ref (oP ω 32)), (1, .int (iv x1)), (2, .int (iv x2))] := hl
  generalize s.drawn = d0 at G ⊢
  have hr_x1 : -2147483648 ≤ x1 ∧ x1 ≤ 2147483647 := hx1
  have hr_x2 : -2147483648 ≤ x2 ∧ x2 ≤ 2147483647 := hx2
  have hk_1 := hI.row (r := 33) (by unfold isRow; decide)
  unfold rk at hk_1
  simp only [Int.reduceAdd] at hk_1
  have hbr_33 : BR 33 = 240100 := rfl
  have hk_2 := hI.row (r := 37) (by unfold isRow; decide)
  unfold rk at hk_2
  simp only [Int.reduceAdd] at hk_2
  have hbr_37 : BR 37 = 20410 := rfl
  refine lv_aload_n hx hb dX4_functionItself_0 rfl (lv_at hl 0 rfl) ?_
  refine xa_getr G fd_X4 (a := 32) (x := 12) 0 rfl (by decide) rfl (wm 2 144 rfl rfl) ⟨rfl, rfl, rfl⟩ dX4_functionItself_1 rfl (G.sk 33 rfl) (by decide) rfl ?_
  refine lv_iload_n hx hb dX4_functionItself_4 rfl (lv_at hl 1 rfl) ?_
  refine lv_iconst (v := iv 3) hx hb dX4_functionItself_5 rfl ?_
  refine lv_iand hx hb dX4_functionItself_6 ?_
  refine xb_topi (fun y_3 hr_y_3 he_y_3 => ?_)
  have hr_y_3 : -2147483648 ≤ y_3 ∧ y_3 ≤ 2147483647 := hr_y_3
  have hm_y_3 := and_mask x1 (k := 3) (by omega) he_y_3 hr_y_3
  have hm3_y_3 : 0 ≤ x1 ∧ x1 ≤ 3 → y_3 = x1 := and3 he_y_3 hr_y_3
  obtain ⟨pd4, he_pd4, hd_pd4⟩ : ∃ z : Int, μ.1 12 y_3 = z ∧ isPr z := ⟨_, rfl, by have h9 := G.sr0.2.2.1 y_3; exact h9⟩
  have hd_pd4_d : pd4 = 13 ∨ pd4 = 71 ∨ pd4 = 81 ∨ pd4 = 91 ∨ pd4 = 101 := hd_pd4
  refine xa_aald G (a := 12) (i := y_3) (b := pd4) rfl (by have h9 := G.lc (a := 12) (n := 4) 9 rfl; omega) he_pd4 (by omega) dX4_functionItself_7 rfl (hd_pd4.hq ω ρ) ?_
  refine lv_aload_n hx hb dX4_functionItself_8 rfl (lv_at hl 0 rfl) ?_
  obtain ⟨pd5, he_pd5, hd_pd5⟩ : ∃ z : Int, μ.1 32 10 = z ∧ isPr z := ⟨_, rfl, by have h9 := G.sr0.2.2.2.2.1; exact h9⟩
  have hd_pd5_d : pd5 = 13 ∨ pd5 = 71 ∨ pd5 = 81 ∨ pd5 = 91 ∨ pd5 = 101 := hd_pd5
  refine xa_getr G fd_X4 (a := 32) (x := pd5) 10 rfl (by decide) rfl (wm 2 154 rfl rfl) ⟨rfl, rfl, rfl⟩ dX4_functionItself_9 rfl he_pd5 (by omega) (hd_pd5.hq ω ρ) ?_
  refine xc_rV G (b := pd5) (rest := [.ref (oP ω pd4)]) (As := []) (c_X8_constants ω l μ pd5 hd_pd5 hI) (wm 6 122 rfl rfl) (wm 6 123 rfl rfl) (wm 6 124 rfl rfl) hd_pd5.ly rfl (by decide) (hd_pd5.hq ω ρ) (wm 1 9 rfl rfl) (wm 6 125 rfl rfl) (by decide) hR (by decide) (n := 0) rfl rfl (Nat.le_of_ble_eq_true rfl) hl.1 dX4_functionItself_12 (fun r_7 μ6 ρ d0 H locs hp G => ?_)
  obtain ⟨hsm_8, hp_9⟩ := hp
  have hsm_8 := Eq.symm hsm_8
  subst hsm_8
  subst hp_9
  refine lv_iload_n hx hb dX4_functionItself_15 rfl (lv_at hl 2 rfl) ?_
  refine xc_lV G (b := pd5 + 2) (rest := [.ref (oP ω pd4)]) (As := [.int (iv x2)]) (c_X9_whole ω l μ (pd5 + 2) x2 (hd_pd5.row) (by unfold ir; omega) hI) (wm 6 84 rfl rfl) (wm 5 160 rfl rfl) (wm 5 161 rfl rfl) (hd_pd5.row).ly rfl (by decide) ((hd_pd5.row).hq ω ρ) (wm 1 10 rfl rfl) (wm 5 162 rfl rfl) (by decide) hR (by decide) (n := 1) rfl rfl (Nat.le_of_ble_eq_true rfl) hl.1 dX4_functionItself_16 (fun r_11 μ10 ρ d0 H locs hr_r_11 hp G => ?_)
  have hsm_12 := hp
  have hsm_12 := Eq.symm hsm_12
  subst hsm_12
  refine xc_iV G (b := pd4) (rest := []) (As := [.long (jv r_11)]) (c_X8_find ω l μ pd4 r_11 hd_pd4 hr_r_11 hI) (wm 7 2 rfl rfl) (wm 3 182 rfl rfl) (wm 3 183 rfl rfl) hd_pd4.ly rfl (by decide) (hd_pd4.hq ω ρ) (wm 1 9 rfl rfl) (wm 3 184 rfl rfl) (by decide) hR (by decide) (n := 1) rfl rfl (Nat.le_of_ble_eq_true rfl) hl.1 dX4_functionItself_19 (fun r_14 μ13 ρ d0 H locs hr_r_14 hp G => ?_)
  have hr_r_14 : -2147483648 ≤ r_14 ∧ r_14 ≤ 2147483647 := hr_r_14
  obtain ⟨hsm_15, hp_16⟩ := hp
  have hsm_15 := Eq.symm hsm_15
  subst hsm_15
  refine lv_istore_n (lv' := [(3, .int (iv r_14)), (0, .ref (oP ω 32)), (1, .int (iv x1)), (2, .int (iv x2))]) hx hb dX4_functionItself_22 rfl hl (by decide) rfl (fun ls hl => ?_)
  refine lv_iload_n hx hb dX4_functionItself_23 rfl (lv_at hl 0 rfl) ?_
  refine xb_if_ge (tgt := 36) hx hb (by unfold ir; omega) dX4_functionItself_24 (by decide) (fun c_24 => ?_) (fun c_24 => ?_)
  · refine lv_aload_n hx hb dX4_functionItself_36 rfl (lv_at hl 1 rfl) ?_
    refine xa_getr G fd_X4 (a := 32) (x := 33) 3 rfl (by decide) rfl (wm 2 147 rfl rfl) ⟨rfl, rfl, rfl⟩ dX4_functionItself_37 rfl (G.sk 36 rfl) (by decide) rfl ?_
    refine lv_iconst (v := iv 3) hx hb dX4_functionItself_40 rfl ?_
    refine lv_ldc2 (s := s.setDrawn d0) hx hb G.1.2.2.2.1 (dr_words G.1.2.2.2.2 d0 _ (wm 7 15 rfl rfl)) dX4_functionItself_41 ?_
    refine xb_litl (x := 64) (by decide) ?_
    refine lv_iload_n hx hb dX4_functionItself_44 rfl (lv_at hl 2 rfl) ?_
    refine xb_i2l hx hb (by unfold ir; omega) dX4_functionItself_45 ?_
    refine xb_lmul hx hb dX4_functionItself_46 ?_
    refine xb_topl (fun z_17 hr_z_17 he_z_17 => ?_)
    refine lv_iload_n hx hb dX4_functionItself_47 rfl (lv_at hl 0 rfl) ?_
    refine xb_i2l hx hb (by unfold ir; omega) dX4_functionItself_48 ?_
    refine xb_ladd hx hb dX4_functionItself_49 ?_
    refine xb_topl (fun z_18 hr_z_18 he_z_18 => ?_)
    refine lv_dconst0 hx hb dX4_functionItself_50 ?_
    refine xb_topd (fun dd_19 he_dd_19 => ?_)
    have e_20 : μ.1 33 3 = S := hS.symm
    refine xc_vV G (b := 33) (rest := []) (As := [.int (iv 3), .long (jv z_18), .double (dv dd_19)]) (c_X9_push ω l μ 33 3 z_18 dd_19 S (by unfold isRow; decide) (by unfold ir; omega) hr_z_18 hI (by omega) (by omega)) (wm 5 74 rfl rfl) (wm 4 72 rfl rfl) (wm 4 73 rfl rfl) rfl rfl (by decide) rfl (wm 1 10 rfl rfl) (wm 4 74 rfl rfl) (by decide) hR (by decide) (n := 3) rfl rfl (Nat.le_of_ble_eq_true rfl) hl.1 dX4_functionItself_51 (fun μ21 ρ d0 H locs hp G => ?_)
    obtain ⟨F_22, hI_23, hs_24⟩ := hp
    have e_25 : μ21.1 33 3 = S + 1 := hs_24
    have e_26 : μ21.1 32 13 = μ.1 32 13 := (F_22.1 32 (by decide) 13)
    have e_27 : μ21.1 33 3 = S + 1 := hs_24
    have e_28 : μ21.1 32 13 = μ.1 32 13 := (F_22.1 32 (by decide) 13)
    have e_29 : μ21.1 32 13 = μ.1 32 13 := (F_22.1 32 (by decide) 13)
    have e_30 : μ21.1 32 13 = μ.1 32 13 := (F_22.1 32 (by decide) 13)
    have e_31 : μ21.1 70 2 = μ.1 70 2 := (F_22.1 70 (by decide) 2)
    have e_32 : μ21.1 70 2 = μ.1 70 2 := (F_22.1 70 (by decide) 2)
    have e_33 : μ21.1 70 8 = μ.1 70 8 := (F_22.1 70 (by decide) 8)
    have e_34 : μ21.1 70 8 = μ.1 70 8 := (F_22.1 70 (by decide) 8)
    have e_35 : μ21.1 45 1 = μ.1 45 1 := (F_22.1 45 (by decide) 1)
    have e_36 : μ21.1 70 2 = μ.1 70 2 := (F_22.1 70 (by decide) 2)
    have e_37 : μ21.1 70 1 = μ.1 70 1 := (F_22.1 70 (by decide) 1)
    have e_38 : μ21.1 70 3 = μ.1 70 3 := (F_22.1 70 (by decide) 3)
    have e_39 : μ21.1 70 4 = μ.1 70 4 := (F_22.1 70 (by decide) 4)
    have e_40 : μ21.1 70 5 = μ.1 70 5 := (F_22.1 70 (by decide) 5)
    have e_41 : μ21.1 70 6 = μ.1 70 6 := (F_22.1 70 (by decide) 6)
    have e_42 : μ21.1 70 7 = μ.1 70 7 := (F_22.1 70 (by decide) 7)
    have e_43 : μ21.1 32 10 = μ.1 32 10 := (F_22.1 32 (by decide) 10)
    have e_44 : μ21.1 32 11 = μ.1 32 11 := (F_22.1 32 (by decide) 11)
    have e_45 : μ21.1 32 12 = μ.1 32 12 := (F_22.1 32 (by decide) 12)
    have e_46 : μ21.1 32 15 = μ.1 32 15 := (F_22.1 32 (by decide) 15)
    have e_47 : μ21.1 32 16 = μ.1 32 16 := (F_22.1 32 (by decide) 16)
    have e_48 : μ21.1 45 4 = μ.1 45 4 := (F_22.1 45 (by decide) 4)
    exact xr_v G hret hlk dX4_functionItself_54 ⟨(Fr.tr Fr.rf F_22 (by decide)), hI_23, (by omega), (by omega), (by omega), (by omega), (by omega), (by omega), (by omega), (by omega), (by omega), (by omega), (by omega), (by omega), (by omega), (by omega)⟩
  · refine lv_aload_n hx hb dX4_functionItself_27 rfl (lv_at hl 1 rfl) ?_
    refine lv_iconst (v := iv 3) hx hb dX4_functionItself_28 rfl ?_
    refine lv_iconst (v := iv 0) hx hb dX4_functionItself_29 rfl ?_
    have e_49 : μ.1 33 3 = S := hS.symm
    have hn_50 : 0 ≤ μ.1 45 1 ∧ 9 * μ.1 45 1 ≤ μ.2.1 46 := hI.nm.2.2.2.2.2.2.1
    have hn_51 : 0 ≤ μ.1 45 4 ∧ 2 * μ.1 45 4 ≤ μ.2.1 51 := hI.nm.2.2.2.2.2.2.2.1
    refine xc_vV G (b := 32) (rest := []) (As := [.int (iv 3), .int (iv 0)]) (c_X4_fails ω l μ 3 0 S (by unfold ir; omega) (by unfold ir; omega) hI (by omega) (by omega) (by omega) (by omega)) (wm 6 93 rfl rfl) (wm 6 95 rfl rfl) (wm 0 82 rfl rfl) rfl rfl (by decide) rfl (wm 1 14 rfl rfl) (wm 6 96 rfl rfl) (by decide) hR (by decide) (n := 2) rfl rfl (Nat.le_of_ble_eq_true rfl) hl.1 dX4_functionItself_30 (fun μ52 ρ d0 H locs hp G => ?_)
    obtain ⟨F_53, hI_54, hp_55, hp_56, hs_57, hs_58, hs_59, hs_60, hs_61, hs_62, hs_63, hs_64, hs_65, hs_66, hs_67, hs_68⟩ := hp
    have hk_69 := hI_54.row (r := 33) (by unfold isRow; decide)
    unfold rk at hk_69
    simp only [Int.reduceAdd] at hk_69
    have hn_70 : 0 ≤ μ52.1 45 1 ∧ 9 * μ52.1 45 1 ≤ μ52.2.1 46 := hI_54.nm.2.2.2.2.2.2.1
    refine lv_goto (tgt := 54) hx hb dX4_functionItself_33 (by decide) ?_
    have e_71 : μ52.1 70 1 = μ.1 70 1 := hs_57
    have e_72 : μ52.1 70 3 = μ.1 70 3 := hs_58
    have e_73 : μ52.1 70 4 = μ.1 70 4 := hs_59
    have e_74 : μ52.1 70 5 = μ.1 70 5 := hs_60
    have e_75 : μ52.1 70 6 = μ.1 70 6 := hs_61
    have e_76 : μ52.1 70 7 = μ.1 70 7 := hs_62
    have e_77 : μ52.1 32 10 = μ.1 32 10 := hs_63
    have e_78 : μ52.1 32 11 = μ.1 32 11 := hs_64
    have e_79 : μ52.1 32 12 = μ.1 32 12 := hs_65
    have e_80 : μ52.1 32 15 = μ.1 32 15 := hs_66
    have e_81 : μ52.1 32 16 = μ.1 32 16 := hs_67
    have e_82 : μ52.1 45 4 = μ.1 45 4 := hs_68
    exact xr_v G hret hlk dX4_functionItself_54 ⟨(Fr.tr Fr.rf F_53 (by decide)), hI_54, (by omega), (by omega), (by omega), (by omega), (by omega), (by omega), (by omega), (by omega), (by omega), (by omega), (by omega), (by omega), (by omega), (by omega)⟩

set_option maxHeartbeats 4000000 in
set_option maxRecDepth 100000 in
theorem c_X4_tagOfTop (ω : Om) (l : Launch) (μ : M3) (S : Int) (hI : IC μ) (hS : S = μ.1 33 3) (hSb : S < 240099) : CtV ω l yX4_tagOfTop cX4_tagOfTop 2 5 173 [.ref (oP ω 32)] μ (fun (μ' : M3) => (Fr [33, 34, 35, 36] μ μ') ∧ (IC μ') ∧ (μ'.1 33 3 = max (S - 1) 0 + 1)) := by
  refine CtV.go (by decide) (Nat.le_of_ble_eq_true rfl) (fun ρ p e s m below meth c R ls G hR hret hlk hl => ?_)
  have hx := G.1.1
  have hb := G.1.2.1
  have hl : lv_has ls 2 [(0, .ref (oP ω 32))] := hl
  generalize s.drawn = d0 at G ⊢
  have hk_1 := hI.row (r := 33) (by unfold isRow; decide)
  unfold rk at hk_1
  simp only [Int.reduceAdd] at hk_1
  have hbr_33 : BR 33 = 240100 := rfl
  have hk_2 := hI.row (r := 37) (by unfold isRow; decide)
  unfold rk at hk_2
  simp only [Int.reduceAdd] at hk_2
  have hbr_37 : BR 37 = 20410 := rfl
  refine lv_aload_n hx hb dX4_tagOfTop_0 rfl (lv_at hl 0 rfl) ?_
  refine xa_getr G fd_X4 (a := 32) (x := 33) 3 rfl (by decide) rfl (wm 2 147 rfl rfl) ⟨rfl, rfl, rfl⟩ dX4_tagOfTop_1 rfl (G.sk 36 rfl) (by decide) rfl ?_
  refine xc_iV G (b := 33) (rest := []) (As := []) (c_X9_kindOfTop ω l μ 33 (by unfold isRow; decide) hI) (wm 6 83 rfl rfl) (wm 5 152 rfl rfl) (wm 5 153 rfl rfl) rfl rfl (by decide) rfl (wm 1 10 rfl rfl) (wm 5 154 rfl rfl) (by decide) hR (by decide) (n := 0) rfl rfl (Nat.le_of_ble_eq_true rfl) hl.1 dX4_tagOfTop_4 (fun r_4 μ3 ρ d0 H locs hr_r_4 hp G => ?_)
  have hr_r_4 : -2147483648 ≤ r_4 ∧ r_4 ≤ 2147483647 := hr_r_4
  have hsm_5 := hp
  have hsm_5 := Eq.symm hsm_5
  subst hsm_5
  refine lv_iconst (v := iv 4) hx hb dX4_tagOfTop_7 rfl ?_
  refine xb_icmp_ne (tgt := 26) hx hb (by unfold ir; omega) (by unfold ir; omega) dX4_tagOfTop_8 (by decide) (fun c_8 => ?_) (fun c_8 => ?_)
  · refine lv_iconst (v := iv (-1)) hx hb dX4_tagOfTop_26 rfl ?_
    refine lv_istore_n (lv' := [(1, .int (iv (-1))), (0, .ref (oP ω 32))]) hx hb dX4_tagOfTop_27 rfl hl (by decide) rfl (fun ls hl => ?_)
    refine lv_aload_n hx hb dX4_tagOfTop_28 rfl (lv_at hl 1 rfl) ?_
    refine xa_getr G fd_X4 (a := 32) (x := 33) 3 rfl (by decide) rfl (wm 2 147 rfl rfl) ⟨rfl, rfl, rfl⟩ dX4_tagOfTop_29 rfl (G.sk 36 rfl) (by decide) rfl ?_
    refine lv_iconst (v := iv 1) hx hb dX4_tagOfTop_32 rfl ?_
    have e_6 : μ.1 33 3 = S := hS.symm
    refine xc_vV G (b := 33) (rest := []) (As := [.int (iv 1)]) (c_X9_drop ω l μ 33 1 S (by unfold isRow; decide) (by unfold ir; omega) hI (by omega) (by omega)) (wm 6 89 rfl rfl) (wm 6 90 rfl rfl) (wm 6 91 rfl rfl) rfl rfl (by decide) rfl (wm 1 10 rfl rfl) (wm 6 92 rfl rfl) (by decide) hR (by decide) (n := 1) rfl rfl (Nat.le_of_ble_eq_true rfl) hl.1 dX4_tagOfTop_33 (fun μ7 ρ d0 H locs hp G => ?_)
    obtain ⟨F_8, hI_9, hs_10⟩ := hp
    refine lv_aload_n hx hb dX4_tagOfTop_36 rfl (lv_at hl 1 rfl) ?_
    refine lv_iconst (v := iv 2) hx hb dX4_tagOfTop_37 rfl ?_
    refine lv_aload_n hx hb dX4_tagOfTop_38 rfl (lv_at hl 1 rfl) ?_
    refine xa_getr G fd_X4 (a := 32) (x := 45) 6 rfl (by decide) rfl (wm 2 150 rfl rfl) ⟨rfl, rfl, rfl⟩ dX4_tagOfTop_39 rfl (G.sk 39 rfl) (by decide) rfl ?_
    refine lv_iload_n hx hb dX4_tagOfTop_42 rfl (lv_at hl 0 rfl) ?_
    refine lv_iconst (v := iv 1) hx hb dX4_tagOfTop_43 rfl ?_
    have hn_11 : 0 ≤ μ.1 45 1 ∧ 9 * μ.1 45 1 ≤ μ.2.1 46 := hI.nm.2.2.2.2.2.2.1
    have e_12 : μ7.1 45 1 = μ.1 45 1 := (F_8.1 45 (by decide) 1)
    have e_13 : μ7.1 45 1 = μ.1 45 1 := (F_8.1 45 (by decide) 1)
    have hn_14 : 0 ≤ μ.1 45 4 ∧ 2 * μ.1 45 4 ≤ μ.2.1 51 := hI.nm.2.2.2.2.2.2.2.1
    have e_15 : μ7.1 45 4 = μ.1 45 4 := (F_8.1 45 (by decide) 4)
    have e_16 : μ7.1 45 4 = μ.1 45 4 := (F_8.1 45 (by decide) 4)
    refine xc_iV G (b := 45) (rest := [.int (iv 2), .ref (oP ω 32)]) (As := [.int (iv (-1)), .int (iv 1)]) (c_X1_fact ω l μ7 (-1) 1 (μ.1 45 1) (μ.1 45 4) (by unfold ir; omega) (by unfold ir; omega) hI_9 (by omega) (by omega)) (wm 5 168 rfl rfl) (wm 5 169 rfl rfl) (wm 5 170 rfl rfl) rfl rfl (by decide) rfl (wm 1 15 rfl rfl) (wm 5 171 rfl rfl) (by decide) hR (by decide) (n := 2) rfl rfl (Nat.le_of_ble_eq_true rfl) hl.1 dX4_tagOfTop_44 (fun r_18 μ17 ρ d0 H locs hr_r_18 hp G => ?_)
    have hr_r_18 : -2147483648 ≤ r_18 ∧ r_18 ≤ 2147483647 := hr_r_18
    have hsm_19 := hp
    have hsm_19 := Eq.symm hsm_19
    subst hsm_19
    refine lv_iconst (v := iv 0) hx hb dX4_tagOfTop_47 rfl ?_
    refine xm_max G (x := r_18) (y := 0) (wm 5 105 rfl rfl) (wm 1 148 rfl rfl) (wm 1 11 rfl rfl) (wm 1 149 rfl rfl) hR (by decide) (Nat.le_of_ble_eq_true rfl) hl.1 (by unfold ir; omega) (by unfold ir; omega) dX4_tagOfTop_48 ?_
    refine xb_i2l hx hb (by unfold ir; omega) dX4_tagOfTop_51 ?_
    have e_20 : μ7.1 33 3 = max (S - 1) 0 := hs_10
    refine xc_vV G (b := 32) (rest := []) (As := [.int (iv 2), .long (jv (max r_18 0))]) (c_X4_pushNumber ω l μ7 2 (max r_18 0) (max (S - 1) 0) (by unfold ir; omega) (by unfold jr; omega) hI_9 (by omega) (by omega)) (wm 5 70 rfl rfl) (wm 5 72 rfl rfl) (wm 0 63 rfl rfl) rfl rfl (by decide) rfl (wm 1 14 rfl rfl) (wm 5 73 rfl rfl) (by decide) hR (by decide) (n := 2) rfl rfl (Nat.le_of_ble_eq_true rfl) hl.1 dX4_tagOfTop_52 (fun μ21 ρ d0 H locs hp G => ?_)
    obtain ⟨F_22, hI_23, hs_24⟩ := hp
    have e_25 : μ21.1 33 3 = (max (S - 1) 0) + 1 := hs_24
    exact xr_v G hret hlk dX4_tagOfTop_55 ⟨(Fr.tr (Fr.tr Fr.rf F_8 (by decide)) F_22 (by decide)), hI_23, (by omega)⟩
  · refine lv_aload_n hx hb dX4_tagOfTop_11 rfl (lv_at hl 0 rfl) ?_
    refine xa_getr G fd_X4 (a := 32) (x := 33) 3 rfl (by decide) rfl (wm 2 147 rfl rfl) ⟨rfl, rfl, rfl⟩ dX4_tagOfTop_12 rfl (G.sk 36 rfl) (by decide) rfl ?_
    refine lv_aload_n hx hb dX4_tagOfTop_15 rfl (lv_at hl 0 rfl) ?_
    have e_26 : μ.1 33 3 = S := hS.symm
    refine xc_iV G (b := 32) (rest := [.ref (oP ω 33)]) (As := []) (c_X4_top ω l μ S hI (by omega)) (wm 6 73 rfl rfl) (wm 6 75 rfl rfl) (wm 0 80 rfl rfl) rfl rfl (by decide) rfl (wm 1 14 rfl rfl) (wm 6 76 rfl rfl) (by decide) hR (by decide) (n := 0) rfl rfl (Nat.le_of_ble_eq_true rfl) hl.1 dX4_tagOfTop_16 (fun r_28 μ27 ρ d0 H locs hr_r_28 hp G => ?_)
    have hr_r_28 : -2147483648 ≤ r_28 ∧ r_28 ≤ 2147483647 := hr_r_28
    obtain ⟨hsm_29, hp_30⟩ := hp
    have hsm_29 := Eq.symm hsm_29
    subst hsm_29
    refine xc_lV G (b := 33) (rest := []) (As := [.int (iv r_28)]) (c_X9_whole ω l μ 33 r_28 (by unfold isRow; decide) (by unfold ir; omega) hI) (wm 6 84 rfl rfl) (wm 5 160 rfl rfl) (wm 5 161 rfl rfl) rfl rfl (by decide) rfl (wm 1 10 rfl rfl) (wm 5 162 rfl rfl) (by decide) hR (by decide) (n := 1) rfl rfl (Nat.le_of_ble_eq_true rfl) hl.1 dX4_tagOfTop_19 (fun r_32 μ31 ρ d0 H locs hr_r_32 hp G => ?_)
    have hsm_33 := hp
    have hsm_33 := Eq.symm hsm_33
    subst hsm_33
    refine xb_l2i hx hb dX4_tagOfTop_22 ?_
    refine xb_topi (fun y_34 hr_y_34 he_y_34 => ?_)
    have hr_y_34 : -2147483648 ≤ y_34 ∧ y_34 ≤ 2147483647 := hr_y_34
    refine lv_goto (tgt := 27) hx hb dX4_tagOfTop_23 (by decide) ?_
    refine lv_istore_n (lv' := [(1, .int (iv y_34)), (0, .ref (oP ω 32))]) hx hb dX4_tagOfTop_27 rfl hl (by decide) rfl (fun ls hl => ?_)
    refine lv_aload_n hx hb dX4_tagOfTop_28 rfl (lv_at hl 1 rfl) ?_
    refine xa_getr G fd_X4 (a := 32) (x := 33) 3 rfl (by decide) rfl (wm 2 147 rfl rfl) ⟨rfl, rfl, rfl⟩ dX4_tagOfTop_29 rfl (G.sk 36 rfl) (by decide) rfl ?_
    refine lv_iconst (v := iv 1) hx hb dX4_tagOfTop_32 rfl ?_
    have e_35 : μ.1 33 3 = S := hS.symm
    refine xc_vV G (b := 33) (rest := []) (As := [.int (iv 1)]) (c_X9_drop ω l μ 33 1 S (by unfold isRow; decide) (by unfold ir; omega) hI (by omega) (by omega)) (wm 6 89 rfl rfl) (wm 6 90 rfl rfl) (wm 6 91 rfl rfl) rfl rfl (by decide) rfl (wm 1 10 rfl rfl) (wm 6 92 rfl rfl) (by decide) hR (by decide) (n := 1) rfl rfl (Nat.le_of_ble_eq_true rfl) hl.1 dX4_tagOfTop_33 (fun μ36 ρ d0 H locs hp G => ?_)
    obtain ⟨F_37, hI_38, hs_39⟩ := hp
    refine lv_aload_n hx hb dX4_tagOfTop_36 rfl (lv_at hl 1 rfl) ?_
    refine lv_iconst (v := iv 2) hx hb dX4_tagOfTop_37 rfl ?_
    refine lv_aload_n hx hb dX4_tagOfTop_38 rfl (lv_at hl 1 rfl) ?_
    refine xa_getr G fd_X4 (a := 32) (x := 45) 6 rfl (by decide) rfl (wm 2 150 rfl rfl) ⟨rfl, rfl, rfl⟩ dX4_tagOfTop_39 rfl (G.sk 39 rfl) (by decide) rfl ?_
    refine lv_iload_n hx hb dX4_tagOfTop_42 rfl (lv_at hl 0 rfl) ?_
    refine lv_iconst (v := iv 1) hx hb dX4_tagOfTop_43 rfl ?_
    have hn_40 : 0 ≤ μ.1 45 1 ∧ 9 * μ.1 45 1 ≤ μ.2.1 46 := hI.nm.2.2.2.2.2.2.1
    have e_41 : μ36.1 45 1 = μ.1 45 1 := (F_37.1 45 (by decide) 1)
    have e_42 : μ36.1 45 1 = μ.1 45 1 := (F_37.1 45 (by decide) 1)
    have hn_43 : 0 ≤ μ.1 45 4 ∧ 2 * μ.1 45 4 ≤ μ.2.1 51 := hI.nm.2.2.2.2.2.2.2.1
    have e_44 : μ36.1 45 4 = μ.1 45 4 := (F_37.1 45 (by decide) 4)
    have e_45 : μ36.1 45 4 = μ.1 45 4 := (F_37.1 45 (by decide) 4)
    refine xc_iV G (b := 45) (rest := [.int (iv 2), .ref (oP ω 32)]) (As := [.int (iv y_34), .int (iv 1)]) (c_X1_fact ω l μ36 y_34 1 (μ.1 45 1) (μ.1 45 4) (by unfold ir; omega) (by unfold ir; omega) hI_38 (by omega) (by omega)) (wm 5 168 rfl rfl) (wm 5 169 rfl rfl) (wm 5 170 rfl rfl) rfl rfl (by decide) rfl (wm 1 15 rfl rfl) (wm 5 171 rfl rfl) (by decide) hR (by decide) (n := 2) rfl rfl (Nat.le_of_ble_eq_true rfl) hl.1 dX4_tagOfTop_44 (fun r_47 μ46 ρ d0 H locs hr_r_47 hp G => ?_)
    have hr_r_47 : -2147483648 ≤ r_47 ∧ r_47 ≤ 2147483647 := hr_r_47
    have hsm_48 := hp
    have hsm_48 := Eq.symm hsm_48
    subst hsm_48
    refine lv_iconst (v := iv 0) hx hb dX4_tagOfTop_47 rfl ?_
    refine xm_max G (x := r_47) (y := 0) (wm 5 105 rfl rfl) (wm 1 148 rfl rfl) (wm 1 11 rfl rfl) (wm 1 149 rfl rfl) hR (by decide) (Nat.le_of_ble_eq_true rfl) hl.1 (by unfold ir; omega) (by unfold ir; omega) dX4_tagOfTop_48 ?_
    refine xb_i2l hx hb (by unfold ir; omega) dX4_tagOfTop_51 ?_
    have e_49 : μ36.1 33 3 = max (S - 1) 0 := hs_39
    refine xc_vV G (b := 32) (rest := []) (As := [.int (iv 2), .long (jv (max r_47 0))]) (c_X4_pushNumber ω l μ36 2 (max r_47 0) (max (S - 1) 0) (by unfold ir; omega) (by unfold jr; omega) hI_38 (by omega) (by omega)) (wm 5 70 rfl rfl) (wm 5 72 rfl rfl) (wm 0 63 rfl rfl) rfl rfl (by decide) rfl (wm 1 14 rfl rfl) (wm 5 73 rfl rfl) (by decide) hR (by decide) (n := 2) rfl rfl (Nat.le_of_ble_eq_true rfl) hl.1 dX4_tagOfTop_52 (fun μ50 ρ d0 H locs hp G => ?_)
    obtain ⟨F_51, hI_52, hs_53⟩ := hp
    have e_54 : μ50.1 33 3 = (max (S - 1) 0) + 1 := hs_53
    exact xr_v G hret hlk dX4_tagOfTop_55 ⟨(Fr.tr (Fr.tr Fr.rf F_37 (by decide)) F_51 (by decide)), hI_52, (by omega)⟩

set_option maxHeartbeats 4000000 in
set_option maxRecDepth 100000 in
theorem c_X4_question (ω : Om) (l : Launch) (μ : M3) (x1 : Int) (S : Int) (hx1 : ir x1) (hI : IC μ) (hS : S = μ.1 33 3) (hSb : S < 240099) (hst : 0 ≤ μ.1 70 2 ∧ μ.1 70 2 ≤ 5000 ∧ 0 ≤ μ.1 70 8 ∧ μ.1 70 8 ≤ 80000 ∧ μ.1 45 1 ≤ μ.1 70 2) (h0s : μ.1 32 13 = 0) : CtV ω l yX4_question cX4_question 3 6 194 [.ref (oP ω 32), .int (iv x1)] μ (fun (μ' : M3) => (Fr [33, 34, 35, 36, 32, 70, 45, 46, 47, 48, 49, 50] μ μ') ∧ (IC μ') ∧ ((μ'.1 33 3 ≤ max (S - 1) 0 ∧ μ'.1 32 13 = 0 ∧ (μ'.1 32 12 = μ.1 32 12 ∨ μ'.1 32 12 = x1)) ∨ (μ'.1 33 3 ≤ S + 1 ∧ (μ'.1 32 13 = 1 ∨ μ'.1 32 13 = 3 ∨ μ'.1 32 13 = 4))) ∧ (μ.1 70 2 ≤ μ'.1 70 2 ∧ μ'.1 70 2 ≤ 5000 ∧ 0 ≤ μ'.1 70 8 ∧ μ'.1 70 8 ≤ 80000 ∧ μ'.1 45 1 ≤ μ'.1 70 2) ∧ (μ'.1 32 10 = μ.1 32 10) ∧ (μ'.1 32 11 = μ.1 32 11) ∧ (μ'.1 32 15 = μ.1 32 15) ∧ (μ'.1 32 16 = μ.1 32 16) ∧ (μ'.1 70 1 = μ.1 70 1) ∧ (μ'.1 70 3 = μ.1 70 3) ∧ (μ'.1 70 4 = μ.1 70 4) ∧ (μ'.1 70 5 = μ.1 70 5) ∧ (μ'.1 70 6 = μ.1 70 6) ∧ (μ'.1 70 7 = μ.1 70 7) ∧ (μ'.1 45 4 = μ.1 45 4)) := by
  refine CtV.go (by decide) (Nat.le_of_ble_eq_true rfl) (fun ρ p e s m below meth c R ls G hR hret hlk hl => ?_)
  have hx := G.1.1
  have hb := G.1.2.1
  have hl : lv_has ls 3 [(0, .ref (oP ω 32)), (1, .int (iv x1))] := hl
  generalize s.drawn = d0 at G ⊢
  have hr_x1 : -2147483648 ≤ x1 ∧ x1 ≤ 2147483647 := hx1
  have hk_1 := hI.row (r := 33) (by unfold isRow; decide)
  unfold rk at hk_1
  simp only [Int.reduceAdd] at hk_1
  have hbr_33 : BR 33 = 240100 := rfl
  have hk_2 := hI.row (r := 37) (by unfold isRow; decide)
  unfold rk at hk_2
  simp only [Int.reduceAdd] at hk_2
  have hbr_37 : BR 37 = 20410 := rfl
  refine lv_aload_n hx hb dX4_question_0 rfl (lv_at hl 0 rfl) ?_
  refine xa_getr G fd_X4 (a := 32) (x := 33) 3 rfl (by decide) rfl (wm 2 147 rfl rfl) ⟨rfl, rfl, rfl⟩ dX4_question_1 rfl (G.sk 36 rfl) (by decide) rfl ?_
  refine xc_iV G (b := 33) (rest := []) (As := []) (c_X9_kindOfTop ω l μ 33 (by unfold isRow; decide) hI) (wm 6 83 rfl rfl) (wm 5 152 rfl rfl) (wm 5 153 rfl rfl) rfl rfl (by decide) rfl (wm 1 10 rfl rfl) (wm 5 154 rfl rfl) (by decide) hR (by decide) (n := 0) rfl rfl (Nat.le_of_ble_eq_true rfl) hl.1 dX4_question_4 (fun r_4 μ3 ρ d0 H locs hr_r_4 hp G => ?_)
  have hr_r_4 : -2147483648 ≤ r_4 ∧ r_4 ≤ 2147483647 := hr_r_4
  have hsm_5 := hp
  have hsm_5 := Eq.symm hsm_5
  subst hsm_5
  refine lv_istore_n (lv' := [(2, .int (iv r_4)), (0, .ref (oP ω 32)), (1, .int (iv x1))]) hx hb dX4_question_7 rfl hl (by decide) rfl (fun ls hl => ?_)
  refine lv_iload_n hx hb dX4_question_8 rfl (lv_at hl 0 rfl) ?_
  refine lv_iconst (v := iv 4) hx hb dX4_question_9 rfl ?_
  refine xb_icmp_ne (tgt := 21) hx hb (by unfold ir; omega) (by unfold ir; omega) dX4_question_10 (by decide) (fun c_10 => ?_) (fun c_10 => ?_)
  · refine lv_iload_n hx hb dX4_question_21 rfl (lv_at hl 0 rfl) ?_
    refine lv_iconst (v := iv 1) hx hb dX4_question_22 rfl ?_
    refine xb_icmp_eq (tgt := 39) hx hb (by unfold ir; omega) (by unfold ir; omega) dX4_question_23 (by decide) (fun c_23 => ?_) (fun c_23 => ?_)
    · refine lv_aload_n hx hb dX4_question_39 rfl (lv_at hl 1 rfl) ?_
      refine xa_getr G fd_X4 (a := 32) (x := 33) 3 rfl (by decide) rfl (wm 2 147 rfl rfl) ⟨rfl, rfl, rfl⟩ dX4_question_40 rfl (G.sk 36 rfl) (by decide) rfl ?_
      refine lv_aload_n hx hb dX4_question_43 rfl (lv_at hl 1 rfl) ?_
      have e_6 : μ.1 33 3 = S := hS.symm
      refine xc_iV G (b := 32) (rest := [.ref (oP ω 33)]) (As := []) (c_X4_top ω l μ S hI (by omega)) (wm 6 73 rfl rfl) (wm 6 75 rfl rfl) (wm 0 80 rfl rfl) rfl rfl (by decide) rfl (wm 1 14 rfl rfl) (wm 6 76 rfl rfl) (by decide) hR (by decide) (n := 0) rfl rfl (Nat.le_of_ble_eq_true rfl) hl.1 dX4_question_44 (fun r_8 μ7 ρ d0 H locs hr_r_8 hp G => ?_)
      have hr_r_8 : -2147483648 ≤ r_8 ∧ r_8 ≤ 2147483647 := hr_r_8
      obtain ⟨hsm_9, hp_10⟩ := hp
      have hsm_9 := Eq.symm hsm_9
      subst hsm_9
      refine xc_lV G (b := 33) (rest := []) (As := [.int (iv r_8)]) (c_X9_whole ω l μ 33 r_8 (by unfold isRow; decide) (by unfold ir; omega) hI) (wm 6 84 rfl rfl) (wm 5 160 rfl rfl) (wm 5 161 rfl rfl) rfl rfl (by decide) rfl (wm 1 10 rfl rfl) (wm 5 162 rfl rfl) (by decide) hR (by decide) (n := 1) rfl rfl (Nat.le_of_ble_eq_true rfl) hl.1 dX4_question_47 (fun r_12 μ11 ρ d0 H locs hr_r_12 hp G => ?_)
      have hsm_13 := hp
      have hsm_13 := Eq.symm hsm_13
      subst hsm_13
      refine lv_lconst (v := jv 0) hx hb dX4_question_50 rfl ?_
      refine xb_lcmp hx hb hr_r_12 (by unfold jr; omega) dX4_question_51 ?_
      have hr_14 : -2147483648 ≤ lcm r_12 0 ∧ lcm r_12 0 ≤ 2147483647 := lcm_ir _ _
      refine xb_if_ne (tgt := 76) hx hb (by unfold ir; omega) dX4_question_52 (by decide) (fun c_52 => ?_) (fun c_52 => ?_)
      · refine lv_aload_n hx hb dX4_question_76 rfl (lv_at hl 1 rfl) ?_
        refine xa_getr G fd_X4 (a := 32) (x := 33) 3 rfl (by decide) rfl (wm 2 147 rfl rfl) ⟨rfl, rfl, rfl⟩ dX4_question_77 rfl (G.sk 36 rfl) (by decide) rfl ?_
        refine lv_iconst (v := iv 1) hx hb dX4_question_80 rfl ?_
        have e_15 : μ.1 33 3 = S := hS.symm
        refine xc_vV G (b := 33) (rest := []) (As := [.int (iv 1)]) (c_X9_drop ω l μ 33 1 S (by unfold isRow; decide) (by unfold ir; omega) hI (by omega) (by omega)) (wm 6 89 rfl rfl) (wm 6 90 rfl rfl) (wm 6 91 rfl rfl) rfl rfl (by decide) rfl (wm 1 10 rfl rfl) (wm 6 92 rfl rfl) (by decide) hR (by decide) (n := 1) rfl rfl (Nat.le_of_ble_eq_true rfl) hl.1 dX4_question_81 (fun μ16 ρ d0 H locs hp G => ?_)
        obtain ⟨F_17, hI_18, hs_19⟩ := hp
        have e_20 : μ16.1 33 3 = max (S - 1) 0 := hs_19
        have e_21 : μ16.1 32 13 = μ.1 32 13 := (F_17.1 32 (by decide) 13)
        have e_22 : μ16.1 32 12 = μ.1 32 12 := (F_17.1 32 (by decide) 12)
        have e_23 : μ16.1 32 12 = μ.1 32 12 := (F_17.1 32 (by decide) 12)
        have e_24 : μ16.1 33 3 = max (S - 1) 0 := hs_19
        have e_25 : μ16.1 32 13 = μ.1 32 13 := (F_17.1 32 (by decide) 13)
        have e_26 : μ16.1 32 13 = μ.1 32 13 := (F_17.1 32 (by decide) 13)
        have e_27 : μ16.1 32 13 = μ.1 32 13 := (F_17.1 32 (by decide) 13)
        have e_28 : μ16.1 70 2 = μ.1 70 2 := (F_17.1 70 (by decide) 2)
        have e_29 : μ16.1 70 2 = μ.1 70 2 := (F_17.1 70 (by decide) 2)
        have e_30 : μ16.1 70 8 = μ.1 70 8 := (F_17.1 70 (by decide) 8)
        have e_31 : μ16.1 70 8 = μ.1 70 8 := (F_17.1 70 (by decide) 8)
        have e_32 : μ16.1 45 1 = μ.1 45 1 := (F_17.1 45 (by decide) 1)
        have e_33 : μ16.1 70 2 = μ.1 70 2 := (F_17.1 70 (by decide) 2)
        have e_34 : μ16.1 32 10 = μ.1 32 10 := (F_17.1 32 (by decide) 10)
        have e_35 : μ16.1 32 11 = μ.1 32 11 := (F_17.1 32 (by decide) 11)
        have e_36 : μ16.1 32 15 = μ.1 32 15 := (F_17.1 32 (by decide) 15)
        have e_37 : μ16.1 32 16 = μ.1 32 16 := (F_17.1 32 (by decide) 16)
        have e_38 : μ16.1 70 1 = μ.1 70 1 := (F_17.1 70 (by decide) 1)
        have e_39 : μ16.1 70 3 = μ.1 70 3 := (F_17.1 70 (by decide) 3)
        have e_40 : μ16.1 70 4 = μ.1 70 4 := (F_17.1 70 (by decide) 4)
        have e_41 : μ16.1 70 5 = μ.1 70 5 := (F_17.1 70 (by decide) 5)
        have e_42 : μ16.1 70 6 = μ.1 70 6 := (F_17.1 70 (by decide) 6)
        have e_43 : μ16.1 70 7 = μ.1 70 7 := (F_17.1 70 (by decide) 7)
        have e_44 : μ16.1 45 4 = μ.1 45 4 := (F_17.1 45 (by decide) 4)
        exact xr_v G hret hlk dX4_question_84 ⟨(Fr.tr Fr.rf F_17 (by decide)), hI_18, (by omega), (by omega), (by omega), (by omega), (by omega), (by omega), (by omega), (by omega), (by omega), (by omega), (by omega), (by omega), (by omega)⟩
      · refine lv_aload_n hx hb dX4_question_55 rfl (lv_at hl 1 rfl) ?_
        refine xa_getr G fd_X4 (a := 32) (x := 33) 3 rfl (by decide) rfl (wm 2 147 rfl rfl) ⟨rfl, rfl, rfl⟩ dX4_question_56 rfl (G.sk 36 rfl) (by decide) rfl ?_
        refine lv_aload_n hx hb dX4_question_59 rfl (lv_at hl 1 rfl) ?_
        have e_45 : μ.1 33 3 = S := hS.symm
        refine xc_iV G (b := 32) (rest := [.ref (oP ω 33)]) (As := []) (c_X4_top ω l μ S hI (by omega)) (wm 6 73 rfl rfl) (wm 6 75 rfl rfl) (wm 0 80 rfl rfl) rfl rfl (by decide) rfl (wm 1 14 rfl rfl) (wm 6 76 rfl rfl) (by decide) hR (by decide) (n := 0) rfl rfl (Nat.le_of_ble_eq_true rfl) hl.1 dX4_question_60 (fun r_47 μ46 ρ d0 H locs hr_r_47 hp G => ?_)
        have hr_r_47 : -2147483648 ≤ r_47 ∧ r_47 ≤ 2147483647 := hr_r_47
        obtain ⟨hsm_48, hp_49⟩ := hp
        have hsm_48 := Eq.symm hsm_48
        subst hsm_48
        refine xc_dV G (b := 33) (rest := []) (As := [.int (iv r_47)]) (c_X9_real ω l μ 33 r_47 (by unfold isRow; decide) (by unfold ir; omega) hI) (wm 6 106 rfl rfl) (wm 5 206 rfl rfl) (wm 5 207 rfl rfl) rfl rfl (by decide) rfl (wm 1 10 rfl rfl) (wm 5 208 rfl rfl) (by decide) hR (by decide) (n := 1) rfl rfl (Nat.le_of_ble_eq_true rfl) hl.1 dX4_question_63 (fun r_51 μ50 ρ d0 H locs hp G => ?_)
        have hsm_52 := hp
        have hsm_52 := Eq.symm hsm_52
        subst hsm_52
        refine lv_dconst0 hx hb dX4_question_66 ?_
        refine xb_topd (fun dd_53 he_dd_53 => ?_)
        refine lv_dcmp hx hb dX4_question_67 ?_
        refine xb_topi (fun y_54 hr_y_54 he_y_54 => ?_)
        have hr_y_54 : -2147483648 ≤ y_54 ∧ y_54 ≤ 2147483647 := hr_y_54
        refine xb_if_ne (tgt := 76) hx hb (by unfold ir; omega) dX4_question_68 (by decide) (fun c_68 => ?_) (fun c_68 => ?_)
        · refine lv_aload_n hx hb dX4_question_76 rfl (lv_at hl 1 rfl) ?_
          refine xa_getr G fd_X4 (a := 32) (x := 33) 3 rfl (by decide) rfl (wm 2 147 rfl rfl) ⟨rfl, rfl, rfl⟩ dX4_question_77 rfl (G.sk 36 rfl) (by decide) rfl ?_
          refine lv_iconst (v := iv 1) hx hb dX4_question_80 rfl ?_
          have e_55 : μ.1 33 3 = S := hS.symm
          refine xc_vV G (b := 33) (rest := []) (As := [.int (iv 1)]) (c_X9_drop ω l μ 33 1 S (by unfold isRow; decide) (by unfold ir; omega) hI (by omega) (by omega)) (wm 6 89 rfl rfl) (wm 6 90 rfl rfl) (wm 6 91 rfl rfl) rfl rfl (by decide) rfl (wm 1 10 rfl rfl) (wm 6 92 rfl rfl) (by decide) hR (by decide) (n := 1) rfl rfl (Nat.le_of_ble_eq_true rfl) hl.1 dX4_question_81 (fun μ56 ρ d0 H locs hp G => ?_)
          obtain ⟨F_57, hI_58, hs_59⟩ := hp
          have e_60 : μ56.1 33 3 = max (S - 1) 0 := hs_59
          have e_61 : μ56.1 32 13 = μ.1 32 13 := (F_57.1 32 (by decide) 13)
          have e_62 : μ56.1 32 12 = μ.1 32 12 := (F_57.1 32 (by decide) 12)
          have e_63 : μ56.1 32 12 = μ.1 32 12 := (F_57.1 32 (by decide) 12)
          have e_64 : μ56.1 33 3 = max (S - 1) 0 := hs_59
          have e_65 : μ56.1 32 13 = μ.1 32 13 := (F_57.1 32 (by decide) 13)
          have e_66 : μ56.1 32 13 = μ.1 32 13 := (F_57.1 32 (by decide) 13)
          have e_67 : μ56.1 32 13 = μ.1 32 13 := (F_57.1 32 (by decide) 13)
          have e_68 : μ56.1 70 2 = μ.1 70 2 := (F_57.1 70 (by decide) 2)
          have e_69 : μ56.1 70 2 = μ.1 70 2 := (F_57.1 70 (by decide) 2)
          have e_70 : μ56.1 70 8 = μ.1 70 8 := (F_57.1 70 (by decide) 8)
          have e_71 : μ56.1 70 8 = μ.1 70 8 := (F_57.1 70 (by decide) 8)
          have e_72 : μ56.1 45 1 = μ.1 45 1 := (F_57.1 45 (by decide) 1)
          have e_73 : μ56.1 70 2 = μ.1 70 2 := (F_57.1 70 (by decide) 2)
          have e_74 : μ56.1 32 10 = μ.1 32 10 := (F_57.1 32 (by decide) 10)
          have e_75 : μ56.1 32 11 = μ.1 32 11 := (F_57.1 32 (by decide) 11)
          have e_76 : μ56.1 32 15 = μ.1 32 15 := (F_57.1 32 (by decide) 15)
          have e_77 : μ56.1 32 16 = μ.1 32 16 := (F_57.1 32 (by decide) 16)
          have e_78 : μ56.1 70 1 = μ.1 70 1 := (F_57.1 70 (by decide) 1)
          have e_79 : μ56.1 70 3 = μ.1 70 3 := (F_57.1 70 (by decide) 3)
          have e_80 : μ56.1 70 4 = μ.1 70 4 := (F_57.1 70 (by decide) 4)
          have e_81 : μ56.1 70 5 = μ.1 70 5 := (F_57.1 70 (by decide) 5)
          have e_82 : μ56.1 70 6 = μ.1 70 6 := (F_57.1 70 (by decide) 6)
          have e_83 : μ56.1 70 7 = μ.1 70 7 := (F_57.1 70 (by decide) 7)
          have e_84 : μ56.1 45 4 = μ.1 45 4 := (F_57.1 45 (by decide) 4)
          exact xr_v G hret hlk dX4_question_84 ⟨(Fr.tr Fr.rf F_57 (by decide)), hI_58, (by omega), (by omega), (by omega), (by omega), (by omega), (by omega), (by omega), (by omega), (by omega), (by omega), (by omega), (by omega), (by omega)⟩
        · refine lv_aload_n hx hb dX4_question_71 rfl (lv_at hl 1 rfl) ?_
          refine lv_iload_n hx hb dX4_question_72 rfl (lv_at hl 2 rfl) ?_
          refine xa_puti G fd_X4 (a := 32) (x := x1) 12 (kz := 12) rfl rfl (by decide) rfl (by unfold ir; omega) (wm 2 156 rfl rfl) ⟨rfl, rfl, rfl, rfl⟩ rfl dX4_question_73 rfl (fun H locs G => ?_)
          refine lv_aload_n hx hb dX4_question_76 rfl (lv_at hl 1 rfl) ?_
          refine xa_getr G fd_X4 (a := 32) (x := 33) 3 rfl (by decide) rfl (wm 2 147 rfl rfl) ⟨rfl, rfl, rfl⟩ dX4_question_77 rfl (G.sk 36 rfl) (by decide) rfl ?_
          refine lv_iconst (v := iv 1) hx hb dX4_question_80 rfl ?_
          have hI_85 : IC (sv μ 32 12 x1) := (IC.put hI (by decide +kernel))
          have e_86 : (sv μ 32 12 x1).1 33 3 = S := ((sv_n _ (fun h9 => absurd h9.1 (by decide))).trans hS.symm)
          refine xc_vV G (b := 33) (rest := []) (As := [.int (iv 1)]) (c_X9_drop ω l (sv μ 32 12 x1) 33 1 S (by unfold isRow; decide) (by unfold ir; omega) hI_85 (by omega) (by omega)) (wm 6 89 rfl rfl) (wm 6 90 rfl rfl) (wm 6 91 rfl rfl) rfl rfl (by decide) rfl (wm 1 10 rfl rfl) (wm 6 92 rfl rfl) (by decide) hR (by decide) (n := 1) rfl rfl (Nat.le_of_ble_eq_true rfl) hl.1 dX4_question_81 (fun μ87 ρ d0 H locs hp G => ?_)
          obtain ⟨F_88, hI_89, hs_90⟩ := hp
          have e_91 : μ87.1 33 3 = max (S - 1) 0 := hs_90
          have e_92 : μ87.1 32 13 = μ.1 32 13 := ((F_88.1 32 (by decide) 13).trans (sv_n _ (by decide)))
          have e_93 : μ87.1 32 12 = x1 := ((F_88.1 32 (by decide) 12).trans (sv_s _ _ _ _))
          have e_94 : μ87.1 32 12 = x1 := ((F_88.1 32 (by decide) 12).trans (sv_s _ _ _ _))
          have e_95 : μ87.1 33 3 = max (S - 1) 0 := hs_90
          have e_96 : μ87.1 32 13 = μ.1 32 13 := ((F_88.1 32 (by decide) 13).trans (sv_n _ (by decide)))
          have e_97 : μ87.1 32 13 = μ.1 32 13 := ((F_88.1 32 (by decide) 13).trans (sv_n _ (by decide)))
          have e_98 : μ87.1 32 13 = μ.1 32 13 := ((F_88.1 32 (by decide) 13).trans (sv_n _ (by decide)))
          have e_99 : μ87.1 70 2 = μ.1 70 2 := ((F_88.1 70 (by decide) 2).trans (sv_n _ (fun h9 => absurd h9.1 (by decide))))
          have e_100 : μ87.1 70 2 = μ.1 70 2 := ((F_88.1 70 (by decide) 2).trans (sv_n _ (fun h9 => absurd h9.1 (by decide))))
          have e_101 : μ87.1 70 8 = μ.1 70 8 := ((F_88.1 70 (by decide) 8).trans (sv_n _ (fun h9 => absurd h9.1 (by decide))))
          have e_102 : μ87.1 70 8 = μ.1 70 8 := ((F_88.1 70 (by decide) 8).trans (sv_n _ (fun h9 => absurd h9.1 (by decide))))
          have e_103 : μ87.1 45 1 = μ.1 45 1 := ((F_88.1 45 (by decide) 1).trans (sv_n _ (fun h9 => absurd h9.1 (by decide))))
          have e_104 : μ87.1 70 2 = μ.1 70 2 := ((F_88.1 70 (by decide) 2).trans (sv_n _ (fun h9 => absurd h9.1 (by decide))))
          have e_105 : μ87.1 32 10 = μ.1 32 10 := ((F_88.1 32 (by decide) 10).trans (sv_n _ (by decide)))
          have e_106 : μ87.1 32 11 = μ.1 32 11 := ((F_88.1 32 (by decide) 11).trans (sv_n _ (by decide)))
          have e_107 : μ87.1 32 15 = μ.1 32 15 := ((F_88.1 32 (by decide) 15).trans (sv_n _ (by decide)))
          have e_108 : μ87.1 32 16 = μ.1 32 16 := ((F_88.1 32 (by decide) 16).trans (sv_n _ (by decide)))
          have e_109 : μ87.1 70 1 = μ.1 70 1 := ((F_88.1 70 (by decide) 1).trans (sv_n _ (fun h9 => absurd h9.1 (by decide))))
          have e_110 : μ87.1 70 3 = μ.1 70 3 := ((F_88.1 70 (by decide) 3).trans (sv_n _ (fun h9 => absurd h9.1 (by decide))))
          have e_111 : μ87.1 70 4 = μ.1 70 4 := ((F_88.1 70 (by decide) 4).trans (sv_n _ (fun h9 => absurd h9.1 (by decide))))
          have e_112 : μ87.1 70 5 = μ.1 70 5 := ((F_88.1 70 (by decide) 5).trans (sv_n _ (fun h9 => absurd h9.1 (by decide))))
          have e_113 : μ87.1 70 6 = μ.1 70 6 := ((F_88.1 70 (by decide) 6).trans (sv_n _ (fun h9 => absurd h9.1 (by decide))))
          have e_114 : μ87.1 70 7 = μ.1 70 7 := ((F_88.1 70 (by decide) 7).trans (sv_n _ (fun h9 => absurd h9.1 (by decide))))
          have e_115 : μ87.1 45 4 = μ.1 45 4 := ((F_88.1 45 (by decide) 4).trans (sv_n _ (fun h9 => absurd h9.1 (by decide))))
          exact xr_v G hret hlk dX4_question_84 ⟨(Fr.tr (Fr.put Fr.rf (by decide)) F_88 (by decide)), hI_89, (by omega), (by omega), (by omega), (by omega), (by omega), (by omega), (by omega), (by omega), (by omega), (by omega), (by omega), (by omega), (by omega)⟩
    · refine lv_aload_n hx hb dX4_question_26 rfl (lv_at hl 1 rfl) ?_
      refine lv_iconst (v := iv 4) hx hb dX4_question_27 rfl ?_
      refine lv_iconst (v := iv 1) hx hb dX4_question_28 rfl ?_
      have e_116 : μ.1 33 3 = S := hS.symm
      have hn_117 : 0 ≤ μ.1 45 1 ∧ 9 * μ.1 45 1 ≤ μ.2.1 46 := hI.nm.2.2.2.2.2.2.1
      have hn_118 : 0 ≤ μ.1 45 4 ∧ 2 * μ.1 45 4 ≤ μ.2.1 51 := hI.nm.2.2.2.2.2.2.2.1
      refine xc_vV G (b := 32) (rest := []) (As := [.int (iv 4), .int (iv 1)]) (c_X4_fails ω l μ 4 1 S (by unfold ir; omega) (by unfold ir; omega) hI (by omega) (by omega) (by omega) (by omega)) (wm 6 93 rfl rfl) (wm 6 95 rfl rfl) (wm 0 82 rfl rfl) rfl rfl (by decide) rfl (wm 1 14 rfl rfl) (wm 6 96 rfl rfl) (by decide) hR (by decide) (n := 2) rfl rfl (Nat.le_of_ble_eq_true rfl) hl.1 dX4_question_29 (fun μ119 ρ d0 H locs hp G => ?_)
      obtain ⟨F_120, hI_121, hp_122, hp_123, hs_124, hs_125, hs_126, hs_127, hs_128, hs_129, hs_130, hs_131, hs_132, hs_133, hs_134, hs_135⟩ := hp
      have hk_136 := hI_121.row (r := 33) (by unfold isRow; decide)
      unfold rk at hk_136
      simp only [Int.reduceAdd] at hk_136
      have hn_137 : 0 ≤ μ119.1 45 1 ∧ 9 * μ119.1 45 1 ≤ μ119.2.1 46 := hI_121.nm.2.2.2.2.2.2.1
      refine lv_aload_n hx hb dX4_question_32 rfl (lv_at hl 1 rfl) ?_
      have e_138 : μ119.1 32 10 = μ.1 32 10 := hs_130
      have e_139 : μ119.1 32 11 = μ.1 32 11 := hs_131
      have e_140 : μ119.1 32 12 = μ.1 32 12 := hs_132
      have e_141 : μ119.1 32 15 = μ.1 32 15 := hs_133
      have e_142 : μ119.1 32 16 = μ.1 32 16 := hs_134
      refine xc_vV G (b := 32) (rest := []) (As := []) (c_X4_leaveIfGoing ω l μ119  hI_121) (wm 6 234 rfl rfl) (wm 6 236 rfl rfl) (wm 0 104 rfl rfl) rfl rfl (by decide) rfl (wm 1 14 rfl rfl) (wm 6 237 rfl rfl) (by decide) hR (by decide) (n := 0) rfl rfl (Nat.le_of_ble_eq_true rfl) hl.1 dX4_question_33 (fun μ143 ρ d0 H locs hp G => ?_)
      obtain ⟨F_144, hI_145, hp_146, hs_147, hs_148, hs_149, hs_150, hs_151, hs_152⟩ := hp
      refine lv_goto (tgt := 84) hx hb dX4_question_36 (by decide) ?_
      have e_153 : μ143.1 33 3 = μ119.1 33 3 := (F_144.1 33 (by decide) 3)
      have e_154 : μ143.1 32 12 = μ.1 32 12 := (hs_149.trans hs_132)
      have e_155 : μ143.1 32 12 = μ.1 32 12 := (hs_149.trans hs_132)
      have e_156 : μ143.1 33 3 = μ119.1 33 3 := (F_144.1 33 (by decide) 3)
      have e_157 : μ143.1 70 2 = μ119.1 70 2 := (F_144.1 70 (by decide) 2)
      have e_158 : μ143.1 70 2 = μ119.1 70 2 := (F_144.1 70 (by decide) 2)
      have e_159 : μ143.1 70 8 = μ119.1 70 8 := (F_144.1 70 (by decide) 8)
      have e_160 : μ143.1 70 8 = μ119.1 70 8 := (F_144.1 70 (by decide) 8)
      have e_161 : μ143.1 45 1 = μ119.1 45 1 := (F_144.1 45 (by decide) 1)
      have e_162 : μ143.1 70 2 = μ119.1 70 2 := (F_144.1 70 (by decide) 2)
      have e_163 : μ143.1 32 10 = μ.1 32 10 := (hs_147.trans hs_130)
      have e_164 : μ143.1 32 11 = μ.1 32 11 := (hs_148.trans hs_131)
      have e_165 : μ143.1 32 15 = μ.1 32 15 := (hs_151.trans hs_133)
      have e_166 : μ143.1 32 16 = μ.1 32 16 := (hs_152.trans hs_134)
      have e_167 : μ143.1 70 1 = μ.1 70 1 := ((F_144.1 70 (by decide) 1).trans hs_124)
      have e_168 : μ143.1 70 3 = μ.1 70 3 := ((F_144.1 70 (by decide) 3).trans hs_125)
      have e_169 : μ143.1 70 4 = μ.1 70 4 := ((F_144.1 70 (by decide) 4).trans hs_126)
      have e_170 : μ143.1 70 5 = μ.1 70 5 := ((F_144.1 70 (by decide) 5).trans hs_127)
      have e_171 : μ143.1 70 6 = μ.1 70 6 := ((F_144.1 70 (by decide) 6).trans hs_128)
      have e_172 : μ143.1 70 7 = μ.1 70 7 := ((F_144.1 70 (by decide) 7).trans hs_129)
      have e_173 : μ143.1 45 4 = μ.1 45 4 := ((F_144.1 45 (by decide) 4).trans hs_135)
      exact xr_v G hret hlk dX4_question_84 ⟨(Fr.tr (Fr.tr Fr.rf F_120 (by decide)) F_144 (by decide)), hI_145, (by omega), (by omega), (by omega), (by omega), (by omega), (by omega), (by omega), (by omega), (by omega), (by omega), (by omega), (by omega), (by omega)⟩
  · refine lv_aload_n hx hb dX4_question_13 rfl (lv_at hl 1 rfl) ?_
    refine lv_iconst (v := iv 3) hx hb dX4_question_14 rfl ?_
    refine xa_puti G fd_X4 (a := 32) (x := 3) 13 (kz := 13) rfl rfl (by decide) rfl (by unfold ir; omega) (wm 2 157 rfl rfl) ⟨rfl, rfl, rfl, rfl⟩ rfl dX4_question_15 rfl (fun H locs G => ?_)
    refine lv_goto (tgt := 84) hx hb dX4_question_18 (by decide) ?_
    have hI_174 : IC (sv μ 32 13 3) := (IC.put hI (by decide +kernel))
    have e_175 : (sv μ 32 13 3).1 33 3 = S := ((sv_n _ (fun h9 => absurd h9.1 (by decide))).trans hS.symm)
    have e_176 : (sv μ 32 13 3).1 32 13 = 3 := (sv_s _ _ _ _)
    have e_177 : (sv μ 32 13 3).1 32 12 = μ.1 32 12 := (sv_n _ (by decide))
    have e_178 : (sv μ 32 13 3).1 32 12 = μ.1 32 12 := (sv_n _ (by decide))
    have e_179 : (sv μ 32 13 3).1 33 3 = S := ((sv_n _ (fun h9 => absurd h9.1 (by decide))).trans hS.symm)
    have e_180 : (sv μ 32 13 3).1 32 13 = 3 := (sv_s _ _ _ _)
    have e_181 : (sv μ 32 13 3).1 32 13 = 3 := (sv_s _ _ _ _)
    have e_182 : (sv μ 32 13 3).1 32 13 = 3 := (sv_s _ _ _ _)
    have e_183 : (sv μ 32 13 3).1 70 2 = μ.1 70 2 := (sv_n _ (fun h9 => absurd h9.1 (by decide)))
    have e_184 : (sv μ 32 13 3).1 70 2 = μ.1 70 2 := (sv_n _ (fun h9 => absurd h9.1 (by decide)))
    have e_185 : (sv μ 32 13 3).1 70 8 = μ.1 70 8 := (sv_n _ (fun h9 => absurd h9.1 (by decide)))
    have e_186 : (sv μ 32 13 3).1 70 8 = μ.1 70 8 := (sv_n _ (fun h9 => absurd h9.1 (by decide)))
    have e_187 : (sv μ 32 13 3).1 45 1 = μ.1 45 1 := (sv_n _ (fun h9 => absurd h9.1 (by decide)))
    have e_188 : (sv μ 32 13 3).1 70 2 = μ.1 70 2 := (sv_n _ (fun h9 => absurd h9.1 (by decide)))
    have e_189 : (sv μ 32 13 3).1 32 10 = μ.1 32 10 := (sv_n _ (by decide))
    have e_190 : (sv μ 32 13 3).1 32 11 = μ.1 32 11 := (sv_n _ (by decide))
    have e_191 : (sv μ 32 13 3).1 32 15 = μ.1 32 15 := (sv_n _ (by decide))
    have e_192 : (sv μ 32 13 3).1 32 16 = μ.1 32 16 := (sv_n _ (by decide))
    have e_193 : (sv μ 32 13 3).1 70 1 = μ.1 70 1 := (sv_n _ (fun h9 => absurd h9.1 (by decide)))
    have e_194 : (sv μ 32 13 3).1 70 3 = μ.1 70 3 := (sv_n _ (fun h9 => absurd h9.1 (by decide)))
    have e_195 : (sv μ 32 13 3).1 70 4 = μ.1 70 4 := (sv_n _ (fun h9 => absurd h9.1 (by decide)))
    have e_196 : (sv μ 32 13 3).1 70 5 = μ.1 70 5 := (sv_n _ (fun h9 => absurd h9.1 (by decide)))
    have e_197 : (sv μ 32 13 3).1 70 6 = μ.1 70 6 := (sv_n _ (fun h9 => absurd h9.1 (by decide)))
    have e_198 : (sv μ 32 13 3).1 70 7 = μ.1 70 7 := (sv_n _ (fun h9 => absurd h9.1 (by decide)))
    have e_199 : (sv μ 32 13 3).1 45 4 = μ.1 45 4 := (sv_n _ (fun h9 => absurd h9.1 (by decide)))
    exact xr_v G hret hlk dX4_question_84 ⟨(Fr.put Fr.rf (by decide)), hI_174, (by omega), (by omega), (by omega), (by omega), (by omega), (by omega), (by omega), (by omega), (by omega), (by omega), (by omega), (by omega), (by omega)⟩

set_option maxHeartbeats 4000000 in
set_option maxRecDepth 100000 in
theorem c_X4_keepMark (ω : Om) (l : Launch) (μ : M3) (S : Int) (hI : IC μ) (hS : S = μ.1 33 3) (hSb : S < 240099) (hst : 0 ≤ μ.1 70 2 ∧ μ.1 70 2 ≤ 5000 ∧ 0 ≤ μ.1 70 8 ∧ μ.1 70 8 ≤ 80000 ∧ μ.1 45 1 ≤ μ.1 70 2) (h0s : μ.1 32 13 = 0) : CtV ω l yX4_keepMark cX4_keepMark 2 6 194 [.ref (oP ω 32)] μ (fun (μ' : M3) => (Fr [70, 33, 34, 35, 36, 41, 42, 43, 44, 32, 45, 46, 47, 48, 49, 50] μ μ') ∧ (IC μ') ∧ ((μ'.1 33 3 ≤ max (S - 1) 0 ∧ μ'.1 32 13 = 0) ∨ (μ'.1 33 3 ≤ S + 1 ∧ (μ'.1 32 13 = 1 ∨ μ'.1 32 13 = 3 ∨ μ'.1 32 13 = 4))) ∧ (μ.1 70 2 ≤ μ'.1 70 2 ∧ μ'.1 70 2 ≤ 5000 ∧ 0 ≤ μ'.1 70 8 ∧ μ'.1 70 8 ≤ 80000 ∧ μ'.1 45 1 ≤ μ'.1 70 2) ∧ (μ'.1 70 1 = μ.1 70 1) ∧ (μ'.1 70 4 = μ.1 70 4) ∧ (μ'.1 70 5 = μ.1 70 5) ∧ (μ'.1 70 6 = μ.1 70 6) ∧ (μ'.1 70 7 = μ.1 70 7) ∧ (μ'.1 32 10 = μ.1 32 10) ∧ (μ'.1 32 11 = μ.1 32 11) ∧ (μ'.1 32 12 = μ.1 32 12) ∧ (μ'.1 32 15 = μ.1 32 15) ∧ (μ'.1 32 16 = μ.1 32 16) ∧ (μ'.1 45 4 = μ.1 45 4)) := by
  refine CtV.go (by decide) (Nat.le_of_ble_eq_true rfl) (fun ρ p e s m below meth c R ls G hR hret hlk hl => ?_)
  have hx := G.1.1
  have hb := G.1.2.1
  have hl : lv_has ls 2 [(0, .ref (oP ω 32))] := hl
  generalize s.drawn = d0 at G ⊢
  have hk_1 := hI.row (r := 33) (by unfold isRow; decide)
  unfold rk at hk_1
  simp only [Int.reduceAdd] at hk_1
  have hbr_33 : BR 33 = 240100 := rfl
  have hk_2 := hI.row (r := 37) (by unfold isRow; decide)
  unfold rk at hk_2
  simp only [Int.reduceAdd] at hk_2
  have hbr_37 : BR 37 = 20410 := rfl
  refine lv_aload_n hx hb dX4_keepMark_0 rfl (lv_at hl 0 rfl) ?_
  refine xa_getr G fd_X4 (a := 32) (x := 33) 3 rfl (by decide) rfl (wm 2 147 rfl rfl) ⟨rfl, rfl, rfl⟩ dX4_keepMark_1 rfl (G.sk 36 rfl) (by decide) rfl ?_
  refine xc_iV G (b := 33) (rest := []) (As := []) (c_X9_kindOfTop ω l μ 33 (by unfold isRow; decide) hI) (wm 6 83 rfl rfl) (wm 5 152 rfl rfl) (wm 5 153 rfl rfl) rfl rfl (by decide) rfl (wm 1 10 rfl rfl) (wm 5 154 rfl rfl) (by decide) hR (by decide) (n := 0) rfl rfl (Nat.le_of_ble_eq_true rfl) hl.1 dX4_keepMark_4 (fun r_4 μ3 ρ d0 H locs hr_r_4 hp G => ?_)
  have hr_r_4 : -2147483648 ≤ r_4 ∧ r_4 ≤ 2147483647 := hr_r_4
  have hsm_5 := hp
  have hsm_5 := Eq.symm hsm_5
  subst hsm_5
  refine lv_istore_n (lv' := [(1, .int (iv r_4)), (0, .ref (oP ω 32))]) hx hb dX4_keepMark_7 rfl hl (by decide) rfl (fun ls hl => ?_)
  refine lv_iload_n hx hb dX4_keepMark_8 rfl (lv_at hl 0 rfl) ?_
  refine lv_iconst (v := iv 4) hx hb dX4_keepMark_9 rfl ?_
  refine xb_icmp_ne (tgt := 21) hx hb (by unfold ir; omega) (by unfold ir; omega) dX4_keepMark_10 (by decide) (fun c_10 => ?_) (fun c_10 => ?_)
  · refine lv_iload_n hx hb dX4_keepMark_21 rfl (lv_at hl 0 rfl) ?_
    refine lv_iconst (v := iv 1) hx hb dX4_keepMark_22 rfl ?_
    refine xb_icmp_eq (tgt := 39) hx hb (by unfold ir; omega) (by unfold ir; omega) dX4_keepMark_23 (by decide) (fun c_23 => ?_) (fun c_23 => ?_)
    · refine lv_aload_n hx hb dX4_keepMark_39 rfl (lv_at hl 1 rfl) ?_
      refine xa_getr G fd_X4 (a := 32) (x := 70) 9 rfl (by decide) rfl (wm 2 153 rfl rfl) ⟨rfl, rfl, rfl⟩ dX4_keepMark_40 rfl (G.sk 42 rfl) (by decide) rfl ?_
      refine lv_iconst (v := iv 3) hx hb dX4_keepMark_43 rfl ?_
      refine lv_dup2_11 hx hb dX4_keepMark_44 rfl rfl ?_
      refine xa_iald G (a := 70) (i := 3) rfl (by have h9 := G.lc (a := 70) (n := 10) 33 rfl; omega) dX4_keepMark_45 rfl ?_
      have hr_6 : -2147483648 ≤ μ.1 70 3 ∧ μ.1 70 3 ≤ 2147483647 := by have h9 := G.hr (a := 70) (k := 3) rfl; exact h9
      refine lv_iconst (v := iv 1) hx hb dX4_keepMark_46 rfl ?_
      refine xb_iadd hx hb dX4_keepMark_47 ?_
      refine xb_topi (fun y_7 hr_y_7 he_y_7 => ?_)
      have hr_y_7 : -2147483648 ≤ y_7 ∧ y_7 ≤ 2147483647 := hr_y_7
      refine xa_iast G (a := 70) (i := 3) (x := y_7) rfl (by have h9 := G.lc (a := 70) (n := 10) 33 rfl; omega) (by unfold ir; omega) dX4_keepMark_48 rfl (fun H locs G => ?_)
      refine lv_aload_n hx hb dX4_keepMark_49 rfl (lv_at hl 1 rfl) ?_
      refine xa_getr G fd_X4 (a := 32) (x := 41) 5 rfl (by decide) rfl (wm 2 149 rfl rfl) ⟨rfl, rfl, rfl⟩ dX4_keepMark_50 rfl (G.sk 38 rfl) (by decide) rfl ?_
      have hI_8 : IC (sv μ 70 3 y_7) := (IC.pua hI (by decide))
      have hk_9 := hI.row (r := 41) (by unfold isRow; decide)
      unfold rk at hk_9
      simp only [Int.reduceAdd] at hk_9
      have hbr_41 : BR 41 = 210 := rfl
      have e_10 : (sv μ 70 3 y_7).1 41 3 = μ.1 41 3 := (sv_n _ (fun h9 => absurd h9.1 (by decide)))
      refine xc_iV G (b := 41) (rest := []) (As := []) (c_X9_count ω l (sv μ 70 3 y_7) 41 (by unfold isRow; decide) hI_8) (wm 5 79 rfl rfl) (wm 4 81 rfl rfl) (wm 4 82 rfl rfl) rfl rfl (by decide) rfl (wm 1 10 rfl rfl) (wm 4 83 rfl rfl) (by decide) hR (by decide) (n := 0) rfl rfl (Nat.le_of_ble_eq_true rfl) hl.1 dX4_keepMark_53 (fun r_12 μ11 ρ d0 H locs hr_r_12 hp G => ?_)
      have hr_r_12 : -2147483648 ≤ r_12 ∧ r_12 ≤ 2147483647 := hr_r_12
      obtain ⟨hsm_13, hp_14⟩ := hp
      have hsm_13 := Eq.symm hsm_13
      subst hsm_13
      refine lv_sipush (v := iv 200) hx hb dX4_keepMark_56 rfl ?_
      refine xb_icmp_ge (tgt := 98) hx hb (by unfold ir; omega) (by unfold ir; omega) dX4_keepMark_59 (by decide) (fun c_59 => ?_) (fun c_59 => ?_)
      · refine lv_aload_n hx hb dX4_keepMark_98 rfl (lv_at hl 1 rfl) ?_
        refine xa_getr G fd_X4 (a := 32) (x := 33) 3 rfl (by decide) rfl (wm 2 147 rfl rfl) ⟨rfl, rfl, rfl⟩ dX4_keepMark_99 rfl (G.sk 36 rfl) (by decide) rfl ?_
        refine lv_iconst (v := iv 1) hx hb dX4_keepMark_102 rfl ?_
        have e_15 : (sv μ 70 3 y_7).1 33 3 = S := ((sv_n _ (fun h9 => absurd h9.1 (by decide))).trans hS.symm)
        refine xc_vV G (b := 33) (rest := []) (As := [.int (iv 1)]) (c_X9_drop ω l (sv μ 70 3 y_7) 33 1 S (by unfold isRow; decide) (by unfold ir; omega) hI_8 (by omega) (by omega)) (wm 6 89 rfl rfl) (wm 6 90 rfl rfl) (wm 6 91 rfl rfl) rfl rfl (by decide) rfl (wm 1 10 rfl rfl) (wm 6 92 rfl rfl) (by decide) hR (by decide) (n := 1) rfl rfl (Nat.le_of_ble_eq_true rfl) hl.1 dX4_keepMark_103 (fun μ16 ρ d0 H locs hp G => ?_)
        obtain ⟨F_17, hI_18, hs_19⟩ := hp
        have e_20 : μ16.1 33 3 = max (S - 1) 0 := hs_19
        have e_21 : μ16.1 32 13 = μ.1 32 13 := ((F_17.1 32 (by decide) 13).trans (sv_n _ (fun h9 => absurd h9.1 (by decide))))
        have e_22 : μ16.1 33 3 = max (S - 1) 0 := hs_19
        have e_23 : μ16.1 32 13 = μ.1 32 13 := ((F_17.1 32 (by decide) 13).trans (sv_n _ (fun h9 => absurd h9.1 (by decide))))
        have e_24 : μ16.1 32 13 = μ.1 32 13 := ((F_17.1 32 (by decide) 13).trans (sv_n _ (fun h9 => absurd h9.1 (by decide))))
        have e_25 : μ16.1 32 13 = μ.1 32 13 := ((F_17.1 32 (by decide) 13).trans (sv_n _ (fun h9 => absurd h9.1 (by decide))))
        have e_26 : μ16.1 70 2 = μ.1 70 2 := ((F_17.1 70 (by decide) 2).trans (sv_n _ (by decide)))
        have e_27 : μ16.1 70 2 = μ.1 70 2 := ((F_17.1 70 (by decide) 2).trans (sv_n _ (by decide)))
        have e_28 : μ16.1 70 8 = μ.1 70 8 := ((F_17.1 70 (by decide) 8).trans (sv_n _ (by decide)))
        have e_29 : μ16.1 70 8 = μ.1 70 8 := ((F_17.1 70 (by decide) 8).trans (sv_n _ (by decide)))
        have e_30 : μ16.1 45 1 = μ.1 45 1 := ((F_17.1 45 (by decide) 1).trans (sv_n _ (fun h9 => absurd h9.1 (by decide))))
        have e_31 : μ16.1 70 2 = μ.1 70 2 := ((F_17.1 70 (by decide) 2).trans (sv_n _ (by decide)))
        have e_32 : μ16.1 70 1 = μ.1 70 1 := ((F_17.1 70 (by decide) 1).trans (sv_n _ (by decide)))
        have e_33 : μ16.1 70 4 = μ.1 70 4 := ((F_17.1 70 (by decide) 4).trans (sv_n _ (by decide)))
        have e_34 : μ16.1 70 5 = μ.1 70 5 := ((F_17.1 70 (by decide) 5).trans (sv_n _ (by decide)))
        have e_35 : μ16.1 70 6 = μ.1 70 6 := ((F_17.1 70 (by decide) 6).trans (sv_n _ (by decide)))
        have e_36 : μ16.1 70 7 = μ.1 70 7 := ((F_17.1 70 (by decide) 7).trans (sv_n _ (by decide)))
        have e_37 : μ16.1 32 10 = μ.1 32 10 := ((F_17.1 32 (by decide) 10).trans (sv_n _ (fun h9 => absurd h9.1 (by decide))))
        have e_38 : μ16.1 32 11 = μ.1 32 11 := ((F_17.1 32 (by decide) 11).trans (sv_n _ (fun h9 => absurd h9.1 (by decide))))
        have e_39 : μ16.1 32 12 = μ.1 32 12 := ((F_17.1 32 (by decide) 12).trans (sv_n _ (fun h9 => absurd h9.1 (by decide))))
        have e_40 : μ16.1 32 15 = μ.1 32 15 := ((F_17.1 32 (by decide) 15).trans (sv_n _ (fun h9 => absurd h9.1 (by decide))))
        have e_41 : μ16.1 32 16 = μ.1 32 16 := ((F_17.1 32 (by decide) 16).trans (sv_n _ (fun h9 => absurd h9.1 (by decide))))
        have e_42 : μ16.1 45 4 = μ.1 45 4 := ((F_17.1 45 (by decide) 4).trans (sv_n _ (fun h9 => absurd h9.1 (by decide))))
        exact xr_v G hret hlk dX4_keepMark_106 ⟨(Fr.tr (Fr.put Fr.rf (by decide)) F_17 (by decide)), hI_18, (by omega), (by omega), (by omega), (by omega), (by omega), (by omega), (by omega), (by omega), (by omega), (by omega), (by omega), (by omega), (by omega)⟩
      · refine lv_aload_n hx hb dX4_keepMark_62 rfl (lv_at hl 1 rfl) ?_
        refine xa_getr G fd_X4 (a := 32) (x := 41) 5 rfl (by decide) rfl (wm 2 149 rfl rfl) ⟨rfl, rfl, rfl⟩ dX4_keepMark_63 rfl (G.sk 38 rfl) (by decide) rfl ?_
        refine lv_aload_n hx hb dX4_keepMark_66 rfl (lv_at hl 1 rfl) ?_
        refine xa_getr G fd_X4 (a := 32) (x := 52) 7 rfl (by decide) rfl (wm 2 151 rfl rfl) ⟨rfl, rfl, rfl⟩ dX4_keepMark_67 rfl (G.sk 40 rfl) (by decide) rfl ?_
        have e_43 : ofF (sv μ 70 3 y_7) 53 = ofF μ 53 := (ofF_sv μ (by decide) (by decide))
        refine xc_iV G (b := 52) (rest := [.ref (oP ω 41)]) (As := []) (c_X2_tongue ω l (sv μ 70 3 y_7)  hI_8) (wm 5 218 rfl rfl) (wm 5 219 rfl rfl) (wm 5 220 rfl rfl) rfl rfl (by decide) rfl (wm 1 16 rfl rfl) (wm 5 221 rfl rfl) (by decide) hR (by decide) (n := 0) rfl rfl (Nat.le_of_ble_eq_true rfl) hl.1 dX4_keepMark_70 (fun r_45 μ44 ρ d0 H locs hr_r_45 hp G => ?_)
        have hr_r_45 : -2147483648 ≤ r_45 ∧ r_45 ≤ 2147483647 := hr_r_45
        obtain ⟨hsm_46, hp_47⟩ := hp
        have hsm_46 := Eq.symm hsm_46
        subst hsm_46
        refine lv_aload_n hx hb dX4_keepMark_73 rfl (lv_at hl 1 rfl) ?_
        refine xa_getr G fd_X4 (a := 32) (x := 33) 3 rfl (by decide) rfl (wm 2 147 rfl rfl) ⟨rfl, rfl, rfl⟩ dX4_keepMark_74 rfl (G.sk 36 rfl) (by decide) rfl ?_
        refine lv_aload_n hx hb dX4_keepMark_77 rfl (lv_at hl 1 rfl) ?_
        have e_48 : (sv μ 70 3 y_7).1 33 3 = S := ((sv_n _ (fun h9 => absurd h9.1 (by decide))).trans hS.symm)
        refine xc_iV G (b := 32) (rest := [.ref (oP ω 33), .int (iv r_45), .ref (oP ω 41)]) (As := []) (c_X4_top ω l (sv μ 70 3 y_7) S hI_8 (by omega)) (wm 6 73 rfl rfl) (wm 6 75 rfl rfl) (wm 0 80 rfl rfl) rfl rfl (by decide) rfl (wm 1 14 rfl rfl) (wm 6 76 rfl rfl) (by decide) hR (by decide) (n := 0) rfl rfl (Nat.le_of_ble_eq_true rfl) hl.1 dX4_keepMark_78 (fun r_50 μ49 ρ d0 H locs hr_r_50 hp G => ?_)
        have hr_r_50 : -2147483648 ≤ r_50 ∧ r_50 ≤ 2147483647 := hr_r_50
        obtain ⟨hsm_51, hp_52⟩ := hp
        have hsm_51 := Eq.symm hsm_51
        subst hsm_51
        refine xc_lV G (b := 33) (rest := [.int (iv r_45), .ref (oP ω 41)]) (As := [.int (iv r_50)]) (c_X9_whole ω l (sv μ 70 3 y_7) 33 r_50 (by unfold isRow; decide) (by unfold ir; omega) hI_8) (wm 6 84 rfl rfl) (wm 5 160 rfl rfl) (wm 5 161 rfl rfl) rfl rfl (by decide) rfl (wm 1 10 rfl rfl) (wm 5 162 rfl rfl) (by decide) hR (by decide) (n := 1) rfl rfl (Nat.le_of_ble_eq_true rfl) hl.1 dX4_keepMark_81 (fun r_54 μ53 ρ d0 H locs hr_r_54 hp G => ?_)
        have hsm_55 := hp
        have hsm_55 := Eq.symm hsm_55
        subst hsm_55
        refine lv_aload_n hx hb dX4_keepMark_84 rfl (lv_at hl 1 rfl) ?_
        refine xa_getr G fd_X4 (a := 32) (x := 33) 3 rfl (by decide) rfl (wm 2 147 rfl rfl) ⟨rfl, rfl, rfl⟩ dX4_keepMark_85 rfl (G.sk 36 rfl) (by decide) rfl ?_
        refine lv_aload_n hx hb dX4_keepMark_88 rfl (lv_at hl 1 rfl) ?_
        have e_56 : (sv μ 70 3 y_7).1 33 3 = S := ((sv_n _ (fun h9 => absurd h9.1 (by decide))).trans hS.symm)
        refine xc_iV G (b := 32) (rest := [.ref (oP ω 33), .long (jv r_54), .int (iv r_45), .ref (oP ω 41)]) (As := []) (c_X4_top ω l (sv μ 70 3 y_7) S hI_8 (by omega)) (wm 6 73 rfl rfl) (wm 6 75 rfl rfl) (wm 0 80 rfl rfl) rfl rfl (by decide) rfl (wm 1 14 rfl rfl) (wm 6 76 rfl rfl) (by decide) hR (by decide) (n := 0) rfl rfl (Nat.le_of_ble_eq_true rfl) hl.1 dX4_keepMark_89 (fun r_58 μ57 ρ d0 H locs hr_r_58 hp G => ?_)
        have hr_r_58 : -2147483648 ≤ r_58 ∧ r_58 ≤ 2147483647 := hr_r_58
        obtain ⟨hsm_59, hp_60⟩ := hp
        have hsm_59 := Eq.symm hsm_59
        subst hsm_59
        refine xc_dV G (b := 33) (rest := [.long (jv r_54), .int (iv r_45), .ref (oP ω 41)]) (As := [.int (iv r_58)]) (c_X9_real ω l (sv μ 70 3 y_7) 33 r_58 (by unfold isRow; decide) (by unfold ir; omega) hI_8) (wm 6 106 rfl rfl) (wm 5 206 rfl rfl) (wm 5 207 rfl rfl) rfl rfl (by decide) rfl (wm 1 10 rfl rfl) (wm 5 208 rfl rfl) (by decide) hR (by decide) (n := 1) rfl rfl (Nat.le_of_ble_eq_true rfl) hl.1 dX4_keepMark_92 (fun r_62 μ61 ρ d0 H locs hp G => ?_)
        have hsm_63 := hp
        have hsm_63 := Eq.symm hsm_63
        subst hsm_63
        have e_64 : (sv μ 70 3 y_7).1 41 3 = μ.1 41 3 := (sv_n _ (fun h9 => absurd h9.1 (by decide)))
        have e_65 : (sv μ 70 3 y_7).1 41 3 = μ.1 41 3 := (sv_n _ (fun h9 => absurd h9.1 (by decide)))
        have e_66 : (sv μ 70 3 y_7).1 41 3 = μ.1 41 3 := (sv_n _ (fun h9 => absurd h9.1 (by decide)))
        have e_67 : (sv μ 70 3 y_7).1 41 3 = μ.1 41 3 := (sv_n _ (fun h9 => absurd h9.1 (by decide)))
        refine xc_vV G (b := 41) (rest := []) (As := [.int (iv r_45), .long (jv r_54), .double (dv r_62)]) (c_X9_push ω l (sv μ 70 3 y_7) 41 r_45 r_54 r_62 (μ.1 41 3) (by unfold isRow; decide) (by unfold ir; omega) hr_r_54 hI_8 (by omega) (by omega)) (wm 5 74 rfl rfl) (wm 4 72 rfl rfl) (wm 4 73 rfl rfl) rfl rfl (by decide) rfl (wm 1 10 rfl rfl) (wm 4 74 rfl rfl) (by decide) hR (by decide) (n := 3) rfl rfl (Nat.le_of_ble_eq_true rfl) hl.1 dX4_keepMark_95 (fun μ68 ρ d0 H locs hp G => ?_)
        obtain ⟨F_69, hI_70, hs_71⟩ := hp
        refine lv_aload_n hx hb dX4_keepMark_98 rfl (lv_at hl 1 rfl) ?_
        refine xa_getr G fd_X4 (a := 32) (x := 33) 3 rfl (by decide) rfl (wm 2 147 rfl rfl) ⟨rfl, rfl, rfl⟩ dX4_keepMark_99 rfl (G.sk 36 rfl) (by decide) rfl ?_
        refine lv_iconst (v := iv 1) hx hb dX4_keepMark_102 rfl ?_
        have e_72 : μ68.1 33 3 = S := ((F_69.1 33 (by decide) 3).trans ((sv_n _ (fun h9 => absurd h9.1 (by decide))).trans hS.symm))
        refine xc_vV G (b := 33) (rest := []) (As := [.int (iv 1)]) (c_X9_drop ω l μ68 33 1 S (by unfold isRow; decide) (by unfold ir; omega) hI_70 (by omega) (by omega)) (wm 6 89 rfl rfl) (wm 6 90 rfl rfl) (wm 6 91 rfl rfl) rfl rfl (by decide) rfl (wm 1 10 rfl rfl) (wm 6 92 rfl rfl) (by decide) hR (by decide) (n := 1) rfl rfl (Nat.le_of_ble_eq_true rfl) hl.1 dX4_keepMark_103 (fun μ73 ρ d0 H locs hp G => ?_)
        obtain ⟨F_74, hI_75, hs_76⟩ := hp
        have e_77 : μ73.1 33 3 = max (S - 1) 0 := hs_76
        have e_78 : μ73.1 32 13 = μ.1 32 13 := ((F_74.1 32 (by decide) 13).trans ((F_69.1 32 (by decide) 13).trans (sv_n _ (fun h9 => absurd h9.1 (by decide)))))
        have e_79 : μ73.1 33 3 = max (S - 1) 0 := hs_76
        have e_80 : μ73.1 32 13 = μ.1 32 13 := ((F_74.1 32 (by decide) 13).trans ((F_69.1 32 (by decide) 13).trans (sv_n _ (fun h9 => absurd h9.1 (by decide)))))
        have e_81 : μ73.1 32 13 = μ.1 32 13 := ((F_74.1 32 (by decide) 13).trans ((F_69.1 32 (by decide) 13).trans (sv_n _ (fun h9 => absurd h9.1 (by decide)))))
        have e_82 : μ73.1 32 13 = μ.1 32 13 := ((F_74.1 32 (by decide) 13).trans ((F_69.1 32 (by decide) 13).trans (sv_n _ (fun h9 => absurd h9.1 (by decide)))))
        have e_83 : μ73.1 70 2 = μ.1 70 2 := ((F_74.1 70 (by decide) 2).trans ((F_69.1 70 (by decide) 2).trans (sv_n _ (by decide))))
        have e_84 : μ73.1 70 2 = μ.1 70 2 := ((F_74.1 70 (by decide) 2).trans ((F_69.1 70 (by decide) 2).trans (sv_n _ (by decide))))
        have e_85 : μ73.1 70 8 = μ.1 70 8 := ((F_74.1 70 (by decide) 8).trans ((F_69.1 70 (by decide) 8).trans (sv_n _ (by decide))))
        have e_86 : μ73.1 70 8 = μ.1 70 8 := ((F_74.1 70 (by decide) 8).trans ((F_69.1 70 (by decide) 8).trans (sv_n _ (by decide))))
        have e_87 : μ73.1 45 1 = μ.1 45 1 := ((F_74.1 45 (by decide) 1).trans ((F_69.1 45 (by decide) 1).trans (sv_n _ (fun h9 => absurd h9.1 (by decide)))))
        have e_88 : μ73.1 70 2 = μ.1 70 2 := ((F_74.1 70 (by decide) 2).trans ((F_69.1 70 (by decide) 2).trans (sv_n _ (by decide))))
        have e_89 : μ73.1 70 1 = μ.1 70 1 := ((F_74.1 70 (by decide) 1).trans ((F_69.1 70 (by decide) 1).trans (sv_n _ (by decide))))
        have e_90 : μ73.1 70 4 = μ.1 70 4 := ((F_74.1 70 (by decide) 4).trans ((F_69.1 70 (by decide) 4).trans (sv_n _ (by decide))))
        have e_91 : μ73.1 70 5 = μ.1 70 5 := ((F_74.1 70 (by decide) 5).trans ((F_69.1 70 (by decide) 5).trans (sv_n _ (by decide))))
        have e_92 : μ73.1 70 6 = μ.1 70 6 := ((F_74.1 70 (by decide) 6).trans ((F_69.1 70 (by decide) 6).trans (sv_n _ (by decide))))
        have e_93 : μ73.1 70 7 = μ.1 70 7 := ((F_74.1 70 (by decide) 7).trans ((F_69.1 70 (by decide) 7).trans (sv_n _ (by decide))))
        have e_94 : μ73.1 32 10 = μ.1 32 10 := ((F_74.1 32 (by decide) 10).trans ((F_69.1 32 (by decide) 10).trans (sv_n _ (fun h9 => absurd h9.1 (by decide)))))
        have e_95 : μ73.1 32 11 = μ.1 32 11 := ((F_74.1 32 (by decide) 11).trans ((F_69.1 32 (by decide) 11).trans (sv_n _ (fun h9 => absurd h9.1 (by decide)))))
        have e_96 : μ73.1 32 12 = μ.1 32 12 := ((F_74.1 32 (by decide) 12).trans ((F_69.1 32 (by decide) 12).trans (sv_n _ (fun h9 => absurd h9.1 (by decide)))))
        have e_97 : μ73.1 32 15 = μ.1 32 15 := ((F_74.1 32 (by decide) 15).trans ((F_69.1 32 (by decide) 15).trans (sv_n _ (fun h9 => absurd h9.1 (by decide)))))
        have e_98 : μ73.1 32 16 = μ.1 32 16 := ((F_74.1 32 (by decide) 16).trans ((F_69.1 32 (by decide) 16).trans (sv_n _ (fun h9 => absurd h9.1 (by decide)))))
        have e_99 : μ73.1 45 4 = μ.1 45 4 := ((F_74.1 45 (by decide) 4).trans ((F_69.1 45 (by decide) 4).trans (sv_n _ (fun h9 => absurd h9.1 (by decide)))))
        exact xr_v G hret hlk dX4_keepMark_106 ⟨(Fr.tr (Fr.tr (Fr.put Fr.rf (by decide)) F_69 (by decide)) F_74 (by decide)), hI_75, (by omega), (by omega), (by omega), (by omega), (by omega), (by omega), (by omega), (by omega), (by omega), (by omega), (by omega), (by omega), (by omega)⟩
    · refine lv_aload_n hx hb dX4_keepMark_26 rfl (lv_at hl 1 rfl) ?_
      refine lv_iconst (v := iv 4) hx hb dX4_keepMark_27 rfl ?_
      refine lv_iconst (v := iv 1) hx hb dX4_keepMark_28 rfl ?_
      have e_100 : μ.1 33 3 = S := hS.symm
      have hn_101 : 0 ≤ μ.1 45 1 ∧ 9 * μ.1 45 1 ≤ μ.2.1 46 := hI.nm.2.2.2.2.2.2.1
      have hn_102 : 0 ≤ μ.1 45 4 ∧ 2 * μ.1 45 4 ≤ μ.2.1 51 := hI.nm.2.2.2.2.2.2.2.1
      refine xc_vV G (b := 32) (rest := []) (As := [.int (iv 4), .int (iv 1)]) (c_X4_fails ω l μ 4 1 S (by unfold ir; omega) (by unfold ir; omega) hI (by omega) (by omega) (by omega) (by omega)) (wm 6 93 rfl rfl) (wm 6 95 rfl rfl) (wm 0 82 rfl rfl) rfl rfl (by decide) rfl (wm 1 14 rfl rfl) (wm 6 96 rfl rfl) (by decide) hR (by decide) (n := 2) rfl rfl (Nat.le_of_ble_eq_true rfl) hl.1 dX4_keepMark_29 (fun μ103 ρ d0 H locs hp G => ?_)
      obtain ⟨F_104, hI_105, hp_106, hp_107, hs_108, hs_109, hs_110, hs_111, hs_112, hs_113, hs_114, hs_115, hs_116, hs_117, hs_118, hs_119⟩ := hp
      have hk_120 := hI_105.row (r := 33) (by unfold isRow; decide)
      unfold rk at hk_120
      simp only [Int.reduceAdd] at hk_120
      have hn_121 : 0 ≤ μ103.1 45 1 ∧ 9 * μ103.1 45 1 ≤ μ103.2.1 46 := hI_105.nm.2.2.2.2.2.2.1
      refine lv_aload_n hx hb dX4_keepMark_32 rfl (lv_at hl 1 rfl) ?_
      have e_122 : μ103.1 32 10 = μ.1 32 10 := hs_114
      have e_123 : μ103.1 32 11 = μ.1 32 11 := hs_115
      have e_124 : μ103.1 32 12 = μ.1 32 12 := hs_116
      have e_125 : μ103.1 32 15 = μ.1 32 15 := hs_117
      have e_126 : μ103.1 32 16 = μ.1 32 16 := hs_118
      refine xc_vV G (b := 32) (rest := []) (As := []) (c_X4_leaveIfGoing ω l μ103  hI_105) (wm 6 234 rfl rfl) (wm 6 236 rfl rfl) (wm 0 104 rfl rfl) rfl rfl (by decide) rfl (wm 1 14 rfl rfl) (wm 6 237 rfl rfl) (by decide) hR (by decide) (n := 0) rfl rfl (Nat.le_of_ble_eq_true rfl) hl.1 dX4_keepMark_33 (fun μ127 ρ d0 H locs hp G => ?_)
      obtain ⟨F_128, hI_129, hp_130, hs_131, hs_132, hs_133, hs_134, hs_135, hs_136⟩ := hp
      refine lv_goto (tgt := 106) hx hb dX4_keepMark_36 (by decide) ?_
      have e_137 : μ127.1 33 3 = μ103.1 33 3 := (F_128.1 33 (by decide) 3)
      have e_138 : μ127.1 33 3 = μ103.1 33 3 := (F_128.1 33 (by decide) 3)
      have e_139 : μ127.1 70 2 = μ103.1 70 2 := (F_128.1 70 (by decide) 2)
      have e_140 : μ127.1 70 2 = μ103.1 70 2 := (F_128.1 70 (by decide) 2)
      have e_141 : μ127.1 70 8 = μ103.1 70 8 := (F_128.1 70 (by decide) 8)
      have e_142 : μ127.1 70 8 = μ103.1 70 8 := (F_128.1 70 (by decide) 8)
      have e_143 : μ127.1 45 1 = μ103.1 45 1 := (F_128.1 45 (by decide) 1)
      have e_144 : μ127.1 70 2 = μ103.1 70 2 := (F_128.1 70 (by decide) 2)
      have e_145 : μ127.1 70 1 = μ.1 70 1 := ((F_128.1 70 (by decide) 1).trans hs_108)
      have e_146 : μ127.1 70 4 = μ.1 70 4 := ((F_128.1 70 (by decide) 4).trans hs_110)
      have e_147 : μ127.1 70 5 = μ.1 70 5 := ((F_128.1 70 (by decide) 5).trans hs_111)
      have e_148 : μ127.1 70 6 = μ.1 70 6 := ((F_128.1 70 (by decide) 6).trans hs_112)
      have e_149 : μ127.1 70 7 = μ.1 70 7 := ((F_128.1 70 (by decide) 7).trans hs_113)
      have e_150 : μ127.1 32 10 = μ.1 32 10 := (hs_131.trans hs_114)
      have e_151 : μ127.1 32 11 = μ.1 32 11 := (hs_132.trans hs_115)
      have e_152 : μ127.1 32 12 = μ.1 32 12 := (hs_133.trans hs_116)
      have e_153 : μ127.1 32 15 = μ.1 32 15 := (hs_135.trans hs_117)
      have e_154 : μ127.1 32 16 = μ.1 32 16 := (hs_136.trans hs_118)
      have e_155 : μ127.1 45 4 = μ.1 45 4 := ((F_128.1 45 (by decide) 4).trans hs_119)
      exact xr_v G hret hlk dX4_keepMark_106 ⟨(Fr.tr (Fr.tr Fr.rf F_104 (by decide)) F_128 (by decide)), hI_129, (by omega), (by omega), (by omega), (by omega), (by omega), (by omega), (by omega), (by omega), (by omega), (by omega), (by omega), (by omega), (by omega)⟩
  · refine lv_aload_n hx hb dX4_keepMark_13 rfl (lv_at hl 1 rfl) ?_
    refine lv_iconst (v := iv 3) hx hb dX4_keepMark_14 rfl ?_
    refine xa_puti G fd_X4 (a := 32) (x := 3) 13 (kz := 13) rfl rfl (by decide) rfl (by unfold ir; omega) (wm 2 157 rfl rfl) ⟨rfl, rfl, rfl, rfl⟩ rfl dX4_keepMark_15 rfl (fun H locs G => ?_)
    refine lv_goto (tgt := 106) hx hb dX4_keepMark_18 (by decide) ?_
    have hI_156 : IC (sv μ 32 13 3) := (IC.put hI (by decide +kernel))
    have e_157 : (sv μ 32 13 3).1 33 3 = S := ((sv_n _ (fun h9 => absurd h9.1 (by decide))).trans hS.symm)
    have e_158 : (sv μ 32 13 3).1 32 13 = 3 := (sv_s _ _ _ _)
    have e_159 : (sv μ 32 13 3).1 33 3 = S := ((sv_n _ (fun h9 => absurd h9.1 (by decide))).trans hS.symm)
    have e_160 : (sv μ 32 13 3).1 32 13 = 3 := (sv_s _ _ _ _)
    have e_161 : (sv μ 32 13 3).1 32 13 = 3 := (sv_s _ _ _ _)
    have e_162 : (sv μ 32 13 3).1 32 13 = 3 := (sv_s _ _ _ _)
    have e_163 : (sv μ 32 13 3).1 70 2 = μ.1 70 2 := (sv_n _ (fun h9 => absurd h9.1 (by decide)))
    have e_164 : (sv μ 32 13 3).1 70 2 = μ.1 70 2 := (sv_n _ (fun h9 => absurd h9.1 (by decide)))
    have e_165 : (sv μ 32 13 3).1 70 8 = μ.1 70 8 := (sv_n _ (fun h9 => absurd h9.1 (by decide)))
    have e_166 : (sv μ 32 13 3).1 70 8 = μ.1 70 8 := (sv_n _ (fun h9 => absurd h9.1 (by decide)))
    have e_167 : (sv μ 32 13 3).1 45 1 = μ.1 45 1 := (sv_n _ (fun h9 => absurd h9.1 (by decide)))
    have e_168 : (sv μ 32 13 3).1 70 2 = μ.1 70 2 := (sv_n _ (fun h9 => absurd h9.1 (by decide)))
    have e_169 : (sv μ 32 13 3).1 70 1 = μ.1 70 1 := (sv_n _ (fun h9 => absurd h9.1 (by decide)))
    have e_170 : (sv μ 32 13 3).1 70 4 = μ.1 70 4 := (sv_n _ (fun h9 => absurd h9.1 (by decide)))
    have e_171 : (sv μ 32 13 3).1 70 5 = μ.1 70 5 := (sv_n _ (fun h9 => absurd h9.1 (by decide)))
    have e_172 : (sv μ 32 13 3).1 70 6 = μ.1 70 6 := (sv_n _ (fun h9 => absurd h9.1 (by decide)))
    have e_173 : (sv μ 32 13 3).1 70 7 = μ.1 70 7 := (sv_n _ (fun h9 => absurd h9.1 (by decide)))
    have e_174 : (sv μ 32 13 3).1 32 10 = μ.1 32 10 := (sv_n _ (by decide))
    have e_175 : (sv μ 32 13 3).1 32 11 = μ.1 32 11 := (sv_n _ (by decide))
    have e_176 : (sv μ 32 13 3).1 32 12 = μ.1 32 12 := (sv_n _ (by decide))
    have e_177 : (sv μ 32 13 3).1 32 15 = μ.1 32 15 := (sv_n _ (by decide))
    have e_178 : (sv μ 32 13 3).1 32 16 = μ.1 32 16 := (sv_n _ (by decide))
    have e_179 : (sv μ 32 13 3).1 45 4 = μ.1 45 4 := (sv_n _ (fun h9 => absurd h9.1 (by decide)))
    exact xr_v G hret hlk dX4_keepMark_106 ⟨(Fr.put Fr.rf (by decide)), hI_156, (by omega), (by omega), (by omega), (by omega), (by omega), (by omega), (by omega), (by omega), (by omega), (by omega), (by omega), (by omega), (by omega)⟩

set_option maxHeartbeats 4000000 in
set_option maxRecDepth 100000 in
theorem c_X4_jumpIfFails (ω : Om) (l : Launch) (μ : M3) (x1 : Int) (x2 : Int) (S : Int) (hx1 : ir x1) (hx2 : ir x2) (hI : IC μ) (hS : S = μ.1 33 3) (hb9 : 0 ≤ x2 ∧ x2 ≤ 100000) : CtV ω l yX4_jumpIfFails cX4_jumpIfFails 3 4 146 [.ref (oP ω 32), .int (iv x1), .int (iv x2)] μ (fun (μ' : M3) => (Fr [34, 35, 36, 33, 32] μ μ') ∧ (IC μ') ∧ ((μ'.1 33 3 = S ∧ μ'.1 32 12 = μ.1 32 12) ∨ (μ'.1 33 3 = max (S - x2) 0 ∧ μ'.1 32 12 = x1)) ∧ (μ'.1 32 10 = μ.1 32 10) ∧ (μ'.1 32 11 = μ.1 32 11) ∧ (μ'.1 32 13 = μ.1 32 13) ∧ (μ'.1 32 14 = μ.1 32 14) ∧ (μ'.1 32 15 = μ.1 32 15) ∧ (μ'.1 32 16 = μ.1 32 16)) := by
  refine CtV.go (by decide) (Nat.le_of_ble_eq_true rfl) (fun ρ p e s m below meth c R ls G hR hret hlk hl => ?_)
  have hx := G.1.1
  have hb := G.1.2.1
  have hl : lv_has ls 3 [(0, .ref (oP ω 32)), (1, .int (iv x1)), (2, .int (iv x2))] := hl
  generalize s.drawn = d0 at G ⊢
  have hr_x1 : -2147483648 ≤ x1 ∧ x1 ≤ 2147483647 := hx1
  have hr_x2 : -2147483648 ≤ x2 ∧ x2 ≤ 2147483647 := hx2
  have hk_1 := hI.row (r := 33) (by unfold isRow; decide)
  unfold rk at hk_1
  simp only [Int.reduceAdd] at hk_1
  have hbr_33 : BR 33 = 240100 := rfl
  have hk_2 := hI.row (r := 37) (by unfold isRow; decide)
  unfold rk at hk_2
  simp only [Int.reduceAdd] at hk_2
  have hbr_37 : BR 37 = 20410 := rfl
  refine lv_aload_n hx hb dX4_jumpIfFails_0 rfl (lv_at hl 0 rfl) ?_
  refine xa_getr G fd_X4 (a := 32) (x := 33) 3 rfl (by decide) rfl (wm 2 147 rfl rfl) ⟨rfl, rfl, rfl⟩ dX4_jumpIfFails_1 rfl (G.sk 36 rfl) (by decide) rfl ?_
  refine xc_iV G (b := 33) (rest := []) (As := []) (c_X9_kindOfTop ω l μ 33 (by unfold isRow; decide) hI) (wm 6 83 rfl rfl) (wm 5 152 rfl rfl) (wm 5 153 rfl rfl) rfl rfl (by decide) rfl (wm 1 10 rfl rfl) (wm 5 154 rfl rfl) (by decide) hR (by decide) (n := 0) rfl rfl (Nat.le_of_ble_eq_true rfl) hl.1 dX4_jumpIfFails_4 (fun r_4 μ3 ρ d0 H locs hr_r_4 hp G => ?_)
  have hr_r_4 : -2147483648 ≤ r_4 ∧ r_4 ≤ 2147483647 := hr_r_4
  have hsm_5 := hp
  have hsm_5 := Eq.symm hsm_5
  subst hsm_5
  refine lv_iconst (v := iv 4) hx hb dX4_jumpIfFails_7 rfl ?_
  refine xb_icmp_ne (tgt := 45) hx hb (by unfold ir; omega) (by unfold ir; omega) dX4_jumpIfFails_8 (by decide) (fun c_8 => ?_) (fun c_8 => ?_)
  · have e_6 : μ.1 33 3 = S := hS.symm
    have e_7 : μ.1 33 3 = S := hS.symm
    exact xr_v G hret hlk dX4_jumpIfFails_45 ⟨Fr.rf, hI, (by omega), (by omega), (by omega), (by omega), (by omega), (by omega), (by omega)⟩
  · refine lv_aload_n hx hb dX4_jumpIfFails_11 rfl (lv_at hl 0 rfl) ?_
    refine xa_getr G fd_X4 (a := 32) (x := 33) 3 rfl (by decide) rfl (wm 2 147 rfl rfl) ⟨rfl, rfl, rfl⟩ dX4_jumpIfFails_12 rfl (G.sk 36 rfl) (by decide) rfl ?_
    refine lv_aload_n hx hb dX4_jumpIfFails_15 rfl (lv_at hl 0 rfl) ?_
    have e_8 : μ.1 33 3 = S := hS.symm
    refine xc_iV G (b := 32) (rest := [.ref (oP ω 33)]) (As := []) (c_X4_top ω l μ S hI (by omega)) (wm 6 73 rfl rfl) (wm 6 75 rfl rfl) (wm 0 80 rfl rfl) rfl rfl (by decide) rfl (wm 1 14 rfl rfl) (wm 6 76 rfl rfl) (by decide) hR (by decide) (n := 0) rfl rfl (Nat.le_of_ble_eq_true rfl) hl.1 dX4_jumpIfFails_16 (fun r_10 μ9 ρ d0 H locs hr_r_10 hp G => ?_)
    have hr_r_10 : -2147483648 ≤ r_10 ∧ r_10 ≤ 2147483647 := hr_r_10
    obtain ⟨hsm_11, hp_12⟩ := hp
    have hsm_11 := Eq.symm hsm_11
    subst hsm_11
    refine lv_iload_n hx hb dX4_jumpIfFails_19 rfl (lv_at hl 2 rfl) ?_
    refine xb_isub hx hb dX4_jumpIfFails_20 ?_
    refine lv_aload_n hx hb dX4_jumpIfFails_21 rfl (lv_at hl 0 rfl) ?_
    refine xa_getr G fd_X4 (a := 32) (x := 33) 3 rfl (by decide) rfl (wm 2 147 rfl rfl) ⟨rfl, rfl, rfl⟩ dX4_jumpIfFails_22 rfl (G.sk 36 rfl) (by decide) rfl ?_
    refine lv_aload_n hx hb dX4_jumpIfFails_25 rfl (lv_at hl 0 rfl) ?_
    have e_13 : μ.1 33 3 = S := hS.symm
    refine xc_iV G (b := 32) (rest := [.ref (oP ω 33), .int (iv (r_10 - x2)), .ref (oP ω 33)]) (As := []) (c_X4_top ω l μ S hI (by omega)) (wm 6 73 rfl rfl) (wm 6 75 rfl rfl) (wm 0 80 rfl rfl) rfl rfl (by decide) rfl (wm 1 14 rfl rfl) (wm 6 76 rfl rfl) (by decide) hR (by decide) (n := 0) rfl rfl (Nat.le_of_ble_eq_true rfl) hl.1 dX4_jumpIfFails_26 (fun r_15 μ14 ρ d0 H locs hr_r_15 hp G => ?_)
    have hr_r_15 : -2147483648 ≤ r_15 ∧ r_15 ≤ 2147483647 := hr_r_15
    obtain ⟨hsm_16, hp_17⟩ := hp
    have hsm_16 := Eq.symm hsm_16
    subst hsm_16
    refine xc_vV G (b := 33) (rest := []) (As := [.int (iv (r_10 - x2)), .ref (oP ω 33), .int (iv r_15)]) (c_X9_copy ω l μ 33 (r_10 - x2) 33 r_15 (by unfold isRow; decide) (by unfold ir; omega) (by unfold isRow; decide) (by unfold ir; omega) hI) (wm 6 28 rfl rfl) (wm 6 29 rfl rfl) (wm 6 30 rfl rfl) rfl rfl (by decide) rfl (wm 1 10 rfl rfl) (wm 6 31 rfl rfl) (by decide) hR (by decide) (n := 3) rfl rfl (Nat.le_of_ble_eq_true rfl) hl.1 dX4_jumpIfFails_29 (fun μ18 ρ d0 H locs hp G => ?_)
    obtain ⟨F_19, hI_20, hp_21⟩ := hp
    refine lv_aload_n hx hb dX4_jumpIfFails_32 rfl (lv_at hl 0 rfl) ?_
    refine xa_getr G fd_X4 (a := 32) (x := 33) 3 rfl (by decide) rfl (wm 2 147 rfl rfl) ⟨rfl, rfl, rfl⟩ dX4_jumpIfFails_33 rfl (G.sk 36 rfl) (by decide) rfl ?_
    refine lv_iload_n hx hb dX4_jumpIfFails_36 rfl (lv_at hl 2 rfl) ?_
    have e_22 : μ18.1 33 3 = S := ((F_19.1 33 (by decide) 3).trans hS.symm)
    refine xc_vV G (b := 33) (rest := []) (As := [.int (iv x2)]) (c_X9_drop ω l μ18 33 x2 S (by unfold isRow; decide) (by unfold ir; omega) hI_20 (by omega) (by omega)) (wm 6 89 rfl rfl) (wm 6 90 rfl rfl) (wm 6 91 rfl rfl) rfl rfl (by decide) rfl (wm 1 10 rfl rfl) (wm 6 92 rfl rfl) (by decide) hR (by decide) (n := 1) rfl rfl (Nat.le_of_ble_eq_true rfl) hl.1 dX4_jumpIfFails_37 (fun μ23 ρ d0 H locs hp G => ?_)
    obtain ⟨F_24, hI_25, hs_26⟩ := hp
    refine lv_aload_n hx hb dX4_jumpIfFails_40 rfl (lv_at hl 0 rfl) ?_
    refine lv_iload_n hx hb dX4_jumpIfFails_41 rfl (lv_at hl 1 rfl) ?_
    refine xa_puti G fd_X4 (a := 32) (x := x1) 12 (kz := 12) rfl rfl (by decide) rfl (by unfold ir; omega) (wm 2 156 rfl rfl) ⟨rfl, rfl, rfl, rfl⟩ rfl dX4_jumpIfFails_42 rfl (fun H locs G => ?_)
    have hI_27 : IC (sv μ23 32 12 x1) := (IC.put hI_25 (by decide +kernel))
    have e_28 : (sv μ23 32 12 x1).1 33 3 = max (S - x2) 0 := ((sv_n _ (fun h9 => absurd h9.1 (by decide))).trans hs_26)
    have e_29 : (sv μ23 32 12 x1).1 32 12 = x1 := (sv_s _ _ _ _)
    have e_30 : (sv μ23 32 12 x1).1 33 3 = max (S - x2) 0 := ((sv_n _ (fun h9 => absurd h9.1 (by decide))).trans hs_26)
    have e_31 : (sv μ23 32 12 x1).1 32 12 = x1 := (sv_s _ _ _ _)
    have e_32 : (sv μ23 32 12 x1).1 32 10 = μ.1 32 10 := ((sv_n _ (by decide)).trans ((F_24.1 32 (by decide) 10).trans (F_19.1 32 (by decide) 10)))
    have e_33 : (sv μ23 32 12 x1).1 32 11 = μ.1 32 11 := ((sv_n _ (by decide)).trans ((F_24.1 32 (by decide) 11).trans (F_19.1 32 (by decide) 11)))
    have e_34 : (sv μ23 32 12 x1).1 32 13 = μ.1 32 13 := ((sv_n _ (by decide)).trans ((F_24.1 32 (by decide) 13).trans (F_19.1 32 (by decide) 13)))
    have e_35 : (sv μ23 32 12 x1).1 32 14 = μ.1 32 14 := ((sv_n _ (by decide)).trans ((F_24.1 32 (by decide) 14).trans (F_19.1 32 (by decide) 14)))
    have e_36 : (sv μ23 32 12 x1).1 32 15 = μ.1 32 15 := ((sv_n _ (by decide)).trans ((F_24.1 32 (by decide) 15).trans (F_19.1 32 (by decide) 15)))
    have e_37 : (sv μ23 32 12 x1).1 32 16 = μ.1 32 16 := ((sv_n _ (by decide)).trans ((F_24.1 32 (by decide) 16).trans (F_19.1 32 (by decide) 16)))
    exact xr_v G hret hlk dX4_jumpIfFails_45 ⟨(Fr.put (Fr.tr (Fr.tr Fr.rf F_19 (by decide)) F_24 (by decide)) (by decide)), hI_27, (by omega), (by omega), (by omega), (by omega), (by omega), (by omega), (by omega)⟩

set_option maxHeartbeats 4000000 in
set_option maxRecDepth 100000 in
theorem c_X4_jumpIfWell (ω : Om) (l : Launch) (μ : M3) (x1 : Int) (S : Int) (hx1 : ir x1) (hI : IC μ) (hS : S = μ.1 33 3) : CtV ω l yX4_jumpIfWell cX4_jumpIfWell 2 4 146 [.ref (oP ω 32), .int (iv x1)] μ (fun (μ' : M3) => (Fr [32, 33, 34, 35, 36] μ μ') ∧ (IC μ') ∧ ((μ'.1 33 3 = max (S - 1) 0 ∧ μ'.1 32 12 = μ.1 32 12) ∨ (μ'.1 33 3 = S ∧ μ'.1 32 12 = x1)) ∧ (μ'.1 32 10 = μ.1 32 10) ∧ (μ'.1 32 11 = μ.1 32 11) ∧ (μ'.1 32 13 = μ.1 32 13) ∧ (μ'.1 32 14 = μ.1 32 14) ∧ (μ'.1 32 15 = μ.1 32 15) ∧ (μ'.1 32 16 = μ.1 32 16)) := by
  refine CtV.go (by decide) (Nat.le_of_ble_eq_true rfl) (fun ρ p e s m below meth c R ls G hR hret hlk hl => ?_)
  have hx := G.1.1
  have hb := G.1.2.1
  have hl : lv_has ls 2 [(0, .ref (oP ω 32)), (1, .int (iv x1))] := hl
  generalize s.drawn = d0 at G ⊢
  have hr_x1 : -2147483648 ≤ x1 ∧ x1 ≤ 2147483647 := hx1
  have hk_1 := hI.row (r := 33) (by unfold isRow; decide)
  unfold rk at hk_1
  simp only [Int.reduceAdd] at hk_1
  have hbr_33 : BR 33 = 240100 := rfl
  have hk_2 := hI.row (r := 37) (by unfold isRow; decide)
  unfold rk at hk_2
  simp only [Int.reduceAdd] at hk_2
  have hbr_37 : BR 37 = 20410 := rfl
  refine lv_aload_n hx hb dX4_jumpIfWell_0 rfl (lv_at hl 0 rfl) ?_
  refine xa_getr G fd_X4 (a := 32) (x := 33) 3 rfl (by decide) rfl (wm 2 147 rfl rfl) ⟨rfl, rfl, rfl⟩ dX4_jumpIfWell_1 rfl (G.sk 36 rfl) (by decide) rfl ?_
  refine xc_iV G (b := 33) (rest := []) (As := []) (c_X9_kindOfTop ω l μ 33 (by unfold isRow; decide) hI) (wm 6 83 rfl rfl) (wm 5 152 rfl rfl) (wm 5 153 rfl rfl) rfl rfl (by decide) rfl (wm 1 10 rfl rfl) (wm 5 154 rfl rfl) (by decide) hR (by decide) (n := 0) rfl rfl (Nat.le_of_ble_eq_true rfl) hl.1 dX4_jumpIfWell_4 (fun r_4 μ3 ρ d0 H locs hr_r_4 hp G => ?_)
  have hr_r_4 : -2147483648 ≤ r_4 ∧ r_4 ≤ 2147483647 := hr_r_4
  have hsm_5 := hp
  have hsm_5 := Eq.symm hsm_5
  subst hsm_5
  refine lv_iconst (v := iv 4) hx hb dX4_jumpIfWell_7 rfl ?_
  refine xb_icmp_ne (tgt := 22) hx hb (by unfold ir; omega) (by unfold ir; omega) dX4_jumpIfWell_8 (by decide) (fun c_8 => ?_) (fun c_8 => ?_)
  · refine lv_aload_n hx hb dX4_jumpIfWell_22 rfl (lv_at hl 0 rfl) ?_
    refine lv_iload_n hx hb dX4_jumpIfWell_23 rfl (lv_at hl 1 rfl) ?_
    refine xa_puti G fd_X4 (a := 32) (x := x1) 12 (kz := 12) rfl rfl (by decide) rfl (by unfold ir; omega) (wm 2 156 rfl rfl) ⟨rfl, rfl, rfl, rfl⟩ rfl dX4_jumpIfWell_24 rfl (fun H locs G => ?_)
    have hI_6 : IC (sv μ 32 12 x1) := (IC.put hI (by decide +kernel))
    have e_7 : (sv μ 32 12 x1).1 33 3 = S := ((sv_n _ (fun h9 => absurd h9.1 (by decide))).trans hS.symm)
    have e_8 : (sv μ 32 12 x1).1 32 12 = x1 := (sv_s _ _ _ _)
    have e_9 : (sv μ 32 12 x1).1 33 3 = S := ((sv_n _ (fun h9 => absurd h9.1 (by decide))).trans hS.symm)
    have e_10 : (sv μ 32 12 x1).1 32 12 = x1 := (sv_s _ _ _ _)
    have e_11 : (sv μ 32 12 x1).1 32 10 = μ.1 32 10 := (sv_n _ (by decide))
    have e_12 : (sv μ 32 12 x1).1 32 11 = μ.1 32 11 := (sv_n _ (by decide))
    have e_13 : (sv μ 32 12 x1).1 32 13 = μ.1 32 13 := (sv_n _ (by decide))
    have e_14 : (sv μ 32 12 x1).1 32 14 = μ.1 32 14 := (sv_n _ (by decide))
    have e_15 : (sv μ 32 12 x1).1 32 15 = μ.1 32 15 := (sv_n _ (by decide))
    have e_16 : (sv μ 32 12 x1).1 32 16 = μ.1 32 16 := (sv_n _ (by decide))
    exact xr_v G hret hlk dX4_jumpIfWell_27 ⟨(Fr.put Fr.rf (by decide)), hI_6, (by omega), (by omega), (by omega), (by omega), (by omega), (by omega), (by omega)⟩
  · refine lv_aload_n hx hb dX4_jumpIfWell_11 rfl (lv_at hl 0 rfl) ?_
    refine xa_getr G fd_X4 (a := 32) (x := 33) 3 rfl (by decide) rfl (wm 2 147 rfl rfl) ⟨rfl, rfl, rfl⟩ dX4_jumpIfWell_12 rfl (G.sk 36 rfl) (by decide) rfl ?_
    refine lv_iconst (v := iv 1) hx hb dX4_jumpIfWell_15 rfl ?_
    have e_17 : μ.1 33 3 = S := hS.symm
    refine xc_vV G (b := 33) (rest := []) (As := [.int (iv 1)]) (c_X9_drop ω l μ 33 1 S (by unfold isRow; decide) (by unfold ir; omega) hI (by omega) (by omega)) (wm 6 89 rfl rfl) (wm 6 90 rfl rfl) (wm 6 91 rfl rfl) rfl rfl (by decide) rfl (wm 1 10 rfl rfl) (wm 6 92 rfl rfl) (by decide) hR (by decide) (n := 1) rfl rfl (Nat.le_of_ble_eq_true rfl) hl.1 dX4_jumpIfWell_16 (fun μ18 ρ d0 H locs hp G => ?_)
    obtain ⟨F_19, hI_20, hs_21⟩ := hp
    refine lv_goto (tgt := 27) hx hb dX4_jumpIfWell_19 (by decide) ?_
    have e_22 : μ18.1 33 3 = max (S - 1) 0 := hs_21
    have e_23 : μ18.1 32 12 = μ.1 32 12 := (F_19.1 32 (by decide) 12)
    have e_24 : μ18.1 33 3 = max (S - 1) 0 := hs_21
    have e_25 : μ18.1 32 12 = μ.1 32 12 := (F_19.1 32 (by decide) 12)
    have e_26 : μ18.1 32 10 = μ.1 32 10 := (F_19.1 32 (by decide) 10)
    have e_27 : μ18.1 32 11 = μ.1 32 11 := (F_19.1 32 (by decide) 11)
    have e_28 : μ18.1 32 13 = μ.1 32 13 := (F_19.1 32 (by decide) 13)
    have e_29 : μ18.1 32 14 = μ.1 32 14 := (F_19.1 32 (by decide) 14)
    have e_30 : μ18.1 32 15 = μ.1 32 15 := (F_19.1 32 (by decide) 15)
    have e_31 : μ18.1 32 16 = μ.1 32 16 := (F_19.1 32 (by decide) 16)
    exact xr_v G hret hlk dX4_jumpIfWell_27 ⟨(Fr.tr Fr.rf F_19 (by decide)), hI_20, (by omega), (by omega), (by omega), (by omega), (by omega), (by omega), (by omega)⟩
