abbrev cX4_failWithCode : ByteArray := prog_6_method_22_code
def yX4_failWithCode : MethodName := ⟨RX4, "failWithCode", "()V"⟩
abbrev cX4_exitTo : ByteArray := prog_6_method_23_code
def yX4_exitTo : MethodName := ⟨RX4, "exitTo", "(I)V"⟩
abbrev cX4_replaceParts : ByteArray := prog_6_method_42_code
def yX4_replaceParts : MethodName := ⟨RX4, "replaceParts", "(II)V"⟩
abbrev cX4_areSame : ByteArray := prog_6_method_43_code
def yX4_areSame : MethodName := ⟨RX4, "areSame", "(II)Z"⟩
abbrev cX4_isTrue : ByteArray := prog_6_method_44_code
def yX4_isTrue : MethodName := ⟨RX4, "isTrue", "(II)Z"⟩
abbrev cX4_reckonWholes : ByteArray := prog_6_method_45_code
def yX4_reckonWholes : MethodName := ⟨RX4, "reckonWholes", "(II)I"⟩
abbrev cX4_reckonReals : ByteArray := prog_6_method_46_code
def yX4_reckonReals : MethodName := ⟨RX4, "reckonReals", "(II)I"⟩
abbrev cX4_negate : ByteArray := prog_6_method_47_code
def yX4_negate : MethodName := ⟨RX4, "negate", "()V"⟩
abbrev cX4_smallWhole : ByteArray := prog_6_method_48_code
def yX4_smallWhole : MethodName := ⟨RX4, "smallWhole", "(I)I"⟩
abbrev cX4_lengthAt : ByteArray := prog_6_method_50_code
def yX4_lengthAt : MethodName := ⟨RX4, "lengthAt", "(J)I"⟩
abbrev cX4_tongueOfArray : ByteArray := prog_6_method_51_code
def yX4_tongueOfArray : MethodName := ⟨RX4, "tongueOfArray", "(I)I"⟩
theorem dX4_failWithCode_0 : decode cX4_failWithCode 0 = .ok (.aload_n 0, 1) := by decide +kernel
theorem dX4_failWithCode_1 : decode cX4_failWithCode 1 = .ok (.getfield 14, 3) := by decide +kernel
theorem dX4_failWithCode_4 : decode cX4_failWithCode 4 = .ok (.invokevirtual 265, 3) := by decide +kernel
theorem dX4_failWithCode_7 : decode cX4_failWithCode 7 = .ok (.iconst 1, 1) := by decide +kernel
theorem dX4_failWithCode_8 : decode cX4_failWithCode 8 = .ok (.if_icmp .eq 10, 3) := by decide +kernel
theorem dX4_failWithCode_11 : decode cX4_failWithCode 11 = .ok (.aload_n 0, 1) := by decide +kernel
theorem dX4_failWithCode_12 : decode cX4_failWithCode 12 = .ok (.iconst 4, 1) := by decide +kernel
theorem dX4_failWithCode_13 : decode cX4_failWithCode 13 = .ok (.iconst 1, 1) := by decide +kernel
theorem dX4_failWithCode_14 : decode cX4_failWithCode 14 = .ok (.invokevirtual 287, 3) := by decide +kernel
theorem dX4_failWithCode_17 : decode cX4_failWithCode 17 = .ok (.return_, 1) := by decide +kernel
theorem dX4_failWithCode_18 : decode cX4_failWithCode 18 = .ok (.aload_n 0, 1) := by decide +kernel
theorem dX4_failWithCode_19 : decode cX4_failWithCode 19 = .ok (.getfield 14, 3) := by decide +kernel
theorem dX4_failWithCode_22 : decode cX4_failWithCode 22 = .ok (.aload_n 0, 1) := by decide +kernel
theorem dX4_failWithCode_23 : decode cX4_failWithCode 23 = .ok (.invokevirtual 255, 3) := by decide +kernel
theorem dX4_failWithCode_26 : decode cX4_failWithCode 26 = .ok (.invokevirtual 101, 3) := by decide +kernel
theorem dX4_failWithCode_29 : decode cX4_failWithCode 29 = .ok (.l2i, 1) := by decide +kernel
theorem dX4_failWithCode_30 : decode cX4_failWithCode 30 = .ok (.istore_n 1, 1) := by decide +kernel
theorem dX4_failWithCode_31 : decode cX4_failWithCode 31 = .ok (.iload_n 1, 1) := by decide +kernel
theorem dX4_failWithCode_32 : decode cX4_failWithCode 32 = .ok (.ifCond .ne 14, 3) := by decide +kernel
theorem dX4_failWithCode_35 : decode cX4_failWithCode 35 = .ok (.aload_n 0, 1) := by decide +kernel
theorem dX4_failWithCode_36 : decode cX4_failWithCode 36 = .ok (.getfield 14, 3) := by decide +kernel
theorem dX4_failWithCode_39 : decode cX4_failWithCode 39 = .ok (.iconst 1, 1) := by decide +kernel
theorem dX4_failWithCode_40 : decode cX4_failWithCode 40 = .ok (.invokevirtual 262, 3) := by decide +kernel
theorem dX4_failWithCode_43 : decode cX4_failWithCode 43 = .ok (.goto 9, 3) := by decide +kernel
theorem dX4_failWithCode_46 : decode cX4_failWithCode 46 = .ok (.aload_n 0, 1) := by decide +kernel
theorem dX4_failWithCode_47 : decode cX4_failWithCode 47 = .ok (.iload_n 1, 1) := by decide +kernel
theorem dX4_failWithCode_48 : decode cX4_failWithCode 48 = .ok (.iconst 1, 1) := by decide +kernel
theorem dX4_failWithCode_49 : decode cX4_failWithCode 49 = .ok (.invokevirtual 287, 3) := by decide +kernel
theorem dX4_failWithCode_52 : decode cX4_failWithCode 52 = .ok (.return_, 1) := by decide +kernel
theorem dX4_exitTo_0 : decode cX4_exitTo 0 = .ok (.aload_n 0, 1) := by decide +kernel
theorem dX4_exitTo_1 : decode cX4_exitTo 1 = .ok (.getfield 43, 3) := by decide +kernel
theorem dX4_exitTo_4 : decode cX4_exitTo 4 = .ok (.iload_n 1, 1) := by decide +kernel
theorem dX4_exitTo_5 : decode cX4_exitTo 5 = .ok (.aload_n 0, 1) := by decide +kernel
theorem dX4_exitTo_6 : decode cX4_exitTo 6 = .ok (.getfield 36, 3) := by decide +kernel
theorem dX4_exitTo_9 : decode cX4_exitTo 9 = .ok (.invokevirtual 290, 3) := by decide +kernel
theorem dX4_exitTo_12 : decode cX4_exitTo 12 = .ok (.invokevirtual 293, 3) := by decide +kernel
theorem dX4_exitTo_15 : decode cX4_exitTo 15 = .ok (.ifCond .eq 11, 3) := by decide +kernel
theorem dX4_exitTo_18 : decode cX4_exitTo 18 = .ok (.aload_n 0, 1) := by decide +kernel
theorem dX4_exitTo_19 : decode cX4_exitTo 19 = .ok (.iload_n 1, 1) := by decide +kernel
theorem dX4_exitTo_20 : decode cX4_exitTo 20 = .ok (.invokevirtual 223, 3) := by decide +kernel
theorem dX4_exitTo_23 : decode cX4_exitTo 23 = .ok (.goto 10, 3) := by decide +kernel
theorem dX4_exitTo_26 : decode cX4_exitTo 26 = .ok (.aload_n 0, 1) := by decide +kernel
theorem dX4_exitTo_27 : decode cX4_exitTo 27 = .ok (.bipush 8, 2) := by decide +kernel
theorem dX4_exitTo_29 : decode cX4_exitTo 29 = .ok (.iconst 1, 1) := by decide +kernel
theorem dX4_exitTo_30 : decode cX4_exitTo 30 = .ok (.invokevirtual 287, 3) := by decide +kernel
theorem dX4_exitTo_33 : decode cX4_exitTo 33 = .ok (.return_, 1) := by decide +kernel
theorem dX4_replaceParts_0 : decode cX4_replaceParts 0 = .ok (.aload_n 0, 1) := by decide +kernel
theorem dX4_replaceParts_1 : decode cX4_replaceParts 1 = .ok (.getfield 14, 3) := by decide +kernel
theorem dX4_replaceParts_4 : decode cX4_replaceParts 4 = .ok (.iload_n 1, 1) := by decide +kernel
theorem dX4_replaceParts_5 : decode cX4_replaceParts 5 = .ok (.invokevirtual 262, 3) := by decide +kernel
theorem dX4_replaceParts_8 : decode cX4_replaceParts 8 = .ok (.aload_n 0, 1) := by decide +kernel
theorem dX4_replaceParts_9 : decode cX4_replaceParts 9 = .ok (.aload_n 0, 1) := by decide +kernel
theorem dX4_replaceParts_10 : decode cX4_replaceParts 10 = .ok (.getfield 36, 3) := by decide +kernel
theorem dX4_replaceParts_13 : decode cX4_replaceParts 13 = .ok (.invokevirtual 268, 3) := by decide +kernel
theorem dX4_replaceParts_16 : decode cX4_replaceParts 16 = .ok (.iload_n 2, 1) := by decide +kernel
theorem dX4_replaceParts_17 : decode cX4_replaceParts 17 = .ok (.i2l, 1) := by decide +kernel
theorem dX4_replaceParts_18 : decode cX4_replaceParts 18 = .ok (.invokevirtual 122, 3) := by decide +kernel
theorem dX4_replaceParts_21 : decode cX4_replaceParts 21 = .ok (.return_, 1) := by decide +kernel
theorem dX4_areSame_0 : decode cX4_areSame 0 = .ok (.aload_n 0, 1) := by decide +kernel
theorem dX4_areSame_1 : decode cX4_areSame 1 = .ok (.getfield 14, 3) := by decide +kernel
theorem dX4_areSame_4 : decode cX4_areSame 4 = .ok (.iload_n 1, 1) := by decide +kernel
theorem dX4_areSame_5 : decode cX4_areSame 5 = .ok (.invokevirtual 87, 3) := by decide +kernel
theorem dX4_areSame_8 : decode cX4_areSame 8 = .ok (.aload_n 0, 1) := by decide +kernel
theorem dX4_areSame_9 : decode cX4_areSame 9 = .ok (.getfield 14, 3) := by decide +kernel
theorem dX4_areSame_12 : decode cX4_areSame 12 = .ok (.iload_n 2, 1) := by decide +kernel
theorem dX4_areSame_13 : decode cX4_areSame 13 = .ok (.invokevirtual 87, 3) := by decide +kernel
theorem dX4_areSame_16 : decode cX4_areSame 16 = .ok (.if_icmp .ne 47, 3) := by decide +kernel
theorem dX4_areSame_19 : decode cX4_areSame 19 = .ok (.aload_n 0, 1) := by decide +kernel
theorem dX4_areSame_20 : decode cX4_areSame 20 = .ok (.getfield 14, 3) := by decide +kernel
theorem dX4_areSame_23 : decode cX4_areSame 23 = .ok (.iload_n 1, 1) := by decide +kernel
theorem dX4_areSame_24 : decode cX4_areSame 24 = .ok (.invokevirtual 101, 3) := by decide +kernel
theorem dX4_areSame_27 : decode cX4_areSame 27 = .ok (.aload_n 0, 1) := by decide +kernel
theorem dX4_areSame_28 : decode cX4_areSame 28 = .ok (.getfield 14, 3) := by decide +kernel
theorem dX4_areSame_31 : decode cX4_areSame 31 = .ok (.iload_n 2, 1) := by decide +kernel
theorem dX4_areSame_32 : decode cX4_areSame 32 = .ok (.invokevirtual 101, 3) := by decide +kernel
theorem dX4_areSame_35 : decode cX4_areSame 35 = .ok (.lcmp, 1) := by decide +kernel
theorem dX4_areSame_36 : decode cX4_areSame 36 = .ok (.ifCond .ne 27, 3) := by decide +kernel
theorem dX4_areSame_39 : decode cX4_areSame 39 = .ok (.aload_n 0, 1) := by decide +kernel
theorem dX4_areSame_40 : decode cX4_areSame 40 = .ok (.getfield 14, 3) := by decide +kernel
theorem dX4_areSame_43 : decode cX4_areSame 43 = .ok (.iload_n 1, 1) := by decide +kernel
theorem dX4_areSame_44 : decode cX4_areSame 44 = .ok (.invokevirtual 91, 3) := by decide +kernel
theorem dX4_areSame_47 : decode cX4_areSame 47 = .ok (.aload_n 0, 1) := by decide +kernel
theorem dX4_areSame_48 : decode cX4_areSame 48 = .ok (.getfield 14, 3) := by decide +kernel
theorem dX4_areSame_51 : decode cX4_areSame 51 = .ok (.iload_n 2, 1) := by decide +kernel
theorem dX4_areSame_52 : decode cX4_areSame 52 = .ok (.invokevirtual 91, 3) := by decide +kernel
theorem dX4_areSame_55 : decode cX4_areSame 55 = .ok (.dcmp .l, 1) := by decide +kernel
theorem dX4_areSame_56 : decode cX4_areSame 56 = .ok (.ifCond .ne 7, 3) := by decide +kernel
theorem dX4_areSame_59 : decode cX4_areSame 59 = .ok (.iconst 1, 1) := by decide +kernel
theorem dX4_areSame_60 : decode cX4_areSame 60 = .ok (.goto 4, 3) := by decide +kernel
theorem dX4_areSame_63 : decode cX4_areSame 63 = .ok (.iconst 0, 1) := by decide +kernel
theorem dX4_areSame_64 : decode cX4_areSame 64 = .ok (.ireturn, 1) := by decide +kernel
theorem dX4_isTrue_0 : decode cX4_isTrue 0 = .ok (.aload_n 0, 1) := by decide +kernel
theorem dX4_isTrue_1 : decode cX4_isTrue 1 = .ok (.getfield 36, 3) := by decide +kernel
theorem dX4_isTrue_4 : decode cX4_isTrue 4 = .ok (.invokevirtual 268, 3) := by decide +kernel
theorem dX4_isTrue_7 : decode cX4_isTrue 7 = .ok (.iconst 3, 1) := by decide +kernel
theorem dX4_isTrue_8 : decode cX4_isTrue 8 = .ok (.if_icmp .ne 26, 3) := by decide +kernel
theorem dX4_isTrue_11 : decode cX4_isTrue 11 = .ok (.iload_n 1, 1) := by decide +kernel
theorem dX4_isTrue_12 : decode cX4_isTrue 12 = .ok (.aload_n 0, 1) := by decide +kernel
theorem dX4_isTrue_13 : decode cX4_isTrue 13 = .ok (.getfield 14, 3) := by decide +kernel
theorem dX4_isTrue_16 : decode cX4_isTrue 16 = .ok (.iload_n 2, 1) := by decide +kernel
theorem dX4_isTrue_17 : decode cX4_isTrue 17 = .ok (.invokevirtual 91, 3) := by decide +kernel
theorem dX4_isTrue_20 : decode cX4_isTrue 20 = .ok (.aload_n 0, 1) := by decide +kernel
theorem dX4_isTrue_21 : decode cX4_isTrue 21 = .ok (.getfield 14, 3) := by decide +kernel
theorem dX4_isTrue_24 : decode cX4_isTrue 24 = .ok (.iload_n 2, 1) := by decide +kernel
theorem dX4_isTrue_25 : decode cX4_isTrue 25 = .ok (.iconst 1, 1) := by decide +kernel
theorem dX4_isTrue_26 : decode cX4_isTrue 26 = .ok (.iadd, 1) := by decide +kernel
theorem dX4_isTrue_27 : decode cX4_isTrue 27 = .ok (.invokevirtual 91, 3) := by decide +kernel
theorem dX4_isTrue_30 : decode cX4_isTrue 30 = .ok (.invokestatic 413, 3) := by decide +kernel
theorem dX4_isTrue_33 : decode cX4_isTrue 33 = .ok (.ireturn, 1) := by decide +kernel
theorem dX4_isTrue_34 : decode cX4_isTrue 34 = .ok (.iload_n 1, 1) := by decide +kernel
theorem dX4_isTrue_35 : decode cX4_isTrue 35 = .ok (.aload_n 0, 1) := by decide +kernel
theorem dX4_isTrue_36 : decode cX4_isTrue 36 = .ok (.getfield 14, 3) := by decide +kernel
theorem dX4_isTrue_39 : decode cX4_isTrue 39 = .ok (.iload_n 2, 1) := by decide +kernel
theorem dX4_isTrue_40 : decode cX4_isTrue 40 = .ok (.invokevirtual 101, 3) := by decide +kernel
theorem dX4_isTrue_43 : decode cX4_isTrue 43 = .ok (.aload_n 0, 1) := by decide +kernel
theorem dX4_isTrue_44 : decode cX4_isTrue 44 = .ok (.getfield 14, 3) := by decide +kernel
theorem dX4_isTrue_47 : decode cX4_isTrue 47 = .ok (.iload_n 2, 1) := by decide +kernel
theorem dX4_isTrue_48 : decode cX4_isTrue 48 = .ok (.iconst 1, 1) := by decide +kernel
theorem dX4_isTrue_49 : decode cX4_isTrue 49 = .ok (.iadd, 1) := by decide +kernel
theorem dX4_isTrue_50 : decode cX4_isTrue 50 = .ok (.invokevirtual 101, 3) := by decide +kernel
theorem dX4_isTrue_53 : decode cX4_isTrue 53 = .ok (.invokestatic 417, 3) := by decide +kernel
theorem dX4_isTrue_56 : decode cX4_isTrue 56 = .ok (.ireturn, 1) := by decide +kernel
theorem dX4_reckonWholes_0 : decode cX4_reckonWholes 0 = .ok (.aload_n 0, 1) := by decide +kernel
theorem dX4_reckonWholes_1 : decode cX4_reckonWholes 1 = .ok (.getfield 14, 3) := by decide +kernel
theorem dX4_reckonWholes_4 : decode cX4_reckonWholes 4 = .ok (.iload_n 2, 1) := by decide +kernel
theorem dX4_reckonWholes_5 : decode cX4_reckonWholes 5 = .ok (.invokevirtual 101, 3) := by decide +kernel
theorem dX4_reckonWholes_8 : decode cX4_reckonWholes 8 = .ok (.lstore_n 3, 1) := by decide +kernel
theorem dX4_reckonWholes_9 : decode cX4_reckonWholes 9 = .ok (.aload_n 0, 1) := by decide +kernel
theorem dX4_reckonWholes_10 : decode cX4_reckonWholes 10 = .ok (.getfield 14, 3) := by decide +kernel
theorem dX4_reckonWholes_13 : decode cX4_reckonWholes 13 = .ok (.iload_n 2, 1) := by decide +kernel
theorem dX4_reckonWholes_14 : decode cX4_reckonWholes 14 = .ok (.iconst 1, 1) := by decide +kernel
theorem dX4_reckonWholes_15 : decode cX4_reckonWholes 15 = .ok (.iadd, 1) := by decide +kernel
theorem dX4_reckonWholes_16 : decode cX4_reckonWholes 16 = .ok (.invokevirtual 101, 3) := by decide +kernel
theorem dX4_reckonWholes_19 : decode cX4_reckonWholes 19 = .ok (.lstore 5, 2) := by decide +kernel
theorem dX4_reckonWholes_21 : decode cX4_reckonWholes 21 = .ok (.lload 5, 2) := by decide +kernel
theorem dX4_reckonWholes_23 : decode cX4_reckonWholes 23 = .ok (.lconst 0, 1) := by decide +kernel
theorem dX4_reckonWholes_24 : decode cX4_reckonWholes 24 = .ok (.lcmp, 1) := by decide +kernel
theorem dX4_reckonWholes_25 : decode cX4_reckonWholes 25 = .ok (.ifCond .ne 17, 3) := by decide +kernel
theorem dX4_reckonWholes_28 : decode cX4_reckonWholes 28 = .ok (.iload_n 1, 1) := by decide +kernel
theorem dX4_reckonWholes_29 : decode cX4_reckonWholes 29 = .ok (.bipush 47, 2) := by decide +kernel
theorem dX4_reckonWholes_31 : decode cX4_reckonWholes 31 = .ok (.if_icmp .eq 9, 3) := by decide +kernel
theorem dX4_reckonWholes_34 : decode cX4_reckonWholes 34 = .ok (.iload_n 1, 1) := by decide +kernel
theorem dX4_reckonWholes_35 : decode cX4_reckonWholes 35 = .ok (.bipush 37, 2) := by decide +kernel
theorem dX4_reckonWholes_37 : decode cX4_reckonWholes 37 = .ok (.if_icmp .ne 5, 3) := by decide +kernel
theorem dX4_reckonWholes_40 : decode cX4_reckonWholes 40 = .ok (.iconst 1, 1) := by decide +kernel
theorem dX4_reckonWholes_41 : decode cX4_reckonWholes 41 = .ok (.ireturn, 1) := by decide +kernel
theorem dX4_reckonWholes_42 : decode cX4_reckonWholes 42 = .ok (.aload_n 0, 1) := by decide +kernel
theorem dX4_reckonWholes_43 : decode cX4_reckonWholes 43 = .ok (.getfield 36, 3) := by decide +kernel
theorem dX4_reckonWholes_46 : decode cX4_reckonWholes 46 = .ok (.invokevirtual 268, 3) := by decide +kernel
theorem dX4_reckonWholes_49 : decode cX4_reckonWholes 49 = .ok (.iload_n 1, 1) := by decide +kernel
theorem dX4_reckonWholes_50 : decode cX4_reckonWholes 50 = .ok (.lload_n 3, 1) := by decide +kernel
theorem dX4_reckonWholes_51 : decode cX4_reckonWholes 51 = .ok (.lload 5, 2) := by decide +kernel
theorem dX4_reckonWholes_53 : decode cX4_reckonWholes 53 = .ok (.invokestatic 421, 3) := by decide +kernel
theorem dX4_reckonWholes_56 : decode cX4_reckonWholes 56 = .ok (.ifCond .eq 6, 3) := by decide +kernel
theorem dX4_reckonWholes_59 : decode cX4_reckonWholes 59 = .ok (.bipush 7, 2) := by decide +kernel
theorem dX4_reckonWholes_61 : decode cX4_reckonWholes 61 = .ok (.ireturn, 1) := by decide +kernel
theorem dX4_reckonWholes_62 : decode cX4_reckonWholes 62 = .ok (.aload_n 0, 1) := by decide +kernel
theorem dX4_reckonWholes_63 : decode cX4_reckonWholes 63 = .ok (.getfield 14, 3) := by decide +kernel
theorem dX4_reckonWholes_66 : decode cX4_reckonWholes 66 = .ok (.iload_n 2, 1) := by decide +kernel
theorem dX4_reckonWholes_67 : decode cX4_reckonWholes 67 = .ok (.iconst 1, 1) := by decide +kernel
theorem dX4_reckonWholes_68 : decode cX4_reckonWholes 68 = .ok (.iload_n 1, 1) := by decide +kernel
theorem dX4_reckonWholes_69 : decode cX4_reckonWholes 69 = .ok (.lload_n 3, 1) := by decide +kernel
theorem dX4_reckonWholes_70 : decode cX4_reckonWholes 70 = .ok (.lload 5, 2) := by decide +kernel
theorem dX4_reckonWholes_72 : decode cX4_reckonWholes 72 = .ok (.invokestatic 425, 3) := by decide +kernel
theorem dX4_reckonWholes_75 : decode cX4_reckonWholes 75 = .ok (.dconst 0, 1) := by decide +kernel
theorem dX4_reckonWholes_76 : decode cX4_reckonWholes 76 = .ok (.invokevirtual 365, 3) := by decide +kernel
theorem dX4_reckonWholes_79 : decode cX4_reckonWholes 79 = .ok (.iconst 0, 1) := by decide +kernel
theorem dX4_reckonWholes_80 : decode cX4_reckonWholes 80 = .ok (.ireturn, 1) := by decide +kernel
theorem dX4_reckonReals_0 : decode cX4_reckonReals 0 = .ok (.aload_n 0, 1) := by decide +kernel
theorem dX4_reckonReals_1 : decode cX4_reckonReals 1 = .ok (.getfield 14, 3) := by decide +kernel
theorem dX4_reckonReals_4 : decode cX4_reckonReals 4 = .ok (.iload_n 2, 1) := by decide +kernel
theorem dX4_reckonReals_5 : decode cX4_reckonReals 5 = .ok (.iconst 1, 1) := by decide +kernel
theorem dX4_reckonReals_6 : decode cX4_reckonReals 6 = .ok (.iadd, 1) := by decide +kernel
theorem dX4_reckonReals_7 : decode cX4_reckonReals 7 = .ok (.invokevirtual 91, 3) := by decide +kernel
theorem dX4_reckonReals_10 : decode cX4_reckonReals 10 = .ok (.dstore_n 3, 1) := by decide +kernel
theorem dX4_reckonReals_11 : decode cX4_reckonReals 11 = .ok (.dload_n 3, 1) := by decide +kernel
theorem dX4_reckonReals_12 : decode cX4_reckonReals 12 = .ok (.dconst 0, 1) := by decide +kernel
theorem dX4_reckonReals_13 : decode cX4_reckonReals 13 = .ok (.dcmp .l, 1) := by decide +kernel
theorem dX4_reckonReals_14 : decode cX4_reckonReals 14 = .ok (.ifCond .ne 17, 3) := by decide +kernel
theorem dX4_reckonReals_17 : decode cX4_reckonReals 17 = .ok (.iload_n 1, 1) := by decide +kernel
theorem dX4_reckonReals_18 : decode cX4_reckonReals 18 = .ok (.bipush 47, 2) := by decide +kernel
theorem dX4_reckonReals_20 : decode cX4_reckonReals 20 = .ok (.if_icmp .eq 9, 3) := by decide +kernel
theorem dX4_reckonReals_23 : decode cX4_reckonReals 23 = .ok (.iload_n 1, 1) := by decide +kernel
theorem dX4_reckonReals_24 : decode cX4_reckonReals 24 = .ok (.bipush 37, 2) := by decide +kernel
theorem dX4_reckonReals_26 : decode cX4_reckonReals 26 = .ok (.if_icmp .ne 5, 3) := by decide +kernel
theorem dX4_reckonReals_29 : decode cX4_reckonReals 29 = .ok (.iconst 1, 1) := by decide +kernel
theorem dX4_reckonReals_30 : decode cX4_reckonReals 30 = .ok (.ireturn, 1) := by decide +kernel
theorem dX4_reckonReals_31 : decode cX4_reckonReals 31 = .ok (.iload_n 1, 1) := by decide +kernel
theorem dX4_reckonReals_32 : decode cX4_reckonReals 32 = .ok (.aload_n 0, 1) := by decide +kernel
theorem dX4_reckonReals_33 : decode cX4_reckonReals 33 = .ok (.getfield 14, 3) := by decide +kernel
theorem dX4_reckonReals_36 : decode cX4_reckonReals 36 = .ok (.iload_n 2, 1) := by decide +kernel
theorem dX4_reckonReals_37 : decode cX4_reckonReals 37 = .ok (.invokevirtual 91, 3) := by decide +kernel
theorem dX4_reckonReals_40 : decode cX4_reckonReals 40 = .ok (.dload_n 3, 1) := by decide +kernel
theorem dX4_reckonReals_41 : decode cX4_reckonReals 41 = .ok (.invokestatic 429, 3) := by decide +kernel
theorem dX4_reckonReals_44 : decode cX4_reckonReals 44 = .ok (.dstore 5, 2) := by decide +kernel
theorem dX4_reckonReals_46 : decode cX4_reckonReals 46 = .ok (.dload 5, 2) := by decide +kernel
theorem dX4_reckonReals_48 : decode cX4_reckonReals 48 = .ok (.invokestatic 433, 3) := by decide +kernel
theorem dX4_reckonReals_51 : decode cX4_reckonReals 51 = .ok (.ifCond .ne 6, 3) := by decide +kernel
theorem dX4_reckonReals_54 : decode cX4_reckonReals 54 = .ok (.bipush 7, 2) := by decide +kernel
theorem dX4_reckonReals_56 : decode cX4_reckonReals 56 = .ok (.ireturn, 1) := by decide +kernel
theorem dX4_reckonReals_57 : decode cX4_reckonReals 57 = .ok (.aload_n 0, 1) := by decide +kernel
theorem dX4_reckonReals_58 : decode cX4_reckonReals 58 = .ok (.getfield 14, 3) := by decide +kernel
theorem dX4_reckonReals_61 : decode cX4_reckonReals 61 = .ok (.iload_n 2, 1) := by decide +kernel
theorem dX4_reckonReals_62 : decode cX4_reckonReals 62 = .ok (.iconst 1, 1) := by decide +kernel
theorem dX4_reckonReals_63 : decode cX4_reckonReals 63 = .ok (.lconst 0, 1) := by decide +kernel
theorem dX4_reckonReals_64 : decode cX4_reckonReals 64 = .ok (.dload 5, 2) := by decide +kernel
theorem dX4_reckonReals_66 : decode cX4_reckonReals 66 = .ok (.invokevirtual 365, 3) := by decide +kernel
theorem dX4_reckonReals_69 : decode cX4_reckonReals 69 = .ok (.iconst 0, 1) := by decide +kernel
theorem dX4_reckonReals_70 : decode cX4_reckonReals 70 = .ok (.ireturn, 1) := by decide +kernel
theorem dX4_negate_0 : decode cX4_negate 0 = .ok (.aload_n 0, 1) := by decide +kernel
theorem dX4_negate_1 : decode cX4_negate 1 = .ok (.invokevirtual 171, 3) := by decide +kernel
theorem dX4_negate_4 : decode cX4_negate 4 = .ok (.ifCond .ne 4, 3) := by decide +kernel
theorem dX4_negate_7 : decode cX4_negate 7 = .ok (.return_, 1) := by decide +kernel
theorem dX4_negate_8 : decode cX4_negate 8 = .ok (.aload_n 0, 1) := by decide +kernel
theorem dX4_negate_9 : decode cX4_negate 9 = .ok (.getfield 14, 3) := by decide +kernel
theorem dX4_negate_12 : decode cX4_negate 12 = .ok (.invokevirtual 265, 3) := by decide +kernel
theorem dX4_negate_15 : decode cX4_negate 15 = .ok (.iconst 1, 1) := by decide +kernel
theorem dX4_negate_16 : decode cX4_negate 16 = .ok (.if_icmp .eq 10, 3) := by decide +kernel
theorem dX4_negate_19 : decode cX4_negate 19 = .ok (.aload_n 0, 1) := by decide +kernel
theorem dX4_negate_20 : decode cX4_negate 20 = .ok (.iconst 4, 1) := by decide +kernel
theorem dX4_negate_21 : decode cX4_negate 21 = .ok (.iconst 1, 1) := by decide +kernel
theorem dX4_negate_22 : decode cX4_negate 22 = .ok (.invokevirtual 287, 3) := by decide +kernel
theorem dX4_negate_25 : decode cX4_negate 25 = .ok (.return_, 1) := by decide +kernel
theorem dX4_negate_26 : decode cX4_negate 26 = .ok (.aload_n 0, 1) := by decide +kernel
theorem dX4_negate_27 : decode cX4_negate 27 = .ok (.getfield 14, 3) := by decide +kernel
theorem dX4_negate_30 : decode cX4_negate 30 = .ok (.aload_n 0, 1) := by decide +kernel
theorem dX4_negate_31 : decode cX4_negate 31 = .ok (.invokevirtual 255, 3) := by decide +kernel
theorem dX4_negate_34 : decode cX4_negate 34 = .ok (.invokevirtual 101, 3) := by decide +kernel
theorem dX4_negate_37 : decode cX4_negate 37 = .ok (.lstore_n 1, 1) := by decide +kernel
theorem dX4_negate_38 : decode cX4_negate 38 = .ok (.aload_n 0, 1) := by decide +kernel
theorem dX4_negate_39 : decode cX4_negate 39 = .ok (.getfield 36, 3) := by decide +kernel
theorem dX4_negate_42 : decode cX4_negate 42 = .ok (.invokevirtual 268, 3) := by decide +kernel
theorem dX4_negate_45 : decode cX4_negate 45 = .ok (.iconst 3, 1) := by decide +kernel
theorem dX4_negate_46 : decode cX4_negate 46 = .ok (.if_icmp .ne 31, 3) := by decide +kernel
theorem dX4_negate_49 : decode cX4_negate 49 = .ok (.aload_n 0, 1) := by decide +kernel
theorem dX4_negate_50 : decode cX4_negate 50 = .ok (.getfield 14, 3) := by decide +kernel
theorem dX4_negate_53 : decode cX4_negate 53 = .ok (.aload_n 0, 1) := by decide +kernel
theorem dX4_negate_54 : decode cX4_negate 54 = .ok (.invokevirtual 255, 3) := by decide +kernel
theorem dX4_negate_57 : decode cX4_negate 57 = .ok (.iconst 1, 1) := by decide +kernel
theorem dX4_negate_58 : decode cX4_negate 58 = .ok (.lconst 0, 1) := by decide +kernel
theorem dX4_negate_59 : decode cX4_negate 59 = .ok (.aload_n 0, 1) := by decide +kernel
theorem dX4_negate_60 : decode cX4_negate 60 = .ok (.getfield 14, 3) := by decide +kernel
theorem dX4_negate_63 : decode cX4_negate 63 = .ok (.aload_n 0, 1) := by decide +kernel
theorem dX4_negate_64 : decode cX4_negate 64 = .ok (.invokevirtual 255, 3) := by decide +kernel
theorem dX4_negate_67 : decode cX4_negate 67 = .ok (.invokevirtual 91, 3) := by decide +kernel
theorem dX4_negate_70 : decode cX4_negate 70 = .ok (.dneg, 1) := by decide +kernel
theorem dX4_negate_71 : decode cX4_negate 71 = .ok (.invokevirtual 365, 3) := by decide +kernel
theorem dX4_negate_74 : decode cX4_negate 74 = .ok (.goto 45, 3) := by decide +kernel
theorem dX4_negate_77 : decode cX4_negate 77 = .ok (.aload_n 0, 1) := by decide +kernel
theorem dX4_negate_78 : decode cX4_negate 78 = .ok (.getfield 36, 3) := by decide +kernel
theorem dX4_negate_81 : decode cX4_negate 81 = .ok (.invokevirtual 268, 3) := by decide +kernel
theorem dX4_negate_84 : decode cX4_negate 84 = .ok (.bipush 45, 2) := by decide +kernel
theorem dX4_negate_86 : decode cX4_negate 86 = .ok (.lconst 0, 1) := by decide +kernel
theorem dX4_negate_87 : decode cX4_negate 87 = .ok (.lload_n 1, 1) := by decide +kernel
theorem dX4_negate_88 : decode cX4_negate 88 = .ok (.invokestatic 421, 3) := by decide +kernel
theorem dX4_negate_91 : decode cX4_negate 91 = .ok (.ifCond .eq 13, 3) := by decide +kernel
theorem dX4_negate_94 : decode cX4_negate 94 = .ok (.aload_n 0, 1) := by decide +kernel
theorem dX4_negate_95 : decode cX4_negate 95 = .ok (.bipush 7, 2) := by decide +kernel
theorem dX4_negate_97 : decode cX4_negate 97 = .ok (.iconst 1, 1) := by decide +kernel
theorem dX4_negate_98 : decode cX4_negate 98 = .ok (.invokevirtual 287, 3) := by decide +kernel
theorem dX4_negate_101 : decode cX4_negate 101 = .ok (.goto 18, 3) := by decide +kernel
theorem dX4_negate_104 : decode cX4_negate 104 = .ok (.aload_n 0, 1) := by decide +kernel
theorem dX4_negate_105 : decode cX4_negate 105 = .ok (.getfield 14, 3) := by decide +kernel
theorem dX4_negate_108 : decode cX4_negate 108 = .ok (.aload_n 0, 1) := by decide +kernel
theorem dX4_negate_109 : decode cX4_negate 109 = .ok (.invokevirtual 255, 3) := by decide +kernel
theorem dX4_negate_112 : decode cX4_negate 112 = .ok (.iconst 1, 1) := by decide +kernel
theorem dX4_negate_113 : decode cX4_negate 113 = .ok (.lload_n 1, 1) := by decide +kernel
theorem dX4_negate_114 : decode cX4_negate 114 = .ok (.lneg, 1) := by decide +kernel
theorem dX4_negate_115 : decode cX4_negate 115 = .ok (.dconst 0, 1) := by decide +kernel
theorem dX4_negate_116 : decode cX4_negate 116 = .ok (.invokevirtual 365, 3) := by decide +kernel
theorem dX4_negate_119 : decode cX4_negate 119 = .ok (.return_, 1) := by decide +kernel
theorem dX4_smallWhole_0 : decode cX4_smallWhole 0 = .ok (.aload_n 0, 1) := by decide +kernel
theorem dX4_smallWhole_1 : decode cX4_smallWhole 1 = .ok (.getfield 36, 3) := by decide +kernel
theorem dX4_smallWhole_4 : decode cX4_smallWhole 4 = .ok (.invokevirtual 268, 3) := by decide +kernel
theorem dX4_smallWhole_7 : decode cX4_smallWhole 7 = .ok (.iconst 3, 1) := by decide +kernel
theorem dX4_smallWhole_8 : decode cX4_smallWhole 8 = .ok (.if_icmp .ne 41, 3) := by decide +kernel
theorem dX4_smallWhole_11 : decode cX4_smallWhole 11 = .ok (.aload_n 0, 1) := by decide +kernel
theorem dX4_smallWhole_12 : decode cX4_smallWhole 12 = .ok (.getfield 14, 3) := by decide +kernel
theorem dX4_smallWhole_15 : decode cX4_smallWhole 15 = .ok (.iload_n 1, 1) := by decide +kernel
theorem dX4_smallWhole_16 : decode cX4_smallWhole 16 = .ok (.invokevirtual 91, 3) := by decide +kernel
theorem dX4_smallWhole_19 : decode cX4_smallWhole 19 = .ok (.dstore_n 2, 1) := by decide +kernel
theorem dX4_smallWhole_20 : decode cX4_smallWhole 20 = .ok (.dload_n 2, 1) := by decide +kernel
theorem dX4_smallWhole_21 : decode cX4_smallWhole 21 = .ok (.dconst 0, 1) := by decide +kernel
theorem dX4_smallWhole_22 : decode cX4_smallWhole 22 = .ok (.dcmp .l, 1) := by decide +kernel
theorem dX4_smallWhole_23 : decode cX4_smallWhole 23 = .ok (.ifCond .lt 24, 3) := by decide +kernel
theorem dX4_smallWhole_26 : decode cX4_smallWhole 26 = .ok (.dload_n 2, 1) := by decide +kernel
theorem dX4_smallWhole_27 : decode cX4_smallWhole 27 = .ok (.ldc2_w 437, 3) := by decide +kernel
theorem dX4_smallWhole_30 : decode cX4_smallWhole 30 = .ok (.dcmp .g, 1) := by decide +kernel
theorem dX4_smallWhole_31 : decode cX4_smallWhole 31 = .ok (.ifCond .gt 16, 3) := by decide +kernel
theorem dX4_smallWhole_34 : decode cX4_smallWhole 34 = .ok (.dload_n 2, 1) := by decide +kernel
theorem dX4_smallWhole_35 : decode cX4_smallWhole 35 = .ok (.d2i, 1) := by decide +kernel
theorem dX4_smallWhole_36 : decode cX4_smallWhole 36 = .ok (.i2d, 1) := by decide +kernel
theorem dX4_smallWhole_37 : decode cX4_smallWhole 37 = .ok (.dload_n 2, 1) := by decide +kernel
theorem dX4_smallWhole_38 : decode cX4_smallWhole 38 = .ok (.dcmp .l, 1) := by decide +kernel
theorem dX4_smallWhole_39 : decode cX4_smallWhole 39 = .ok (.ifCond .ne 8, 3) := by decide +kernel
theorem dX4_smallWhole_42 : decode cX4_smallWhole 42 = .ok (.dload_n 2, 1) := by decide +kernel
theorem dX4_smallWhole_43 : decode cX4_smallWhole 43 = .ok (.d2i, 1) := by decide +kernel
theorem dX4_smallWhole_44 : decode cX4_smallWhole 44 = .ok (.goto 4, 3) := by decide +kernel
theorem dX4_smallWhole_47 : decode cX4_smallWhole 47 = .ok (.iconst (-1), 1) := by decide +kernel
theorem dX4_smallWhole_48 : decode cX4_smallWhole 48 = .ok (.ireturn, 1) := by decide +kernel
theorem dX4_smallWhole_49 : decode cX4_smallWhole 49 = .ok (.aload_n 0, 1) := by decide +kernel
theorem dX4_smallWhole_50 : decode cX4_smallWhole 50 = .ok (.getfield 14, 3) := by decide +kernel
theorem dX4_smallWhole_53 : decode cX4_smallWhole 53 = .ok (.iload_n 1, 1) := by decide +kernel
theorem dX4_smallWhole_54 : decode cX4_smallWhole 54 = .ok (.invokevirtual 101, 3) := by decide +kernel
theorem dX4_smallWhole_57 : decode cX4_smallWhole 57 = .ok (.lstore_n 2, 1) := by decide +kernel
theorem dX4_smallWhole_58 : decode cX4_smallWhole 58 = .ok (.lload_n 2, 1) := by decide +kernel
theorem dX4_smallWhole_59 : decode cX4_smallWhole 59 = .ok (.lconst 0, 1) := by decide +kernel
theorem dX4_smallWhole_60 : decode cX4_smallWhole 60 = .ok (.lcmp, 1) := by decide +kernel
theorem dX4_smallWhole_61 : decode cX4_smallWhole 61 = .ok (.ifCond .lt 16, 3) := by decide +kernel
theorem dX4_smallWhole_64 : decode cX4_smallWhole 64 = .ok (.lload_n 2, 1) := by decide +kernel
theorem dX4_smallWhole_65 : decode cX4_smallWhole 65 = .ok (.ldc2_w 439, 3) := by decide +kernel
theorem dX4_smallWhole_68 : decode cX4_smallWhole 68 = .ok (.lcmp, 1) := by decide +kernel
theorem dX4_smallWhole_69 : decode cX4_smallWhole 69 = .ok (.ifCond .gt 8, 3) := by decide +kernel
theorem dX4_smallWhole_72 : decode cX4_smallWhole 72 = .ok (.lload_n 2, 1) := by decide +kernel
theorem dX4_smallWhole_73 : decode cX4_smallWhole 73 = .ok (.l2i, 1) := by decide +kernel
theorem dX4_smallWhole_74 : decode cX4_smallWhole 74 = .ok (.goto 4, 3) := by decide +kernel
theorem dX4_smallWhole_77 : decode cX4_smallWhole 77 = .ok (.iconst (-1), 1) := by decide +kernel
theorem dX4_smallWhole_78 : decode cX4_smallWhole 78 = .ok (.ireturn, 1) := by decide +kernel
theorem dX4_lengthAt_0 : decode cX4_lengthAt 0 = .ok (.aload_n 0, 1) := by decide +kernel
theorem dX4_lengthAt_1 : decode cX4_lengthAt 1 = .ok (.getfield 20, 3) := by decide +kernel
theorem dX4_lengthAt_4 : decode cX4_lengthAt 4 = .ok (.lload_n 1, 1) := by decide +kernel
theorem dX4_lengthAt_5 : decode cX4_lengthAt 5 = .ok (.l2i, 1) := by decide +kernel
theorem dX4_lengthAt_6 : decode cX4_lengthAt 6 = .ok (.invokevirtual 101, 3) := by decide +kernel
theorem dX4_lengthAt_9 : decode cX4_lengthAt 9 = .ok (.ldc2_w 444, 3) := by decide +kernel
theorem dX4_lengthAt_12 : decode cX4_lengthAt 12 = .ok (.ldiv, 1) := by decide +kernel
theorem dX4_lengthAt_13 : decode cX4_lengthAt 13 = .ok (.l2i, 1) := by decide +kernel
theorem dX4_lengthAt_14 : decode cX4_lengthAt 14 = .ok (.ireturn, 1) := by decide +kernel
theorem dX4_tongueOfArray_0 : decode cX4_tongueOfArray 0 = .ok (.aload_n 0, 1) := by decide +kernel
theorem dX4_tongueOfArray_1 : decode cX4_tongueOfArray 1 = .ok (.getfield 20, 3) := by decide +kernel
theorem dX4_tongueOfArray_4 : decode cX4_tongueOfArray 4 = .ok (.aload_n 0, 1) := by decide +kernel
theorem dX4_tongueOfArray_5 : decode cX4_tongueOfArray 5 = .ok (.getfield 14, 3) := by decide +kernel
theorem dX4_tongueOfArray_8 : decode cX4_tongueOfArray 8 = .ok (.iload_n 1, 1) := by decide +kernel
theorem dX4_tongueOfArray_9 : decode cX4_tongueOfArray 9 = .ok (.invokevirtual 101, 3) := by decide +kernel
theorem dX4_tongueOfArray_12 : decode cX4_tongueOfArray 12 = .ok (.l2i, 1) := by decide +kernel
theorem dX4_tongueOfArray_13 : decode cX4_tongueOfArray 13 = .ok (.invokevirtual 101, 3) := by decide +kernel
theorem dX4_tongueOfArray_16 : decode cX4_tongueOfArray 16 = .ok (.ldc2_w 444, 3) := by decide +kernel
theorem dX4_tongueOfArray_19 : decode cX4_tongueOfArray 19 = .ok (.lrem, 1) := by decide +kernel
theorem dX4_tongueOfArray_20 : decode cX4_tongueOfArray 20 = .ok (.l2i, 1) := by decide +kernel
theorem dX4_tongueOfArray_21 : decode cX4_tongueOfArray 21 = .ok (.ireturn, 1) := by decide +kernel
set_option maxHeartbeats 4000000 in
set_option maxRecDepth 100000 in
theorem c_X4_failWithCode (ω : Om) (l : Launch) (μ : M3) (S : Int) (hI : IC μ) (hS : S = μ.1 33 3) (hSb : S < 240099) (hst : 0 ≤ μ.1 70 2 ∧ μ.1 70 2 ≤ 5000 ∧ 0 ≤ μ.1 70 8 ∧ μ.1 70 8 ≤ 80000 ∧ μ.1 45 1 ≤ μ.1 70 2) (h0s : μ.1 32 13 = 0) : CtV ω l yX4_failWithCode cX4_failWithCode 2 6 194 [.ref (oP ω 32)] μ (fun (μ' : M3) => (Fr [33, 34, 35, 36, 70, 32, 45, 46, 47, 48, 49, 50] μ μ') ∧ (IC μ') ∧ ((μ'.1 33 3 ≤ max (S - 1) 0 ∧ μ'.1 32 13 = 0) ∨ (μ'.1 33 3 ≤ max S 1 ∧ μ'.1 32 13 = 0 ∧ ofF μ 53 = 2) ∨ (μ'.1 33 3 ≤ S + 1 ∧ (μ'.1 32 13 = 1 ∨ μ'.1 32 13 = 4))) ∧ (μ.1 70 2 ≤ μ'.1 70 2 ∧ μ'.1 70 2 ≤ 5000 ∧ 0 ≤ μ'.1 70 8 ∧ μ'.1 70 8 ≤ 80000 ∧ μ'.1 45 1 ≤ μ'.1 70 2) ∧ (μ'.1 70 1 = μ.1 70 1) ∧ (μ'.1 70 3 = μ.1 70 3) ∧ (μ'.1 70 4 = μ.1 70 4) ∧ (μ'.1 70 5 = μ.1 70 5) ∧ (μ'.1 70 6 = μ.1 70 6) ∧ (μ'.1 70 7 = μ.1 70 7) ∧ (μ'.1 32 10 = μ.1 32 10) ∧ (μ'.1 32 11 = μ.1 32 11) ∧ (μ'.1 32 12 = μ.1 32 12) ∧ (μ'.1 32 15 = μ.1 32 15) ∧ (μ'.1 32 16 = μ.1 32 16) ∧ (μ'.1 45 4 = μ.1 45 4)) := by
  refine CtV.go (by decide) (Nat.le_of_ble_eq_true rfl) (fun ρ p e s m below meth c R ls G hR hret hlk hl => ?_)
  have hx := G.1.1
  have hb := G.1.2.1
  have hl : lv_has ls 2 [(0, .ref (oP ω 32))] := hl
  generalize s.drawn = d0 at G ⊢
  have hk_1 := hI.row (r := 33) (by unfold isRow; decide)
  unfold rk at hk_1
  simp only [Int.reduceAdd] at hk_1
  have hbr_33 : BR 33 = 240100 := rfl
  refine lv_aload_n hx hb dX4_failWithCode_0 rfl (lv_at hl 0 rfl) ?_
  refine xa_getr G fd_X4 (a := 32) (x := 33) 3 rfl (by decide) rfl (wm 2 147 rfl rfl) ⟨rfl, rfl, rfl⟩ dX4_failWithCode_1 rfl (G.sk 36 rfl) (by decide) rfl ?_
  refine xc_iV G (b := 33) (rest := []) (As := []) (c_X9_kindOfTop ω l μ 33 (by unfold isRow; decide) hI) (wm 6 83 rfl rfl) (wm 5 152 rfl rfl) (wm 5 153 rfl rfl) rfl rfl (by decide) rfl (wm 1 10 rfl rfl) (wm 5 154 rfl rfl) (by decide) hR (by decide) (n := 0) rfl rfl (Nat.le_of_ble_eq_true rfl) hl.1 dX4_failWithCode_4 (fun r_3 μ2 ρ d0 H locs hr_r_3 hp G => ?_)
  have hr_r_3 : -2147483648 ≤ r_3 ∧ r_3 ≤ 2147483647 := hr_r_3
  have hsm_4 := hp
  have hsm_4 := Eq.symm hsm_4
  subst hsm_4
  refine lv_iconst (v := iv 1) hx hb dX4_failWithCode_7 rfl ?_
  refine xb_icmp_eq (tgt := 18) hx hb (by unfold ir; omega) (by unfold ir; omega) dX4_failWithCode_8 (by decide) (fun c_8 => ?_) (fun c_8 => ?_)
  · refine lv_aload_n hx hb dX4_failWithCode_18 rfl (lv_at hl 0 rfl) ?_
    refine xa_getr G fd_X4 (a := 32) (x := 33) 3 rfl (by decide) rfl (wm 2 147 rfl rfl) ⟨rfl, rfl, rfl⟩ dX4_failWithCode_19 rfl (G.sk 36 rfl) (by decide) rfl ?_
    refine lv_aload_n hx hb dX4_failWithCode_22 rfl (lv_at hl 0 rfl) ?_
    have e_5 : μ.1 33 3 = S := hS.symm
    refine xc_iV G (b := 32) (rest := [.ref (oP ω 33)]) (As := []) (c_X4_top ω l μ S hI (by omega)) (wm 6 73 rfl rfl) (wm 6 75 rfl rfl) (wm 0 80 rfl rfl) rfl rfl (by decide) rfl (wm 1 14 rfl rfl) (wm 6 76 rfl rfl) (by decide) hR (by decide) (n := 0) rfl rfl (Nat.le_of_ble_eq_true rfl) hl.1 dX4_failWithCode_23 (fun r_7 μ6 ρ d0 H locs hr_r_7 hp G => ?_)
    have hr_r_7 : -2147483648 ≤ r_7 ∧ r_7 ≤ 2147483647 := hr_r_7
    obtain ⟨hsm_8, hp_9⟩ := hp
    have hsm_8 := Eq.symm hsm_8
    subst hsm_8
    refine xc_lV G (b := 33) (rest := []) (As := [.int (iv r_7)]) (c_X9_whole ω l μ 33 r_7 (by unfold isRow; decide) (by unfold ir; omega) hI) (wm 6 84 rfl rfl) (wm 5 160 rfl rfl) (wm 5 161 rfl rfl) rfl rfl (by decide) rfl (wm 1 10 rfl rfl) (wm 5 162 rfl rfl) (by decide) hR (by decide) (n := 1) rfl rfl (Nat.le_of_ble_eq_true rfl) hl.1 dX4_failWithCode_26 (fun r_11 μ10 ρ d0 H locs hr_r_11 hp G => ?_)
    have hsm_12 := hp
    have hsm_12 := Eq.symm hsm_12
    subst hsm_12
    refine xb_l2i hx hb dX4_failWithCode_29 ?_
    refine xb_topi (fun y_13 hr_y_13 he_y_13 => ?_)
    have hr_y_13 : -2147483648 ≤ y_13 ∧ y_13 ≤ 2147483647 := hr_y_13
    refine lv_istore_n (lv' := [(1, .int (iv y_13)), (0, .ref (oP ω 32))]) hx hb dX4_failWithCode_30 rfl hl (by decide) rfl (fun ls hl => ?_)
    refine lv_iload_n hx hb dX4_failWithCode_31 rfl (lv_at hl 0 rfl) ?_
    refine xb_if_ne (tgt := 46) hx hb (by unfold ir; omega) dX4_failWithCode_32 (by decide) (fun c_32 => ?_) (fun c_32 => ?_)
    · refine lv_aload_n hx hb dX4_failWithCode_46 rfl (lv_at hl 1 rfl) ?_
      refine lv_iload_n hx hb dX4_failWithCode_47 rfl (lv_at hl 0 rfl) ?_
      refine lv_iconst (v := iv 1) hx hb dX4_failWithCode_48 rfl ?_
      have e_14 : μ.1 33 3 = S := hS.symm
      have hn_15 : 0 ≤ μ.1 45 1 ∧ 9 * μ.1 45 1 ≤ μ.2.1 46 := hI.nm.2.2.2.2.2.2.1
      have hn_16 : 0 ≤ μ.1 45 4 ∧ 2 * μ.1 45 4 ≤ μ.2.1 51 := hI.nm.2.2.2.2.2.2.2.1
      refine xc_vV G (b := 32) (rest := []) (As := [.int (iv y_13), .int (iv 1)]) (c_X4_fails ω l μ y_13 1 S (by unfold ir; omega) (by unfold ir; omega) hI (by omega) (by omega) (by omega) (by omega)) (wm 6 93 rfl rfl) (wm 6 95 rfl rfl) (wm 0 82 rfl rfl) rfl rfl (by decide) rfl (wm 1 14 rfl rfl) (wm 6 96 rfl rfl) (by decide) hR (by decide) (n := 2) rfl rfl (Nat.le_of_ble_eq_true rfl) hl.1 dX4_failWithCode_49 (fun μ17 ρ d0 H locs hp G => ?_)
      obtain ⟨F_18, hI_19, hp_20, hp_21, hs_22, hs_23, hs_24, hs_25, hs_26, hs_27, hs_28, hs_29, hs_30, hs_31, hs_32, hs_33⟩ := hp
      have hk_34 := hI_19.row (r := 33) (by unfold isRow; decide)
      unfold rk at hk_34
      simp only [Int.reduceAdd] at hk_34
      have hn_35 : 0 ≤ μ17.1 45 1 ∧ 9 * μ17.1 45 1 ≤ μ17.2.1 46 := hI_19.nm.2.2.2.2.2.2.1
      have e_36 : μ17.1 70 1 = μ.1 70 1 := hs_22
      have e_37 : μ17.1 70 3 = μ.1 70 3 := hs_23
      have e_38 : μ17.1 70 4 = μ.1 70 4 := hs_24
      have e_39 : μ17.1 70 5 = μ.1 70 5 := hs_25
      have e_40 : μ17.1 70 6 = μ.1 70 6 := hs_26
      have e_41 : μ17.1 70 7 = μ.1 70 7 := hs_27
      have e_42 : μ17.1 32 10 = μ.1 32 10 := hs_28
      have e_43 : μ17.1 32 11 = μ.1 32 11 := hs_29
      have e_44 : μ17.1 32 12 = μ.1 32 12 := hs_30
      have e_45 : μ17.1 32 15 = μ.1 32 15 := hs_31
      have e_46 : μ17.1 32 16 = μ.1 32 16 := hs_32
      have e_47 : μ17.1 45 4 = μ.1 45 4 := hs_33
      exact xr_v G hret hlk dX4_failWithCode_52 ⟨(Fr.tr Fr.rf F_18 (by decide)), hI_19, (by omega), (by omega), (by omega), (by omega), (by omega), (by omega), (by omega), (by omega), (by omega), (by omega), (by omega), (by omega), (by omega), (by omega)⟩
    · refine lv_aload_n hx hb dX4_failWithCode_35 rfl (lv_at hl 1 rfl) ?_
      refine xa_getr G fd_X4 (a := 32) (x := 33) 3 rfl (by decide) rfl (wm 2 147 rfl rfl) ⟨rfl, rfl, rfl⟩ dX4_failWithCode_36 rfl (G.sk 36 rfl) (by decide) rfl ?_
      refine lv_iconst (v := iv 1) hx hb dX4_failWithCode_39 rfl ?_
      have e_48 : μ.1 33 3 = S := hS.symm
      refine xc_vV G (b := 33) (rest := []) (As := [.int (iv 1)]) (c_X9_drop ω l μ 33 1 S (by unfold isRow; decide) (by unfold ir; omega) hI (by omega) (by omega)) (wm 6 89 rfl rfl) (wm 6 90 rfl rfl) (wm 6 91 rfl rfl) rfl rfl (by decide) rfl (wm 1 10 rfl rfl) (wm 6 92 rfl rfl) (by decide) hR (by decide) (n := 1) rfl rfl (Nat.le_of_ble_eq_true rfl) hl.1 dX4_failWithCode_40 (fun μ49 ρ d0 H locs hp G => ?_)
      obtain ⟨F_50, hI_51, hs_52⟩ := hp
      refine lv_goto (tgt := 52) hx hb dX4_failWithCode_43 (by decide) ?_
      have e_53 : μ49.1 33 3 = max (S - 1) 0 := hs_52
      have e_54 : μ49.1 32 13 = μ.1 32 13 := (F_50.1 32 (by decide) 13)
      have e_55 : μ49.1 33 3 = max (S - 1) 0 := hs_52
      have e_56 : μ49.1 32 13 = μ.1 32 13 := (F_50.1 32 (by decide) 13)
      have e_57 : μ49.1 33 3 = max (S - 1) 0 := hs_52
      have e_58 : μ49.1 32 13 = μ.1 32 13 := (F_50.1 32 (by decide) 13)
      have e_59 : μ49.1 32 13 = μ.1 32 13 := (F_50.1 32 (by decide) 13)
      have e_60 : μ49.1 70 2 = μ.1 70 2 := (F_50.1 70 (by decide) 2)
      have e_61 : μ49.1 70 2 = μ.1 70 2 := (F_50.1 70 (by decide) 2)
      have e_62 : μ49.1 70 8 = μ.1 70 8 := (F_50.1 70 (by decide) 8)
      have e_63 : μ49.1 70 8 = μ.1 70 8 := (F_50.1 70 (by decide) 8)
      have e_64 : μ49.1 45 1 = μ.1 45 1 := (F_50.1 45 (by decide) 1)
      have e_65 : μ49.1 70 2 = μ.1 70 2 := (F_50.1 70 (by decide) 2)
      have e_66 : μ49.1 70 1 = μ.1 70 1 := (F_50.1 70 (by decide) 1)
      have e_67 : μ49.1 70 3 = μ.1 70 3 := (F_50.1 70 (by decide) 3)
      have e_68 : μ49.1 70 4 = μ.1 70 4 := (F_50.1 70 (by decide) 4)
      have e_69 : μ49.1 70 5 = μ.1 70 5 := (F_50.1 70 (by decide) 5)
      have e_70 : μ49.1 70 6 = μ.1 70 6 := (F_50.1 70 (by decide) 6)
      have e_71 : μ49.1 70 7 = μ.1 70 7 := (F_50.1 70 (by decide) 7)
      have e_72 : μ49.1 32 10 = μ.1 32 10 := (F_50.1 32 (by decide) 10)
      have e_73 : μ49.1 32 11 = μ.1 32 11 := (F_50.1 32 (by decide) 11)
      have e_74 : μ49.1 32 12 = μ.1 32 12 := (F_50.1 32 (by decide) 12)
      have e_75 : μ49.1 32 15 = μ.1 32 15 := (F_50.1 32 (by decide) 15)
      have e_76 : μ49.1 32 16 = μ.1 32 16 := (F_50.1 32 (by decide) 16)
      have e_77 : μ49.1 45 4 = μ.1 45 4 := (F_50.1 45 (by decide) 4)
      exact xr_v G hret hlk dX4_failWithCode_52 ⟨(Fr.tr Fr.rf F_50 (by decide)), hI_51, (by omega), (by omega), (by omega), (by omega), (by omega), (by omega), (by omega), (by omega), (by omega), (by omega), (by omega), (by omega), (by omega), (by omega)⟩
  · refine lv_aload_n hx hb dX4_failWithCode_11 rfl (lv_at hl 0 rfl) ?_
    refine lv_iconst (v := iv 4) hx hb dX4_failWithCode_12 rfl ?_
    refine lv_iconst (v := iv 1) hx hb dX4_failWithCode_13 rfl ?_
    have e_78 : μ.1 33 3 = S := hS.symm
    have hn_79 : 0 ≤ μ.1 45 1 ∧ 9 * μ.1 45 1 ≤ μ.2.1 46 := hI.nm.2.2.2.2.2.2.1
    have hn_80 : 0 ≤ μ.1 45 4 ∧ 2 * μ.1 45 4 ≤ μ.2.1 51 := hI.nm.2.2.2.2.2.2.2.1
    refine xc_vV G (b := 32) (rest := []) (As := [.int (iv 4), .int (iv 1)]) (c_X4_fails ω l μ 4 1 S (by unfold ir; omega) (by unfold ir; omega) hI (by omega) (by omega) (by omega) (by omega)) (wm 6 93 rfl rfl) (wm 6 95 rfl rfl) (wm 0 82 rfl rfl) rfl rfl (by decide) rfl (wm 1 14 rfl rfl) (wm 6 96 rfl rfl) (by decide) hR (by decide) (n := 2) rfl rfl (Nat.le_of_ble_eq_true rfl) hl.1 dX4_failWithCode_14 (fun μ81 ρ d0 H locs hp G => ?_)
    obtain ⟨F_82, hI_83, hp_84, hp_85, hs_86, hs_87, hs_88, hs_89, hs_90, hs_91, hs_92, hs_93, hs_94, hs_95, hs_96, hs_97⟩ := hp
    have hk_98 := hI_83.row (r := 33) (by unfold isRow; decide)
    unfold rk at hk_98
    simp only [Int.reduceAdd] at hk_98
    have hn_99 : 0 ≤ μ81.1 45 1 ∧ 9 * μ81.1 45 1 ≤ μ81.2.1 46 := hI_83.nm.2.2.2.2.2.2.1
    have e_100 : μ81.1 70 1 = μ.1 70 1 := hs_86
    have e_101 : μ81.1 70 3 = μ.1 70 3 := hs_87
    have e_102 : μ81.1 70 4 = μ.1 70 4 := hs_88
    have e_103 : μ81.1 70 5 = μ.1 70 5 := hs_89
    have e_104 : μ81.1 70 6 = μ.1 70 6 := hs_90
    have e_105 : μ81.1 70 7 = μ.1 70 7 := hs_91
    have e_106 : μ81.1 32 10 = μ.1 32 10 := hs_92
    have e_107 : μ81.1 32 11 = μ.1 32 11 := hs_93
    have e_108 : μ81.1 32 12 = μ.1 32 12 := hs_94
    have e_109 : μ81.1 32 15 = μ.1 32 15 := hs_95
    have e_110 : μ81.1 32 16 = μ.1 32 16 := hs_96
    have e_111 : μ81.1 45 4 = μ.1 45 4 := hs_97
    exact xr_v G hret hlk dX4_failWithCode_17 ⟨(Fr.tr Fr.rf F_82 (by decide)), hI_83, (by omega), (by omega), (by omega), (by omega), (by omega), (by omega), (by omega), (by omega), (by omega), (by omega), (by omega), (by omega), (by omega), (by omega)⟩

set_option maxHeartbeats 4000000 in
set_option maxRecDepth 100000 in
theorem c_X4_exitTo (ω : Om) (l : Launch) (μ : M3) (x1 : Int) (S : Int) (hx1 : ir x1) (hI : IC μ) (hS : S = μ.1 33 3) (hSb : S < 240099) (hst : 0 ≤ μ.1 70 2 ∧ μ.1 70 2 ≤ 5000 ∧ 0 ≤ μ.1 70 8 ∧ μ.1 70 8 ≤ 80000 ∧ μ.1 45 1 ≤ μ.1 70 2) (h0s : μ.1 32 13 = 0) : CtV ω l yX4_exitTo cX4_exitTo 2 6 194 [.ref (oP ω 32), .int (iv x1)] μ (fun (μ' : M3) => (Fr [33, 34, 35, 36, 70, 32, 45, 46, 47, 48, 49, 50] μ μ') ∧ (IC μ') ∧ ((μ'.1 33 3 ≤ max S 1 ∧ μ'.1 32 13 = 0 ∧ ofF μ 53 = 2) ∨ (μ'.1 33 3 ≤ S + 1 ∧ (μ'.1 32 13 = 1 ∨ μ'.1 32 13 = 4))) ∧ (μ.1 70 2 ≤ μ'.1 70 2 ∧ μ'.1 70 2 ≤ 5000 ∧ 0 ≤ μ'.1 70 8 ∧ μ'.1 70 8 ≤ 80000 ∧ μ'.1 45 1 ≤ μ'.1 70 2) ∧ (μ'.1 70 1 = μ.1 70 1) ∧ (μ'.1 70 3 = μ.1 70 3) ∧ (μ'.1 70 4 = μ.1 70 4) ∧ (μ'.1 70 5 = μ.1 70 5) ∧ (μ'.1 70 6 = μ.1 70 6) ∧ (μ'.1 70 7 = μ.1 70 7) ∧ (μ'.1 32 10 = μ.1 32 10) ∧ (μ'.1 32 11 = μ.1 32 11) ∧ (μ'.1 32 12 = μ.1 32 12) ∧ (μ'.1 32 15 = μ.1 32 15) ∧ (μ'.1 32 16 = μ.1 32 16) ∧ (μ'.1 45 4 = μ.1 45 4)) := by
  refine CtV.go (by decide) (Nat.le_of_ble_eq_true rfl) (fun ρ p e s m below meth c R ls G hR hret hlk hl => ?_)
  have hx := G.1.1
  have hb := G.1.2.1
  have hl : lv_has ls 2 [(0, .ref (oP ω 32)), (1, .int (iv x1))] := hl
  generalize s.drawn = d0 at G ⊢
  have hr_x1 : -2147483648 ≤ x1 ∧ x1 ≤ 2147483647 := hx1
  have hk_1 := hI.row (r := 33) (by unfold isRow; decide)
  unfold rk at hk_1
  simp only [Int.reduceAdd] at hk_1
  have hbr_33 : BR 33 = 240100 := rfl
  refine lv_aload_n hx hb dX4_exitTo_0 rfl (lv_at hl 0 rfl) ?_
  refine xa_getr G fd_X4 (a := 32) (x := 60) 8 rfl (by decide) rfl (wm 2 152 rfl rfl) ⟨rfl, rfl, rfl⟩ dX4_exitTo_1 rfl (G.sk 41 rfl) (by decide) rfl ?_
  refine lv_iload_n hx hb dX4_exitTo_4 rfl (lv_at hl 1 rfl) ?_
  refine lv_aload_n hx hb dX4_exitTo_5 rfl (lv_at hl 0 rfl) ?_
  refine xa_getr G fd_X4 (a := 32) (x := 52) 7 rfl (by decide) rfl (wm 2 151 rfl rfl) ⟨rfl, rfl, rfl⟩ dX4_exitTo_6 rfl (G.sk 40 rfl) (by decide) rfl ?_
  refine xc_iV G (b := 52) (rest := [.int (iv x1), .ref (oP ω 60)]) (As := []) (c_X2_guardBaseOfPart ω l μ  hI) (wm 7 48 rfl rfl) (wm 7 49 rfl rfl) (wm 7 50 rfl rfl) rfl rfl (by decide) rfl (wm 1 16 rfl rfl) (wm 7 51 rfl rfl) (by decide) hR (by decide) (n := 0) rfl rfl (Nat.le_of_ble_eq_true rfl) hl.1 dX4_exitTo_9 (fun r_3 μ2 ρ d0 H locs hr_r_3 hp G => ?_)
  have hr_r_3 : -2147483648 ≤ r_3 ∧ r_3 ≤ 2147483647 := hr_r_3
  have hsm_4 := hp
  have hsm_4 := Eq.symm hsm_4
  subst hsm_4
  have hn_5 : 0 ≤ μ.1 60 6 ∧ μ.1 60 6 ≤ 400 := hI.nm.2.2.2.2.2.1
  refine xc_iV G (b := 60) (rest := []) (As := [.int (iv x1), .int (iv r_3)]) (c_X3_hasOpen ω l μ x1 r_3 (μ.1 60 6) (by unfold ir; omega) (by unfold ir; omega) hI (by omega)) (wm 7 52 rfl rfl) (wm 7 53 rfl rfl) (wm 7 54 rfl rfl) rfl rfl (by decide) rfl (wm 1 17 rfl rfl) (wm 7 55 rfl rfl) (by decide) hR (by decide) (n := 2) rfl rfl (Nat.le_of_ble_eq_true rfl) hl.1 dX4_exitTo_12 (fun r_7 μ6 ρ d0 H locs hr_r_7 hp G => ?_)
  have hr_r_7 : -2147483648 ≤ r_7 ∧ r_7 ≤ 2147483647 := hr_r_7
  obtain ⟨hsm_8, hp_9⟩ := hp
  have hsm_8 := Eq.symm hsm_8
  subst hsm_8
  refine xb_if_eq (tgt := 26) hx hb (by unfold ir; omega) dX4_exitTo_15 (by decide) (fun c_15 => ?_) (fun c_15 => ?_)
  · refine lv_aload_n hx hb dX4_exitTo_26 rfl (lv_at hl 0 rfl) ?_
    refine lv_bipush (v := iv 8) hx hb dX4_exitTo_27 rfl ?_
    refine lv_iconst (v := iv 1) hx hb dX4_exitTo_29 rfl ?_
    have e_10 : μ.1 33 3 = S := hS.symm
    have hn_11 : 0 ≤ μ.1 45 1 ∧ 9 * μ.1 45 1 ≤ μ.2.1 46 := hI.nm.2.2.2.2.2.2.1
    have hn_12 : 0 ≤ μ.1 45 4 ∧ 2 * μ.1 45 4 ≤ μ.2.1 51 := hI.nm.2.2.2.2.2.2.2.1
    refine xc_vV G (b := 32) (rest := []) (As := [.int (iv 8), .int (iv 1)]) (c_X4_fails ω l μ 8 1 S (by unfold ir; omega) (by unfold ir; omega) hI (by omega) (by omega) (by omega) (by omega)) (wm 6 93 rfl rfl) (wm 6 95 rfl rfl) (wm 0 82 rfl rfl) rfl rfl (by decide) rfl (wm 1 14 rfl rfl) (wm 6 96 rfl rfl) (by decide) hR (by decide) (n := 2) rfl rfl (Nat.le_of_ble_eq_true rfl) hl.1 dX4_exitTo_30 (fun μ13 ρ d0 H locs hp G => ?_)
    obtain ⟨F_14, hI_15, hp_16, hp_17, hs_18, hs_19, hs_20, hs_21, hs_22, hs_23, hs_24, hs_25, hs_26, hs_27, hs_28, hs_29⟩ := hp
    have hk_30 := hI_15.row (r := 33) (by unfold isRow; decide)
    unfold rk at hk_30
    simp only [Int.reduceAdd] at hk_30
    have hn_31 : 0 ≤ μ13.1 45 1 ∧ 9 * μ13.1 45 1 ≤ μ13.2.1 46 := hI_15.nm.2.2.2.2.2.2.1
    have e_32 : μ13.1 70 1 = μ.1 70 1 := hs_18
    have e_33 : μ13.1 70 3 = μ.1 70 3 := hs_19
    have e_34 : μ13.1 70 4 = μ.1 70 4 := hs_20
    have e_35 : μ13.1 70 5 = μ.1 70 5 := hs_21
    have e_36 : μ13.1 70 6 = μ.1 70 6 := hs_22
    have e_37 : μ13.1 70 7 = μ.1 70 7 := hs_23
    have e_38 : μ13.1 32 10 = μ.1 32 10 := hs_24
    have e_39 : μ13.1 32 11 = μ.1 32 11 := hs_25
    have e_40 : μ13.1 32 12 = μ.1 32 12 := hs_26
    have e_41 : μ13.1 32 15 = μ.1 32 15 := hs_27
    have e_42 : μ13.1 32 16 = μ.1 32 16 := hs_28
    have e_43 : μ13.1 45 4 = μ.1 45 4 := hs_29
    exact xr_v G hret hlk dX4_exitTo_33 ⟨(Fr.tr Fr.rf F_14 (by decide)), hI_15, (by omega), (by omega), (by omega), (by omega), (by omega), (by omega), (by omega), (by omega), (by omega), (by omega), (by omega), (by omega), (by omega), (by omega)⟩
  · refine lv_aload_n hx hb dX4_exitTo_18 rfl (lv_at hl 0 rfl) ?_
    refine lv_iload_n hx hb dX4_exitTo_19 rfl (lv_at hl 1 rfl) ?_
    have e_44 : μ.1 33 3 = S := hS.symm
    have hn_45 : 0 ≤ μ.1 45 1 ∧ 9 * μ.1 45 1 ≤ μ.2.1 46 := hI.nm.2.2.2.2.2.2.1
    have hn_46 : 0 ≤ μ.1 45 4 ∧ 2 * μ.1 45 4 ≤ μ.2.1 51 := hI.nm.2.2.2.2.2.2.2.1
    refine xc_vV G (b := 32) (rest := []) (As := [.int (iv x1)]) (c_X4_failsWithTop ω l μ x1 S (by unfold ir; omega) hI (by omega) (by omega) (by omega)) (wm 7 24 rfl rfl) (wm 7 26 rfl rfl) (wm 0 110 rfl rfl) rfl rfl (by decide) rfl (wm 1 14 rfl rfl) (wm 7 27 rfl rfl) (by decide) hR (by decide) (n := 1) rfl rfl (Nat.le_of_ble_eq_true rfl) hl.1 dX4_exitTo_20 (fun μ47 ρ d0 H locs hp G => ?_)
    obtain ⟨F_48, hI_49, hp_50, hp_51, hs_52, hs_53, hs_54, hs_55, hs_56, hs_57, hs_58, hs_59, hs_60, hs_61, hs_62, hs_63⟩ := hp
    have hk_64 := hI_49.row (r := 33) (by unfold isRow; decide)
    unfold rk at hk_64
    simp only [Int.reduceAdd] at hk_64
    have hn_65 : 0 ≤ μ47.1 45 1 ∧ 9 * μ47.1 45 1 ≤ μ47.2.1 46 := hI_49.nm.2.2.2.2.2.2.1
    refine lv_goto (tgt := 33) hx hb dX4_exitTo_23 (by decide) ?_
    have e_66 : μ47.1 70 1 = μ.1 70 1 := hs_52
    have e_67 : μ47.1 70 3 = μ.1 70 3 := hs_53
    have e_68 : μ47.1 70 4 = μ.1 70 4 := hs_54
    have e_69 : μ47.1 70 5 = μ.1 70 5 := hs_55
    have e_70 : μ47.1 70 6 = μ.1 70 6 := hs_56
    have e_71 : μ47.1 70 7 = μ.1 70 7 := hs_57
    have e_72 : μ47.1 32 10 = μ.1 32 10 := hs_58
    have e_73 : μ47.1 32 11 = μ.1 32 11 := hs_59
    have e_74 : μ47.1 32 12 = μ.1 32 12 := hs_60
    have e_75 : μ47.1 32 15 = μ.1 32 15 := hs_61
    have e_76 : μ47.1 32 16 = μ.1 32 16 := hs_62
    have e_77 : μ47.1 45 4 = μ.1 45 4 := hs_63
    exact xr_v G hret hlk dX4_exitTo_33 ⟨(Fr.tr Fr.rf F_48 (by decide)), hI_49, (by omega), (by omega), (by omega), (by omega), (by omega), (by omega), (by omega), (by omega), (by omega), (by omega), (by omega), (by omega), (by omega), (by omega)⟩

set_option maxHeartbeats 4000000 in
set_option maxRecDepth 100000 in
theorem c_X4_replaceParts (ω : Om) (l : Launch) (μ : M3) (x1 : Int) (x2 : Int) (S : Int) (hx1 : ir x1) (hx2 : ir x2) (hI : IC μ) (hS : S = μ.1 33 3) (hSb : S < 240099) (hp9 : 0 ≤ x1) : CtV ω l yX4_replaceParts cX4_replaceParts 3 5 173 [.ref (oP ω 32), .int (iv x1), .int (iv x2)] μ (fun (μ' : M3) => (Fr [33, 34, 35, 36] μ μ') ∧ (IC μ') ∧ (μ'.1 33 3 = max (S - x1) 0 + 1)) := by
  refine CtV.go (by decide) (Nat.le_of_ble_eq_true rfl) (fun ρ p e s m below meth c R ls G hR hret hlk hl => ?_)
  have hx := G.1.1
  have hb := G.1.2.1
  have hl : lv_has ls 3 [(0, .ref (oP ω 32)), (1, .int (iv x1)), (2, .int (iv x2))] := hl
  generalize s.drawn = d0 at G ⊢
  have hr_x1 : -2147483648 ≤ x1 ∧ x1 ≤ 2147483647 := hx1
  have hr_x2 : -2147483648 ≤ x2 ∧ x2 ≤ 2147483647 := hx2
  have hk_1 := hI.row (r := 33) (by unfold isRow; decide)
  unfold rk at hk_1
  simp only [Int.reduceAdd] at hk_1
  have hbr_33 : BR 33 = 240100 := rfl
  refine lv_aload_n hx hb dX4_replaceParts_0 rfl (lv_at hl 0 rfl) ?_
  refine xa_getr G fd_X4 (a := 32) (x := 33) 3 rfl (by decide) rfl (wm 2 147 rfl rfl) ⟨rfl, rfl, rfl⟩ dX4_replaceParts_1 rfl (G.sk 36 rfl) (by decide) rfl ?_
  refine lv_iload_n hx hb dX4_replaceParts_4 rfl (lv_at hl 1 rfl) ?_
  have e_2 : μ.1 33 3 = S := hS.symm
  refine xc_vV G (b := 33) (rest := []) (As := [.int (iv x1)]) (c_X9_drop ω l μ 33 x1 S (by unfold isRow; decide) (by unfold ir; omega) hI (by omega) (by omega)) (wm 6 89 rfl rfl) (wm 6 90 rfl rfl) (wm 6 91 rfl rfl) rfl rfl (by decide) rfl (wm 1 10 rfl rfl) (wm 6 92 rfl rfl) (by decide) hR (by decide) (n := 1) rfl rfl (Nat.le_of_ble_eq_true rfl) hl.1 dX4_replaceParts_5 (fun μ3 ρ d0 H locs hp G => ?_)
  obtain ⟨F_4, hI_5, hs_6⟩ := hp
  refine lv_aload_n hx hb dX4_replaceParts_8 rfl (lv_at hl 0 rfl) ?_
  refine lv_aload_n hx hb dX4_replaceParts_9 rfl (lv_at hl 0 rfl) ?_
  refine xa_getr G fd_X4 (a := 32) (x := 52) 7 rfl (by decide) rfl (wm 2 151 rfl rfl) ⟨rfl, rfl, rfl⟩ dX4_replaceParts_10 rfl (G.sk 40 rfl) (by decide) rfl ?_
  have e_7 : ofF μ3 53 = ofF μ 53 := (ofF_fr F_4 (by decide) (by decide))
  refine xc_iV G (b := 52) (rest := [.ref (oP ω 32)]) (As := []) (c_X2_tongue ω l μ3  hI_5) (wm 5 218 rfl rfl) (wm 5 219 rfl rfl) (wm 5 220 rfl rfl) rfl rfl (by decide) rfl (wm 1 16 rfl rfl) (wm 5 221 rfl rfl) (by decide) hR (by decide) (n := 0) rfl rfl (Nat.le_of_ble_eq_true rfl) hl.1 dX4_replaceParts_13 (fun r_9 μ8 ρ d0 H locs hr_r_9 hp G => ?_)
  have hr_r_9 : -2147483648 ≤ r_9 ∧ r_9 ≤ 2147483647 := hr_r_9
  obtain ⟨hsm_10, hp_11⟩ := hp
  have hsm_10 := Eq.symm hsm_10
  subst hsm_10
  refine lv_iload_n hx hb dX4_replaceParts_16 rfl (lv_at hl 2 rfl) ?_
  refine xb_i2l hx hb (by unfold ir; omega) dX4_replaceParts_17 ?_
  have e_12 : μ3.1 33 3 = max (S - x1) 0 := hs_6
  refine xc_vV G (b := 32) (rest := []) (As := [.int (iv r_9), .long (jv x2)]) (c_X4_pushNumber ω l μ3 r_9 x2 (max (S - x1) 0) (by unfold ir; omega) (by unfold jr; omega) hI_5 (by omega) (by omega)) (wm 5 70 rfl rfl) (wm 5 72 rfl rfl) (wm 0 63 rfl rfl) rfl rfl (by decide) rfl (wm 1 14 rfl rfl) (wm 5 73 rfl rfl) (by decide) hR (by decide) (n := 2) rfl rfl (Nat.le_of_ble_eq_true rfl) hl.1 dX4_replaceParts_18 (fun μ13 ρ d0 H locs hp G => ?_)
  obtain ⟨F_14, hI_15, hs_16⟩ := hp
  have e_17 : μ13.1 33 3 = (max (S - x1) 0) + 1 := hs_16
  exact xr_v G hret hlk dX4_replaceParts_21 ⟨(Fr.tr (Fr.tr Fr.rf F_4 (by decide)) F_14 (by decide)), hI_15, (by omega)⟩

set_option maxHeartbeats 4000000 in
set_option maxRecDepth 100000 in
theorem c_X4_areSame (ω : Om) (l : Launch) (μ : M3) (x1 : Int) (x2 : Int) (hx1 : ir x1) (hx2 : ir x2) (hI : IC μ) : CtI ω l yX4_areSame cX4_areSame 3 .boolean 1 21 [.ref (oP ω 32), .int (iv x1), .int (iv x2)] μ (fun (r : Int) (μ' : M3) => (μ' = μ) ∧ (r = 0 ∨ r = 1)) := by
  refine CtI.go (by decide) (Nat.le_of_ble_eq_true rfl) (fun ρ p e s m below meth c R ls G hR hret hlk hl => ?_)
  have hx := G.1.1
  have hb := G.1.2.1
  have hl : lv_has ls 3 [(0, .ref (oP ω 32)), (1, .int (iv x1)), (2, .int (iv x2))] := hl
  generalize s.drawn = d0 at G ⊢
  have hr_x1 : -2147483648 ≤ x1 ∧ x1 ≤ 2147483647 := hx1
  have hr_x2 : -2147483648 ≤ x2 ∧ x2 ≤ 2147483647 := hx2
  refine lv_aload_n hx hb dX4_areSame_0 rfl (lv_at hl 0 rfl) ?_
  refine xa_getr G fd_X4 (a := 32) (x := 33) 3 rfl (by decide) rfl (wm 2 147 rfl rfl) ⟨rfl, rfl, rfl⟩ dX4_areSame_1 rfl (G.sk 36 rfl) (by decide) rfl ?_
  refine lv_iload_n hx hb dX4_areSame_4 rfl (lv_at hl 1 rfl) ?_
  refine xc_iV G (b := 33) (rest := []) (As := [.int (iv x1)]) (c_X9_kind ω l μ 33 x1 (by unfold isRow; decide) (by unfold ir; omega) hI) (wm 6 146 rfl rfl) (wm 5 156 rfl rfl) (wm 5 157 rfl rfl) rfl rfl (by decide) rfl (wm 1 10 rfl rfl) (wm 5 158 rfl rfl) (by decide) hR (by decide) (n := 1) rfl rfl (Nat.le_of_ble_eq_true rfl) hl.1 dX4_areSame_5 (fun r_2 μ1 ρ d0 H locs hr_r_2 hp G => ?_)
  have hr_r_2 : -2147483648 ≤ r_2 ∧ r_2 ≤ 2147483647 := hr_r_2
  have hsm_3 := hp
  have hsm_3 := Eq.symm hsm_3
  subst hsm_3
  refine lv_aload_n hx hb dX4_areSame_8 rfl (lv_at hl 0 rfl) ?_
  refine xa_getr G fd_X4 (a := 32) (x := 33) 3 rfl (by decide) rfl (wm 2 147 rfl rfl) ⟨rfl, rfl, rfl⟩ dX4_areSame_9 rfl (G.sk 36 rfl) (by decide) rfl ?_
  refine lv_iload_n hx hb dX4_areSame_12 rfl (lv_at hl 2 rfl) ?_
  refine xc_iV G (b := 33) (rest := [.int (iv r_2)]) (As := [.int (iv x2)]) (c_X9_kind ω l μ 33 x2 (by unfold isRow; decide) (by unfold ir; omega) hI) (wm 6 146 rfl rfl) (wm 5 156 rfl rfl) (wm 5 157 rfl rfl) rfl rfl (by decide) rfl (wm 1 10 rfl rfl) (wm 5 158 rfl rfl) (by decide) hR (by decide) (n := 1) rfl rfl (Nat.le_of_ble_eq_true rfl) hl.1 dX4_areSame_13 (fun r_5 μ4 ρ d0 H locs hr_r_5 hp G => ?_)
  have hr_r_5 : -2147483648 ≤ r_5 ∧ r_5 ≤ 2147483647 := hr_r_5
  have hsm_6 := hp
  have hsm_6 := Eq.symm hsm_6
  subst hsm_6
  refine xb_icmp_ne (tgt := 63) hx hb (by unfold ir; omega) (by unfold ir; omega) dX4_areSame_16 (by decide) (fun c_16 => ?_) (fun c_16 => ?_)
  · refine lv_iconst (v := iv 0) hx hb dX4_areSame_63 rfl ?_
    exact xr_i G (x := 0) hret hlk (by unfold ir; omega) (zr (by omega)) dX4_areSame_64 ⟨rfl, (by omega)⟩
  · refine lv_aload_n hx hb dX4_areSame_19 rfl (lv_at hl 0 rfl) ?_
    refine xa_getr G fd_X4 (a := 32) (x := 33) 3 rfl (by decide) rfl (wm 2 147 rfl rfl) ⟨rfl, rfl, rfl⟩ dX4_areSame_20 rfl (G.sk 36 rfl) (by decide) rfl ?_
    refine lv_iload_n hx hb dX4_areSame_23 rfl (lv_at hl 1 rfl) ?_
    refine xc_lV G (b := 33) (rest := []) (As := [.int (iv x1)]) (c_X9_whole ω l μ 33 x1 (by unfold isRow; decide) (by unfold ir; omega) hI) (wm 6 84 rfl rfl) (wm 5 160 rfl rfl) (wm 5 161 rfl rfl) rfl rfl (by decide) rfl (wm 1 10 rfl rfl) (wm 5 162 rfl rfl) (by decide) hR (by decide) (n := 1) rfl rfl (Nat.le_of_ble_eq_true rfl) hl.1 dX4_areSame_24 (fun r_8 μ7 ρ d0 H locs hr_r_8 hp G => ?_)
    have hsm_9 := hp
    have hsm_9 := Eq.symm hsm_9
    subst hsm_9
    refine lv_aload_n hx hb dX4_areSame_27 rfl (lv_at hl 0 rfl) ?_
    refine xa_getr G fd_X4 (a := 32) (x := 33) 3 rfl (by decide) rfl (wm 2 147 rfl rfl) ⟨rfl, rfl, rfl⟩ dX4_areSame_28 rfl (G.sk 36 rfl) (by decide) rfl ?_
    refine lv_iload_n hx hb dX4_areSame_31 rfl (lv_at hl 2 rfl) ?_
    refine xc_lV G (b := 33) (rest := [.long (jv r_8)]) (As := [.int (iv x2)]) (c_X9_whole ω l μ 33 x2 (by unfold isRow; decide) (by unfold ir; omega) hI) (wm 6 84 rfl rfl) (wm 5 160 rfl rfl) (wm 5 161 rfl rfl) rfl rfl (by decide) rfl (wm 1 10 rfl rfl) (wm 5 162 rfl rfl) (by decide) hR (by decide) (n := 1) rfl rfl (Nat.le_of_ble_eq_true rfl) hl.1 dX4_areSame_32 (fun r_11 μ10 ρ d0 H locs hr_r_11 hp G => ?_)
    have hsm_12 := hp
    have hsm_12 := Eq.symm hsm_12
    subst hsm_12
    refine xb_lcmp hx hb hr_r_8 hr_r_11 dX4_areSame_35 ?_
    have hr_13 : -2147483648 ≤ lcm r_8 r_11 ∧ lcm r_8 r_11 ≤ 2147483647 := lcm_ir _ _
    refine xb_if_ne (tgt := 63) hx hb (by unfold ir; omega) dX4_areSame_36 (by decide) (fun c_36 => ?_) (fun c_36 => ?_)
    · refine lv_iconst (v := iv 0) hx hb dX4_areSame_63 rfl ?_
      exact xr_i G (x := 0) hret hlk (by unfold ir; omega) (zr (by omega)) dX4_areSame_64 ⟨rfl, (by omega)⟩
    · refine lv_aload_n hx hb dX4_areSame_39 rfl (lv_at hl 0 rfl) ?_
      refine xa_getr G fd_X4 (a := 32) (x := 33) 3 rfl (by decide) rfl (wm 2 147 rfl rfl) ⟨rfl, rfl, rfl⟩ dX4_areSame_40 rfl (G.sk 36 rfl) (by decide) rfl ?_
      refine lv_iload_n hx hb dX4_areSame_43 rfl (lv_at hl 1 rfl) ?_
      refine xc_dV G (b := 33) (rest := []) (As := [.int (iv x1)]) (c_X9_real ω l μ 33 x1 (by unfold isRow; decide) (by unfold ir; omega) hI) (wm 6 106 rfl rfl) (wm 5 206 rfl rfl) (wm 5 207 rfl rfl) rfl rfl (by decide) rfl (wm 1 10 rfl rfl) (wm 5 208 rfl rfl) (by decide) hR (by decide) (n := 1) rfl rfl (Nat.le_of_ble_eq_true rfl) hl.1 dX4_areSame_44 (fun r_15 μ14 ρ d0 H locs hp G => ?_)
      have hsm_16 := hp
      have hsm_16 := Eq.symm hsm_16
      subst hsm_16
      refine lv_aload_n hx hb dX4_areSame_47 rfl (lv_at hl 0 rfl) ?_
      refine xa_getr G fd_X4 (a := 32) (x := 33) 3 rfl (by decide) rfl (wm 2 147 rfl rfl) ⟨rfl, rfl, rfl⟩ dX4_areSame_48 rfl (G.sk 36 rfl) (by decide) rfl ?_
      refine lv_iload_n hx hb dX4_areSame_51 rfl (lv_at hl 2 rfl) ?_
      refine xc_dV G (b := 33) (rest := [.double (dv r_15)]) (As := [.int (iv x2)]) (c_X9_real ω l μ 33 x2 (by unfold isRow; decide) (by unfold ir; omega) hI) (wm 6 106 rfl rfl) (wm 5 206 rfl rfl) (wm 5 207 rfl rfl) rfl rfl (by decide) rfl (wm 1 10 rfl rfl) (wm 5 208 rfl rfl) (by decide) hR (by decide) (n := 1) rfl rfl (Nat.le_of_ble_eq_true rfl) hl.1 dX4_areSame_52 (fun r_18 μ17 ρ d0 H locs hp G => ?_)
      have hsm_19 := hp
      have hsm_19 := Eq.symm hsm_19
      subst hsm_19
      refine lv_dcmp hx hb dX4_areSame_55 ?_
      refine xb_topi (fun y_20 hr_y_20 he_y_20 => ?_)
      have hr_y_20 : -2147483648 ≤ y_20 ∧ y_20 ≤ 2147483647 := hr_y_20
      refine xb_if_ne (tgt := 63) hx hb (by unfold ir; omega) dX4_areSame_56 (by decide) (fun c_56 => ?_) (fun c_56 => ?_)
      · refine lv_iconst (v := iv 0) hx hb dX4_areSame_63 rfl ?_
        exact xr_i G (x := 0) hret hlk (by unfold ir; omega) (zr (by omega)) dX4_areSame_64 ⟨rfl, (by omega)⟩
      · refine lv_iconst (v := iv 1) hx hb dX4_areSame_59 rfl ?_
        refine lv_goto (tgt := 64) hx hb dX4_areSame_60 (by decide) ?_
        exact xr_i G (x := 1) hret hlk (by unfold ir; omega) (zr (by omega)) dX4_areSame_64 ⟨rfl, (by omega)⟩

set_option maxHeartbeats 4000000 in
set_option maxRecDepth 100000 in
theorem c_X4_isTrue (ω : Om) (l : Launch) (μ : M3) (x1 : Int) (x2 : Int) (hx1 : ir x1) (hx2 : ir x2) (hI : IC μ) (hx9 : x2 ≤ 240100) : CtI ω l yX4_isTrue cX4_isTrue 3 .boolean 2 41 [.ref (oP ω 32), .int (iv x1), .int (iv x2)] μ (fun (r : Int) (μ' : M3) => (μ' = μ) ∧ (r = 0 ∨ r = 1)) := by
  refine CtI.go (by decide) (Nat.le_of_ble_eq_true rfl) (fun ρ p e s m below meth c R ls G hR hret hlk hl => ?_)
  have hx := G.1.1
  have hb := G.1.2.1
  have hl : lv_has ls 3 [(0, .ref (oP ω 32)), (1, .int (iv x1)), (2, .int (iv x2))] := hl
  generalize s.drawn = d0 at G ⊢
  have hr_x1 : -2147483648 ≤ x1 ∧ x1 ≤ 2147483647 := hx1
  have hr_x2 : -2147483648 ≤ x2 ∧ x2 ≤ 2147483647 := hx2
  refine lv_aload_n hx hb dX4_isTrue_0 rfl (lv_at hl 0 rfl) ?_
  refine xa_getr G fd_X4 (a := 32) (x := 52) 7 rfl (by decide) rfl (wm 2 151 rfl rfl) ⟨rfl, rfl, rfl⟩ dX4_isTrue_1 rfl (G.sk 40 rfl) (by decide) rfl ?_
  refine xc_iV G (b := 52) (rest := []) (As := []) (c_X2_tongue ω l μ  hI) (wm 5 218 rfl rfl) (wm 5 219 rfl rfl) (wm 5 220 rfl rfl) rfl rfl (by decide) rfl (wm 1 16 rfl rfl) (wm 5 221 rfl rfl) (by decide) hR (by decide) (n := 0) rfl rfl (Nat.le_of_ble_eq_true rfl) hl.1 dX4_isTrue_4 (fun r_2 μ1 ρ d0 H locs hr_r_2 hp G => ?_)
  have hr_r_2 : -2147483648 ≤ r_2 ∧ r_2 ≤ 2147483647 := hr_r_2
  obtain ⟨hsm_3, hp_4⟩ := hp
  have hsm_3 := Eq.symm hsm_3
  subst hsm_3
  refine lv_iconst (v := iv 3) hx hb dX4_isTrue_7 rfl ?_
  refine xb_icmp_ne (tgt := 34) hx hb (by unfold ir; omega) (by unfold ir; omega) dX4_isTrue_8 (by decide) (fun c_8 => ?_) (fun c_8 => ?_)
  · refine lv_iload_n hx hb dX4_isTrue_34 rfl (lv_at hl 1 rfl) ?_
    refine lv_aload_n hx hb dX4_isTrue_35 rfl (lv_at hl 0 rfl) ?_
    refine xa_getr G fd_X4 (a := 32) (x := 33) 3 rfl (by decide) rfl (wm 2 147 rfl rfl) ⟨rfl, rfl, rfl⟩ dX4_isTrue_36 rfl (G.sk 36 rfl) (by decide) rfl ?_
    refine lv_iload_n hx hb dX4_isTrue_39 rfl (lv_at hl 2 rfl) ?_
    refine xc_lV G (b := 33) (rest := [.int (iv x1)]) (As := [.int (iv x2)]) (c_X9_whole ω l μ 33 x2 (by unfold isRow; decide) (by unfold ir; omega) hI) (wm 6 84 rfl rfl) (wm 5 160 rfl rfl) (wm 5 161 rfl rfl) rfl rfl (by decide) rfl (wm 1 10 rfl rfl) (wm 5 162 rfl rfl) (by decide) hR (by decide) (n := 1) rfl rfl (Nat.le_of_ble_eq_true rfl) hl.1 dX4_isTrue_40 (fun r_6 μ5 ρ d0 H locs hr_r_6 hp G => ?_)
    have hsm_7 := hp
    have hsm_7 := Eq.symm hsm_7
    subst hsm_7
    refine lv_aload_n hx hb dX4_isTrue_43 rfl (lv_at hl 0 rfl) ?_
    refine xa_getr G fd_X4 (a := 32) (x := 33) 3 rfl (by decide) rfl (wm 2 147 rfl rfl) ⟨rfl, rfl, rfl⟩ dX4_isTrue_44 rfl (G.sk 36 rfl) (by decide) rfl ?_
    refine lv_iload_n hx hb dX4_isTrue_47 rfl (lv_at hl 2 rfl) ?_
    refine lv_iconst (v := iv 1) hx hb dX4_isTrue_48 rfl ?_
    refine xb_iadd hx hb dX4_isTrue_49 ?_
    refine xc_lV G (b := 33) (rest := [.long (jv r_6), .int (iv x1)]) (As := [.int (iv (x2 + 1))]) (c_X9_whole ω l μ 33 (x2 + 1) (by unfold isRow; decide) (by unfold ir; omega) hI) (wm 6 84 rfl rfl) (wm 5 160 rfl rfl) (wm 5 161 rfl rfl) rfl rfl (by decide) rfl (wm 1 10 rfl rfl) (wm 5 162 rfl rfl) (by decide) hR (by decide) (n := 1) rfl rfl (Nat.le_of_ble_eq_true rfl) hl.1 dX4_isTrue_50 (fun r_9 μ8 ρ d0 H locs hr_r_9 hp G => ?_)
    have hsm_10 := hp
    have hsm_10 := Eq.symm hsm_10
    subst hsm_10
    refine xc_iS G (rest := []) (As := [.int (iv x1), .long (jv r_6), .long (jv r_9)]) (c_X6_compareWholes ω l μ x1 r_6 r_9 (by unfold ir; omega) hr_r_6 hr_r_9) (wm 6 158 rfl rfl) (wm 6 159 rfl rfl) (wm 1 20 rfl rfl) (wm 6 160 rfl rfl) (by decide) hR (by decide) (n := 3) rfl rfl (Nat.le_of_ble_eq_true rfl) hl.1 dX4_isTrue_53 (fun r_12 μ11 ρ d0 H locs hr_r_12 hp G => ?_)
    have hr_r_12 : -2147483648 ≤ r_12 ∧ r_12 ≤ 2147483647 := hr_r_12
    obtain ⟨hsm_13, hp_14⟩ := hp
    have hsm_13 := Eq.symm hsm_13
    subst hsm_13
    exact xr_i G (x := r_12) hret hlk (by unfold ir; omega) (zr (by omega)) dX4_isTrue_56 ⟨rfl, (by omega)⟩
  · refine lv_iload_n hx hb dX4_isTrue_11 rfl (lv_at hl 1 rfl) ?_
    refine lv_aload_n hx hb dX4_isTrue_12 rfl (lv_at hl 0 rfl) ?_
    refine xa_getr G fd_X4 (a := 32) (x := 33) 3 rfl (by decide) rfl (wm 2 147 rfl rfl) ⟨rfl, rfl, rfl⟩ dX4_isTrue_13 rfl (G.sk 36 rfl) (by decide) rfl ?_
    refine lv_iload_n hx hb dX4_isTrue_16 rfl (lv_at hl 2 rfl) ?_
    refine xc_dV G (b := 33) (rest := [.int (iv x1)]) (As := [.int (iv x2)]) (c_X9_real ω l μ 33 x2 (by unfold isRow; decide) (by unfold ir; omega) hI) (wm 6 106 rfl rfl) (wm 5 206 rfl rfl) (wm 5 207 rfl rfl) rfl rfl (by decide) rfl (wm 1 10 rfl rfl) (wm 5 208 rfl rfl) (by decide) hR (by decide) (n := 1) rfl rfl (Nat.le_of_ble_eq_true rfl) hl.1 dX4_isTrue_17 (fun r_16 μ15 ρ d0 H locs hp G => ?_)
    have hsm_17 := hp
    have hsm_17 := Eq.symm hsm_17
    subst hsm_17
    refine lv_aload_n hx hb dX4_isTrue_20 rfl (lv_at hl 0 rfl) ?_
    refine xa_getr G fd_X4 (a := 32) (x := 33) 3 rfl (by decide) rfl (wm 2 147 rfl rfl) ⟨rfl, rfl, rfl⟩ dX4_isTrue_21 rfl (G.sk 36 rfl) (by decide) rfl ?_
    refine lv_iload_n hx hb dX4_isTrue_24 rfl (lv_at hl 2 rfl) ?_
    refine lv_iconst (v := iv 1) hx hb dX4_isTrue_25 rfl ?_
    refine xb_iadd hx hb dX4_isTrue_26 ?_
    refine xc_dV G (b := 33) (rest := [.double (dv r_16), .int (iv x1)]) (As := [.int (iv (x2 + 1))]) (c_X9_real ω l μ 33 (x2 + 1) (by unfold isRow; decide) (by unfold ir; omega) hI) (wm 6 106 rfl rfl) (wm 5 206 rfl rfl) (wm 5 207 rfl rfl) rfl rfl (by decide) rfl (wm 1 10 rfl rfl) (wm 5 208 rfl rfl) (by decide) hR (by decide) (n := 1) rfl rfl (Nat.le_of_ble_eq_true rfl) hl.1 dX4_isTrue_27 (fun r_19 μ18 ρ d0 H locs hp G => ?_)
    have hsm_20 := hp
    have hsm_20 := Eq.symm hsm_20
    subst hsm_20
    refine xc_iS G (rest := []) (As := [.int (iv x1), .double (dv r_16), .double (dv r_19)]) (c_X6_compareReals ω l μ x1 r_16 r_19 (by unfold ir; omega)) (wm 6 155 rfl rfl) (wm 6 156 rfl rfl) (wm 1 20 rfl rfl) (wm 6 157 rfl rfl) (by decide) hR (by decide) (n := 3) rfl rfl (Nat.le_of_ble_eq_true rfl) hl.1 dX4_isTrue_30 (fun r_22 μ21 ρ d0 H locs hr_r_22 hp G => ?_)
    have hr_r_22 : -2147483648 ≤ r_22 ∧ r_22 ≤ 2147483647 := hr_r_22
    obtain ⟨hsm_23, hp_24⟩ := hp
    have hsm_23 := Eq.symm hsm_23
    subst hsm_23
    exact xr_i G (x := r_22) hret hlk (by unfold ir; omega) (zr (by omega)) dX4_isTrue_33 ⟨rfl, (by omega)⟩

set_option maxHeartbeats 4000000 in
set_option maxRecDepth 100000 in
theorem c_X4_reckonWholes (ω : Om) (l : Launch) (μ : M3) (x1 : Int) (x2 : Int) (S : Int) (hx1 : ir x1) (hx2 : ir x2) (hI : IC μ) (hS : S = μ.1 33 3) (hx9 : x2 ≤ 240100) : CtI ω l yX4_reckonWholes cX4_reckonWholes 7 .int 2 67 [.ref (oP ω 32), .int (iv x1), .int (iv x2)] μ (fun (r : Int) (μ' : M3) => (Fr [34, 35, 36] μ μ') ∧ (IC μ') ∧ (μ'.1 33 3 = S)) := by
  refine CtI.go (by decide) (Nat.le_of_ble_eq_true rfl) (fun ρ p e s m below meth c R ls G hR hret hlk hl => ?_)
  have hx := G.1.1
  have hb := G.1.2.1
  have hl : lv_has ls 7 [(0, .ref (oP ω 32)), (1, .int (iv x1)), (2, .int (iv x2))] := hl
  generalize s.drawn = d0 at G ⊢
  have hr_x1 : -2147483648 ≤ x1 ∧ x1 ≤ 2147483647 := hx1
  have hr_x2 : -2147483648 ≤ x2 ∧ x2 ≤ 2147483647 := hx2
  have hk_1 := hI.row (r := 33) (by unfold isRow; decide)
  unfold rk at hk_1
  simp only [Int.reduceAdd] at hk_1
  have hbr_33 : BR 33 = 240100 := rfl
  refine lv_aload_n hx hb dX4_reckonWholes_0 rfl (lv_at hl 0 rfl) ?_
  refine xa_getr G fd_X4 (a := 32) (x := 33) 3 rfl (by decide) rfl (wm 2 147 rfl rfl) ⟨rfl, rfl, rfl⟩ dX4_reckonWholes_1 rfl (G.sk 36 rfl) (by decide) rfl ?_
  refine lv_iload_n hx hb dX4_reckonWholes_4 rfl (lv_at hl 2 rfl) ?_
  refine xc_lV G (b := 33) (rest := []) (As := [.int (iv x2)]) (c_X9_whole ω l μ 33 x2 (by unfold isRow; decide) (by unfold ir; omega) hI) (wm 6 84 rfl rfl) (wm 5 160 rfl rfl) (wm 5 161 rfl rfl) rfl rfl (by decide) rfl (wm 1 10 rfl rfl) (wm 5 162 rfl rfl) (by decide) hR (by decide) (n := 1) rfl rfl (Nat.le_of_ble_eq_true rfl) hl.1 dX4_reckonWholes_5 (fun r_3 μ2 ρ d0 H locs hr_r_3 hp G => ?_)
  have hsm_4 := hp
  have hsm_4 := Eq.symm hsm_4
  subst hsm_4
  refine lv_lstore_n (lv' := [(3, .long (jv r_3)), (0, .ref (oP ω 32)), (1, .int (iv x1)), (2, .int (iv x2))]) hx hb dX4_reckonWholes_8 rfl hl (by decide) rfl (fun ls hl => ?_)
  refine lv_aload_n hx hb dX4_reckonWholes_9 rfl (lv_at hl 1 rfl) ?_
  refine xa_getr G fd_X4 (a := 32) (x := 33) 3 rfl (by decide) rfl (wm 2 147 rfl rfl) ⟨rfl, rfl, rfl⟩ dX4_reckonWholes_10 rfl (G.sk 36 rfl) (by decide) rfl ?_
  refine lv_iload_n hx hb dX4_reckonWholes_13 rfl (lv_at hl 3 rfl) ?_
  refine lv_iconst (v := iv 1) hx hb dX4_reckonWholes_14 rfl ?_
  refine xb_iadd hx hb dX4_reckonWholes_15 ?_
  refine xc_lV G (b := 33) (rest := []) (As := [.int (iv (x2 + 1))]) (c_X9_whole ω l μ 33 (x2 + 1) (by unfold isRow; decide) (by unfold ir; omega) hI) (wm 6 84 rfl rfl) (wm 5 160 rfl rfl) (wm 5 161 rfl rfl) rfl rfl (by decide) rfl (wm 1 10 rfl rfl) (wm 5 162 rfl rfl) (by decide) hR (by decide) (n := 1) rfl rfl (Nat.le_of_ble_eq_true rfl) hl.1 dX4_reckonWholes_16 (fun r_6 μ5 ρ d0 H locs hr_r_6 hp G => ?_)
  have hsm_7 := hp
  have hsm_7 := Eq.symm hsm_7
  subst hsm_7
  refine lv_lstore (lv' := [(5, .long (jv r_6)), (3, .long (jv r_3)), (0, .ref (oP ω 32)), (1, .int (iv x1)), (2, .int (iv x2))]) hx hb dX4_reckonWholes_19 hl (by decide) rfl (fun ls hl => ?_)
  refine lv_lload hx hb dX4_reckonWholes_21 (lv_at hl 0 rfl) ?_
  refine lv_lconst (v := jv 0) hx hb dX4_reckonWholes_23 rfl ?_
  refine xb_lcmp hx hb hr_r_6 (by unfold jr; omega) dX4_reckonWholes_24 ?_
  have hr_8 : -2147483648 ≤ lcm r_6 0 ∧ lcm r_6 0 ≤ 2147483647 := lcm_ir _ _
  refine xb_if_ne (tgt := 42) hx hb (by unfold ir; omega) dX4_reckonWholes_25 (by decide) (fun c_25 => ?_) (fun c_25 => ?_)
  · refine lv_aload_n hx hb dX4_reckonWholes_42 rfl (lv_at hl 2 rfl) ?_
    refine xa_getr G fd_X4 (a := 32) (x := 52) 7 rfl (by decide) rfl (wm 2 151 rfl rfl) ⟨rfl, rfl, rfl⟩ dX4_reckonWholes_43 rfl (G.sk 40 rfl) (by decide) rfl ?_
    refine xc_iV G (b := 52) (rest := []) (As := []) (c_X2_tongue ω l μ  hI) (wm 5 218 rfl rfl) (wm 5 219 rfl rfl) (wm 5 220 rfl rfl) rfl rfl (by decide) rfl (wm 1 16 rfl rfl) (wm 5 221 rfl rfl) (by decide) hR (by decide) (n := 0) rfl rfl (Nat.le_of_ble_eq_true rfl) hl.1 dX4_reckonWholes_46 (fun r_10 μ9 ρ d0 H locs hr_r_10 hp G => ?_)
    have hr_r_10 : -2147483648 ≤ r_10 ∧ r_10 ≤ 2147483647 := hr_r_10
    obtain ⟨hsm_11, hp_12⟩ := hp
    have hsm_11 := Eq.symm hsm_11
    subst hsm_11
    refine lv_iload_n hx hb dX4_reckonWholes_49 rfl (lv_at hl 3 rfl) ?_
    refine lv_lload_n hx hb dX4_reckonWholes_50 rfl (lv_at hl 1 rfl) ?_
    refine lv_lload hx hb dX4_reckonWholes_51 (lv_at hl 0 rfl) ?_
    refine xc_iS G (rest := []) (As := [.int (iv r_10), .int (iv x1), .long (jv r_3), .long (jv r_6)]) (c_X6_traps ω l μ r_10 x1 r_3 r_6 (by unfold ir; omega) (by unfold ir; omega) hr_r_3 hr_r_6) (wm 6 182 rfl rfl) (wm 6 183 rfl rfl) (wm 1 20 rfl rfl) (wm 6 184 rfl rfl) (by decide) hR (by decide) (n := 4) rfl rfl (Nat.le_of_ble_eq_true rfl) hl.1 dX4_reckonWholes_53 (fun r_14 μ13 ρ d0 H locs hr_r_14 hp G => ?_)
    have hr_r_14 : -2147483648 ≤ r_14 ∧ r_14 ≤ 2147483647 := hr_r_14
    obtain ⟨hsm_15, hp_16⟩ := hp
    have hsm_15 := Eq.symm hsm_15
    subst hsm_15
    refine xb_if_eq (tgt := 62) hx hb (by unfold ir; omega) dX4_reckonWholes_56 (by decide) (fun c_56 => ?_) (fun c_56 => ?_)
    · refine lv_aload_n hx hb dX4_reckonWholes_62 rfl (lv_at hl 2 rfl) ?_
      refine xa_getr G fd_X4 (a := 32) (x := 33) 3 rfl (by decide) rfl (wm 2 147 rfl rfl) ⟨rfl, rfl, rfl⟩ dX4_reckonWholes_63 rfl (G.sk 36 rfl) (by decide) rfl ?_
      refine lv_iload_n hx hb dX4_reckonWholes_66 rfl (lv_at hl 4 rfl) ?_
      refine lv_iconst (v := iv 1) hx hb dX4_reckonWholes_67 rfl ?_
      refine lv_iload_n hx hb dX4_reckonWholes_68 rfl (lv_at hl 3 rfl) ?_
      refine lv_lload_n hx hb dX4_reckonWholes_69 rfl (lv_at hl 1 rfl) ?_
      refine lv_lload hx hb dX4_reckonWholes_70 (lv_at hl 0 rfl) ?_
      refine xc_lS G (rest := [.int (iv 1), .int (iv x2), .ref (oP ω 33)]) (As := [.int (iv x1), .long (jv r_3), .long (jv r_6)]) (c_X6_ofWholes ω l μ x1 r_3 r_6 (by unfold ir; omega) hr_r_3 hr_r_6) (wm 6 191 rfl rfl) (wm 6 189 rfl rfl) (wm 1 20 rfl rfl) (wm 6 190 rfl rfl) (by decide) hR (by decide) (n := 3) rfl rfl (Nat.le_of_ble_eq_true rfl) hl.1 dX4_reckonWholes_72 (fun r_18 μ17 ρ d0 H locs hr_r_18 hp G => ?_)
      have hsm_19 := hp
      have hsm_19 := Eq.symm hsm_19
      subst hsm_19
      refine lv_dconst0 hx hb dX4_reckonWholes_75 ?_
      refine xb_topd (fun dd_20 he_dd_20 => ?_)
      refine xc_vV G (b := 33) (rest := []) (As := [.int (iv x2), .int (iv 1), .long (jv r_18), .double (dv dd_20)]) (c_X9_set ω l μ 33 x2 1 r_18 dd_20 (by unfold isRow; decide) (by unfold ir; omega) (by unfold ir; omega) hr_r_18 hI) (wm 6 60 rfl rfl) (wm 4 77 rfl rfl) (wm 4 78 rfl rfl) rfl rfl (by decide) rfl (wm 1 10 rfl rfl) (wm 4 79 rfl rfl) (by decide) hR (by decide) (n := 4) rfl rfl (Nat.le_of_ble_eq_true rfl) hl.1 dX4_reckonWholes_76 (fun μ21 ρ d0 H locs hp G => ?_)
      obtain ⟨F_22, hI_23, hp_24⟩ := hp
      refine lv_iconst (v := iv 0) hx hb dX4_reckonWholes_79 rfl ?_
      have e_25 : μ21.1 33 3 = S := ((F_22.1 33 (by decide) 3).trans hS.symm)
      exact xr_i G (x := 0) hret hlk (by unfold ir; omega) rfl dX4_reckonWholes_80 ⟨(Fr.tr Fr.rf F_22 (by decide)), hI_23, (by omega)⟩
    · refine lv_bipush (v := iv 7) hx hb dX4_reckonWholes_59 rfl ?_
      have e_26 : μ.1 33 3 = S := hS.symm
      exact xr_i G (x := 7) hret hlk (by unfold ir; omega) rfl dX4_reckonWholes_61 ⟨Fr.rf, hI, (by omega)⟩
  · refine lv_iload_n hx hb dX4_reckonWholes_28 rfl (lv_at hl 3 rfl) ?_
    refine lv_bipush (v := iv 47) hx hb dX4_reckonWholes_29 rfl ?_
    refine xb_icmp_eq (tgt := 40) hx hb (by unfold ir; omega) (by unfold ir; omega) dX4_reckonWholes_31 (by decide) (fun c_31 => ?_) (fun c_31 => ?_)
    · refine lv_iconst (v := iv 1) hx hb dX4_reckonWholes_40 rfl ?_
      have e_27 : μ.1 33 3 = S := hS.symm
      exact xr_i G (x := 1) hret hlk (by unfold ir; omega) rfl dX4_reckonWholes_41 ⟨Fr.rf, hI, (by omega)⟩
    · refine lv_iload_n hx hb dX4_reckonWholes_34 rfl (lv_at hl 3 rfl) ?_
      refine lv_bipush (v := iv 37) hx hb dX4_reckonWholes_35 rfl ?_
      refine xb_icmp_ne (tgt := 42) hx hb (by unfold ir; omega) (by unfold ir; omega) dX4_reckonWholes_37 (by decide) (fun c_37 => ?_) (fun c_37 => ?_)
      · refine lv_aload_n hx hb dX4_reckonWholes_42 rfl (lv_at hl 2 rfl) ?_
        refine xa_getr G fd_X4 (a := 32) (x := 52) 7 rfl (by decide) rfl (wm 2 151 rfl rfl) ⟨rfl, rfl, rfl⟩ dX4_reckonWholes_43 rfl (G.sk 40 rfl) (by decide) rfl ?_
        refine xc_iV G (b := 52) (rest := []) (As := []) (c_X2_tongue ω l μ  hI) (wm 5 218 rfl rfl) (wm 5 219 rfl rfl) (wm 5 220 rfl rfl) rfl rfl (by decide) rfl (wm 1 16 rfl rfl) (wm 5 221 rfl rfl) (by decide) hR (by decide) (n := 0) rfl rfl (Nat.le_of_ble_eq_true rfl) hl.1 dX4_reckonWholes_46 (fun r_29 μ28 ρ d0 H locs hr_r_29 hp G => ?_)
        have hr_r_29 : -2147483648 ≤ r_29 ∧ r_29 ≤ 2147483647 := hr_r_29
        obtain ⟨hsm_30, hp_31⟩ := hp
        have hsm_30 := Eq.symm hsm_30
        subst hsm_30
        refine lv_iload_n hx hb dX4_reckonWholes_49 rfl (lv_at hl 3 rfl) ?_
        refine lv_lload_n hx hb dX4_reckonWholes_50 rfl (lv_at hl 1 rfl) ?_
        refine lv_lload hx hb dX4_reckonWholes_51 (lv_at hl 0 rfl) ?_
        refine xc_iS G (rest := []) (As := [.int (iv r_29), .int (iv x1), .long (jv r_3), .long (jv r_6)]) (c_X6_traps ω l μ r_29 x1 r_3 r_6 (by unfold ir; omega) (by unfold ir; omega) hr_r_3 hr_r_6) (wm 6 182 rfl rfl) (wm 6 183 rfl rfl) (wm 1 20 rfl rfl) (wm 6 184 rfl rfl) (by decide) hR (by decide) (n := 4) rfl rfl (Nat.le_of_ble_eq_true rfl) hl.1 dX4_reckonWholes_53 (fun r_33 μ32 ρ d0 H locs hr_r_33 hp G => ?_)
        have hr_r_33 : -2147483648 ≤ r_33 ∧ r_33 ≤ 2147483647 := hr_r_33
        obtain ⟨hsm_34, hp_35⟩ := hp
        have hsm_34 := Eq.symm hsm_34
        subst hsm_34
        refine xb_if_eq (tgt := 62) hx hb (by unfold ir; omega) dX4_reckonWholes_56 (by decide) (fun c_56 => ?_) (fun c_56 => ?_)
        · refine lv_aload_n hx hb dX4_reckonWholes_62 rfl (lv_at hl 2 rfl) ?_
          refine xa_getr G fd_X4 (a := 32) (x := 33) 3 rfl (by decide) rfl (wm 2 147 rfl rfl) ⟨rfl, rfl, rfl⟩ dX4_reckonWholes_63 rfl (G.sk 36 rfl) (by decide) rfl ?_
          refine lv_iload_n hx hb dX4_reckonWholes_66 rfl (lv_at hl 4 rfl) ?_
          refine lv_iconst (v := iv 1) hx hb dX4_reckonWholes_67 rfl ?_
          refine lv_iload_n hx hb dX4_reckonWholes_68 rfl (lv_at hl 3 rfl) ?_
          refine lv_lload_n hx hb dX4_reckonWholes_69 rfl (lv_at hl 1 rfl) ?_
          refine lv_lload hx hb dX4_reckonWholes_70 (lv_at hl 0 rfl) ?_
          refine xc_lS G (rest := [.int (iv 1), .int (iv x2), .ref (oP ω 33)]) (As := [.int (iv x1), .long (jv r_3), .long (jv r_6)]) (c_X6_ofWholes ω l μ x1 r_3 r_6 (by unfold ir; omega) hr_r_3 hr_r_6) (wm 6 191 rfl rfl) (wm 6 189 rfl rfl) (wm 1 20 rfl rfl) (wm 6 190 rfl rfl) (by decide) hR (by decide) (n := 3) rfl rfl (Nat.le_of_ble_eq_true rfl) hl.1 dX4_reckonWholes_72 (fun r_37 μ36 ρ d0 H locs hr_r_37 hp G => ?_)
          have hsm_38 := hp
          have hsm_38 := Eq.symm hsm_38
          subst hsm_38
          refine lv_dconst0 hx hb dX4_reckonWholes_75 ?_
          refine xb_topd (fun dd_39 he_dd_39 => ?_)
          refine xc_vV G (b := 33) (rest := []) (As := [.int (iv x2), .int (iv 1), .long (jv r_37), .double (dv dd_39)]) (c_X9_set ω l μ 33 x2 1 r_37 dd_39 (by unfold isRow; decide) (by unfold ir; omega) (by unfold ir; omega) hr_r_37 hI) (wm 6 60 rfl rfl) (wm 4 77 rfl rfl) (wm 4 78 rfl rfl) rfl rfl (by decide) rfl (wm 1 10 rfl rfl) (wm 4 79 rfl rfl) (by decide) hR (by decide) (n := 4) rfl rfl (Nat.le_of_ble_eq_true rfl) hl.1 dX4_reckonWholes_76 (fun μ40 ρ d0 H locs hp G => ?_)
          obtain ⟨F_41, hI_42, hp_43⟩ := hp
          refine lv_iconst (v := iv 0) hx hb dX4_reckonWholes_79 rfl ?_
          have e_44 : μ40.1 33 3 = S := ((F_41.1 33 (by decide) 3).trans hS.symm)
          exact xr_i G (x := 0) hret hlk (by unfold ir; omega) rfl dX4_reckonWholes_80 ⟨(Fr.tr Fr.rf F_41 (by decide)), hI_42, (by omega)⟩
        · refine lv_bipush (v := iv 7) hx hb dX4_reckonWholes_59 rfl ?_
          have e_45 : μ.1 33 3 = S := hS.symm
          exact xr_i G (x := 7) hret hlk (by unfold ir; omega) rfl dX4_reckonWholes_61 ⟨Fr.rf, hI, (by omega)⟩
      · refine lv_iconst (v := iv 1) hx hb dX4_reckonWholes_40 rfl ?_
        have e_46 : μ.1 33 3 = S := hS.symm
        exact xr_i G (x := 1) hret hlk (by unfold ir; omega) rfl dX4_reckonWholes_41 ⟨Fr.rf, hI, (by omega)⟩

set_option maxHeartbeats 4000000 in
set_option maxRecDepth 100000 in
theorem c_X4_reckonReals (ω : Om) (l : Launch) (μ : M3) (x1 : Int) (x2 : Int) (S : Int) (hx1 : ir x1) (hx2 : ir x2) (hI : IC μ) (hS : S = μ.1 33 3) (hx9 : x2 ≤ 240100) : CtI ω l yX4_reckonReals cX4_reckonReals 7 .int 3 72 [.ref (oP ω 32), .int (iv x1), .int (iv x2)] μ (fun (r : Int) (μ' : M3) => (Fr [34, 35, 36] μ μ') ∧ (IC μ') ∧ (μ'.1 33 3 = S)) := by
  refine CtI.go (by decide) (Nat.le_of_ble_eq_true rfl) (fun ρ p e s m below meth c R ls G hR hret hlk hl => ?_)
  have hx := G.1.1
  have hb := G.1.2.1
  have hl : lv_has ls 7 [(0, .ref (oP ω 32)), (1, .int (iv x1)), (2, .int (iv x2))] := hl
  generalize s.drawn = d0 at G ⊢
  have hr_x1 : -2147483648 ≤ x1 ∧ x1 ≤ 2147483647 := hx1
  have hr_x2 : -2147483648 ≤ x2 ∧ x2 ≤ 2147483647 := hx2
  have hk_1 := hI.row (r := 33) (by unfold isRow; decide)
  unfold rk at hk_1
  simp only [Int.reduceAdd] at hk_1
  have hbr_33 : BR 33 = 240100 := rfl
  refine lv_aload_n hx hb dX4_reckonReals_0 rfl (lv_at hl 0 rfl) ?_
  refine xa_getr G fd_X4 (a := 32) (x := 33) 3 rfl (by decide) rfl (wm 2 147 rfl rfl) ⟨rfl, rfl, rfl⟩ dX4_reckonReals_1 rfl (G.sk 36 rfl) (by decide) rfl ?_
  refine lv_iload_n hx hb dX4_reckonReals_4 rfl (lv_at hl 2 rfl) ?_
  refine lv_iconst (v := iv 1) hx hb dX4_reckonReals_5 rfl ?_
  refine xb_iadd hx hb dX4_reckonReals_6 ?_
  refine xc_dV G (b := 33) (rest := []) (As := [.int (iv (x2 + 1))]) (c_X9_real ω l μ 33 (x2 + 1) (by unfold isRow; decide) (by unfold ir; omega) hI) (wm 6 106 rfl rfl) (wm 5 206 rfl rfl) (wm 5 207 rfl rfl) rfl rfl (by decide) rfl (wm 1 10 rfl rfl) (wm 5 208 rfl rfl) (by decide) hR (by decide) (n := 1) rfl rfl (Nat.le_of_ble_eq_true rfl) hl.1 dX4_reckonReals_7 (fun r_3 μ2 ρ d0 H locs hp G => ?_)
  have hsm_4 := hp
  have hsm_4 := Eq.symm hsm_4
  subst hsm_4
  refine lv_dstore_n (lv' := [(3, .double (dv r_3)), (0, .ref (oP ω 32)), (1, .int (iv x1)), (2, .int (iv x2))]) hx hb dX4_reckonReals_10 rfl hl (by decide) rfl (fun ls hl => ?_)
  refine lv_dload_n hx hb dX4_reckonReals_11 rfl (lv_at hl 0 rfl) ?_
  refine lv_dconst0 hx hb dX4_reckonReals_12 ?_
  refine xb_topd (fun dd_5 he_dd_5 => ?_)
  refine lv_dcmp hx hb dX4_reckonReals_13 ?_
  refine xb_topi (fun y_6 hr_y_6 he_y_6 => ?_)
  have hr_y_6 : -2147483648 ≤ y_6 ∧ y_6 ≤ 2147483647 := hr_y_6
  refine xb_if_ne (tgt := 31) hx hb (by unfold ir; omega) dX4_reckonReals_14 (by decide) (fun c_14 => ?_) (fun c_14 => ?_)
  · refine lv_iload_n hx hb dX4_reckonReals_31 rfl (lv_at hl 2 rfl) ?_
    refine lv_aload_n hx hb dX4_reckonReals_32 rfl (lv_at hl 1 rfl) ?_
    refine xa_getr G fd_X4 (a := 32) (x := 33) 3 rfl (by decide) rfl (wm 2 147 rfl rfl) ⟨rfl, rfl, rfl⟩ dX4_reckonReals_33 rfl (G.sk 36 rfl) (by decide) rfl ?_
    refine lv_iload_n hx hb dX4_reckonReals_36 rfl (lv_at hl 3 rfl) ?_
    refine xc_dV G (b := 33) (rest := [.int (iv x1)]) (As := [.int (iv x2)]) (c_X9_real ω l μ 33 x2 (by unfold isRow; decide) (by unfold ir; omega) hI) (wm 6 106 rfl rfl) (wm 5 206 rfl rfl) (wm 5 207 rfl rfl) rfl rfl (by decide) rfl (wm 1 10 rfl rfl) (wm 5 208 rfl rfl) (by decide) hR (by decide) (n := 1) rfl rfl (Nat.le_of_ble_eq_true rfl) hl.1 dX4_reckonReals_37 (fun r_8 μ7 ρ d0 H locs hp G => ?_)
    have hsm_9 := hp
    have hsm_9 := Eq.symm hsm_9
    subst hsm_9
    refine lv_dload_n hx hb dX4_reckonReals_40 rfl (lv_at hl 0 rfl) ?_
    refine xc_dS G (rest := []) (As := [.int (iv x1), .double (dv r_8), .double (dv r_3)]) (c_X6_ofReals ω l μ x1 r_8 r_3 (by unfold ir; omega)) (wm 6 165 rfl rfl) (wm 6 166 rfl rfl) (wm 1 20 rfl rfl) (wm 6 167 rfl rfl) (by decide) hR (by decide) (n := 3) rfl rfl (Nat.le_of_ble_eq_true rfl) hl.1 dX4_reckonReals_41 (fun r_11 μ10 ρ d0 H locs hp G => ?_)
    have hsm_12 := hp
    have hsm_12 := Eq.symm hsm_12
    subst hsm_12
    refine lv_dstore (lv' := [(5, .double (dv r_11)), (3, .double (dv r_3)), (0, .ref (oP ω 32)), (1, .int (iv x1)), (2, .int (iv x2))]) hx hb dX4_reckonReals_44 hl (by decide) rfl (fun ls hl => ?_)
    refine lv_dload hx hb dX4_reckonReals_46 (lv_at hl 0 rfl) ?_
    refine xc_iS G (rest := []) (As := [.double (dv r_11)]) (c_X6_isFinite ω l μ r_11 ) (wm 6 175 rfl rfl) (wm 6 176 rfl rfl) (wm 1 20 rfl rfl) (wm 6 177 rfl rfl) (by decide) hR (by decide) (n := 1) rfl rfl (Nat.le_of_ble_eq_true rfl) hl.1 dX4_reckonReals_48 (fun r_14 μ13 ρ d0 H locs hr_r_14 hp G => ?_)
    have hr_r_14 : -2147483648 ≤ r_14 ∧ r_14 ≤ 2147483647 := hr_r_14
    obtain ⟨hsm_15, hp_16⟩ := hp
    have hsm_15 := Eq.symm hsm_15
    subst hsm_15
    refine xb_if_ne (tgt := 57) hx hb (by unfold ir; omega) dX4_reckonReals_51 (by decide) (fun c_51 => ?_) (fun c_51 => ?_)
    · refine lv_aload_n hx hb dX4_reckonReals_57 rfl (lv_at hl 2 rfl) ?_
      refine xa_getr G fd_X4 (a := 32) (x := 33) 3 rfl (by decide) rfl (wm 2 147 rfl rfl) ⟨rfl, rfl, rfl⟩ dX4_reckonReals_58 rfl (G.sk 36 rfl) (by decide) rfl ?_
      refine lv_iload_n hx hb dX4_reckonReals_61 rfl (lv_at hl 4 rfl) ?_
      refine lv_iconst (v := iv 1) hx hb dX4_reckonReals_62 rfl ?_
      refine lv_lconst (v := jv 0) hx hb dX4_reckonReals_63 rfl ?_
      refine lv_dload hx hb dX4_reckonReals_64 (lv_at hl 0 rfl) ?_
      refine xc_vV G (b := 33) (rest := []) (As := [.int (iv x2), .int (iv 1), .long (jv 0), .double (dv r_11)]) (c_X9_set ω l μ 33 x2 1 0 r_11 (by unfold isRow; decide) (by unfold ir; omega) (by unfold ir; omega) (by unfold jr; omega) hI) (wm 6 60 rfl rfl) (wm 4 77 rfl rfl) (wm 4 78 rfl rfl) rfl rfl (by decide) rfl (wm 1 10 rfl rfl) (wm 4 79 rfl rfl) (by decide) hR (by decide) (n := 4) rfl rfl (Nat.le_of_ble_eq_true rfl) hl.1 dX4_reckonReals_66 (fun μ17 ρ d0 H locs hp G => ?_)
      obtain ⟨F_18, hI_19, hp_20⟩ := hp
      refine lv_iconst (v := iv 0) hx hb dX4_reckonReals_69 rfl ?_
      have e_21 : μ17.1 33 3 = S := ((F_18.1 33 (by decide) 3).trans hS.symm)
      exact xr_i G (x := 0) hret hlk (by unfold ir; omega) rfl dX4_reckonReals_70 ⟨(Fr.tr Fr.rf F_18 (by decide)), hI_19, (by omega)⟩
    · refine lv_bipush (v := iv 7) hx hb dX4_reckonReals_54 rfl ?_
      have e_22 : μ.1 33 3 = S := hS.symm
      exact xr_i G (x := 7) hret hlk (by unfold ir; omega) rfl dX4_reckonReals_56 ⟨Fr.rf, hI, (by omega)⟩
  · refine lv_iload_n hx hb dX4_reckonReals_17 rfl (lv_at hl 2 rfl) ?_
    refine lv_bipush (v := iv 47) hx hb dX4_reckonReals_18 rfl ?_
    refine xb_icmp_eq (tgt := 29) hx hb (by unfold ir; omega) (by unfold ir; omega) dX4_reckonReals_20 (by decide) (fun c_20 => ?_) (fun c_20 => ?_)
    · refine lv_iconst (v := iv 1) hx hb dX4_reckonReals_29 rfl ?_
      have e_23 : μ.1 33 3 = S := hS.symm
      exact xr_i G (x := 1) hret hlk (by unfold ir; omega) rfl dX4_reckonReals_30 ⟨Fr.rf, hI, (by omega)⟩
    · refine lv_iload_n hx hb dX4_reckonReals_23 rfl (lv_at hl 2 rfl) ?_
      refine lv_bipush (v := iv 37) hx hb dX4_reckonReals_24 rfl ?_
      refine xb_icmp_ne (tgt := 31) hx hb (by unfold ir; omega) (by unfold ir; omega) dX4_reckonReals_26 (by decide) (fun c_26 => ?_) (fun c_26 => ?_)
      · refine lv_iload_n hx hb dX4_reckonReals_31 rfl (lv_at hl 2 rfl) ?_
        refine lv_aload_n hx hb dX4_reckonReals_32 rfl (lv_at hl 1 rfl) ?_
        refine xa_getr G fd_X4 (a := 32) (x := 33) 3 rfl (by decide) rfl (wm 2 147 rfl rfl) ⟨rfl, rfl, rfl⟩ dX4_reckonReals_33 rfl (G.sk 36 rfl) (by decide) rfl ?_
        refine lv_iload_n hx hb dX4_reckonReals_36 rfl (lv_at hl 3 rfl) ?_
        refine xc_dV G (b := 33) (rest := [.int (iv x1)]) (As := [.int (iv x2)]) (c_X9_real ω l μ 33 x2 (by unfold isRow; decide) (by unfold ir; omega) hI) (wm 6 106 rfl rfl) (wm 5 206 rfl rfl) (wm 5 207 rfl rfl) rfl rfl (by decide) rfl (wm 1 10 rfl rfl) (wm 5 208 rfl rfl) (by decide) hR (by decide) (n := 1) rfl rfl (Nat.le_of_ble_eq_true rfl) hl.1 dX4_reckonReals_37 (fun r_25 μ24 ρ d0 H locs hp G => ?_)
        have hsm_26 := hp
        have hsm_26 := Eq.symm hsm_26
        subst hsm_26
        refine lv_dload_n hx hb dX4_reckonReals_40 rfl (lv_at hl 0 rfl) ?_
        refine xc_dS G (rest := []) (As := [.int (iv x1), .double (dv r_25), .double (dv r_3)]) (c_X6_ofReals ω l μ x1 r_25 r_3 (by unfold ir; omega)) (wm 6 165 rfl rfl) (wm 6 166 rfl rfl) (wm 1 20 rfl rfl) (wm 6 167 rfl rfl) (by decide) hR (by decide) (n := 3) rfl rfl (Nat.le_of_ble_eq_true rfl) hl.1 dX4_reckonReals_41 (fun r_28 μ27 ρ d0 H locs hp G => ?_)
        have hsm_29 := hp
        have hsm_29 := Eq.symm hsm_29
        subst hsm_29
        refine lv_dstore (lv' := [(5, .double (dv r_28)), (3, .double (dv r_3)), (0, .ref (oP ω 32)), (1, .int (iv x1)), (2, .int (iv x2))]) hx hb dX4_reckonReals_44 hl (by decide) rfl (fun ls hl => ?_)
        refine lv_dload hx hb dX4_reckonReals_46 (lv_at hl 0 rfl) ?_
        refine xc_iS G (rest := []) (As := [.double (dv r_28)]) (c_X6_isFinite ω l μ r_28 ) (wm 6 175 rfl rfl) (wm 6 176 rfl rfl) (wm 1 20 rfl rfl) (wm 6 177 rfl rfl) (by decide) hR (by decide) (n := 1) rfl rfl (Nat.le_of_ble_eq_true rfl) hl.1 dX4_reckonReals_48 (fun r_31 μ30 ρ d0 H locs hr_r_31 hp G => ?_)
        have hr_r_31 : -2147483648 ≤ r_31 ∧ r_31 ≤ 2147483647 := hr_r_31
        obtain ⟨hsm_32, hp_33⟩ := hp
        have hsm_32 := Eq.symm hsm_32
        subst hsm_32
        refine xb_if_ne (tgt := 57) hx hb (by unfold ir; omega) dX4_reckonReals_51 (by decide) (fun c_51 => ?_) (fun c_51 => ?_)
        · refine lv_aload_n hx hb dX4_reckonReals_57 rfl (lv_at hl 2 rfl) ?_
          refine xa_getr G fd_X4 (a := 32) (x := 33) 3 rfl (by decide) rfl (wm 2 147 rfl rfl) ⟨rfl, rfl, rfl⟩ dX4_reckonReals_58 rfl (G.sk 36 rfl) (by decide) rfl ?_
          refine lv_iload_n hx hb dX4_reckonReals_61 rfl (lv_at hl 4 rfl) ?_
          refine lv_iconst (v := iv 1) hx hb dX4_reckonReals_62 rfl ?_
          refine lv_lconst (v := jv 0) hx hb dX4_reckonReals_63 rfl ?_
          refine lv_dload hx hb dX4_reckonReals_64 (lv_at hl 0 rfl) ?_
          refine xc_vV G (b := 33) (rest := []) (As := [.int (iv x2), .int (iv 1), .long (jv 0), .double (dv r_28)]) (c_X9_set ω l μ 33 x2 1 0 r_28 (by unfold isRow; decide) (by unfold ir; omega) (by unfold ir; omega) (by unfold jr; omega) hI) (wm 6 60 rfl rfl) (wm 4 77 rfl rfl) (wm 4 78 rfl rfl) rfl rfl (by decide) rfl (wm 1 10 rfl rfl) (wm 4 79 rfl rfl) (by decide) hR (by decide) (n := 4) rfl rfl (Nat.le_of_ble_eq_true rfl) hl.1 dX4_reckonReals_66 (fun μ34 ρ d0 H locs hp G => ?_)
          obtain ⟨F_35, hI_36, hp_37⟩ := hp
          refine lv_iconst (v := iv 0) hx hb dX4_reckonReals_69 rfl ?_
          have e_38 : μ34.1 33 3 = S := ((F_35.1 33 (by decide) 3).trans hS.symm)
          exact xr_i G (x := 0) hret hlk (by unfold ir; omega) rfl dX4_reckonReals_70 ⟨(Fr.tr Fr.rf F_35 (by decide)), hI_36, (by omega)⟩
        · refine lv_bipush (v := iv 7) hx hb dX4_reckonReals_54 rfl ?_
          have e_39 : μ.1 33 3 = S := hS.symm
          exact xr_i G (x := 7) hret hlk (by unfold ir; omega) rfl dX4_reckonReals_56 ⟨Fr.rf, hI, (by omega)⟩
      · refine lv_iconst (v := iv 1) hx hb dX4_reckonReals_29 rfl ?_
        have e_40 : μ.1 33 3 = S := hS.symm
        exact xr_i G (x := 1) hret hlk (by unfold ir; omega) rfl dX4_reckonReals_30 ⟨Fr.rf, hI, (by omega)⟩

set_option maxHeartbeats 4000000 in
set_option maxRecDepth 100000 in
theorem c_X4_negate (ω : Om) (l : Launch) (μ : M3) (S : Int) (hI : IC μ) (hS : S = μ.1 33 3) (hSb : S < 240099) (hst : 0 ≤ μ.1 70 2 ∧ μ.1 70 2 ≤ 5000 ∧ 0 ≤ μ.1 70 8 ∧ μ.1 70 8 ≤ 80000 ∧ μ.1 45 1 ≤ μ.1 70 2) (h0s : μ.1 32 13 = 0) : CtV ω l yX4_negate cX4_negate 3 6 194 [.ref (oP ω 32)] μ (fun (μ' : M3) => (Fr [70, 32, 34, 35, 36, 33, 45, 46, 47, 48, 49, 50] μ μ') ∧ (IC μ') ∧ ((μ'.1 33 3 ≤ max S 1 ∧ μ'.1 32 13 = 0) ∨ (μ'.1 33 3 ≤ S + 1 ∧ (μ'.1 32 13 = 1 ∨ μ'.1 32 13 = 3 ∨ μ'.1 32 13 = 4))) ∧ (μ.1 70 2 ≤ μ'.1 70 2 ∧ μ'.1 70 2 ≤ 5000 ∧ 0 ≤ μ'.1 70 8 ∧ μ'.1 70 8 ≤ 80000 ∧ μ'.1 45 1 ≤ μ'.1 70 2) ∧ (μ'.1 70 1 = μ.1 70 1) ∧ (μ'.1 70 3 = μ.1 70 3) ∧ (μ'.1 70 4 = μ.1 70 4) ∧ (μ'.1 70 5 = μ.1 70 5) ∧ (μ'.1 70 6 = μ.1 70 6) ∧ (μ'.1 70 7 = μ.1 70 7) ∧ (μ'.1 32 10 = μ.1 32 10) ∧ (μ'.1 32 11 = μ.1 32 11) ∧ (μ'.1 32 12 = μ.1 32 12) ∧ (μ'.1 32 15 = μ.1 32 15) ∧ (μ'.1 32 16 = μ.1 32 16) ∧ (μ'.1 45 4 = μ.1 45 4)) := by
  refine CtV.go (by decide) (Nat.le_of_ble_eq_true rfl) (fun ρ p e s m below meth c R ls G hR hret hlk hl => ?_)
  have hx := G.1.1
  have hb := G.1.2.1
  have hl : lv_has ls 3 [(0, .ref (oP ω 32))] := hl
  generalize s.drawn = d0 at G ⊢
  have hk_1 := hI.row (r := 33) (by unfold isRow; decide)
  unfold rk at hk_1
  simp only [Int.reduceAdd] at hk_1
  have hbr_33 : BR 33 = 240100 := rfl
  refine lv_aload_n hx hb dX4_negate_0 rfl (lv_at hl 0 rfl) ?_
  have hn_2 : 0 ≤ μ.1 45 1 ∧ 9 * μ.1 45 1 ≤ μ.2.1 46 := hI.nm.2.2.2.2.2.2.1
  refine xc_iV G (b := 32) (rest := []) (As := []) (c_X4_step ω l μ  hI (by omega)) (wm 6 2 rfl rfl) (wm 6 4 rfl rfl) (wm 0 75 rfl rfl) rfl rfl (by decide) rfl (wm 1 14 rfl rfl) (wm 6 5 rfl rfl) (by decide) hR (by decide) (n := 0) rfl rfl (Nat.le_of_ble_eq_true rfl) hl.1 dX4_negate_1 (fun r_4 μ3 ρ d0 H locs hr_r_4 hp G => ?_)
  have hr_r_4 : -2147483648 ≤ r_4 ∧ r_4 ≤ 2147483647 := hr_r_4
  obtain ⟨F_5, hI_6, hp_7, hs_8, hs_9, hs_10, hs_11, hs_12, hs_13, hs_14, hs_15, hs_16, hs_17, hs_18, hs_19, hs_20⟩ := hp
  refine xb_if_ne (tgt := 8) hx hb (by unfold ir; omega) dX4_negate_4 (by decide) (fun c_4 => ?_) (fun c_4 => ?_)
  · refine lv_aload_n hx hb dX4_negate_8 rfl (lv_at hl 0 rfl) ?_
    refine xa_getr G fd_X4 (a := 32) (x := 33) 3 rfl (by decide) rfl (wm 2 147 rfl rfl) ⟨rfl, rfl, rfl⟩ dX4_negate_9 rfl (G.sk 36 rfl) (by decide) rfl ?_
    refine xc_iV G (b := 33) (rest := []) (As := []) (c_X9_kindOfTop ω l μ3 33 (by unfold isRow; decide) hI_6) (wm 6 83 rfl rfl) (wm 5 152 rfl rfl) (wm 5 153 rfl rfl) rfl rfl (by decide) rfl (wm 1 10 rfl rfl) (wm 5 154 rfl rfl) (by decide) hR (by decide) (n := 0) rfl rfl (Nat.le_of_ble_eq_true rfl) hl.1 dX4_negate_12 (fun r_22 μ21 ρ d0 H locs hr_r_22 hp G => ?_)
    have hr_r_22 : -2147483648 ≤ r_22 ∧ r_22 ≤ 2147483647 := hr_r_22
    have hsm_23 := hp
    have hsm_23 := Eq.symm hsm_23
    subst hsm_23
    refine lv_iconst (v := iv 1) hx hb dX4_negate_15 rfl ?_
    refine xb_icmp_eq (tgt := 26) hx hb (by unfold ir; omega) (by unfold ir; omega) dX4_negate_16 (by decide) (fun c_16 => ?_) (fun c_16 => ?_)
    · refine lv_aload_n hx hb dX4_negate_26 rfl (lv_at hl 0 rfl) ?_
      refine xa_getr G fd_X4 (a := 32) (x := 33) 3 rfl (by decide) rfl (wm 2 147 rfl rfl) ⟨rfl, rfl, rfl⟩ dX4_negate_27 rfl (G.sk 36 rfl) (by decide) rfl ?_
      refine lv_aload_n hx hb dX4_negate_30 rfl (lv_at hl 0 rfl) ?_
      have e_24 : μ3.1 33 3 = S := ((F_5.1 33 (by decide) 3).trans hS.symm)
      refine xc_iV G (b := 32) (rest := [.ref (oP ω 33)]) (As := []) (c_X4_top ω l μ3 S hI_6 (by omega)) (wm 6 73 rfl rfl) (wm 6 75 rfl rfl) (wm 0 80 rfl rfl) rfl rfl (by decide) rfl (wm 1 14 rfl rfl) (wm 6 76 rfl rfl) (by decide) hR (by decide) (n := 0) rfl rfl (Nat.le_of_ble_eq_true rfl) hl.1 dX4_negate_31 (fun r_26 μ25 ρ d0 H locs hr_r_26 hp G => ?_)
      have hr_r_26 : -2147483648 ≤ r_26 ∧ r_26 ≤ 2147483647 := hr_r_26
      obtain ⟨hsm_27, hp_28⟩ := hp
      have hsm_27 := Eq.symm hsm_27
      subst hsm_27
      refine xc_lV G (b := 33) (rest := []) (As := [.int (iv r_26)]) (c_X9_whole ω l μ3 33 r_26 (by unfold isRow; decide) (by unfold ir; omega) hI_6) (wm 6 84 rfl rfl) (wm 5 160 rfl rfl) (wm 5 161 rfl rfl) rfl rfl (by decide) rfl (wm 1 10 rfl rfl) (wm 5 162 rfl rfl) (by decide) hR (by decide) (n := 1) rfl rfl (Nat.le_of_ble_eq_true rfl) hl.1 dX4_negate_34 (fun r_30 μ29 ρ d0 H locs hr_r_30 hp G => ?_)
      have hsm_31 := hp
      have hsm_31 := Eq.symm hsm_31
      subst hsm_31
      refine lv_lstore_n (lv' := [(1, .long (jv r_30)), (0, .ref (oP ω 32))]) hx hb dX4_negate_37 rfl hl (by decide) rfl (fun ls hl => ?_)
      refine lv_aload_n hx hb dX4_negate_38 rfl (lv_at hl 1 rfl) ?_
      refine xa_getr G fd_X4 (a := 32) (x := 52) 7 rfl (by decide) rfl (wm 2 151 rfl rfl) ⟨rfl, rfl, rfl⟩ dX4_negate_39 rfl (G.sk 40 rfl) (by decide) rfl ?_
      have e_32 : ofF μ3 53 = ofF μ 53 := (ofF_fr F_5 (by decide) (by decide))
      refine xc_iV G (b := 52) (rest := []) (As := []) (c_X2_tongue ω l μ3  hI_6) (wm 5 218 rfl rfl) (wm 5 219 rfl rfl) (wm 5 220 rfl rfl) rfl rfl (by decide) rfl (wm 1 16 rfl rfl) (wm 5 221 rfl rfl) (by decide) hR (by decide) (n := 0) rfl rfl (Nat.le_of_ble_eq_true rfl) hl.1 dX4_negate_42 (fun r_34 μ33 ρ d0 H locs hr_r_34 hp G => ?_)
      have hr_r_34 : -2147483648 ≤ r_34 ∧ r_34 ≤ 2147483647 := hr_r_34
      obtain ⟨hsm_35, hp_36⟩ := hp
      have hsm_35 := Eq.symm hsm_35
      subst hsm_35
      refine lv_iconst (v := iv 3) hx hb dX4_negate_45 rfl ?_
      refine xb_icmp_ne (tgt := 77) hx hb (by unfold ir; omega) (by unfold ir; omega) dX4_negate_46 (by decide) (fun c_46 => ?_) (fun c_46 => ?_)
      · refine lv_aload_n hx hb dX4_negate_77 rfl (lv_at hl 1 rfl) ?_
        refine xa_getr G fd_X4 (a := 32) (x := 52) 7 rfl (by decide) rfl (wm 2 151 rfl rfl) ⟨rfl, rfl, rfl⟩ dX4_negate_78 rfl (G.sk 40 rfl) (by decide) rfl ?_
        have e_37 : ofF μ3 53 = ofF μ 53 := (ofF_fr F_5 (by decide) (by decide))
        refine xc_iV G (b := 52) (rest := []) (As := []) (c_X2_tongue ω l μ3  hI_6) (wm 5 218 rfl rfl) (wm 5 219 rfl rfl) (wm 5 220 rfl rfl) rfl rfl (by decide) rfl (wm 1 16 rfl rfl) (wm 5 221 rfl rfl) (by decide) hR (by decide) (n := 0) rfl rfl (Nat.le_of_ble_eq_true rfl) hl.1 dX4_negate_81 (fun r_39 μ38 ρ d0 H locs hr_r_39 hp G => ?_)
        have hr_r_39 : -2147483648 ≤ r_39 ∧ r_39 ≤ 2147483647 := hr_r_39
        obtain ⟨hsm_40, hp_41⟩ := hp
        have hsm_40 := Eq.symm hsm_40
        subst hsm_40
        refine lv_bipush (v := iv 45) hx hb dX4_negate_84 rfl ?_
        refine lv_lconst (v := jv 0) hx hb dX4_negate_86 rfl ?_
        refine lv_lload_n hx hb dX4_negate_87 rfl (lv_at hl 0 rfl) ?_
        refine xc_iS G (rest := []) (As := [.int (iv r_39), .int (iv 45), .long (jv 0), .long (jv r_30)]) (c_X6_traps ω l μ3 r_39 45 0 r_30 (by unfold ir; omega) (by unfold ir; omega) (by unfold jr; omega) hr_r_30) (wm 6 182 rfl rfl) (wm 6 183 rfl rfl) (wm 1 20 rfl rfl) (wm 6 184 rfl rfl) (by decide) hR (by decide) (n := 4) rfl rfl (Nat.le_of_ble_eq_true rfl) hl.1 dX4_negate_88 (fun r_43 μ42 ρ d0 H locs hr_r_43 hp G => ?_)
        have hr_r_43 : -2147483648 ≤ r_43 ∧ r_43 ≤ 2147483647 := hr_r_43
        obtain ⟨hsm_44, hp_45⟩ := hp
        have hsm_44 := Eq.symm hsm_44
        subst hsm_44
        refine xb_if_eq (tgt := 104) hx hb (by unfold ir; omega) dX4_negate_91 (by decide) (fun c_91 => ?_) (fun c_91 => ?_)
        · refine lv_aload_n hx hb dX4_negate_104 rfl (lv_at hl 1 rfl) ?_
          refine xa_getr G fd_X4 (a := 32) (x := 33) 3 rfl (by decide) rfl (wm 2 147 rfl rfl) ⟨rfl, rfl, rfl⟩ dX4_negate_105 rfl (G.sk 36 rfl) (by decide) rfl ?_
          refine lv_aload_n hx hb dX4_negate_108 rfl (lv_at hl 1 rfl) ?_
          have e_46 : μ3.1 33 3 = S := ((F_5.1 33 (by decide) 3).trans hS.symm)
          refine xc_iV G (b := 32) (rest := [.ref (oP ω 33)]) (As := []) (c_X4_top ω l μ3 S hI_6 (by omega)) (wm 6 73 rfl rfl) (wm 6 75 rfl rfl) (wm 0 80 rfl rfl) rfl rfl (by decide) rfl (wm 1 14 rfl rfl) (wm 6 76 rfl rfl) (by decide) hR (by decide) (n := 0) rfl rfl (Nat.le_of_ble_eq_true rfl) hl.1 dX4_negate_109 (fun r_48 μ47 ρ d0 H locs hr_r_48 hp G => ?_)
          have hr_r_48 : -2147483648 ≤ r_48 ∧ r_48 ≤ 2147483647 := hr_r_48
          obtain ⟨hsm_49, hp_50⟩ := hp
          have hsm_49 := Eq.symm hsm_49
          subst hsm_49
          refine lv_iconst (v := iv 1) hx hb dX4_negate_112 rfl ?_
          refine lv_lload_n hx hb dX4_negate_113 rfl (lv_at hl 0 rfl) ?_
          refine xb_lneg hx hb dX4_negate_114 ?_
          refine xb_topl (fun z_51 hr_z_51 he_z_51 => ?_)
          refine lv_dconst0 hx hb dX4_negate_115 ?_
          refine xb_topd (fun dd_52 he_dd_52 => ?_)
          refine xc_vV G (b := 33) (rest := []) (As := [.int (iv r_48), .int (iv 1), .long (jv z_51), .double (dv dd_52)]) (c_X9_set ω l μ3 33 r_48 1 z_51 dd_52 (by unfold isRow; decide) (by unfold ir; omega) (by unfold ir; omega) hr_z_51 hI_6) (wm 6 60 rfl rfl) (wm 4 77 rfl rfl) (wm 4 78 rfl rfl) rfl rfl (by decide) rfl (wm 1 10 rfl rfl) (wm 4 79 rfl rfl) (by decide) hR (by decide) (n := 4) rfl rfl (Nat.le_of_ble_eq_true rfl) hl.1 dX4_negate_116 (fun μ53 ρ d0 H locs hp G => ?_)
          obtain ⟨F_54, hI_55, hp_56⟩ := hp
          have e_57 : μ53.1 33 3 = S := ((F_54.1 33 (by decide) 3).trans ((F_5.1 33 (by decide) 3).trans hS.symm))
          have e_58 : μ53.1 32 13 = μ3.1 32 13 := (F_54.1 32 (by decide) 13)
          have e_59 : μ53.1 33 3 = S := ((F_54.1 33 (by decide) 3).trans ((F_5.1 33 (by decide) 3).trans hS.symm))
          have e_60 : μ53.1 32 13 = μ3.1 32 13 := (F_54.1 32 (by decide) 13)
          have e_61 : μ53.1 32 13 = μ3.1 32 13 := (F_54.1 32 (by decide) 13)
          have e_62 : μ53.1 32 13 = μ3.1 32 13 := (F_54.1 32 (by decide) 13)
          have e_63 : μ53.1 70 2 = μ3.1 70 2 := (F_54.1 70 (by decide) 2)
          have e_64 : μ53.1 70 2 = μ3.1 70 2 := (F_54.1 70 (by decide) 2)
          have e_65 : μ53.1 70 8 = μ3.1 70 8 := (F_54.1 70 (by decide) 8)
          have e_66 : μ53.1 70 8 = μ3.1 70 8 := (F_54.1 70 (by decide) 8)
          have e_67 : μ53.1 45 1 = μ.1 45 1 := ((F_54.1 45 (by decide) 1).trans (F_5.1 45 (by decide) 1))
          have e_68 : μ53.1 70 2 = μ3.1 70 2 := (F_54.1 70 (by decide) 2)
          have e_69 : μ53.1 70 1 = μ.1 70 1 := ((F_54.1 70 (by decide) 1).trans hs_8)
          have e_70 : μ53.1 70 3 = μ.1 70 3 := ((F_54.1 70 (by decide) 3).trans hs_9)
          have e_71 : μ53.1 70 4 = μ.1 70 4 := ((F_54.1 70 (by decide) 4).trans hs_10)
          have e_72 : μ53.1 70 5 = μ.1 70 5 := ((F_54.1 70 (by decide) 5).trans hs_11)
          have e_73 : μ53.1 70 6 = μ.1 70 6 := ((F_54.1 70 (by decide) 6).trans hs_12)
          have e_74 : μ53.1 70 7 = μ.1 70 7 := ((F_54.1 70 (by decide) 7).trans hs_13)
          have e_75 : μ53.1 32 10 = μ.1 32 10 := ((F_54.1 32 (by decide) 10).trans hs_15)
          have e_76 : μ53.1 32 11 = μ.1 32 11 := ((F_54.1 32 (by decide) 11).trans hs_16)
          have e_77 : μ53.1 32 12 = μ.1 32 12 := ((F_54.1 32 (by decide) 12).trans hs_17)
          have e_78 : μ53.1 32 15 = μ.1 32 15 := ((F_54.1 32 (by decide) 15).trans hs_19)
          have e_79 : μ53.1 32 16 = μ.1 32 16 := ((F_54.1 32 (by decide) 16).trans hs_20)
          have e_80 : μ53.1 45 4 = μ.1 45 4 := ((F_54.1 45 (by decide) 4).trans (F_5.1 45 (by decide) 4))
          exact xr_v G hret hlk dX4_negate_119 ⟨(Fr.tr (Fr.tr Fr.rf F_5 (by decide)) F_54 (by decide)), hI_55, (by omega), (by omega), (by omega), (by omega), (by omega), (by omega), (by omega), (by omega), (by omega), (by omega), (by omega), (by omega), (by omega), (by omega)⟩
        · refine lv_aload_n hx hb dX4_negate_94 rfl (lv_at hl 1 rfl) ?_
          refine lv_bipush (v := iv 7) hx hb dX4_negate_95 rfl ?_
          refine lv_iconst (v := iv 1) hx hb dX4_negate_97 rfl ?_
          have e_81 : μ3.1 33 3 = S := ((F_5.1 33 (by decide) 3).trans hS.symm)
          have e_82 : μ3.1 45 1 = μ.1 45 1 := (F_5.1 45 (by decide) 1)
          have e_83 : ofF μ3 53 = ofF μ 53 := (ofF_fr F_5 (by decide) (by decide))
          have e_84 : μ3.1 70 1 = μ.1 70 1 := hs_8
          have e_85 : μ3.1 70 3 = μ.1 70 3 := hs_9
          have e_86 : μ3.1 70 4 = μ.1 70 4 := hs_10
          have e_87 : μ3.1 70 5 = μ.1 70 5 := hs_11
          have e_88 : μ3.1 70 6 = μ.1 70 6 := hs_12
          have e_89 : μ3.1 70 7 = μ.1 70 7 := hs_13
          have e_90 : μ3.1 32 10 = μ.1 32 10 := hs_15
          have e_91 : μ3.1 32 11 = μ.1 32 11 := hs_16
          have e_92 : μ3.1 32 12 = μ.1 32 12 := hs_17
          have e_93 : μ3.1 32 15 = μ.1 32 15 := hs_19
          have e_94 : μ3.1 32 16 = μ.1 32 16 := hs_20
          have hn_95 : 0 ≤ μ.1 45 4 ∧ 2 * μ.1 45 4 ≤ μ.2.1 51 := hI.nm.2.2.2.2.2.2.2.1
          have e_96 : μ3.1 45 4 = μ.1 45 4 := (F_5.1 45 (by decide) 4)
          refine xc_vV G (b := 32) (rest := []) (As := [.int (iv 7), .int (iv 1)]) (c_X4_fails ω l μ3 7 1 S (by unfold ir; omega) (by unfold ir; omega) hI_6 (by omega) (by omega) (by omega) (by omega)) (wm 6 93 rfl rfl) (wm 6 95 rfl rfl) (wm 0 82 rfl rfl) rfl rfl (by decide) rfl (wm 1 14 rfl rfl) (wm 6 96 rfl rfl) (by decide) hR (by decide) (n := 2) rfl rfl (Nat.le_of_ble_eq_true rfl) hl.1 dX4_negate_98 (fun μ97 ρ d0 H locs hp G => ?_)
          obtain ⟨F_98, hI_99, hp_100, hp_101, hs_102, hs_103, hs_104, hs_105, hs_106, hs_107, hs_108, hs_109, hs_110, hs_111, hs_112, hs_113⟩ := hp
          have hk_114 := hI_99.row (r := 33) (by unfold isRow; decide)
          unfold rk at hk_114
          simp only [Int.reduceAdd] at hk_114
          have hn_115 : 0 ≤ μ97.1 45 1 ∧ 9 * μ97.1 45 1 ≤ μ97.2.1 46 := hI_99.nm.2.2.2.2.2.2.1
          refine lv_goto (tgt := 119) hx hb dX4_negate_101 (by decide) ?_
          have e_116 : μ97.1 70 1 = μ.1 70 1 := (hs_102.trans hs_8)
          have e_117 : μ97.1 70 3 = μ.1 70 3 := (hs_103.trans hs_9)
          have e_118 : μ97.1 70 4 = μ.1 70 4 := (hs_104.trans hs_10)
          have e_119 : μ97.1 70 5 = μ.1 70 5 := (hs_105.trans hs_11)
          have e_120 : μ97.1 70 6 = μ.1 70 6 := (hs_106.trans hs_12)
          have e_121 : μ97.1 70 7 = μ.1 70 7 := (hs_107.trans hs_13)
          have e_122 : μ97.1 32 10 = μ.1 32 10 := (hs_108.trans hs_15)
          have e_123 : μ97.1 32 11 = μ.1 32 11 := (hs_109.trans hs_16)
          have e_124 : μ97.1 32 12 = μ.1 32 12 := (hs_110.trans hs_17)
          have e_125 : μ97.1 32 15 = μ.1 32 15 := (hs_111.trans hs_19)
          have e_126 : μ97.1 32 16 = μ.1 32 16 := (hs_112.trans hs_20)
          have e_127 : μ97.1 45 4 = μ.1 45 4 := (hs_113.trans (F_5.1 45 (by decide) 4))
          exact xr_v G hret hlk dX4_negate_119 ⟨(Fr.tr (Fr.tr Fr.rf F_5 (by decide)) F_98 (by decide)), hI_99, (by omega), (by omega), (by omega), (by omega), (by omega), (by omega), (by omega), (by omega), (by omega), (by omega), (by omega), (by omega), (by omega), (by omega)⟩
      · refine lv_aload_n hx hb dX4_negate_49 rfl (lv_at hl 1 rfl) ?_
        refine xa_getr G fd_X4 (a := 32) (x := 33) 3 rfl (by decide) rfl (wm 2 147 rfl rfl) ⟨rfl, rfl, rfl⟩ dX4_negate_50 rfl (G.sk 36 rfl) (by decide) rfl ?_
        refine lv_aload_n hx hb dX4_negate_53 rfl (lv_at hl 1 rfl) ?_
        have e_128 : μ3.1 33 3 = S := ((F_5.1 33 (by decide) 3).trans hS.symm)
        refine xc_iV G (b := 32) (rest := [.ref (oP ω 33)]) (As := []) (c_X4_top ω l μ3 S hI_6 (by omega)) (wm 6 73 rfl rfl) (wm 6 75 rfl rfl) (wm 0 80 rfl rfl) rfl rfl (by decide) rfl (wm 1 14 rfl rfl) (wm 6 76 rfl rfl) (by decide) hR (by decide) (n := 0) rfl rfl (Nat.le_of_ble_eq_true rfl) hl.1 dX4_negate_54 (fun r_130 μ129 ρ d0 H locs hr_r_130 hp G => ?_)
        have hr_r_130 : -2147483648 ≤ r_130 ∧ r_130 ≤ 2147483647 := hr_r_130
        obtain ⟨hsm_131, hp_132⟩ := hp
        have hsm_131 := Eq.symm hsm_131
        subst hsm_131
        refine lv_iconst (v := iv 1) hx hb dX4_negate_57 rfl ?_
        refine lv_lconst (v := jv 0) hx hb dX4_negate_58 rfl ?_
        refine lv_aload_n hx hb dX4_negate_59 rfl (lv_at hl 1 rfl) ?_
        refine xa_getr G fd_X4 (a := 32) (x := 33) 3 rfl (by decide) rfl (wm 2 147 rfl rfl) ⟨rfl, rfl, rfl⟩ dX4_negate_60 rfl (G.sk 36 rfl) (by decide) rfl ?_
        refine lv_aload_n hx hb dX4_negate_63 rfl (lv_at hl 1 rfl) ?_
        have e_133 : μ3.1 33 3 = S := ((F_5.1 33 (by decide) 3).trans hS.symm)
        refine xc_iV G (b := 32) (rest := [.ref (oP ω 33), .long (jv 0), .int (iv 1), .int (iv r_130), .ref (oP ω 33)]) (As := []) (c_X4_top ω l μ3 S hI_6 (by omega)) (wm 6 73 rfl rfl) (wm 6 75 rfl rfl) (wm 0 80 rfl rfl) rfl rfl (by decide) rfl (wm 1 14 rfl rfl) (wm 6 76 rfl rfl) (by decide) hR (by decide) (n := 0) rfl rfl (Nat.le_of_ble_eq_true rfl) hl.1 dX4_negate_64 (fun r_135 μ134 ρ d0 H locs hr_r_135 hp G => ?_)
        have hr_r_135 : -2147483648 ≤ r_135 ∧ r_135 ≤ 2147483647 := hr_r_135
        obtain ⟨hsm_136, hp_137⟩ := hp
        have hsm_136 := Eq.symm hsm_136
        subst hsm_136
        refine xc_dV G (b := 33) (rest := [.long (jv 0), .int (iv 1), .int (iv r_130), .ref (oP ω 33)]) (As := [.int (iv r_135)]) (c_X9_real ω l μ3 33 r_135 (by unfold isRow; decide) (by unfold ir; omega) hI_6) (wm 6 106 rfl rfl) (wm 5 206 rfl rfl) (wm 5 207 rfl rfl) rfl rfl (by decide) rfl (wm 1 10 rfl rfl) (wm 5 208 rfl rfl) (by decide) hR (by decide) (n := 1) rfl rfl (Nat.le_of_ble_eq_true rfl) hl.1 dX4_negate_67 (fun r_139 μ138 ρ d0 H locs hp G => ?_)
        have hsm_140 := hp
        have hsm_140 := Eq.symm hsm_140
        subst hsm_140
        refine lv_dneg hx hb dX4_negate_70 ?_
        refine xb_topd (fun dd_141 he_dd_141 => ?_)
        refine xc_vV G (b := 33) (rest := []) (As := [.int (iv r_130), .int (iv 1), .long (jv 0), .double (dv dd_141)]) (c_X9_set ω l μ3 33 r_130 1 0 dd_141 (by unfold isRow; decide) (by unfold ir; omega) (by unfold ir; omega) (by unfold jr; omega) hI_6) (wm 6 60 rfl rfl) (wm 4 77 rfl rfl) (wm 4 78 rfl rfl) rfl rfl (by decide) rfl (wm 1 10 rfl rfl) (wm 4 79 rfl rfl) (by decide) hR (by decide) (n := 4) rfl rfl (Nat.le_of_ble_eq_true rfl) hl.1 dX4_negate_71 (fun μ142 ρ d0 H locs hp G => ?_)
        obtain ⟨F_143, hI_144, hp_145⟩ := hp
        refine lv_goto (tgt := 119) hx hb dX4_negate_74 (by decide) ?_
        have e_146 : μ142.1 33 3 = S := ((F_143.1 33 (by decide) 3).trans ((F_5.1 33 (by decide) 3).trans hS.symm))
        have e_147 : μ142.1 32 13 = μ3.1 32 13 := (F_143.1 32 (by decide) 13)
        have e_148 : μ142.1 33 3 = S := ((F_143.1 33 (by decide) 3).trans ((F_5.1 33 (by decide) 3).trans hS.symm))
        have e_149 : μ142.1 32 13 = μ3.1 32 13 := (F_143.1 32 (by decide) 13)
        have e_150 : μ142.1 32 13 = μ3.1 32 13 := (F_143.1 32 (by decide) 13)
        have e_151 : μ142.1 32 13 = μ3.1 32 13 := (F_143.1 32 (by decide) 13)
        have e_152 : μ142.1 70 2 = μ3.1 70 2 := (F_143.1 70 (by decide) 2)
        have e_153 : μ142.1 70 2 = μ3.1 70 2 := (F_143.1 70 (by decide) 2)
        have e_154 : μ142.1 70 8 = μ3.1 70 8 := (F_143.1 70 (by decide) 8)
        have e_155 : μ142.1 70 8 = μ3.1 70 8 := (F_143.1 70 (by decide) 8)
        have e_156 : μ142.1 45 1 = μ.1 45 1 := ((F_143.1 45 (by decide) 1).trans (F_5.1 45 (by decide) 1))
        have e_157 : μ142.1 70 2 = μ3.1 70 2 := (F_143.1 70 (by decide) 2)
        have e_158 : μ142.1 70 1 = μ.1 70 1 := ((F_143.1 70 (by decide) 1).trans hs_8)
        have e_159 : μ142.1 70 3 = μ.1 70 3 := ((F_143.1 70 (by decide) 3).trans hs_9)
        have e_160 : μ142.1 70 4 = μ.1 70 4 := ((F_143.1 70 (by decide) 4).trans hs_10)
        have e_161 : μ142.1 70 5 = μ.1 70 5 := ((F_143.1 70 (by decide) 5).trans hs_11)
        have e_162 : μ142.1 70 6 = μ.1 70 6 := ((F_143.1 70 (by decide) 6).trans hs_12)
        have e_163 : μ142.1 70 7 = μ.1 70 7 := ((F_143.1 70 (by decide) 7).trans hs_13)
        have e_164 : μ142.1 32 10 = μ.1 32 10 := ((F_143.1 32 (by decide) 10).trans hs_15)
        have e_165 : μ142.1 32 11 = μ.1 32 11 := ((F_143.1 32 (by decide) 11).trans hs_16)
        have e_166 : μ142.1 32 12 = μ.1 32 12 := ((F_143.1 32 (by decide) 12).trans hs_17)
        have e_167 : μ142.1 32 15 = μ.1 32 15 := ((F_143.1 32 (by decide) 15).trans hs_19)
        have e_168 : μ142.1 32 16 = μ.1 32 16 := ((F_143.1 32 (by decide) 16).trans hs_20)
        have e_169 : μ142.1 45 4 = μ.1 45 4 := ((F_143.1 45 (by decide) 4).trans (F_5.1 45 (by decide) 4))
        exact xr_v G hret hlk dX4_negate_119 ⟨(Fr.tr (Fr.tr Fr.rf F_5 (by decide)) F_143 (by decide)), hI_144, (by omega), (by omega), (by omega), (by omega), (by omega), (by omega), (by omega), (by omega), (by omega), (by omega), (by omega), (by omega), (by omega), (by omega)⟩
    · refine lv_aload_n hx hb dX4_negate_19 rfl (lv_at hl 0 rfl) ?_
      refine lv_iconst (v := iv 4) hx hb dX4_negate_20 rfl ?_
      refine lv_iconst (v := iv 1) hx hb dX4_negate_21 rfl ?_
      have e_170 : μ3.1 33 3 = S := ((F_5.1 33 (by decide) 3).trans hS.symm)
      have e_171 : μ3.1 45 1 = μ.1 45 1 := (F_5.1 45 (by decide) 1)
      have e_172 : ofF μ3 53 = ofF μ 53 := (ofF_fr F_5 (by decide) (by decide))
      have e_173 : μ3.1 70 1 = μ.1 70 1 := hs_8
      have e_174 : μ3.1 70 3 = μ.1 70 3 := hs_9
      have e_175 : μ3.1 70 4 = μ.1 70 4 := hs_10
      have e_176 : μ3.1 70 5 = μ.1 70 5 := hs_11
      have e_177 : μ3.1 70 6 = μ.1 70 6 := hs_12
      have e_178 : μ3.1 70 7 = μ.1 70 7 := hs_13
      have e_179 : μ3.1 32 10 = μ.1 32 10 := hs_15
      have e_180 : μ3.1 32 11 = μ.1 32 11 := hs_16
      have e_181 : μ3.1 32 12 = μ.1 32 12 := hs_17
      have e_182 : μ3.1 32 15 = μ.1 32 15 := hs_19
      have e_183 : μ3.1 32 16 = μ.1 32 16 := hs_20
      have hn_184 : 0 ≤ μ.1 45 4 ∧ 2 * μ.1 45 4 ≤ μ.2.1 51 := hI.nm.2.2.2.2.2.2.2.1
      have e_185 : μ3.1 45 4 = μ.1 45 4 := (F_5.1 45 (by decide) 4)
      refine xc_vV G (b := 32) (rest := []) (As := [.int (iv 4), .int (iv 1)]) (c_X4_fails ω l μ3 4 1 S (by unfold ir; omega) (by unfold ir; omega) hI_6 (by omega) (by omega) (by omega) (by omega)) (wm 6 93 rfl rfl) (wm 6 95 rfl rfl) (wm 0 82 rfl rfl) rfl rfl (by decide) rfl (wm 1 14 rfl rfl) (wm 6 96 rfl rfl) (by decide) hR (by decide) (n := 2) rfl rfl (Nat.le_of_ble_eq_true rfl) hl.1 dX4_negate_22 (fun μ186 ρ d0 H locs hp G => ?_)
      obtain ⟨F_187, hI_188, hp_189, hp_190, hs_191, hs_192, hs_193, hs_194, hs_195, hs_196, hs_197, hs_198, hs_199, hs_200, hs_201, hs_202⟩ := hp
      have hk_203 := hI_188.row (r := 33) (by unfold isRow; decide)
      unfold rk at hk_203
      simp only [Int.reduceAdd] at hk_203
      have hn_204 : 0 ≤ μ186.1 45 1 ∧ 9 * μ186.1 45 1 ≤ μ186.2.1 46 := hI_188.nm.2.2.2.2.2.2.1
      have e_205 : μ186.1 70 1 = μ.1 70 1 := (hs_191.trans hs_8)
      have e_206 : μ186.1 70 3 = μ.1 70 3 := (hs_192.trans hs_9)
      have e_207 : μ186.1 70 4 = μ.1 70 4 := (hs_193.trans hs_10)
      have e_208 : μ186.1 70 5 = μ.1 70 5 := (hs_194.trans hs_11)
      have e_209 : μ186.1 70 6 = μ.1 70 6 := (hs_195.trans hs_12)
      have e_210 : μ186.1 70 7 = μ.1 70 7 := (hs_196.trans hs_13)
      have e_211 : μ186.1 32 10 = μ.1 32 10 := (hs_197.trans hs_15)
      have e_212 : μ186.1 32 11 = μ.1 32 11 := (hs_198.trans hs_16)
      have e_213 : μ186.1 32 12 = μ.1 32 12 := (hs_199.trans hs_17)
      have e_214 : μ186.1 32 15 = μ.1 32 15 := (hs_200.trans hs_19)
      have e_215 : μ186.1 32 16 = μ.1 32 16 := (hs_201.trans hs_20)
      have e_216 : μ186.1 45 4 = μ.1 45 4 := (hs_202.trans (F_5.1 45 (by decide) 4))
      exact xr_v G hret hlk dX4_negate_25 ⟨(Fr.tr (Fr.tr Fr.rf F_5 (by decide)) F_187 (by decide)), hI_188, (by omega), (by omega), (by omega), (by omega), (by omega), (by omega), (by omega), (by omega), (by omega), (by omega), (by omega), (by omega), (by omega), (by omega)⟩
  · have e_217 : μ3.1 33 3 = S := ((F_5.1 33 (by decide) 3).trans hS.symm)
    have e_218 : μ3.1 33 3 = S := ((F_5.1 33 (by decide) 3).trans hS.symm)
    have e_219 : μ3.1 45 1 = μ.1 45 1 := (F_5.1 45 (by decide) 1)
    have e_220 : μ3.1 70 1 = μ.1 70 1 := hs_8
    have e_221 : μ3.1 70 3 = μ.1 70 3 := hs_9
    have e_222 : μ3.1 70 4 = μ.1 70 4 := hs_10
    have e_223 : μ3.1 70 5 = μ.1 70 5 := hs_11
    have e_224 : μ3.1 70 6 = μ.1 70 6 := hs_12
    have e_225 : μ3.1 70 7 = μ.1 70 7 := hs_13
    have e_226 : μ3.1 32 10 = μ.1 32 10 := hs_15
    have e_227 : μ3.1 32 11 = μ.1 32 11 := hs_16
    have e_228 : μ3.1 32 12 = μ.1 32 12 := hs_17
    have e_229 : μ3.1 32 15 = μ.1 32 15 := hs_19
    have e_230 : μ3.1 32 16 = μ.1 32 16 := hs_20
    have e_231 : μ3.1 45 4 = μ.1 45 4 := (F_5.1 45 (by decide) 4)
    exact xr_v G hret hlk dX4_negate_7 ⟨(Fr.tr Fr.rf F_5 (by decide)), hI_6, (by omega), (by omega), (by omega), (by omega), (by omega), (by omega), (by omega), (by omega), (by omega), (by omega), (by omega), (by omega), (by omega), (by omega)⟩

set_option maxHeartbeats 4000000 in
set_option maxRecDepth 100000 in
theorem c_X4_smallWhole (ω : Om) (l : Launch) (μ : M3) (x1 : Int) (hx1 : ir x1) (hI : IC μ) : CtI ω l yX4_smallWhole cX4_smallWhole 4 .int 2 41 [.ref (oP ω 32), .int (iv x1)] μ (fun (r : Int) (μ' : M3) => (μ' = μ) ∧ (-1 ≤ r ∧ r ≤ 400)) := by
  refine CtI.go (by decide) (Nat.le_of_ble_eq_true rfl) (fun ρ p e s m below meth c R ls G hR hret hlk hl => ?_)
  have hx := G.1.1
  have hb := G.1.2.1
  have hl : lv_has ls 4 [(0, .ref (oP ω 32)), (1, .int (iv x1))] := hl
  generalize s.drawn = d0 at G ⊢
  have hr_x1 : -2147483648 ≤ x1 ∧ x1 ≤ 2147483647 := hx1
  refine lv_aload_n hx hb dX4_smallWhole_0 rfl (lv_at hl 0 rfl) ?_
  refine xa_getr G fd_X4 (a := 32) (x := 52) 7 rfl (by decide) rfl (wm 2 151 rfl rfl) ⟨rfl, rfl, rfl⟩ dX4_smallWhole_1 rfl (G.sk 40 rfl) (by decide) rfl ?_
  refine xc_iV G (b := 52) (rest := []) (As := []) (c_X2_tongue ω l μ  hI) (wm 5 218 rfl rfl) (wm 5 219 rfl rfl) (wm 5 220 rfl rfl) rfl rfl (by decide) rfl (wm 1 16 rfl rfl) (wm 5 221 rfl rfl) (by decide) hR (by decide) (n := 0) rfl rfl (Nat.le_of_ble_eq_true rfl) hl.1 dX4_smallWhole_4 (fun r_2 μ1 ρ d0 H locs hr_r_2 hp G => ?_)
  have hr_r_2 : -2147483648 ≤ r_2 ∧ r_2 ≤ 2147483647 := hr_r_2
  obtain ⟨hsm_3, hp_4⟩ := hp
  have hsm_3 := Eq.symm hsm_3
  subst hsm_3
  refine lv_iconst (v := iv 3) hx hb dX4_smallWhole_7 rfl ?_
  refine xb_icmp_ne (tgt := 49) hx hb (by unfold ir; omega) (by unfold ir; omega) dX4_smallWhole_8 (by decide) (fun c_8 => ?_) (fun c_8 => ?_)
  · refine lv_aload_n hx hb dX4_smallWhole_49 rfl (lv_at hl 0 rfl) ?_
    refine xa_getr G fd_X4 (a := 32) (x := 33) 3 rfl (by decide) rfl (wm 2 147 rfl rfl) ⟨rfl, rfl, rfl⟩ dX4_smallWhole_50 rfl (G.sk 36 rfl) (by decide) rfl ?_
    refine lv_iload_n hx hb dX4_smallWhole_53 rfl (lv_at hl 1 rfl) ?_
    refine xc_lV G (b := 33) (rest := []) (As := [.int (iv x1)]) (c_X9_whole ω l μ 33 x1 (by unfold isRow; decide) (by unfold ir; omega) hI) (wm 6 84 rfl rfl) (wm 5 160 rfl rfl) (wm 5 161 rfl rfl) rfl rfl (by decide) rfl (wm 1 10 rfl rfl) (wm 5 162 rfl rfl) (by decide) hR (by decide) (n := 1) rfl rfl (Nat.le_of_ble_eq_true rfl) hl.1 dX4_smallWhole_54 (fun r_6 μ5 ρ d0 H locs hr_r_6 hp G => ?_)
    have hsm_7 := hp
    have hsm_7 := Eq.symm hsm_7
    subst hsm_7
    refine lv_lstore_n (lv' := [(2, .long (jv r_6)), (0, .ref (oP ω 32)), (1, .int (iv x1))]) hx hb dX4_smallWhole_57 rfl hl (by decide) rfl (fun ls hl => ?_)
    refine lv_lload_n hx hb dX4_smallWhole_58 rfl (lv_at hl 0 rfl) ?_
    refine lv_lconst (v := jv 0) hx hb dX4_smallWhole_59 rfl ?_
    refine xb_lcmp hx hb hr_r_6 (by unfold jr; omega) dX4_smallWhole_60 ?_
    have hr_8 : -2147483648 ≤ lcm r_6 0 ∧ lcm r_6 0 ≤ 2147483647 := lcm_ir _ _
    have hlc_9 := lcm_f r_6 0
    refine xb_if_lt (tgt := 77) hx hb (by unfold ir; omega) dX4_smallWhole_61 (by decide) (fun c_61 => ?_) (fun c_61 => ?_)
    · refine lv_iconst (v := iv (-1)) hx hb dX4_smallWhole_77 rfl ?_
      exact xr_i G (x := (-1)) hret hlk (by unfold ir; omega) rfl dX4_smallWhole_78 ⟨rfl, (by omega)⟩
    · refine lv_lload_n hx hb dX4_smallWhole_64 rfl (lv_at hl 0 rfl) ?_
      refine lv_ldc2 (s := s.setDrawn d0) hx hb G.1.2.2.2.1 (dr_words G.1.2.2.2.2 d0 _ (wm 6 205 rfl rfl)) dX4_smallWhole_65 ?_
      refine xb_litl (x := 400) (by decide) ?_
      refine xb_lcmp hx hb hr_r_6 (by unfold jr; omega) dX4_smallWhole_68 ?_
      have hr_10 : -2147483648 ≤ lcm r_6 400 ∧ lcm r_6 400 ≤ 2147483647 := lcm_ir _ _
      have hlc_11 := lcm_f r_6 400
      refine xb_if_gt (tgt := 77) hx hb (by unfold ir; omega) dX4_smallWhole_69 (by decide) (fun c_69 => ?_) (fun c_69 => ?_)
      · refine lv_iconst (v := iv (-1)) hx hb dX4_smallWhole_77 rfl ?_
        exact xr_i G (x := (-1)) hret hlk (by unfold ir; omega) rfl dX4_smallWhole_78 ⟨rfl, (by omega)⟩
      · refine lv_lload_n hx hb dX4_smallWhole_72 rfl (lv_at hl 0 rfl) ?_
        refine xb_l2i hx hb dX4_smallWhole_73 ?_
        refine xb_topi (fun y_12 hr_y_12 he_y_12 => ?_)
        have hr_y_12 : -2147483648 ≤ y_12 ∧ y_12 ≤ 2147483647 := hr_y_12
        have hli_y_12 : ir r_6 → y_12 = r_6 := fun h9 => (iv_eq hr_y_12 h9).mp he_y_12
        unfold ir at hli_y_12
        refine lv_goto (tgt := 78) hx hb dX4_smallWhole_74 (by decide) ?_
        exact xr_i G (x := y_12) hret hlk (by unfold ir; omega) rfl dX4_smallWhole_78 ⟨rfl, (by omega)⟩
  · refine lv_aload_n hx hb dX4_smallWhole_11 rfl (lv_at hl 0 rfl) ?_
    refine xa_getr G fd_X4 (a := 32) (x := 33) 3 rfl (by decide) rfl (wm 2 147 rfl rfl) ⟨rfl, rfl, rfl⟩ dX4_smallWhole_12 rfl (G.sk 36 rfl) (by decide) rfl ?_
    refine lv_iload_n hx hb dX4_smallWhole_15 rfl (lv_at hl 1 rfl) ?_
    refine xc_dV G (b := 33) (rest := []) (As := [.int (iv x1)]) (c_X9_real ω l μ 33 x1 (by unfold isRow; decide) (by unfold ir; omega) hI) (wm 6 106 rfl rfl) (wm 5 206 rfl rfl) (wm 5 207 rfl rfl) rfl rfl (by decide) rfl (wm 1 10 rfl rfl) (wm 5 208 rfl rfl) (by decide) hR (by decide) (n := 1) rfl rfl (Nat.le_of_ble_eq_true rfl) hl.1 dX4_smallWhole_16 (fun r_14 μ13 ρ d0 H locs hp G => ?_)
    have hsm_15 := hp
    have hsm_15 := Eq.symm hsm_15
    subst hsm_15
    refine lv_dstore_n (lv' := [(2, .double (dv r_14)), (0, .ref (oP ω 32)), (1, .int (iv x1))]) hx hb dX4_smallWhole_19 rfl hl (by decide) rfl (fun ls hl => ?_)
    refine lv_dload_n hx hb dX4_smallWhole_20 rfl (lv_at hl 0 rfl) ?_
    refine lv_dconst0 hx hb dX4_smallWhole_21 ?_
    refine xb_topd (fun dd_16 he_dd_16 => ?_)
    refine lv_dcmp hx hb dX4_smallWhole_22 ?_
    refine xb_topi (fun y_17 hr_y_17 he_y_17 => ?_)
    have hr_y_17 : -2147483648 ≤ y_17 ∧ y_17 ≤ 2147483647 := hr_y_17
    refine xb_if_lt (tgt := 47) hx hb (by unfold ir; omega) dX4_smallWhole_23 (by decide) (fun c_23 => ?_) (fun c_23 => ?_)
    · refine lv_iconst (v := iv (-1)) hx hb dX4_smallWhole_47 rfl ?_
      exact xr_i G (x := (-1)) hret hlk (by unfold ir; omega) rfl dX4_smallWhole_48 ⟨rfl, (by omega)⟩
    · refine lv_dload_n hx hb dX4_smallWhole_26 rfl (lv_at hl 0 rfl) ?_
      refine lv_ldc2d (s := s.setDrawn d0) hx hb G.1.2.2.2.1 (dr_words G.1.2.2.2.2 d0 _ (wm 6 204 rfl rfl)) dX4_smallWhole_27 ?_
      refine xb_topd (fun dd_18 he_dd_18 => ?_)
      refine lv_dcmp hx hb dX4_smallWhole_30 ?_
      refine xb_topi (fun y_19 hr_y_19 he_y_19 => ?_)
      have hr_y_19 : -2147483648 ≤ y_19 ∧ y_19 ≤ 2147483647 := hr_y_19
      refine xb_if_gt (tgt := 47) hx hb (by unfold ir; omega) dX4_smallWhole_31 (by decide) (fun c_31 => ?_) (fun c_31 => ?_)
      · refine lv_iconst (v := iv (-1)) hx hb dX4_smallWhole_47 rfl ?_
        exact xr_i G (x := (-1)) hret hlk (by unfold ir; omega) rfl dX4_smallWhole_48 ⟨rfl, (by omega)⟩
      · refine lv_dload_n hx hb dX4_smallWhole_34 rfl (lv_at hl 0 rfl) ?_
        refine lv_d2i hx hb dX4_smallWhole_35 ?_
        refine xb_topi (fun y_20 hr_y_20 he_y_20 => ?_)
        have hr_y_20 : -2147483648 ≤ y_20 ∧ y_20 ≤ 2147483647 := hr_y_20
        refine lv_i2d hx hb dX4_smallWhole_36 ?_
        refine xb_topd (fun dd_21 he_dd_21 => ?_)
        refine lv_dload_n hx hb dX4_smallWhole_37 rfl (lv_at hl 0 rfl) ?_
        refine lv_dcmp hx hb dX4_smallWhole_38 ?_
        refine xb_topi (fun y_22 hr_y_22 he_y_22 => ?_)
        have hr_y_22 : -2147483648 ≤ y_22 ∧ y_22 ≤ 2147483647 := hr_y_22
        refine xb_if_ne (tgt := 47) hx hb (by unfold ir; omega) dX4_smallWhole_39 (by decide) (fun c_39 => ?_) (fun c_39 => ?_)
        · refine lv_iconst (v := iv (-1)) hx hb dX4_smallWhole_47 rfl ?_
          exact xr_i G (x := (-1)) hret hlk (by unfold ir; omega) rfl dX4_smallWhole_48 ⟨rfl, (by omega)⟩
        · refine lv_dload_n hx hb dX4_smallWhole_42 rfl (lv_at hl 0 rfl) ?_
          refine lv_d2i hx hb dX4_smallWhole_43 ?_
          refine xb_topi (fun y_23 hr_y_23 he_y_23 => ?_)
          have hr_y_23 : -2147483648 ≤ y_23 ∧ y_23 ≤ 2147483647 := hr_y_23
          refine lv_goto (tgt := 48) hx hb dX4_smallWhole_44 (by decide) ?_
          exact xr_i G (x := y_23) hret hlk (by unfold ir; omega) rfl dX4_smallWhole_48 ⟨rfl, (by have h9 := dsm (D := 400 * 2 ^ 44) (n := 400) (R := -44) he_dd_16 (by rw [he_dd_18]; decide +kernel) (by decide) (by decide) (by decide) hr_y_17 he_y_17 c_23 hr_y_19 he_y_19 c_31 hr_y_23 he_y_23; omega)⟩

set_option maxHeartbeats 4000000 in
set_option maxRecDepth 100000 in
theorem c_X4_lengthAt (ω : Om) (l : Launch) (μ : M3) (x1 : Int) (hx1 : jr x1) (hI : IC μ) : CtI ω l yX4_lengthAt cX4_lengthAt 3 .int 1 21 [.ref (oP ω 32), .long (jv x1)] μ (fun (r : Int) (μ' : M3) => (μ' = μ)) := by
  refine CtI.go (by decide) (Nat.le_of_ble_eq_true rfl) (fun ρ p e s m below meth c R ls G hR hret hlk hl => ?_)
  have hx := G.1.1
  have hb := G.1.2.1
  have hl : lv_has ls 3 [(0, .ref (oP ω 32)), (1, .long (jv x1))] := hl
  generalize s.drawn = d0 at G ⊢
  refine lv_aload_n hx hb dX4_lengthAt_0 rfl (lv_at hl 0 rfl) ?_
  refine xa_getr G fd_X4 (a := 32) (x := 37) 4 rfl (by decide) rfl (wm 2 148 rfl rfl) ⟨rfl, rfl, rfl⟩ dX4_lengthAt_1 rfl (G.sk 37 rfl) (by decide) rfl ?_
  refine lv_lload_n hx hb dX4_lengthAt_4 rfl (lv_at hl 1 rfl) ?_
  refine xb_l2i hx hb dX4_lengthAt_5 ?_
  refine xb_topi (fun y_1 hr_y_1 he_y_1 => ?_)
  have hr_y_1 : -2147483648 ≤ y_1 ∧ y_1 ≤ 2147483647 := hr_y_1
  refine xc_lV G (b := 37) (rest := []) (As := [.int (iv y_1)]) (c_X9_whole ω l μ 37 y_1 (by unfold isRow; decide) (by unfold ir; omega) hI) (wm 6 84 rfl rfl) (wm 5 160 rfl rfl) (wm 5 161 rfl rfl) rfl rfl (by decide) rfl (wm 1 10 rfl rfl) (wm 5 162 rfl rfl) (by decide) hR (by decide) (n := 1) rfl rfl (Nat.le_of_ble_eq_true rfl) hl.1 dX4_lengthAt_6 (fun r_3 μ2 ρ d0 H locs hr_r_3 hp G => ?_)
  have hsm_4 := hp
  have hsm_4 := Eq.symm hsm_4
  subst hsm_4
  refine lv_ldc2 (s := s.setDrawn d0) hx hb G.1.2.2.2.1 (dr_words G.1.2.2.2.2 d0 _ (wm 6 105 rfl rfl)) dX4_lengthAt_9 ?_
  refine xb_litl (x := 4) (by decide) ?_
  refine lv_ldiv hx hb dX4_lengthAt_12 (by decide) ?_
  refine xb_topl (fun z_5 hr_z_5 he_z_5 => ?_)
  refine xb_l2i hx hb dX4_lengthAt_13 ?_
  refine xb_topi (fun y_6 hr_y_6 he_y_6 => ?_)
  have hr_y_6 : -2147483648 ≤ y_6 ∧ y_6 ≤ 2147483647 := hr_y_6
  exact xr_i G (x := y_6) hret hlk (by unfold ir; omega) rfl dX4_lengthAt_14 rfl

set_option maxHeartbeats 4000000 in
set_option maxRecDepth 100000 in
theorem c_X4_tongueOfArray (ω : Om) (l : Launch) (μ : M3) (x1 : Int) (hx1 : ir x1) (hI : IC μ) : CtI ω l yX4_tongueOfArray cX4_tongueOfArray 2 .int 1 21 [.ref (oP ω 32), .int (iv x1)] μ (fun (r : Int) (μ' : M3) => (μ' = μ)) := by
  refine CtI.go (by decide) (Nat.le_of_ble_eq_true rfl) (fun ρ p e s m below meth c R ls G hR hret hlk hl => ?_)
  have hx := G.1.1
  have hb := G.1.2.1
  have hl : lv_has ls 2 [(0, .ref (oP ω 32)), (1, .int (iv x1))] := hl
  generalize s.drawn = d0 at G ⊢
  have hr_x1 : -2147483648 ≤ x1 ∧ x1 ≤ 2147483647 := hx1
  refine lv_aload_n hx hb dX4_tongueOfArray_0 rfl (lv_at hl 0 rfl) ?_
  refine xa_getr G fd_X4 (a := 32) (x := 37) 4 rfl (by decide) rfl (wm 2 148 rfl rfl) ⟨rfl, rfl, rfl⟩ dX4_tongueOfArray_1 rfl (G.sk 37 rfl) (by decide) rfl ?_
  refine lv_aload_n hx hb dX4_tongueOfArray_4 rfl (lv_at hl 0 rfl) ?_
  refine xa_getr G fd_X4 (a := 32) (x := 33) 3 rfl (by decide) rfl (wm 2 147 rfl rfl) ⟨rfl, rfl, rfl⟩ dX4_tongueOfArray_5 rfl (G.sk 36 rfl) (by decide) rfl ?_
  refine lv_iload_n hx hb dX4_tongueOfArray_8 rfl (lv_at hl 1 rfl) ?_
  refine xc_lV G (b := 33) (rest := [.ref (oP ω 37)]) (As := [.int (iv x1)]) (c_X9_whole ω l μ 33 x1 (by unfold isRow; decide) (by unfold ir; omega) hI) (wm 6 84 rfl rfl) (wm 5 160 rfl rfl) (wm 5 161 rfl rfl) rfl rfl (by decide) rfl (wm 1 10 rfl rfl) (wm 5 162 rfl rfl) (by decide) hR (by decide) (n := 1) rfl rfl (Nat.le_of_ble_eq_true rfl) hl.1 dX4_tongueOfArray_9 (fun r_2 μ1 ρ d0 H locs hr_r_2 hp G => ?_)
  have hsm_3 := hp
  have hsm_3 := Eq.symm hsm_3
  subst hsm_3
  refine xb_l2i hx hb dX4_tongueOfArray_12 ?_
  refine xb_topi (fun y_4 hr_y_4 he_y_4 => ?_)
  have hr_y_4 : -2147483648 ≤ y_4 ∧ y_4 ≤ 2147483647 := hr_y_4
  refine xc_lV G (b := 37) (rest := []) (As := [.int (iv y_4)]) (c_X9_whole ω l μ 37 y_4 (by unfold isRow; decide) (by unfold ir; omega) hI) (wm 6 84 rfl rfl) (wm 5 160 rfl rfl) (wm 5 161 rfl rfl) rfl rfl (by decide) rfl (wm 1 10 rfl rfl) (wm 5 162 rfl rfl) (by decide) hR (by decide) (n := 1) rfl rfl (Nat.le_of_ble_eq_true rfl) hl.1 dX4_tongueOfArray_13 (fun r_6 μ5 ρ d0 H locs hr_r_6 hp G => ?_)
  have hsm_7 := hp
  have hsm_7 := Eq.symm hsm_7
  subst hsm_7
  refine lv_ldc2 (s := s.setDrawn d0) hx hb G.1.2.2.2.1 (dr_words G.1.2.2.2.2 d0 _ (wm 6 105 rfl rfl)) dX4_tongueOfArray_16 ?_
  refine xb_litl (x := 4) (by decide) ?_
  refine lv_lrem hx hb dX4_tongueOfArray_19 (by decide) ?_
  refine xb_topl (fun z_8 hr_z_8 he_z_8 => ?_)
  refine xb_l2i hx hb dX4_tongueOfArray_20 ?_
  refine xb_topi (fun y_9 hr_y_9 he_y_9 => ?_)
  have hr_y_9 : -2147483648 ≤ y_9 ∧ y_9 ≤ 2147483647 := hr_y_9
  exact xr_i G (x := y_9) hret hlk (by unfold ir; omega) rfl dX4_tongueOfArray_21 rfl
