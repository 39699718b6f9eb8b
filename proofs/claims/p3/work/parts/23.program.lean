abbrev cX8_clear : ByteArray := prog_10_method_2_code
def yX8_clear : MethodName := ⟨RX8, "clear", "()V"⟩
abbrev cX8_add : ByteArray := prog_10_method_5_code
def yX8_add : MethodName := ⟨RX8, "add", "(IIII)I"⟩
abbrev cX8_part : ByteArray := prog_10_method_6_code
def yX8_part : MethodName := ⟨RX8, "part", "(II)I"⟩
abbrev cX8_op : ByteArray := prog_10_method_7_code
def yX8_op : MethodName := ⟨RX8, "op", "(I)I"⟩
abbrev cX8_first : ByteArray := prog_10_method_8_code
def yX8_first : MethodName := ⟨RX8, "first", "(I)I"⟩
abbrev cX8_second : ByteArray := prog_10_method_9_code
def yX8_second : MethodName := ⟨RX8, "second", "(I)I"⟩
abbrev cX8_place : ByteArray := prog_10_method_10_code
def yX8_place : MethodName := ⟨RX8, "place", "(I)I"⟩
abbrev cX8_setOp : ByteArray := prog_10_method_11_code
def yX8_setOp : MethodName := ⟨RX8, "setOp", "(II)V"⟩
abbrev cX8_setFirst : ByteArray := prog_10_method_12_code
def yX8_setFirst : MethodName := ⟨RX8, "setFirst", "(II)V"⟩
abbrev cX8_setSecond : ByteArray := prog_10_method_13_code
def yX8_setSecond : MethodName := ⟨RX8, "setSecond", "(II)V"⟩
abbrev cX8_addConstant : ByteArray := prog_10_method_14_code
def yX8_addConstant : MethodName := ⟨RX8, "addConstant", "(IJD)I"⟩
abbrev cX8_addFunction : ByteArray := prog_10_method_16_code
def yX8_addFunction : MethodName := ⟨RX8, "addFunction", "(J)V"⟩
abbrev cX8_setCounts : ByteArray := prog_10_method_17_code
def yX8_setCounts : MethodName := ⟨RX8, "setCounts", "(III)V"⟩
abbrev cX8_find : ByteArray := prog_10_method_18_code
def yX8_find : MethodName := ⟨RX8, "find", "(J)I"⟩
abbrev cX8_start : ByteArray := prog_10_method_19_code
def yX8_start : MethodName := ⟨RX8, "start", "(I)I"⟩
abbrev cX8_parameters : ByteArray := prog_10_method_20_code
def yX8_parameters : MethodName := ⟨RX8, "parameters", "(I)I"⟩
abbrev cX8_variables : ByteArray := prog_10_method_21_code
def yX8_variables : MethodName := ⟨RX8, "variables", "(I)I"⟩
theorem dX8_clear_0 : decode cX8_clear 0 = .ok (.aload_n 0, 1) := by decide +kernel
theorem dX8_clear_1 : decode cX8_clear 1 = .ok (.iconst 0, 1) := by decide +kernel
theorem dX8_clear_2 : decode cX8_clear 2 = .ok (.putfield 13, 3) := by decide +kernel
theorem dX8_clear_5 : decode cX8_clear 5 = .ok (.aload_n 0, 1) := by decide +kernel
theorem dX8_clear_6 : decode cX8_clear 6 = .ok (.iconst 0, 1) := by decide +kernel
theorem dX8_clear_7 : decode cX8_clear 7 = .ok (.putfield 39, 3) := by decide +kernel
theorem dX8_clear_10 : decode cX8_clear 10 = .ok (.aload_n 0, 1) := by decide +kernel
theorem dX8_clear_11 : decode cX8_clear 11 = .ok (.getfield 22, 3) := by decide +kernel
theorem dX8_clear_14 : decode cX8_clear 14 = .ok (.iconst 0, 1) := by decide +kernel
theorem dX8_clear_15 : decode cX8_clear 15 = .ok (.invokevirtual 42, 3) := by decide +kernel
theorem dX8_clear_18 : decode cX8_clear 18 = .ok (.return_, 1) := by decide +kernel
theorem dX8_add_0 : decode cX8_add 0 = .ok (.aload_n 0, 1) := by decide +kernel
theorem dX8_add_1 : decode cX8_add 1 = .ok (.getfield 13, 3) := by decide +kernel
theorem dX8_add_4 : decode cX8_add 4 = .ok (.iconst 4, 1) := by decide +kernel
theorem dX8_add_5 : decode cX8_add 5 = .ok (.imul, 1) := by decide +kernel
theorem dX8_add_6 : decode cX8_add 6 = .ok (.istore 5, 2) := by decide +kernel
theorem dX8_add_8 : decode cX8_add 8 = .ok (.iload 5, 2) := by decide +kernel
theorem dX8_add_10 : decode cX8_add 10 = .ok (.iconst 4, 1) := by decide +kernel
theorem dX8_add_11 : decode cX8_add 11 = .ok (.iadd, 1) := by decide +kernel
theorem dX8_add_12 : decode cX8_add 12 = .ok (.aload_n 0, 1) := by decide +kernel
theorem dX8_add_13 : decode cX8_add 13 = .ok (.getfield 7, 3) := by decide +kernel
theorem dX8_add_16 : decode cX8_add 16 = .ok (.arraylength, 1) := by decide +kernel
theorem dX8_add_17 : decode cX8_add 17 = .ok (.if_icmp .le 21, 3) := by decide +kernel
theorem dX8_add_20 : decode cX8_add 20 = .ok (.aload_n 0, 1) := by decide +kernel
theorem dX8_add_21 : decode cX8_add 21 = .ok (.aload_n 0, 1) := by decide +kernel
theorem dX8_add_22 : decode cX8_add 22 = .ok (.getfield 7, 3) := by decide +kernel
theorem dX8_add_25 : decode cX8_add 25 = .ok (.iconst 2, 1) := by decide +kernel
theorem dX8_add_26 : decode cX8_add 26 = .ok (.aload_n 0, 1) := by decide +kernel
theorem dX8_add_27 : decode cX8_add 27 = .ok (.getfield 7, 3) := by decide +kernel
theorem dX8_add_30 : decode cX8_add 30 = .ok (.arraylength, 1) := by decide +kernel
theorem dX8_add_31 : decode cX8_add 31 = .ok (.imul, 1) := by decide +kernel
theorem dX8_add_32 : decode cX8_add 32 = .ok (.invokestatic 45, 3) := by decide +kernel
theorem dX8_add_35 : decode cX8_add 35 = .ok (.putfield 7, 3) := by decide +kernel
theorem dX8_add_38 : decode cX8_add 38 = .ok (.aload_n 0, 1) := by decide +kernel
theorem dX8_add_39 : decode cX8_add 39 = .ok (.getfield 7, 3) := by decide +kernel
theorem dX8_add_42 : decode cX8_add 42 = .ok (.iload 5, 2) := by decide +kernel
theorem dX8_add_44 : decode cX8_add 44 = .ok (.iload_n 1, 1) := by decide +kernel
theorem dX8_add_45 : decode cX8_add 45 = .ok (.iastore, 1) := by decide +kernel
theorem dX8_add_46 : decode cX8_add 46 = .ok (.aload_n 0, 1) := by decide +kernel
theorem dX8_add_47 : decode cX8_add 47 = .ok (.getfield 7, 3) := by decide +kernel
theorem dX8_add_50 : decode cX8_add 50 = .ok (.iload 5, 2) := by decide +kernel
theorem dX8_add_52 : decode cX8_add 52 = .ok (.iconst 1, 1) := by decide +kernel
theorem dX8_add_53 : decode cX8_add 53 = .ok (.iadd, 1) := by decide +kernel
theorem dX8_add_54 : decode cX8_add 54 = .ok (.iload_n 2, 1) := by decide +kernel
theorem dX8_add_55 : decode cX8_add 55 = .ok (.iastore, 1) := by decide +kernel
theorem dX8_add_56 : decode cX8_add 56 = .ok (.aload_n 0, 1) := by decide +kernel
theorem dX8_add_57 : decode cX8_add 57 = .ok (.getfield 7, 3) := by decide +kernel
theorem dX8_add_60 : decode cX8_add 60 = .ok (.iload 5, 2) := by decide +kernel
theorem dX8_add_62 : decode cX8_add 62 = .ok (.iconst 2, 1) := by decide +kernel
theorem dX8_add_63 : decode cX8_add 63 = .ok (.iadd, 1) := by decide +kernel
theorem dX8_add_64 : decode cX8_add 64 = .ok (.iload_n 3, 1) := by decide +kernel
theorem dX8_add_65 : decode cX8_add 65 = .ok (.iastore, 1) := by decide +kernel
theorem dX8_add_66 : decode cX8_add 66 = .ok (.aload_n 0, 1) := by decide +kernel
theorem dX8_add_67 : decode cX8_add 67 = .ok (.getfield 7, 3) := by decide +kernel
theorem dX8_add_70 : decode cX8_add 70 = .ok (.iload 5, 2) := by decide +kernel
theorem dX8_add_72 : decode cX8_add 72 = .ok (.iconst 3, 1) := by decide +kernel
theorem dX8_add_73 : decode cX8_add 73 = .ok (.iadd, 1) := by decide +kernel
theorem dX8_add_74 : decode cX8_add 74 = .ok (.iload 4, 2) := by decide +kernel
theorem dX8_add_76 : decode cX8_add 76 = .ok (.iastore, 1) := by decide +kernel
theorem dX8_add_77 : decode cX8_add 77 = .ok (.aload_n 0, 1) := by decide +kernel
theorem dX8_add_78 : decode cX8_add 78 = .ok (.dup, 1) := by decide +kernel
theorem dX8_add_79 : decode cX8_add 79 = .ok (.getfield 13, 3) := by decide +kernel
theorem dX8_add_82 : decode cX8_add 82 = .ok (.iconst 1, 1) := by decide +kernel
theorem dX8_add_83 : decode cX8_add 83 = .ok (.iadd, 1) := by decide +kernel
theorem dX8_add_84 : decode cX8_add 84 = .ok (.putfield 13, 3) := by decide +kernel
theorem dX8_add_87 : decode cX8_add 87 = .ok (.aload_n 0, 1) := by decide +kernel
theorem dX8_add_88 : decode cX8_add 88 = .ok (.getfield 13, 3) := by decide +kernel
theorem dX8_add_91 : decode cX8_add 91 = .ok (.iconst 1, 1) := by decide +kernel
theorem dX8_add_92 : decode cX8_add 92 = .ok (.isub, 1) := by decide +kernel
theorem dX8_add_93 : decode cX8_add 93 = .ok (.ireturn, 1) := by decide +kernel
theorem dX8_part_0 : decode cX8_part 0 = .ok (.iload_n 1, 1) := by decide +kernel
theorem dX8_part_1 : decode cX8_part 1 = .ok (.ifCond .lt 24, 3) := by decide +kernel
theorem dX8_part_4 : decode cX8_part 4 = .ok (.iload_n 1, 1) := by decide +kernel
theorem dX8_part_5 : decode cX8_part 5 = .ok (.aload_n 0, 1) := by decide +kernel
theorem dX8_part_6 : decode cX8_part 6 = .ok (.getfield 13, 3) := by decide +kernel
theorem dX8_part_9 : decode cX8_part 9 = .ok (.if_icmp .ge 16, 3) := by decide +kernel
theorem dX8_part_12 : decode cX8_part 12 = .ok (.aload_n 0, 1) := by decide +kernel
theorem dX8_part_13 : decode cX8_part 13 = .ok (.getfield 7, 3) := by decide +kernel
theorem dX8_part_16 : decode cX8_part 16 = .ok (.iload_n 1, 1) := by decide +kernel
theorem dX8_part_17 : decode cX8_part 17 = .ok (.iconst 4, 1) := by decide +kernel
theorem dX8_part_18 : decode cX8_part 18 = .ok (.imul, 1) := by decide +kernel
theorem dX8_part_19 : decode cX8_part 19 = .ok (.iload_n 2, 1) := by decide +kernel
theorem dX8_part_20 : decode cX8_part 20 = .ok (.iadd, 1) := by decide +kernel
theorem dX8_part_21 : decode cX8_part 21 = .ok (.iaload, 1) := by decide +kernel
theorem dX8_part_22 : decode cX8_part 22 = .ok (.goto 4, 3) := by decide +kernel
theorem dX8_part_25 : decode cX8_part 25 = .ok (.iconst 0, 1) := by decide +kernel
theorem dX8_part_26 : decode cX8_part 26 = .ok (.ireturn, 1) := by decide +kernel
theorem dX8_op_0 : decode cX8_op 0 = .ok (.aload_n 0, 1) := by decide +kernel
theorem dX8_op_1 : decode cX8_op 1 = .ok (.iload_n 1, 1) := by decide +kernel
theorem dX8_op_2 : decode cX8_op 2 = .ok (.iconst 0, 1) := by decide +kernel
theorem dX8_op_3 : decode cX8_op 3 = .ok (.invokevirtual 51, 3) := by decide +kernel
theorem dX8_op_6 : decode cX8_op 6 = .ok (.ireturn, 1) := by decide +kernel
theorem dX8_first_0 : decode cX8_first 0 = .ok (.aload_n 0, 1) := by decide +kernel
theorem dX8_first_1 : decode cX8_first 1 = .ok (.iload_n 1, 1) := by decide +kernel
theorem dX8_first_2 : decode cX8_first 2 = .ok (.iconst 1, 1) := by decide +kernel
theorem dX8_first_3 : decode cX8_first 3 = .ok (.invokevirtual 51, 3) := by decide +kernel
theorem dX8_first_6 : decode cX8_first 6 = .ok (.ireturn, 1) := by decide +kernel
theorem dX8_second_0 : decode cX8_second 0 = .ok (.aload_n 0, 1) := by decide +kernel
theorem dX8_second_1 : decode cX8_second 1 = .ok (.iload_n 1, 1) := by decide +kernel
theorem dX8_second_2 : decode cX8_second 2 = .ok (.iconst 2, 1) := by decide +kernel
theorem dX8_second_3 : decode cX8_second 3 = .ok (.invokevirtual 51, 3) := by decide +kernel
theorem dX8_second_6 : decode cX8_second 6 = .ok (.ireturn, 1) := by decide +kernel
theorem dX8_place_0 : decode cX8_place 0 = .ok (.aload_n 0, 1) := by decide +kernel
theorem dX8_place_1 : decode cX8_place 1 = .ok (.iload_n 1, 1) := by decide +kernel
theorem dX8_place_2 : decode cX8_place 2 = .ok (.iconst 3, 1) := by decide +kernel
theorem dX8_place_3 : decode cX8_place 3 = .ok (.invokevirtual 51, 3) := by decide +kernel
theorem dX8_place_6 : decode cX8_place 6 = .ok (.ireturn, 1) := by decide +kernel
theorem dX8_setOp_0 : decode cX8_setOp 0 = .ok (.iload_n 1, 1) := by decide +kernel
theorem dX8_setOp_1 : decode cX8_setOp 1 = .ok (.ifCond .lt 20, 3) := by decide +kernel
theorem dX8_setOp_4 : decode cX8_setOp 4 = .ok (.iload_n 1, 1) := by decide +kernel
theorem dX8_setOp_5 : decode cX8_setOp 5 = .ok (.aload_n 0, 1) := by decide +kernel
theorem dX8_setOp_6 : decode cX8_setOp 6 = .ok (.getfield 13, 3) := by decide +kernel
theorem dX8_setOp_9 : decode cX8_setOp 9 = .ok (.if_icmp .ge 12, 3) := by decide +kernel
theorem dX8_setOp_12 : decode cX8_setOp 12 = .ok (.aload_n 0, 1) := by decide +kernel
theorem dX8_setOp_13 : decode cX8_setOp 13 = .ok (.getfield 7, 3) := by decide +kernel
theorem dX8_setOp_16 : decode cX8_setOp 16 = .ok (.iload_n 1, 1) := by decide +kernel
theorem dX8_setOp_17 : decode cX8_setOp 17 = .ok (.iconst 4, 1) := by decide +kernel
theorem dX8_setOp_18 : decode cX8_setOp 18 = .ok (.imul, 1) := by decide +kernel
theorem dX8_setOp_19 : decode cX8_setOp 19 = .ok (.iload_n 2, 1) := by decide +kernel
theorem dX8_setOp_20 : decode cX8_setOp 20 = .ok (.iastore, 1) := by decide +kernel
theorem dX8_setOp_21 : decode cX8_setOp 21 = .ok (.return_, 1) := by decide +kernel
theorem dX8_setFirst_0 : decode cX8_setFirst 0 = .ok (.iload_n 1, 1) := by decide +kernel
theorem dX8_setFirst_1 : decode cX8_setFirst 1 = .ok (.ifCond .lt 22, 3) := by decide +kernel
theorem dX8_setFirst_4 : decode cX8_setFirst 4 = .ok (.iload_n 1, 1) := by decide +kernel
theorem dX8_setFirst_5 : decode cX8_setFirst 5 = .ok (.aload_n 0, 1) := by decide +kernel
theorem dX8_setFirst_6 : decode cX8_setFirst 6 = .ok (.getfield 13, 3) := by decide +kernel
theorem dX8_setFirst_9 : decode cX8_setFirst 9 = .ok (.if_icmp .ge 14, 3) := by decide +kernel
theorem dX8_setFirst_12 : decode cX8_setFirst 12 = .ok (.aload_n 0, 1) := by decide +kernel
theorem dX8_setFirst_13 : decode cX8_setFirst 13 = .ok (.getfield 7, 3) := by decide +kernel
theorem dX8_setFirst_16 : decode cX8_setFirst 16 = .ok (.iload_n 1, 1) := by decide +kernel
theorem dX8_setFirst_17 : decode cX8_setFirst 17 = .ok (.iconst 4, 1) := by decide +kernel
theorem dX8_setFirst_18 : decode cX8_setFirst 18 = .ok (.imul, 1) := by decide +kernel
theorem dX8_setFirst_19 : decode cX8_setFirst 19 = .ok (.iconst 1, 1) := by decide +kernel
theorem dX8_setFirst_20 : decode cX8_setFirst 20 = .ok (.iadd, 1) := by decide +kernel
theorem dX8_setFirst_21 : decode cX8_setFirst 21 = .ok (.iload_n 2, 1) := by decide +kernel
theorem dX8_setFirst_22 : decode cX8_setFirst 22 = .ok (.iastore, 1) := by decide +kernel
theorem dX8_setFirst_23 : decode cX8_setFirst 23 = .ok (.return_, 1) := by decide +kernel
theorem dX8_setSecond_0 : decode cX8_setSecond 0 = .ok (.iload_n 1, 1) := by decide +kernel
theorem dX8_setSecond_1 : decode cX8_setSecond 1 = .ok (.ifCond .lt 22, 3) := by decide +kernel
theorem dX8_setSecond_4 : decode cX8_setSecond 4 = .ok (.iload_n 1, 1) := by decide +kernel
theorem dX8_setSecond_5 : decode cX8_setSecond 5 = .ok (.aload_n 0, 1) := by decide +kernel
theorem dX8_setSecond_6 : decode cX8_setSecond 6 = .ok (.getfield 13, 3) := by decide +kernel
theorem dX8_setSecond_9 : decode cX8_setSecond 9 = .ok (.if_icmp .ge 14, 3) := by decide +kernel
theorem dX8_setSecond_12 : decode cX8_setSecond 12 = .ok (.aload_n 0, 1) := by decide +kernel
theorem dX8_setSecond_13 : decode cX8_setSecond 13 = .ok (.getfield 7, 3) := by decide +kernel
theorem dX8_setSecond_16 : decode cX8_setSecond 16 = .ok (.iload_n 1, 1) := by decide +kernel
theorem dX8_setSecond_17 : decode cX8_setSecond 17 = .ok (.iconst 4, 1) := by decide +kernel
theorem dX8_setSecond_18 : decode cX8_setSecond 18 = .ok (.imul, 1) := by decide +kernel
theorem dX8_setSecond_19 : decode cX8_setSecond 19 = .ok (.iconst 2, 1) := by decide +kernel
theorem dX8_setSecond_20 : decode cX8_setSecond 20 = .ok (.iadd, 1) := by decide +kernel
theorem dX8_setSecond_21 : decode cX8_setSecond 21 = .ok (.iload_n 2, 1) := by decide +kernel
theorem dX8_setSecond_22 : decode cX8_setSecond 22 = .ok (.iastore, 1) := by decide +kernel
theorem dX8_setSecond_23 : decode cX8_setSecond 23 = .ok (.return_, 1) := by decide +kernel
theorem dX8_addConstant_0 : decode cX8_addConstant 0 = .ok (.aload_n 0, 1) := by decide +kernel
theorem dX8_addConstant_1 : decode cX8_addConstant 1 = .ok (.getfield 22, 3) := by decide +kernel
theorem dX8_addConstant_4 : decode cX8_addConstant 4 = .ok (.iload_n 1, 1) := by decide +kernel
theorem dX8_addConstant_5 : decode cX8_addConstant 5 = .ok (.lload_n 2, 1) := by decide +kernel
theorem dX8_addConstant_6 : decode cX8_addConstant 6 = .ok (.dload 4, 2) := by decide +kernel
theorem dX8_addConstant_8 : decode cX8_addConstant 8 = .ok (.invokevirtual 55, 3) := by decide +kernel
theorem dX8_addConstant_11 : decode cX8_addConstant 11 = .ok (.aload_n 0, 1) := by decide +kernel
theorem dX8_addConstant_12 : decode cX8_addConstant 12 = .ok (.getfield 22, 3) := by decide +kernel
theorem dX8_addConstant_15 : decode cX8_addConstant 15 = .ok (.invokevirtual 59, 3) := by decide +kernel
theorem dX8_addConstant_18 : decode cX8_addConstant 18 = .ok (.iconst 1, 1) := by decide +kernel
theorem dX8_addConstant_19 : decode cX8_addConstant 19 = .ok (.isub, 1) := by decide +kernel
theorem dX8_addConstant_20 : decode cX8_addConstant 20 = .ok (.ireturn, 1) := by decide +kernel
theorem dX8_addFunction_0 : decode cX8_addFunction 0 = .ok (.aload_n 0, 1) := by decide +kernel
theorem dX8_addFunction_1 : decode cX8_addFunction 1 = .ok (.getfield 39, 3) := by decide +kernel
theorem dX8_addFunction_4 : decode cX8_addFunction 4 = .ok (.bipush 40, 2) := by decide +kernel
theorem dX8_addFunction_6 : decode cX8_addFunction 6 = .ok (.if_icmp .ge 36, 3) := by decide +kernel
theorem dX8_addFunction_9 : decode cX8_addFunction 9 = .ok (.aload_n 0, 1) := by decide +kernel
theorem dX8_addFunction_10 : decode cX8_addFunction 10 = .ok (.getfield 26, 3) := by decide +kernel
theorem dX8_addFunction_13 : decode cX8_addFunction 13 = .ok (.aload_n 0, 1) := by decide +kernel
theorem dX8_addFunction_14 : decode cX8_addFunction 14 = .ok (.getfield 39, 3) := by decide +kernel
theorem dX8_addFunction_17 : decode cX8_addFunction 17 = .ok (.lload_n 1, 1) := by decide +kernel
theorem dX8_addFunction_18 : decode cX8_addFunction 18 = .ok (.lastore, 1) := by decide +kernel
theorem dX8_addFunction_19 : decode cX8_addFunction 19 = .ok (.aload_n 0, 1) := by decide +kernel
theorem dX8_addFunction_20 : decode cX8_addFunction 20 = .ok (.getfield 30, 3) := by decide +kernel
theorem dX8_addFunction_23 : decode cX8_addFunction 23 = .ok (.aload_n 0, 1) := by decide +kernel
theorem dX8_addFunction_24 : decode cX8_addFunction 24 = .ok (.getfield 39, 3) := by decide +kernel
theorem dX8_addFunction_27 : decode cX8_addFunction 27 = .ok (.aload_n 0, 1) := by decide +kernel
theorem dX8_addFunction_28 : decode cX8_addFunction 28 = .ok (.getfield 13, 3) := by decide +kernel
theorem dX8_addFunction_31 : decode cX8_addFunction 31 = .ok (.iastore, 1) := by decide +kernel
theorem dX8_addFunction_32 : decode cX8_addFunction 32 = .ok (.aload_n 0, 1) := by decide +kernel
theorem dX8_addFunction_33 : decode cX8_addFunction 33 = .ok (.dup, 1) := by decide +kernel
theorem dX8_addFunction_34 : decode cX8_addFunction 34 = .ok (.getfield 39, 3) := by decide +kernel
theorem dX8_addFunction_37 : decode cX8_addFunction 37 = .ok (.iconst 1, 1) := by decide +kernel
theorem dX8_addFunction_38 : decode cX8_addFunction 38 = .ok (.iadd, 1) := by decide +kernel
theorem dX8_addFunction_39 : decode cX8_addFunction 39 = .ok (.putfield 39, 3) := by decide +kernel
theorem dX8_addFunction_42 : decode cX8_addFunction 42 = .ok (.return_, 1) := by decide +kernel
theorem dX8_setCounts_0 : decode cX8_setCounts 0 = .ok (.iload_n 1, 1) := by decide +kernel
theorem dX8_setCounts_1 : decode cX8_setCounts 1 = .ok (.ifCond .lt 25, 3) := by decide +kernel
theorem dX8_setCounts_4 : decode cX8_setCounts 4 = .ok (.iload_n 1, 1) := by decide +kernel
theorem dX8_setCounts_5 : decode cX8_setCounts 5 = .ok (.aload_n 0, 1) := by decide +kernel
theorem dX8_setCounts_6 : decode cX8_setCounts 6 = .ok (.getfield 39, 3) := by decide +kernel
theorem dX8_setCounts_9 : decode cX8_setCounts 9 = .ok (.if_icmp .ge 17, 3) := by decide +kernel
theorem dX8_setCounts_12 : decode cX8_setCounts 12 = .ok (.aload_n 0, 1) := by decide +kernel
theorem dX8_setCounts_13 : decode cX8_setCounts 13 = .ok (.getfield 33, 3) := by decide +kernel
theorem dX8_setCounts_16 : decode cX8_setCounts 16 = .ok (.iload_n 1, 1) := by decide +kernel
theorem dX8_setCounts_17 : decode cX8_setCounts 17 = .ok (.iload_n 2, 1) := by decide +kernel
theorem dX8_setCounts_18 : decode cX8_setCounts 18 = .ok (.iastore, 1) := by decide +kernel
theorem dX8_setCounts_19 : decode cX8_setCounts 19 = .ok (.aload_n 0, 1) := by decide +kernel
theorem dX8_setCounts_20 : decode cX8_setCounts 20 = .ok (.getfield 36, 3) := by decide +kernel
theorem dX8_setCounts_23 : decode cX8_setCounts 23 = .ok (.iload_n 1, 1) := by decide +kernel
theorem dX8_setCounts_24 : decode cX8_setCounts 24 = .ok (.iload_n 3, 1) := by decide +kernel
theorem dX8_setCounts_25 : decode cX8_setCounts 25 = .ok (.iastore, 1) := by decide +kernel
theorem dX8_setCounts_26 : decode cX8_setCounts 26 = .ok (.return_, 1) := by decide +kernel
theorem dX8_find_0 : decode cX8_find 0 = .ok (.iconst 0, 1) := by decide +kernel
theorem dX8_find_1 : decode cX8_find 1 = .ok (.istore_n 3, 1) := by decide +kernel
theorem dX8_find_2 : decode cX8_find 2 = .ok (.iload_n 3, 1) := by decide +kernel
theorem dX8_find_3 : decode cX8_find 3 = .ok (.aload_n 0, 1) := by decide +kernel
theorem dX8_find_4 : decode cX8_find 4 = .ok (.getfield 39, 3) := by decide +kernel
theorem dX8_find_7 : decode cX8_find 7 = .ok (.if_icmp .ge 22, 3) := by decide +kernel
theorem dX8_find_10 : decode cX8_find 10 = .ok (.aload_n 0, 1) := by decide +kernel
theorem dX8_find_11 : decode cX8_find 11 = .ok (.getfield 26, 3) := by decide +kernel
theorem dX8_find_14 : decode cX8_find 14 = .ok (.iload_n 3, 1) := by decide +kernel
theorem dX8_find_15 : decode cX8_find 15 = .ok (.laload, 1) := by decide +kernel
theorem dX8_find_16 : decode cX8_find 16 = .ok (.lload_n 1, 1) := by decide +kernel
theorem dX8_find_17 : decode cX8_find 17 = .ok (.lcmp, 1) := by decide +kernel
theorem dX8_find_18 : decode cX8_find 18 = .ok (.ifCond .ne 5, 3) := by decide +kernel
theorem dX8_find_21 : decode cX8_find 21 = .ok (.iload_n 3, 1) := by decide +kernel
theorem dX8_find_22 : decode cX8_find 22 = .ok (.ireturn, 1) := by decide +kernel
theorem dX8_find_23 : decode cX8_find 23 = .ok (.iinc 3 1, 3) := by decide +kernel
theorem dX8_find_26 : decode cX8_find 26 = .ok (.goto (-24), 3) := by decide +kernel
theorem dX8_find_29 : decode cX8_find 29 = .ok (.iconst (-1), 1) := by decide +kernel
theorem dX8_find_30 : decode cX8_find 30 = .ok (.ireturn, 1) := by decide +kernel
theorem dX8_start_0 : decode cX8_start 0 = .ok (.iload_n 1, 1) := by decide +kernel
theorem dX8_start_1 : decode cX8_start 1 = .ok (.ifCond .lt 20, 3) := by decide +kernel
theorem dX8_start_4 : decode cX8_start 4 = .ok (.iload_n 1, 1) := by decide +kernel
theorem dX8_start_5 : decode cX8_start 5 = .ok (.aload_n 0, 1) := by decide +kernel
theorem dX8_start_6 : decode cX8_start 6 = .ok (.getfield 39, 3) := by decide +kernel
theorem dX8_start_9 : decode cX8_start 9 = .ok (.if_icmp .ge 12, 3) := by decide +kernel
theorem dX8_start_12 : decode cX8_start 12 = .ok (.aload_n 0, 1) := by decide +kernel
theorem dX8_start_13 : decode cX8_start 13 = .ok (.getfield 30, 3) := by decide +kernel
theorem dX8_start_16 : decode cX8_start 16 = .ok (.iload_n 1, 1) := by decide +kernel
theorem dX8_start_17 : decode cX8_start 17 = .ok (.iaload, 1) := by decide +kernel
theorem dX8_start_18 : decode cX8_start 18 = .ok (.goto 7, 3) := by decide +kernel
theorem dX8_start_21 : decode cX8_start 21 = .ok (.aload_n 0, 1) := by decide +kernel
theorem dX8_start_22 : decode cX8_start 22 = .ok (.getfield 13, 3) := by decide +kernel
theorem dX8_start_25 : decode cX8_start 25 = .ok (.ireturn, 1) := by decide +kernel
theorem dX8_parameters_0 : decode cX8_parameters 0 = .ok (.iload_n 1, 1) := by decide +kernel
theorem dX8_parameters_1 : decode cX8_parameters 1 = .ok (.ifCond .lt 20, 3) := by decide +kernel
theorem dX8_parameters_4 : decode cX8_parameters 4 = .ok (.iload_n 1, 1) := by decide +kernel
theorem dX8_parameters_5 : decode cX8_parameters 5 = .ok (.aload_n 0, 1) := by decide +kernel
theorem dX8_parameters_6 : decode cX8_parameters 6 = .ok (.getfield 39, 3) := by decide +kernel
theorem dX8_parameters_9 : decode cX8_parameters 9 = .ok (.if_icmp .ge 12, 3) := by decide +kernel
theorem dX8_parameters_12 : decode cX8_parameters 12 = .ok (.aload_n 0, 1) := by decide +kernel
theorem dX8_parameters_13 : decode cX8_parameters 13 = .ok (.getfield 33, 3) := by decide +kernel
theorem dX8_parameters_16 : decode cX8_parameters 16 = .ok (.iload_n 1, 1) := by decide +kernel
theorem dX8_parameters_17 : decode cX8_parameters 17 = .ok (.iaload, 1) := by decide +kernel
theorem dX8_parameters_18 : decode cX8_parameters 18 = .ok (.goto 4, 3) := by decide +kernel
theorem dX8_parameters_21 : decode cX8_parameters 21 = .ok (.iconst 0, 1) := by decide +kernel
theorem dX8_parameters_22 : decode cX8_parameters 22 = .ok (.ireturn, 1) := by decide +kernel
theorem dX8_variables_0 : decode cX8_variables 0 = .ok (.iload_n 1, 1) := by decide +kernel
theorem dX8_variables_1 : decode cX8_variables 1 = .ok (.ifCond .lt 20, 3) := by decide +kernel
theorem dX8_variables_4 : decode cX8_variables 4 = .ok (.iload_n 1, 1) := by decide +kernel
theorem dX8_variables_5 : decode cX8_variables 5 = .ok (.aload_n 0, 1) := by decide +kernel
theorem dX8_variables_6 : decode cX8_variables 6 = .ok (.getfield 39, 3) := by decide +kernel
theorem dX8_variables_9 : decode cX8_variables 9 = .ok (.if_icmp .ge 12, 3) := by decide +kernel
theorem dX8_variables_12 : decode cX8_variables 12 = .ok (.aload_n 0, 1) := by decide +kernel
theorem dX8_variables_13 : decode cX8_variables 13 = .ok (.getfield 36, 3) := by decide +kernel
theorem dX8_variables_16 : decode cX8_variables 16 = .ok (.iload_n 1, 1) := by decide +kernel
theorem dX8_variables_17 : decode cX8_variables 17 = .ok (.iaload, 1) := by decide +kernel
theorem dX8_variables_18 : decode cX8_variables 18 = .ok (.goto 4, 3) := by decide +kernel
theorem dX8_variables_21 : decode cX8_variables 21 = .ok (.iconst 0, 1) := by decide +kernel
theorem dX8_variables_22 : decode cX8_variables 22 = .ok (.ireturn, 1) := by decide +kernel
set_option maxHeartbeats 4000000 in
set_option maxRecDepth 100000 in
theorem c_X8_clear (ω : Om) (l : Launch) (μ : M3) (pq : Int) (hpr : isPr pq) (hI : IC μ) : CtV ω l yX8_clear cX8_clear 1 3 125 [.ref (oP ω pq)] μ (fun (μ' : M3) => (Fr [pq, pq + 2, (pq + 2) + 1, (pq + 2) + 2, (pq + 2) + 3] μ μ') ∧ (IC μ') ∧ (μ'.1 pq 1 = 0) ∧ (μ'.1 pq 7 = 0)) := by
  refine CtV.go (by decide) (Nat.le_of_ble_eq_true rfl) (fun ρ p e s m below meth c R ls G hR hret hlk hl => ?_)
  have hx := G.1.1
  have hb := G.1.2.1
  have hl : lv_has ls 1 [(0, .ref (oP ω pq))] := hl
  generalize s.drawn = d0 at G ⊢
  have hpr_d : pq = 13 ∨ pq = 71 ∨ pq = 81 ∨ pq = 91 ∨ pq = 101 := hpr
  have hk_1 := hI.pr (p := pq) hpr
  unfold pk at hk_1
  have hc_2 : 16 ≤ μ.2.1 (pq + 1) ∧ μ.2.1 (pq + 1) ≤ 73024 := hI.rm.1 _ hpr.cap
  have hbr9 := hpr.br
  refine lv_aload_n hx hb dX8_clear_0 rfl (lv_at hl 0 rfl) ?_
  refine lv_iconst (v := iv 0) hx hb dX8_clear_1 rfl ?_
  refine xa_puti G fd_X8 (a := pq) (x := 0) 1 (kz := 1) rfl hpr.ly (by decide) rfl (by unfold ir; omega) (wm 1 165 rfl rfl) ⟨rfl, rfl, rfl, rfl⟩ rfl dX8_clear_2 (hpr.hq ω ρ) (fun H locs G => ?_)
  refine lv_aload_n hx hb dX8_clear_5 rfl (lv_at hl 0 rfl) ?_
  refine lv_iconst (v := iv 0) hx hb dX8_clear_6 rfl ?_
  refine xa_puti G fd_X8 (a := pq) (x := 0) 7 (kz := 7) rfl hpr.ly (by decide) rfl (by unfold ir; omega) (wm 1 171 rfl rfl) ⟨rfl, rfl, rfl, rfl⟩ rfl dX8_clear_7 (hpr.hq ω ρ) (fun H locs G => ?_)
  refine lv_aload_n hx hb dX8_clear_10 rfl (lv_at hl 0 rfl) ?_
  refine xa_getr G fd_X8 (a := pq) (x := pq + 2) 2 hpr.ly (by decide) rfl (wm 1 166 rfl rfl) ⟨rfl, rfl, rfl⟩ dX8_clear_11 (hpr.hq ω ρ) (G.sr hpr.s2) (by omega) ((hpr.row).hq ω ρ) ?_
  refine lv_iconst (v := iv 0) hx hb dX8_clear_14 rfl ?_
  have hI_3 : IC (sv (sv μ pq 1 0) pq 7 0) := (IC.pf (IC.pl hI hpr (by have h9 : μ.2.1 (pq + 1) = μ.2.1 (pq + 1) := rfl; omega)) hpr (by omega))
  have hbr_4 : BR (pq + 2) = 9000 := hpr.br
  refine xc_vV G (b := pq + 2) (rest := []) (As := [.int (iv 0)]) (c_X9_resize ω l (sv (sv μ pq 1 0) pq 7 0) (pq + 2) 0 (hpr.row) (by unfold ir; omega) hI_3 (by omega)) (wm 3 14 rfl rfl) (wm 3 15 rfl rfl) (wm 3 16 rfl rfl) (hpr.row).ly rfl (by decide) ((hpr.row).hq ω ρ) (wm 1 10 rfl rfl) (wm 3 17 rfl rfl) (by decide) hR (by decide) (n := 1) rfl rfl (Nat.le_of_ble_eq_true rfl) hl.1 dX8_clear_15 (fun μ5 ρ d0 H locs hp G => ?_)
  obtain ⟨F_6, hI_7, hs_8⟩ := hp
  have e_9 : μ5.1 pq 1 = 0 := ((F_6.1 pq (by simp <;> omega) 1).trans ((sv_n _ (fun h9 => absurd h9.2 (by decide))).trans (sv_s _ _ _ _)))
  have e_10 : μ5.1 pq 7 = 0 := ((F_6.1 pq (by simp <;> omega) 7).trans (sv_s _ _ _ _))
  exact xr_v G hret hlk dX8_clear_18 ⟨(Fr.tr (Fr.put (Fr.put Fr.rf (by simp)) (by simp)) F_6 (by simp)), hI_7, (by omega), (by omega)⟩

set_option maxHeartbeats 4000000 in
set_option maxRecDepth 100000 in
theorem c_X8_part (ω : Om) (l : Launch) (μ : M3) (pq : Int) (x1 : Int) (x2 : Int) (n : Int) (hpr : isPr pq) (hx1 : ir x1) (hx2 : ir x2) (hI : IC μ) (hn : n = μ.1 pq 1) (hk4 : 0 ≤ x2 ∧ x2 < 4) : CtI ω l yX8_part cX8_part 3 .int 0 0 [.ref (oP ω pq), .int (iv x1), .int (iv x2)] μ (fun (r : Int) (μ' : M3) => (μ' = μ) ∧ (r = cdp μ pq x1 x2)) := by
  refine CtI.go (by decide) (Nat.le_of_ble_eq_true rfl) (fun ρ p e s m below meth c R ls G hR hret hlk hl => ?_)
  have hx := G.1.1
  have hb := G.1.2.1
  have hl : lv_has ls 3 [(0, .ref (oP ω pq)), (1, .int (iv x1)), (2, .int (iv x2))] := hl
  generalize s.drawn = d0 at G ⊢
  have hr_x1 : -2147483648 ≤ x1 ∧ x1 ≤ 2147483647 := hx1
  have hr_x2 : -2147483648 ≤ x2 ∧ x2 ≤ 2147483647 := hx2
  have hpr_d : pq = 13 ∨ pq = 71 ∨ pq = 81 ∨ pq = 91 ∨ pq = 101 := hpr
  have hk_1 := hI.pr (p := pq) hpr
  unfold pk at hk_1
  have hc_2 : 16 ≤ μ.2.1 (pq + 1) ∧ μ.2.1 (pq + 1) ≤ 73024 := hI.rm.1 _ hpr.cap
  have hbr9 := hpr.br
  refine lv_iload_n hx hb dX8_part_0 rfl (lv_at hl 1 rfl) ?_
  refine xb_if_lt (tgt := 25) hx hb (by unfold ir; omega) dX8_part_1 (by decide) (fun c_1 => ?_) (fun c_1 => ?_)
  · refine lv_iconst (v := iv 0) hx hb dX8_part_25 rfl ?_
    exact xr_i G (x := 0) hret hlk (by unfold ir; omega) rfl dX8_part_26 ⟨rfl, (cdp_out (by omega))⟩
  · refine lv_iload_n hx hb dX8_part_4 rfl (lv_at hl 1 rfl) ?_
    refine lv_aload_n hx hb dX8_part_5 rfl (lv_at hl 0 rfl) ?_
    refine xa_geti G fd_X8 (a := pq) (x := n) 1 hpr.ly (by decide) rfl (wm 1 165 rfl rfl) ⟨rfl, rfl, rfl⟩ dX8_part_6 (hpr.hq ω ρ) hn.symm ?_
    have hr_3 : -2147483648 ≤ n ∧ n ≤ 2147483647 := by have h9 := G.hr (a := pq) (k := 1) hpr.t1; rw [show μ.1 pq 1 = n from hn.symm] at h9; exact h9
    refine xb_icmp_ge (tgt := 25) hx hb (by unfold ir; omega) (by unfold ir; omega) dX8_part_9 (by decide) (fun c_9 => ?_) (fun c_9 => ?_)
    · refine lv_iconst (v := iv 0) hx hb dX8_part_25 rfl ?_
      exact xr_i G (x := 0) hret hlk (by unfold ir; omega) rfl dX8_part_26 ⟨rfl, (cdp_out (by omega))⟩
    · refine lv_aload_n hx hb dX8_part_12 rfl (lv_at hl 0 rfl) ?_
      refine xa_getr G fd_X8 (a := pq) (x := pq + 1) 0 hpr.ly (by decide) rfl (wm 1 164 rfl rfl) ⟨rfl, rfl, rfl⟩ dX8_part_13 (hpr.hq ω ρ) (G.sr hpr.s0) (by omega) (hpr.hq1 ω ρ) ?_
      refine lv_iload_n hx hb dX8_part_16 rfl (lv_at hl 1 rfl) ?_
      refine lv_iconst (v := iv 4) hx hb dX8_part_17 rfl ?_
      refine xb_imul hx hb dX8_part_18 ?_
      refine lv_iload_n hx hb dX8_part_19 rfl (lv_at hl 2 rfl) ?_
      refine xb_iadd hx hb dX8_part_20 ?_
      refine xa_iald G (a := pq + 1) (i := (x1 * 4) + x2) hpr.ly1 (by omega) dX8_part_21 (hpr.hq1 ω ρ) ?_
      have hr_4 : -2147483648 ≤ μ.1 (pq + 1) ((x1 * 4) + x2) ∧ μ.1 (pq + 1) ((x1 * 4) + x2) ≤ 2147483647 := by have h9 := G.hr (a := pq + 1) (k := (x1 * 4) + x2) hpr.ta; exact h9
      refine lv_goto (tgt := 26) hx hb dX8_part_22 (by decide) ?_
      exact xr_i G (x := μ.1 (pq + 1) ((x1 * 4) + x2)) hret hlk (by unfold ir; omega) rfl dX8_part_26 ⟨rfl, (cdp_in (by omega) (by omega))⟩

set_option maxHeartbeats 4000000 in
set_option maxRecDepth 100000 in
theorem c_X8_op (ω : Om) (l : Launch) (μ : M3) (pq : Int) (x1 : Int) (hpr : isPr pq) (hx1 : ir x1) (hI : IC μ) : CtI ω l yX8_op cX8_op 2 .int 1 22 [.ref (oP ω pq), .int (iv x1)] μ (fun (r : Int) (μ' : M3) => (μ' = μ) ∧ (r = cdp μ pq x1 0)) := by
  refine CtI.go (by decide) (Nat.le_of_ble_eq_true rfl) (fun ρ p e s m below meth c R ls G hR hret hlk hl => ?_)
  have hx := G.1.1
  have hb := G.1.2.1
  have hl : lv_has ls 2 [(0, .ref (oP ω pq)), (1, .int (iv x1))] := hl
  generalize s.drawn = d0 at G ⊢
  have hr_x1 : -2147483648 ≤ x1 ∧ x1 ≤ 2147483647 := hx1
  have hpr_d : pq = 13 ∨ pq = 71 ∨ pq = 81 ∨ pq = 91 ∨ pq = 101 := hpr
  refine lv_aload_n hx hb dX8_op_0 rfl (lv_at hl 0 rfl) ?_
  refine lv_iload_n hx hb dX8_op_1 rfl (lv_at hl 1 rfl) ?_
  refine lv_iconst (v := iv 0) hx hb dX8_op_2 rfl ?_
  have hk_1 := hI.pr (p := pq) hpr
  unfold pk at hk_1
  have hc_2 : 16 ≤ μ.2.1 (pq + 1) ∧ μ.2.1 (pq + 1) ≤ 73024 := hI.rm.1 _ hpr.cap
  refine xc_iV G (b := pq) (rest := []) (As := [.int (iv x1), .int (iv 0)]) (c_X8_part ω l μ pq x1 0 (μ.1 pq 1) hpr (by unfold ir; omega) (by unfold ir; omega) hI (by omega) (by omega)) (wm 4 47 rfl rfl) (wm 4 49 rfl rfl) (wm 0 33 rfl rfl) hpr.ly rfl (by decide) (hpr.hq ω ρ) (wm 1 9 rfl rfl) (wm 4 50 rfl rfl) (by decide) hR (by decide) (n := 2) rfl rfl (Nat.le_of_ble_eq_true rfl) hl.1 dX8_op_3 (fun r_4 μ3 ρ d0 H locs hr_r_4 hp G => ?_)
  have hr_r_4 : -2147483648 ≤ r_4 ∧ r_4 ≤ 2147483647 := hr_r_4
  obtain ⟨hsm_5, hp_6⟩ := hp
  have hsm_5 := Eq.symm hsm_5
  subst hsm_5
  exact xr_i G (x := r_4) hret hlk (by unfold ir; omega) rfl dX8_op_6 ⟨rfl, hp_6⟩

set_option maxHeartbeats 4000000 in
set_option maxRecDepth 100000 in
theorem c_X8_first (ω : Om) (l : Launch) (μ : M3) (pq : Int) (x1 : Int) (hpr : isPr pq) (hx1 : ir x1) (hI : IC μ) : CtI ω l yX8_first cX8_first 2 .int 1 22 [.ref (oP ω pq), .int (iv x1)] μ (fun (r : Int) (μ' : M3) => (μ' = μ) ∧ (r = cdp μ pq x1 1)) := by
  refine CtI.go (by decide) (Nat.le_of_ble_eq_true rfl) (fun ρ p e s m below meth c R ls G hR hret hlk hl => ?_)
  have hx := G.1.1
  have hb := G.1.2.1
  have hl : lv_has ls 2 [(0, .ref (oP ω pq)), (1, .int (iv x1))] := hl
  generalize s.drawn = d0 at G ⊢
  have hr_x1 : -2147483648 ≤ x1 ∧ x1 ≤ 2147483647 := hx1
  have hpr_d : pq = 13 ∨ pq = 71 ∨ pq = 81 ∨ pq = 91 ∨ pq = 101 := hpr
  refine lv_aload_n hx hb dX8_first_0 rfl (lv_at hl 0 rfl) ?_
  refine lv_iload_n hx hb dX8_first_1 rfl (lv_at hl 1 rfl) ?_
  refine lv_iconst (v := iv 1) hx hb dX8_first_2 rfl ?_
  have hk_1 := hI.pr (p := pq) hpr
  unfold pk at hk_1
  have hc_2 : 16 ≤ μ.2.1 (pq + 1) ∧ μ.2.1 (pq + 1) ≤ 73024 := hI.rm.1 _ hpr.cap
  refine xc_iV G (b := pq) (rest := []) (As := [.int (iv x1), .int (iv 1)]) (c_X8_part ω l μ pq x1 1 (μ.1 pq 1) hpr (by unfold ir; omega) (by unfold ir; omega) hI (by omega) (by omega)) (wm 4 47 rfl rfl) (wm 4 49 rfl rfl) (wm 0 33 rfl rfl) hpr.ly rfl (by decide) (hpr.hq ω ρ) (wm 1 9 rfl rfl) (wm 4 50 rfl rfl) (by decide) hR (by decide) (n := 2) rfl rfl (Nat.le_of_ble_eq_true rfl) hl.1 dX8_first_3 (fun r_4 μ3 ρ d0 H locs hr_r_4 hp G => ?_)
  have hr_r_4 : -2147483648 ≤ r_4 ∧ r_4 ≤ 2147483647 := hr_r_4
  obtain ⟨hsm_5, hp_6⟩ := hp
  have hsm_5 := Eq.symm hsm_5
  subst hsm_5
  exact xr_i G (x := r_4) hret hlk (by unfold ir; omega) rfl dX8_first_6 ⟨rfl, hp_6⟩

set_option maxHeartbeats 4000000 in
set_option maxRecDepth 100000 in
theorem c_X8_second (ω : Om) (l : Launch) (μ : M3) (pq : Int) (x1 : Int) (hpr : isPr pq) (hx1 : ir x1) (hI : IC μ) : CtI ω l yX8_second cX8_second 2 .int 1 22 [.ref (oP ω pq), .int (iv x1)] μ (fun (r : Int) (μ' : M3) => (μ' = μ) ∧ (r = cdp μ pq x1 2)) := by
  refine CtI.go (by decide) (Nat.le_of_ble_eq_true rfl) (fun ρ p e s m below meth c R ls G hR hret hlk hl => ?_)
  have hx := G.1.1
  have hb := G.1.2.1
  have hl : lv_has ls 2 [(0, .ref (oP ω pq)), (1, .int (iv x1))] := hl
  generalize s.drawn = d0 at G ⊢
  have hr_x1 : -2147483648 ≤ x1 ∧ x1 ≤ 2147483647 := hx1
  have hpr_d : pq = 13 ∨ pq = 71 ∨ pq = 81 ∨ pq = 91 ∨ pq = 101 := hpr
  refine lv_aload_n hx hb dX8_second_0 rfl (lv_at hl 0 rfl) ?_
  refine lv_iload_n hx hb dX8_second_1 rfl (lv_at hl 1 rfl) ?_
  refine lv_iconst (v := iv 2) hx hb dX8_second_2 rfl ?_
  have hk_1 := hI.pr (p := pq) hpr
  unfold pk at hk_1
  have hc_2 : 16 ≤ μ.2.1 (pq + 1) ∧ μ.2.1 (pq + 1) ≤ 73024 := hI.rm.1 _ hpr.cap
  refine xc_iV G (b := pq) (rest := []) (As := [.int (iv x1), .int (iv 2)]) (c_X8_part ω l μ pq x1 2 (μ.1 pq 1) hpr (by unfold ir; omega) (by unfold ir; omega) hI (by omega) (by omega)) (wm 4 47 rfl rfl) (wm 4 49 rfl rfl) (wm 0 33 rfl rfl) hpr.ly rfl (by decide) (hpr.hq ω ρ) (wm 1 9 rfl rfl) (wm 4 50 rfl rfl) (by decide) hR (by decide) (n := 2) rfl rfl (Nat.le_of_ble_eq_true rfl) hl.1 dX8_second_3 (fun r_4 μ3 ρ d0 H locs hr_r_4 hp G => ?_)
  have hr_r_4 : -2147483648 ≤ r_4 ∧ r_4 ≤ 2147483647 := hr_r_4
  obtain ⟨hsm_5, hp_6⟩ := hp
  have hsm_5 := Eq.symm hsm_5
  subst hsm_5
  exact xr_i G (x := r_4) hret hlk (by unfold ir; omega) rfl dX8_second_6 ⟨rfl, hp_6⟩

set_option maxHeartbeats 4000000 in
set_option maxRecDepth 100000 in
theorem c_X8_place (ω : Om) (l : Launch) (μ : M3) (pq : Int) (x1 : Int) (hpr : isPr pq) (hx1 : ir x1) (hI : IC μ) : CtI ω l yX8_place cX8_place 2 .int 1 22 [.ref (oP ω pq), .int (iv x1)] μ (fun (r : Int) (μ' : M3) => (μ' = μ) ∧ (r = cdp μ pq x1 3)) := by
  refine CtI.go (by decide) (Nat.le_of_ble_eq_true rfl) (fun ρ p e s m below meth c R ls G hR hret hlk hl => ?_)
  have hx := G.1.1
  have hb := G.1.2.1
  have hl : lv_has ls 2 [(0, .ref (oP ω pq)), (1, .int (iv x1))] := hl
  generalize s.drawn = d0 at G ⊢
  have hr_x1 : -2147483648 ≤ x1 ∧ x1 ≤ 2147483647 := hx1
  have hpr_d : pq = 13 ∨ pq = 71 ∨ pq = 81 ∨ pq = 91 ∨ pq = 101 := hpr
  refine lv_aload_n hx hb dX8_place_0 rfl (lv_at hl 0 rfl) ?_
  refine lv_iload_n hx hb dX8_place_1 rfl (lv_at hl 1 rfl) ?_
  refine lv_iconst (v := iv 3) hx hb dX8_place_2 rfl ?_
  have hk_1 := hI.pr (p := pq) hpr
  unfold pk at hk_1
  have hc_2 : 16 ≤ μ.2.1 (pq + 1) ∧ μ.2.1 (pq + 1) ≤ 73024 := hI.rm.1 _ hpr.cap
  refine xc_iV G (b := pq) (rest := []) (As := [.int (iv x1), .int (iv 3)]) (c_X8_part ω l μ pq x1 3 (μ.1 pq 1) hpr (by unfold ir; omega) (by unfold ir; omega) hI (by omega) (by omega)) (wm 4 47 rfl rfl) (wm 4 49 rfl rfl) (wm 0 33 rfl rfl) hpr.ly rfl (by decide) (hpr.hq ω ρ) (wm 1 9 rfl rfl) (wm 4 50 rfl rfl) (by decide) hR (by decide) (n := 2) rfl rfl (Nat.le_of_ble_eq_true rfl) hl.1 dX8_place_3 (fun r_4 μ3 ρ d0 H locs hr_r_4 hp G => ?_)
  have hr_r_4 : -2147483648 ≤ r_4 ∧ r_4 ≤ 2147483647 := hr_r_4
  obtain ⟨hsm_5, hp_6⟩ := hp
  have hsm_5 := Eq.symm hsm_5
  subst hsm_5
  exact xr_i G (x := r_4) hret hlk (by unfold ir; omega) rfl dX8_place_6 ⟨rfl, hp_6⟩

set_option maxHeartbeats 4000000 in
set_option maxRecDepth 100000 in
theorem c_X8_add (ω : Om) (l : Launch) (μ : M3) (pq : Int) (x1 : Int) (x2 : Int) (x3 : Int) (x4 : Int) (n : Int) (hpr : isPr pq) (hx1 : ir x1) (hx2 : ir x2) (hx3 : ir x3) (hx4 : ir x4) (hI : IC μ) (hn : n = μ.1 pq 1) (hL : n < 9000) : CtI ω l yX8_add cX8_add 6 .int 2 102 [.ref (oP ω pq), .int (iv x1), .int (iv x2), .int (iv x3), .int (iv x4)] μ (fun (r : Int) (μ' : M3) => (Fr [pq, pq + 1] μ μ') ∧ (IC μ') ∧ (r = n) ∧ (μ'.1 pq 1 = n + 1) ∧ (μ'.1 pq 7 = μ.1 pq 7) ∧ (μ'.1 (pq + 1) (n * 4) = x1) ∧ (μ'.1 (pq + 1) (n * 4 + 1) = x2) ∧ (μ'.1 (pq + 1) (n * 4 + 2) = x3) ∧ (μ'.1 (pq + 1) (n * 4 + 3) = x4) ∧ (∀ j, 0 ≤ j ∧ j < n * 4 → μ'.1 (pq + 1) j = μ.1 (pq + 1) j)) := by
  refine CtI.go (by decide) (Nat.le_of_ble_eq_true rfl) (fun ρ p e s m below meth c R ls G hR hret hlk hl => ?_)
  have hx := G.1.1
  have hb := G.1.2.1
  have hl : lv_has ls 6 [(0, .ref (oP ω pq)), (1, .int (iv x1)), (2, .int (iv x2)), (3, .int (iv x3)), (4, .int (iv x4))] := hl
  generalize s.drawn = d0 at G ⊢
  have hr_x1 : -2147483648 ≤ x1 ∧ x1 ≤ 2147483647 := hx1
  have hr_x2 : -2147483648 ≤ x2 ∧ x2 ≤ 2147483647 := hx2
  have hr_x3 : -2147483648 ≤ x3 ∧ x3 ≤ 2147483647 := hx3
  have hr_x4 : -2147483648 ≤ x4 ∧ x4 ≤ 2147483647 := hx4
  have hpr_d : pq = 13 ∨ pq = 71 ∨ pq = 81 ∨ pq = 91 ∨ pq = 101 := hpr
  have hk_1 := hI.pr (p := pq) hpr
  unfold pk at hk_1
  have hc_2 : 16 ≤ μ.2.1 (pq + 1) ∧ μ.2.1 (pq + 1) ≤ 73024 := hI.rm.1 _ hpr.cap
  have hbr9 := hpr.br
  refine lv_aload_n hx hb dX8_add_0 rfl (lv_at hl 0 rfl) ?_
  refine xa_geti G fd_X8 (a := pq) (x := n) 1 hpr.ly (by decide) rfl (wm 1 165 rfl rfl) ⟨rfl, rfl, rfl⟩ dX8_add_1 (hpr.hq ω ρ) hn.symm ?_
  have hr_3 : -2147483648 ≤ n ∧ n ≤ 2147483647 := by have h9 := G.hr (a := pq) (k := 1) hpr.t1; rw [show μ.1 pq 1 = n from hn.symm] at h9; exact h9
  refine lv_iconst (v := iv 4) hx hb dX8_add_4 rfl ?_
  refine xb_imul hx hb dX8_add_5 ?_
  refine lv_istore (lv' := [(5, .int (iv (n * 4))), (0, .ref (oP ω pq)), (1, .int (iv x1)), (2, .int (iv x2)), (3, .int (iv x3)), (4, .int (iv x4))]) hx hb dX8_add_6 hl (by decide) rfl (fun ls hl => ?_)
  refine lv_iload hx hb dX8_add_8 (lv_at hl 0 rfl) ?_
  refine lv_iconst (v := iv 4) hx hb dX8_add_10 rfl ?_
  refine xb_iadd hx hb dX8_add_11 ?_
  refine lv_aload_n hx hb dX8_add_12 rfl (lv_at hl 1 rfl) ?_
  refine xa_getr G fd_X8 (a := pq) (x := pq + 1) 0 hpr.ly (by decide) rfl (wm 1 164 rfl rfl) ⟨rfl, rfl, rfl⟩ dX8_add_13 (hpr.hq ω ρ) (G.sr hpr.s0) (by omega) (hpr.hq1 ω ρ) ?_
  refine xa_alen G (a := pq + 1) (t := 0) hpr.ly1 (by decide) dX8_add_16 (hpr.hq1 ω ρ) ?_
  have hr_4 : -2147483648 ≤ μ.2.1 (pq + 1) ∧ μ.2.1 (pq + 1) ≤ 2147483647 := by have h9 := G.ln (pq + 1); omega
  refine xb_icmp_le (tgt := 38) hx hb (by unfold ir; omega) (by unfold ir; omega) dX8_add_17 (by decide) (fun c_17 => ?_) (fun c_17 => ?_)
  · refine lv_aload_n hx hb dX8_add_38 rfl (lv_at hl 1 rfl) ?_
    refine xa_getr G fd_X8 (a := pq) (x := pq + 1) 0 hpr.ly (by decide) rfl (wm 1 164 rfl rfl) ⟨rfl, rfl, rfl⟩ dX8_add_39 (hpr.hq ω ρ) (G.sr hpr.s0) (by omega) (hpr.hq1 ω ρ) ?_
    refine lv_iload hx hb dX8_add_42 (lv_at hl 0 rfl) ?_
    refine lv_iload_n hx hb dX8_add_44 rfl (lv_at hl 2 rfl) ?_
    refine xa_iast G (a := pq + 1) (i := n * 4) (x := x1) hpr.ly1 (by omega) (by unfold ir; omega) dX8_add_45 (hpr.hq1 ω ρ) (fun H locs G => ?_)
    refine lv_aload_n hx hb dX8_add_46 rfl (lv_at hl 1 rfl) ?_
    refine xa_getr G fd_X8 (a := pq) (x := pq + 1) 0 hpr.ly (by decide) rfl (wm 1 164 rfl rfl) ⟨rfl, rfl, rfl⟩ dX8_add_47 (hpr.hq ω ρ) (G.sr hpr.s0) (by omega) (hpr.hq1 ω ρ) ?_
    refine lv_iload hx hb dX8_add_50 (lv_at hl 0 rfl) ?_
    refine lv_iconst (v := iv 1) hx hb dX8_add_52 rfl ?_
    refine xb_iadd hx hb dX8_add_53 ?_
    refine lv_iload_n hx hb dX8_add_54 rfl (lv_at hl 3 rfl) ?_
    refine xa_iast G (a := pq + 1) (i := (n * 4) + 1) (x := x2) hpr.ly1 (by have h9 : (sv μ (pq + 1) (n * 4) x1).2.1 (pq + 1) = μ.2.1 (pq + 1) := rfl; omega) (by unfold ir; omega) dX8_add_55 (hpr.hq1 ω ρ) (fun H locs G => ?_)
    refine lv_aload_n hx hb dX8_add_56 rfl (lv_at hl 1 rfl) ?_
    refine xa_getr G fd_X8 (a := pq) (x := pq + 1) 0 hpr.ly (by decide) rfl (wm 1 164 rfl rfl) ⟨rfl, rfl, rfl⟩ dX8_add_57 (hpr.hq ω ρ) (G.sr hpr.s0) (by omega) (hpr.hq1 ω ρ) ?_
    refine lv_iload hx hb dX8_add_60 (lv_at hl 0 rfl) ?_
    refine lv_iconst (v := iv 2) hx hb dX8_add_62 rfl ?_
    refine xb_iadd hx hb dX8_add_63 ?_
    refine lv_iload_n hx hb dX8_add_64 rfl (lv_at hl 4 rfl) ?_
    refine xa_iast G (a := pq + 1) (i := (n * 4) + 2) (x := x3) hpr.ly1 (by have h9 : (sv (sv μ (pq + 1) (n * 4) x1) (pq + 1) ((n * 4) + 1) x2).2.1 (pq + 1) = μ.2.1 (pq + 1) := rfl; omega) (by unfold ir; omega) dX8_add_65 (hpr.hq1 ω ρ) (fun H locs G => ?_)
    refine lv_aload_n hx hb dX8_add_66 rfl (lv_at hl 1 rfl) ?_
    refine xa_getr G fd_X8 (a := pq) (x := pq + 1) 0 hpr.ly (by decide) rfl (wm 1 164 rfl rfl) ⟨rfl, rfl, rfl⟩ dX8_add_67 (hpr.hq ω ρ) (G.sr hpr.s0) (by omega) (hpr.hq1 ω ρ) ?_
    refine lv_iload hx hb dX8_add_70 (lv_at hl 0 rfl) ?_
    refine lv_iconst (v := iv 3) hx hb dX8_add_72 rfl ?_
    refine xb_iadd hx hb dX8_add_73 ?_
    refine lv_iload hx hb dX8_add_74 (lv_at hl 5 rfl) ?_
    refine xa_iast G (a := pq + 1) (i := (n * 4) + 3) (x := x4) hpr.ly1 (by have h9 : (sv (sv (sv μ (pq + 1) (n * 4) x1) (pq + 1) ((n * 4) + 1) x2) (pq + 1) ((n * 4) + 2) x3).2.1 (pq + 1) = μ.2.1 (pq + 1) := rfl; omega) (by unfold ir; omega) dX8_add_76 (hpr.hq1 ω ρ) (fun H locs G => ?_)
    refine lv_aload_n hx hb dX8_add_77 rfl (lv_at hl 1 rfl) ?_
    refine lv_dup hx hb dX8_add_78 rfl ?_
    refine xa_geti G fd_X8 (a := pq) (x := n) 1 hpr.ly (by decide) rfl (wm 1 165 rfl rfl) ⟨rfl, rfl, rfl⟩ dX8_add_79 (hpr.hq ω ρ) ((sv_n _ (by omega)).trans ((sv_n _ (by omega)).trans ((sv_n _ (by omega)).trans ((sv_n _ (by omega)).trans hn.symm)))) ?_
    refine lv_iconst (v := iv 1) hx hb dX8_add_82 rfl ?_
    refine xb_iadd hx hb dX8_add_83 ?_
    refine xa_puti G fd_X8 (a := pq) (x := n + 1) 1 (kz := 1) rfl hpr.ly (by decide) rfl (by unfold ir; omega) (wm 1 165 rfl rfl) ⟨rfl, rfl, rfl, rfl⟩ rfl dX8_add_84 (hpr.hq ω ρ) (fun H locs G => ?_)
    refine lv_aload_n hx hb dX8_add_87 rfl (lv_at hl 1 rfl) ?_
    refine xa_geti G fd_X8 (a := pq) (x := n + 1) 1 hpr.ly (by decide) rfl (wm 1 165 rfl rfl) ⟨rfl, rfl, rfl⟩ dX8_add_88 (hpr.hq ω ρ) (sv_s _ _ _ _) ?_
    have hr_5 : -2147483648 ≤ n + 1 ∧ n + 1 ≤ 2147483647 := by have h9 := G.hr (a := pq) (k := 1) hpr.t1; rw [show (sv (sv (sv (sv (sv μ (pq + 1) (n * 4) x1) (pq + 1) ((n * 4) + 1) x2) (pq + 1) ((n * 4) + 2) x3) (pq + 1) ((n * 4) + 3) x4) pq 1 (n + 1)).1 pq 1 = n + 1 from (sv_s _ _ _ _)] at h9; exact h9
    refine lv_iconst (v := iv 1) hx hb dX8_add_91 rfl ?_
    refine xb_isub hx hb dX8_add_92 ?_
    refine xb_ti (y := n) (by omega) ?_
    have hk9 : pk (sv (sv (sv (sv (sv μ (pq + 1) (n * 4) x1) (pq + 1) ((n * 4) + 1) x2) (pq + 1) ((n * 4) + 2) x3) (pq + 1) ((n * 4) + 3) x4) pq 1 (n + 1)) pq := by
      have e1 : (sv (sv (sv (sv (sv μ (pq + 1) (n * 4) x1) (pq + 1) ((n * 4) + 1) x2) (pq + 1) ((n * 4) + 2) x3) (pq + 1) ((n * 4) + 3) x4) pq 1 (n + 1)).1 pq 1 = n + 1 := (sv_s _ _ _ _)
      have e2 : (sv (sv (sv (sv (sv μ (pq + 1) (n * 4) x1) (pq + 1) ((n * 4) + 1) x2) (pq + 1) ((n * 4) + 2) x3) (pq + 1) ((n * 4) + 3) x4) pq 1 (n + 1)).1 pq 7 = μ.1 pq 7 := ((sv_n _ (fun h9 => absurd h9.2 (by decide))).trans ((sv_n _ (by omega)).trans ((sv_n _ (by omega)).trans ((sv_n _ (by omega)).trans (sv_n _ (by omega))))))
      have e3 : (sv (sv (sv (sv (sv μ (pq + 1) (n * 4) x1) (pq + 1) ((n * 4) + 1) x2) (pq + 1) ((n * 4) + 2) x3) (pq + 1) ((n * 4) + 3) x4) pq 1 (n + 1)).2.1 (pq + 1) = μ.2.1 (pq + 1) := rfl
      unfold pk; omega
    have e_6 : (sv (sv (sv (sv (sv μ (pq + 1) (n * 4) x1) (pq + 1) ((n * 4) + 1) x2) (pq + 1) ((n * 4) + 2) x3) (pq + 1) ((n * 4) + 3) x4) pq 1 (n + 1)).1 pq 1 = n + 1 := (sv_s _ _ _ _)
    have e_7 : (sv (sv (sv (sv (sv μ (pq + 1) (n * 4) x1) (pq + 1) ((n * 4) + 1) x2) (pq + 1) ((n * 4) + 2) x3) (pq + 1) ((n * 4) + 3) x4) pq 1 (n + 1)).1 pq 7 = μ.1 pq 7 := ((sv_n _ (fun h9 => absurd h9.2 (by decide))).trans ((sv_n _ (by omega)).trans ((sv_n _ (by omega)).trans ((sv_n _ (by omega)).trans (sv_n _ (by omega))))))
    have e_8 : (sv (sv (sv (sv (sv μ (pq + 1) (n * 4) x1) (pq + 1) ((n * 4) + 1) x2) (pq + 1) ((n * 4) + 2) x3) (pq + 1) ((n * 4) + 3) x4) pq 1 (n + 1)).1 (pq + 1) (n * 4) = x1 := ((sv_n _ (by omega)).trans ((sv_n _ (by omega)).trans ((sv_n _ (by omega)).trans ((sv_n _ (by omega)).trans (sv_s _ _ _ _)))))
    have e_9 : (sv (sv (sv (sv (sv μ (pq + 1) (n * 4) x1) (pq + 1) ((n * 4) + 1) x2) (pq + 1) ((n * 4) + 2) x3) (pq + 1) ((n * 4) + 3) x4) pq 1 (n + 1)).1 (pq + 1) (n * 4 + 1) = x2 := ((sv_n _ (by omega)).trans ((sv_n _ (by omega)).trans ((sv_n _ (by omega)).trans (sv_s _ _ _ _))))
    have e_10 : (sv (sv (sv (sv (sv μ (pq + 1) (n * 4) x1) (pq + 1) ((n * 4) + 1) x2) (pq + 1) ((n * 4) + 2) x3) (pq + 1) ((n * 4) + 3) x4) pq 1 (n + 1)).1 (pq + 1) (n * 4 + 2) = x3 := ((sv_n _ (by omega)).trans ((sv_n _ (by omega)).trans (sv_s _ _ _ _)))
    have e_11 : (sv (sv (sv (sv (sv μ (pq + 1) (n * 4) x1) (pq + 1) ((n * 4) + 1) x2) (pq + 1) ((n * 4) + 2) x3) (pq + 1) ((n * 4) + 3) x4) pq 1 (n + 1)).1 (pq + 1) (n * 4 + 3) = x4 := ((sv_n _ (by omega)).trans (sv_s _ _ _ _))
    exact xr_i G (x := n) hret hlk (by unfold ir; omega) rfl dX8_add_93 ⟨(Fr.put (Fr.put (Fr.put (Fr.put (Fr.put Fr.rf (by simp)) (by simp)) (by simp)) (by simp)) (by simp)), (hI.resP hpr (Fr.put (Fr.put (Fr.put (Fr.put (Fr.put Fr.rf (by simp)) (by simp)) (by simp)) (by simp)) (by simp)) hk9 (RM.same (hI.rm) rfl)), (by omega), (by omega), (by omega), (by omega), (by omega), (by omega), (by omega), (fun j hj => ((sv_n _ (by omega)).trans ((sv_n _ (by omega)).trans ((sv_n _ (by omega)).trans ((sv_n _ (by omega)).trans (sv_n _ (by omega)))))))⟩
  · refine lv_aload_n hx hb dX8_add_20 rfl (lv_at hl 1 rfl) ?_
    refine lv_aload_n hx hb dX8_add_21 rfl (lv_at hl 1 rfl) ?_
    refine xa_getr G fd_X8 (a := pq) (x := pq + 1) 0 hpr.ly (by decide) rfl (wm 1 164 rfl rfl) ⟨rfl, rfl, rfl⟩ dX8_add_22 (hpr.hq ω ρ) (G.sr hpr.s0) (by omega) (hpr.hq1 ω ρ) ?_
    refine lv_iconst (v := iv 2) hx hb dX8_add_25 rfl ?_
    refine lv_aload_n hx hb dX8_add_26 rfl (lv_at hl 1 rfl) ?_
    refine xa_getr G fd_X8 (a := pq) (x := pq + 1) 0 hpr.ly (by decide) rfl (wm 1 164 rfl rfl) ⟨rfl, rfl, rfl⟩ dX8_add_27 (hpr.hq ω ρ) (G.sr hpr.s0) (by omega) (hpr.hq1 ω ρ) ?_
    refine xa_alen G (a := pq + 1) (t := 0) hpr.ly1 (by decide) dX8_add_30 (hpr.hq1 ω ρ) ?_
    refine xb_imul hx hb dX8_add_31 ?_
    have hrm_142 : 2 * μ.2.1 (pq + 1) ≤ 2 * (μ.2.1 (pq + 1)) ∧ 2 * (μ.2.1 (pq + 1)) ≤ 73024 ∧ μ.2.1 (pq + 1) < 2 * (μ.2.1 (pq + 1)) := by have h9 : μ.2.1 (pq + 1) = μ.2.1 (pq + 1) := rfl; omega
    refine xg_int (pc := 32) G fd_X8 (a := pq) (b := pq + 1) (n := 2 * (μ.2.1 (pq + 1))) 0 hpr.ly (by decide) rfl (hpr.hq ω ρ) (G.sr hpr.s0) hpr.ly1 hpr.z hpr.u0 hpr.n (by omega) (hI.rm.roomy hpr.cap hrm_142.1 hrm_142.2.1) (wm 3 234 rfl rfl) (wm 3 19 rfl rfl) (wm 1 8 rfl rfl) hR (by decide) (wm 1 164 rfl rfl) ⟨rfl, rfl, rfl, rfl⟩ rfl hl.1 (by decide) dX8_add_32 dX8_add_35 (fun ρ f_12 H locs hf_13 G => ?_)
    have hrm_14 : RM (gro μ (pq + 1) (2 * (μ.2.1 (pq + 1))) f_12) := hI.rm.gro hpr.cap hrm_142.1 hrm_142.2.1
    refine lv_aload_n hx hb dX8_add_38 rfl (lv_at hl 1 rfl) ?_
    refine xa_getr G fd_X8 (a := pq) (x := pq + 1) 0 hpr.ly (by decide) rfl (wm 1 164 rfl rfl) ⟨rfl, rfl, rfl⟩ dX8_add_39 (hpr.hq ω ρ) (G.sr hpr.s0) (by omega) (hpr.hq1 ω ρ) ?_
    refine lv_iload hx hb dX8_add_42 (lv_at hl 0 rfl) ?_
    refine lv_iload_n hx hb dX8_add_44 rfl (lv_at hl 2 rfl) ?_
    refine xa_iast G (a := pq + 1) (i := n * 4) (x := x1) hpr.ly1 (by have h9 : (gro μ (pq + 1) (2 * (μ.2.1 (pq + 1))) f_12).2.1 (pq + 1) = 2 * (μ.2.1 (pq + 1)) := (gro_ls μ (pq + 1) (2 * (μ.2.1 (pq + 1))) f_12); omega) (by unfold ir; omega) dX8_add_45 (hpr.hq1 ω ρ) (fun H locs G => ?_)
    refine lv_aload_n hx hb dX8_add_46 rfl (lv_at hl 1 rfl) ?_
    refine xa_getr G fd_X8 (a := pq) (x := pq + 1) 0 hpr.ly (by decide) rfl (wm 1 164 rfl rfl) ⟨rfl, rfl, rfl⟩ dX8_add_47 (hpr.hq ω ρ) (G.sr hpr.s0) (by omega) (hpr.hq1 ω ρ) ?_
    refine lv_iload hx hb dX8_add_50 (lv_at hl 0 rfl) ?_
    refine lv_iconst (v := iv 1) hx hb dX8_add_52 rfl ?_
    refine xb_iadd hx hb dX8_add_53 ?_
    refine lv_iload_n hx hb dX8_add_54 rfl (lv_at hl 3 rfl) ?_
    refine xa_iast G (a := pq + 1) (i := (n * 4) + 1) (x := x2) hpr.ly1 (by have h9 : (sv (gro μ (pq + 1) (2 * (μ.2.1 (pq + 1))) f_12) (pq + 1) (n * 4) x1).2.1 (pq + 1) = 2 * (μ.2.1 (pq + 1)) := (gro_ls μ (pq + 1) (2 * (μ.2.1 (pq + 1))) f_12); omega) (by unfold ir; omega) dX8_add_55 (hpr.hq1 ω ρ) (fun H locs G => ?_)
    refine lv_aload_n hx hb dX8_add_56 rfl (lv_at hl 1 rfl) ?_
    refine xa_getr G fd_X8 (a := pq) (x := pq + 1) 0 hpr.ly (by decide) rfl (wm 1 164 rfl rfl) ⟨rfl, rfl, rfl⟩ dX8_add_57 (hpr.hq ω ρ) (G.sr hpr.s0) (by omega) (hpr.hq1 ω ρ) ?_
    refine lv_iload hx hb dX8_add_60 (lv_at hl 0 rfl) ?_
    refine lv_iconst (v := iv 2) hx hb dX8_add_62 rfl ?_
    refine xb_iadd hx hb dX8_add_63 ?_
    refine lv_iload_n hx hb dX8_add_64 rfl (lv_at hl 4 rfl) ?_
    refine xa_iast G (a := pq + 1) (i := (n * 4) + 2) (x := x3) hpr.ly1 (by have h9 : (sv (sv (gro μ (pq + 1) (2 * (μ.2.1 (pq + 1))) f_12) (pq + 1) (n * 4) x1) (pq + 1) ((n * 4) + 1) x2).2.1 (pq + 1) = 2 * (μ.2.1 (pq + 1)) := (gro_ls μ (pq + 1) (2 * (μ.2.1 (pq + 1))) f_12); omega) (by unfold ir; omega) dX8_add_65 (hpr.hq1 ω ρ) (fun H locs G => ?_)
    refine lv_aload_n hx hb dX8_add_66 rfl (lv_at hl 1 rfl) ?_
    refine xa_getr G fd_X8 (a := pq) (x := pq + 1) 0 hpr.ly (by decide) rfl (wm 1 164 rfl rfl) ⟨rfl, rfl, rfl⟩ dX8_add_67 (hpr.hq ω ρ) (G.sr hpr.s0) (by omega) (hpr.hq1 ω ρ) ?_
    refine lv_iload hx hb dX8_add_70 (lv_at hl 0 rfl) ?_
    refine lv_iconst (v := iv 3) hx hb dX8_add_72 rfl ?_
    refine xb_iadd hx hb dX8_add_73 ?_
    refine lv_iload hx hb dX8_add_74 (lv_at hl 5 rfl) ?_
    refine xa_iast G (a := pq + 1) (i := (n * 4) + 3) (x := x4) hpr.ly1 (by have h9 : (sv (sv (sv (gro μ (pq + 1) (2 * (μ.2.1 (pq + 1))) f_12) (pq + 1) (n * 4) x1) (pq + 1) ((n * 4) + 1) x2) (pq + 1) ((n * 4) + 2) x3).2.1 (pq + 1) = 2 * (μ.2.1 (pq + 1)) := (gro_ls μ (pq + 1) (2 * (μ.2.1 (pq + 1))) f_12); omega) (by unfold ir; omega) dX8_add_76 (hpr.hq1 ω ρ) (fun H locs G => ?_)
    refine lv_aload_n hx hb dX8_add_77 rfl (lv_at hl 1 rfl) ?_
    refine lv_dup hx hb dX8_add_78 rfl ?_
    refine xa_geti G fd_X8 (a := pq) (x := n) 1 hpr.ly (by decide) rfl (wm 1 165 rfl rfl) ⟨rfl, rfl, rfl⟩ dX8_add_79 (hpr.hq ω ρ) ((sv_n _ (by omega)).trans ((sv_n _ (by omega)).trans ((sv_n _ (by omega)).trans ((sv_n _ (by omega)).trans ((gro_o _ (by omega) _).trans hn.symm))))) ?_
    refine lv_iconst (v := iv 1) hx hb dX8_add_82 rfl ?_
    refine xb_iadd hx hb dX8_add_83 ?_
    refine xa_puti G fd_X8 (a := pq) (x := n + 1) 1 (kz := 1) rfl hpr.ly (by decide) rfl (by unfold ir; omega) (wm 1 165 rfl rfl) ⟨rfl, rfl, rfl, rfl⟩ rfl dX8_add_84 (hpr.hq ω ρ) (fun H locs G => ?_)
    refine lv_aload_n hx hb dX8_add_87 rfl (lv_at hl 1 rfl) ?_
    refine xa_geti G fd_X8 (a := pq) (x := n + 1) 1 hpr.ly (by decide) rfl (wm 1 165 rfl rfl) ⟨rfl, rfl, rfl⟩ dX8_add_88 (hpr.hq ω ρ) (sv_s _ _ _ _) ?_
    have hr_15 : -2147483648 ≤ n + 1 ∧ n + 1 ≤ 2147483647 := by have h9 := G.hr (a := pq) (k := 1) hpr.t1; rw [show (sv (sv (sv (sv (sv (gro μ (pq + 1) (2 * (μ.2.1 (pq + 1))) f_12) (pq + 1) (n * 4) x1) (pq + 1) ((n * 4) + 1) x2) (pq + 1) ((n * 4) + 2) x3) (pq + 1) ((n * 4) + 3) x4) pq 1 (n + 1)).1 pq 1 = n + 1 from (sv_s _ _ _ _)] at h9; exact h9
    refine lv_iconst (v := iv 1) hx hb dX8_add_91 rfl ?_
    refine xb_isub hx hb dX8_add_92 ?_
    refine xb_ti (y := n) (by omega) ?_
    have hk9 : pk (sv (sv (sv (sv (sv (gro μ (pq + 1) (2 * (μ.2.1 (pq + 1))) f_12) (pq + 1) (n * 4) x1) (pq + 1) ((n * 4) + 1) x2) (pq + 1) ((n * 4) + 2) x3) (pq + 1) ((n * 4) + 3) x4) pq 1 (n + 1)) pq := by
      have e1 : (sv (sv (sv (sv (sv (gro μ (pq + 1) (2 * (μ.2.1 (pq + 1))) f_12) (pq + 1) (n * 4) x1) (pq + 1) ((n * 4) + 1) x2) (pq + 1) ((n * 4) + 2) x3) (pq + 1) ((n * 4) + 3) x4) pq 1 (n + 1)).1 pq 1 = n + 1 := (sv_s _ _ _ _)
      have e2 : (sv (sv (sv (sv (sv (gro μ (pq + 1) (2 * (μ.2.1 (pq + 1))) f_12) (pq + 1) (n * 4) x1) (pq + 1) ((n * 4) + 1) x2) (pq + 1) ((n * 4) + 2) x3) (pq + 1) ((n * 4) + 3) x4) pq 1 (n + 1)).1 pq 7 = μ.1 pq 7 := ((sv_n _ (fun h9 => absurd h9.2 (by decide))).trans ((sv_n _ (by omega)).trans ((sv_n _ (by omega)).trans ((sv_n _ (by omega)).trans ((sv_n _ (by omega)).trans (gro_o _ (by omega) _))))))
      have e3 : (sv (sv (sv (sv (sv (gro μ (pq + 1) (2 * (μ.2.1 (pq + 1))) f_12) (pq + 1) (n * 4) x1) (pq + 1) ((n * 4) + 1) x2) (pq + 1) ((n * 4) + 2) x3) (pq + 1) ((n * 4) + 3) x4) pq 1 (n + 1)).2.1 (pq + 1) = 2 * (μ.2.1 (pq + 1)) := (gro_ls μ (pq + 1) (2 * (μ.2.1 (pq + 1))) f_12)
      unfold pk; omega
    have e_16 : (sv (sv (sv (sv (sv (gro μ (pq + 1) (2 * (μ.2.1 (pq + 1))) f_12) (pq + 1) (n * 4) x1) (pq + 1) ((n * 4) + 1) x2) (pq + 1) ((n * 4) + 2) x3) (pq + 1) ((n * 4) + 3) x4) pq 1 (n + 1)).1 pq 1 = n + 1 := (sv_s _ _ _ _)
    have e_17 : (sv (sv (sv (sv (sv (gro μ (pq + 1) (2 * (μ.2.1 (pq + 1))) f_12) (pq + 1) (n * 4) x1) (pq + 1) ((n * 4) + 1) x2) (pq + 1) ((n * 4) + 2) x3) (pq + 1) ((n * 4) + 3) x4) pq 1 (n + 1)).1 pq 7 = μ.1 pq 7 := ((sv_n _ (fun h9 => absurd h9.2 (by decide))).trans ((sv_n _ (by omega)).trans ((sv_n _ (by omega)).trans ((sv_n _ (by omega)).trans ((sv_n _ (by omega)).trans (gro_o _ (by omega) _))))))
    have e_18 : (sv (sv (sv (sv (sv (gro μ (pq + 1) (2 * (μ.2.1 (pq + 1))) f_12) (pq + 1) (n * 4) x1) (pq + 1) ((n * 4) + 1) x2) (pq + 1) ((n * 4) + 2) x3) (pq + 1) ((n * 4) + 3) x4) pq 1 (n + 1)).1 (pq + 1) (n * 4) = x1 := ((sv_n _ (by omega)).trans ((sv_n _ (by omega)).trans ((sv_n _ (by omega)).trans ((sv_n _ (by omega)).trans (sv_s _ _ _ _)))))
    have e_19 : (sv (sv (sv (sv (sv (gro μ (pq + 1) (2 * (μ.2.1 (pq + 1))) f_12) (pq + 1) (n * 4) x1) (pq + 1) ((n * 4) + 1) x2) (pq + 1) ((n * 4) + 2) x3) (pq + 1) ((n * 4) + 3) x4) pq 1 (n + 1)).1 (pq + 1) (n * 4 + 1) = x2 := ((sv_n _ (by omega)).trans ((sv_n _ (by omega)).trans ((sv_n _ (by omega)).trans (sv_s _ _ _ _))))
    have e_20 : (sv (sv (sv (sv (sv (gro μ (pq + 1) (2 * (μ.2.1 (pq + 1))) f_12) (pq + 1) (n * 4) x1) (pq + 1) ((n * 4) + 1) x2) (pq + 1) ((n * 4) + 2) x3) (pq + 1) ((n * 4) + 3) x4) pq 1 (n + 1)).1 (pq + 1) (n * 4 + 2) = x3 := ((sv_n _ (by omega)).trans ((sv_n _ (by omega)).trans (sv_s _ _ _ _)))
    have e_21 : (sv (sv (sv (sv (sv (gro μ (pq + 1) (2 * (μ.2.1 (pq + 1))) f_12) (pq + 1) (n * 4) x1) (pq + 1) ((n * 4) + 1) x2) (pq + 1) ((n * 4) + 2) x3) (pq + 1) ((n * 4) + 3) x4) pq 1 (n + 1)).1 (pq + 1) (n * 4 + 3) = x4 := ((sv_n _ (by omega)).trans (sv_s _ _ _ _))
    exact xr_i G (x := n) hret hlk (by unfold ir; omega) rfl dX8_add_93 ⟨(Fr.put (Fr.put (Fr.put (Fr.put (Fr.put (Fr.gro Fr.rf (by simp)) (by simp)) (by simp)) (by simp)) (by simp)) (by simp)), (hI.resP hpr (Fr.put (Fr.put (Fr.put (Fr.put (Fr.put (Fr.gro Fr.rf (by simp)) (by simp)) (by simp)) (by simp)) (by simp)) (by simp)) hk9 (RM.same (hrm_14) rfl)), (by omega), (by omega), (by omega), (by omega), (by omega), (by omega), (by omega), (fun j hj => ((sv_n _ (by omega)).trans ((sv_n _ (by omega)).trans ((sv_n _ (by omega)).trans ((sv_n _ (by omega)).trans ((sv_n _ (by omega)).trans ((gro_s _ _ _ _ _).trans (hf_13 j (by omega) (by omega)))))))))⟩

set_option maxHeartbeats 4000000 in
set_option maxRecDepth 100000 in
theorem c_X8_setOp (ω : Om) (l : Launch) (μ : M3) (pq : Int) (x1 : Int) (x2 : Int) (n : Int) (hpr : isPr pq) (hx1 : ir x1) (hx2 : ir x2) (hI : IC μ) (hn : n = μ.1 pq 1) : CtV ω l yX8_setOp cX8_setOp 3 0 0 [.ref (oP ω pq), .int (iv x1), .int (iv x2)] μ (fun (μ' : M3) => (Fr [pq + 1] μ μ') ∧ (IC μ') ∧ (μ'.2 = μ.2) ∧ ((0 ≤ x1 ∧ x1 < n ∧ μ'.1 (pq + 1) (x1 * 4) = x2) ∨ (¬ (0 ≤ x1 ∧ x1 < n) ∧ μ' = μ)) ∧ (∀ j, j ≠ x1 * 4 → μ'.1 (pq + 1) j = μ.1 (pq + 1) j)) := by
  refine CtV.go (by decide) (Nat.le_of_ble_eq_true rfl) (fun ρ p e s m below meth c R ls G hR hret hlk hl => ?_)
  have hx := G.1.1
  have hb := G.1.2.1
  have hl : lv_has ls 3 [(0, .ref (oP ω pq)), (1, .int (iv x1)), (2, .int (iv x2))] := hl
  generalize s.drawn = d0 at G ⊢
  have hr_x1 : -2147483648 ≤ x1 ∧ x1 ≤ 2147483647 := hx1
  have hr_x2 : -2147483648 ≤ x2 ∧ x2 ≤ 2147483647 := hx2
  have hpr_d : pq = 13 ∨ pq = 71 ∨ pq = 81 ∨ pq = 91 ∨ pq = 101 := hpr
  have hk_1 := hI.pr (p := pq) hpr
  unfold pk at hk_1
  have hc_2 : 16 ≤ μ.2.1 (pq + 1) ∧ μ.2.1 (pq + 1) ≤ 73024 := hI.rm.1 _ hpr.cap
  have hbr9 := hpr.br
  refine lv_iload_n hx hb dX8_setOp_0 rfl (lv_at hl 1 rfl) ?_
  refine xb_if_lt (tgt := 21) hx hb (by unfold ir; omega) dX8_setOp_1 (by decide) (fun c_1 => ?_) (fun c_1 => ?_)
  · exact xr_v G hret hlk dX8_setOp_21 ⟨Fr.rf, hI, rfl, (Or.inr ⟨by omega, rfl⟩), (fun j hj => rfl)⟩
  · refine lv_iload_n hx hb dX8_setOp_4 rfl (lv_at hl 1 rfl) ?_
    refine lv_aload_n hx hb dX8_setOp_5 rfl (lv_at hl 0 rfl) ?_
    refine xa_geti G fd_X8 (a := pq) (x := n) 1 hpr.ly (by decide) rfl (wm 1 165 rfl rfl) ⟨rfl, rfl, rfl⟩ dX8_setOp_6 (hpr.hq ω ρ) hn.symm ?_
    have hr_3 : -2147483648 ≤ n ∧ n ≤ 2147483647 := by have h9 := G.hr (a := pq) (k := 1) hpr.t1; rw [show μ.1 pq 1 = n from hn.symm] at h9; exact h9
    refine xb_icmp_ge (tgt := 21) hx hb (by unfold ir; omega) (by unfold ir; omega) dX8_setOp_9 (by decide) (fun c_9 => ?_) (fun c_9 => ?_)
    · exact xr_v G hret hlk dX8_setOp_21 ⟨Fr.rf, hI, rfl, (Or.inr ⟨by omega, rfl⟩), (fun j hj => rfl)⟩
    · refine lv_aload_n hx hb dX8_setOp_12 rfl (lv_at hl 0 rfl) ?_
      refine xa_getr G fd_X8 (a := pq) (x := pq + 1) 0 hpr.ly (by decide) rfl (wm 1 164 rfl rfl) ⟨rfl, rfl, rfl⟩ dX8_setOp_13 (hpr.hq ω ρ) (G.sr hpr.s0) (by omega) (hpr.hq1 ω ρ) ?_
      refine lv_iload_n hx hb dX8_setOp_16 rfl (lv_at hl 1 rfl) ?_
      refine lv_iconst (v := iv 4) hx hb dX8_setOp_17 rfl ?_
      refine xb_imul hx hb dX8_setOp_18 ?_
      refine lv_iload_n hx hb dX8_setOp_19 rfl (lv_at hl 2 rfl) ?_
      refine xa_iast G (a := pq + 1) (i := x1 * 4) (x := x2) hpr.ly1 (by omega) (by unfold ir; omega) dX8_setOp_20 (hpr.hq1 ω ρ) (fun H locs G => ?_)
      have hI_4 : IC (sv μ (pq + 1) (x1 * 4) x2) := (IC.pua hI (by rw [hpr.ly1]; decide))
      exact xr_v G hret hlk dX8_setOp_21 ⟨(Fr.put Fr.rf (by simp)), hI_4, rfl, (Or.inl ⟨by omega, by omega, sv_s _ _ _ _⟩), (fun j hj => (sv_n _ (by omega)))⟩

set_option maxHeartbeats 4000000 in
set_option maxRecDepth 100000 in
theorem c_X8_setFirst (ω : Om) (l : Launch) (μ : M3) (pq : Int) (x1 : Int) (x2 : Int) (n : Int) (hpr : isPr pq) (hx1 : ir x1) (hx2 : ir x2) (hI : IC μ) (hn : n = μ.1 pq 1) : CtV ω l yX8_setFirst cX8_setFirst 3 0 0 [.ref (oP ω pq), .int (iv x1), .int (iv x2)] μ (fun (μ' : M3) => (Fr [pq + 1] μ μ') ∧ (IC μ') ∧ (μ'.2 = μ.2) ∧ ((0 ≤ x1 ∧ x1 < n ∧ μ'.1 (pq + 1) (x1 * 4 + 1) = x2) ∨ (¬ (0 ≤ x1 ∧ x1 < n) ∧ μ' = μ)) ∧ (∀ j, j ≠ x1 * 4 + 1 → μ'.1 (pq + 1) j = μ.1 (pq + 1) j)) := by
  refine CtV.go (by decide) (Nat.le_of_ble_eq_true rfl) (fun ρ p e s m below meth c R ls G hR hret hlk hl => ?_)
  have hx := G.1.1
  have hb := G.1.2.1
  have hl : lv_has ls 3 [(0, .ref (oP ω pq)), (1, .int (iv x1)), (2, .int (iv x2))] := hl
  generalize s.drawn = d0 at G ⊢
  have hr_x1 : -2147483648 ≤ x1 ∧ x1 ≤ 2147483647 := hx1
  have hr_x2 : -2147483648 ≤ x2 ∧ x2 ≤ 2147483647 := hx2
  have hpr_d : pq = 13 ∨ pq = 71 ∨ pq = 81 ∨ pq = 91 ∨ pq = 101 := hpr
  have hk_1 := hI.pr (p := pq) hpr
  unfold pk at hk_1
  have hc_2 : 16 ≤ μ.2.1 (pq + 1) ∧ μ.2.1 (pq + 1) ≤ 73024 := hI.rm.1 _ hpr.cap
  have hbr9 := hpr.br
  refine lv_iload_n hx hb dX8_setFirst_0 rfl (lv_at hl 1 rfl) ?_
  refine xb_if_lt (tgt := 23) hx hb (by unfold ir; omega) dX8_setFirst_1 (by decide) (fun c_1 => ?_) (fun c_1 => ?_)
  · exact xr_v G hret hlk dX8_setFirst_23 ⟨Fr.rf, hI, rfl, (Or.inr ⟨by omega, rfl⟩), (fun j hj => rfl)⟩
  · refine lv_iload_n hx hb dX8_setFirst_4 rfl (lv_at hl 1 rfl) ?_
    refine lv_aload_n hx hb dX8_setFirst_5 rfl (lv_at hl 0 rfl) ?_
    refine xa_geti G fd_X8 (a := pq) (x := n) 1 hpr.ly (by decide) rfl (wm 1 165 rfl rfl) ⟨rfl, rfl, rfl⟩ dX8_setFirst_6 (hpr.hq ω ρ) hn.symm ?_
    have hr_3 : -2147483648 ≤ n ∧ n ≤ 2147483647 := by have h9 := G.hr (a := pq) (k := 1) hpr.t1; rw [show μ.1 pq 1 = n from hn.symm] at h9; exact h9
    refine xb_icmp_ge (tgt := 23) hx hb (by unfold ir; omega) (by unfold ir; omega) dX8_setFirst_9 (by decide) (fun c_9 => ?_) (fun c_9 => ?_)
    · exact xr_v G hret hlk dX8_setFirst_23 ⟨Fr.rf, hI, rfl, (Or.inr ⟨by omega, rfl⟩), (fun j hj => rfl)⟩
    · refine lv_aload_n hx hb dX8_setFirst_12 rfl (lv_at hl 0 rfl) ?_
      refine xa_getr G fd_X8 (a := pq) (x := pq + 1) 0 hpr.ly (by decide) rfl (wm 1 164 rfl rfl) ⟨rfl, rfl, rfl⟩ dX8_setFirst_13 (hpr.hq ω ρ) (G.sr hpr.s0) (by omega) (hpr.hq1 ω ρ) ?_
      refine lv_iload_n hx hb dX8_setFirst_16 rfl (lv_at hl 1 rfl) ?_
      refine lv_iconst (v := iv 4) hx hb dX8_setFirst_17 rfl ?_
      refine xb_imul hx hb dX8_setFirst_18 ?_
      refine lv_iconst (v := iv 1) hx hb dX8_setFirst_19 rfl ?_
      refine xb_iadd hx hb dX8_setFirst_20 ?_
      refine lv_iload_n hx hb dX8_setFirst_21 rfl (lv_at hl 2 rfl) ?_
      refine xa_iast G (a := pq + 1) (i := (x1 * 4) + 1) (x := x2) hpr.ly1 (by omega) (by unfold ir; omega) dX8_setFirst_22 (hpr.hq1 ω ρ) (fun H locs G => ?_)
      have hI_4 : IC (sv μ (pq + 1) ((x1 * 4) + 1) x2) := (IC.pua hI (by rw [hpr.ly1]; decide))
      exact xr_v G hret hlk dX8_setFirst_23 ⟨(Fr.put Fr.rf (by simp)), hI_4, rfl, (Or.inl ⟨by omega, by omega, sv_s _ _ _ _⟩), (fun j hj => (sv_n _ (by omega)))⟩

set_option maxHeartbeats 4000000 in
set_option maxRecDepth 100000 in
theorem c_X8_setSecond (ω : Om) (l : Launch) (μ : M3) (pq : Int) (x1 : Int) (x2 : Int) (n : Int) (hpr : isPr pq) (hx1 : ir x1) (hx2 : ir x2) (hI : IC μ) (hn : n = μ.1 pq 1) : CtV ω l yX8_setSecond cX8_setSecond 3 0 0 [.ref (oP ω pq), .int (iv x1), .int (iv x2)] μ (fun (μ' : M3) => (Fr [pq + 1] μ μ') ∧ (IC μ') ∧ (μ'.2 = μ.2) ∧ ((0 ≤ x1 ∧ x1 < n ∧ μ'.1 (pq + 1) (x1 * 4 + 2) = x2) ∨ (¬ (0 ≤ x1 ∧ x1 < n) ∧ μ' = μ)) ∧ (∀ j, j ≠ x1 * 4 + 2 → μ'.1 (pq + 1) j = μ.1 (pq + 1) j)) := by
  refine CtV.go (by decide) (Nat.le_of_ble_eq_true rfl) (fun ρ p e s m below meth c R ls G hR hret hlk hl => ?_)
  have hx := G.1.1
  have hb := G.1.2.1
  have hl : lv_has ls 3 [(0, .ref (oP ω pq)), (1, .int (iv x1)), (2, .int (iv x2))] := hl
  generalize s.drawn = d0 at G ⊢
  have hr_x1 : -2147483648 ≤ x1 ∧ x1 ≤ 2147483647 := hx1
  have hr_x2 : -2147483648 ≤ x2 ∧ x2 ≤ 2147483647 := hx2
  have hpr_d : pq = 13 ∨ pq = 71 ∨ pq = 81 ∨ pq = 91 ∨ pq = 101 := hpr
  have hk_1 := hI.pr (p := pq) hpr
  unfold pk at hk_1
  have hc_2 : 16 ≤ μ.2.1 (pq + 1) ∧ μ.2.1 (pq + 1) ≤ 73024 := hI.rm.1 _ hpr.cap
  have hbr9 := hpr.br
  refine lv_iload_n hx hb dX8_setSecond_0 rfl (lv_at hl 1 rfl) ?_
  refine xb_if_lt (tgt := 23) hx hb (by unfold ir; omega) dX8_setSecond_1 (by decide) (fun c_1 => ?_) (fun c_1 => ?_)
  · exact xr_v G hret hlk dX8_setSecond_23 ⟨Fr.rf, hI, rfl, (Or.inr ⟨by omega, rfl⟩), (fun j hj => rfl)⟩
  · refine lv_iload_n hx hb dX8_setSecond_4 rfl (lv_at hl 1 rfl) ?_
    refine lv_aload_n hx hb dX8_setSecond_5 rfl (lv_at hl 0 rfl) ?_
    refine xa_geti G fd_X8 (a := pq) (x := n) 1 hpr.ly (by decide) rfl (wm 1 165 rfl rfl) ⟨rfl, rfl, rfl⟩ dX8_setSecond_6 (hpr.hq ω ρ) hn.symm ?_
    have hr_3 : -2147483648 ≤ n ∧ n ≤ 2147483647 := by have h9 := G.hr (a := pq) (k := 1) hpr.t1; rw [show μ.1 pq 1 = n from hn.symm] at h9; exact h9
    refine xb_icmp_ge (tgt := 23) hx hb (by unfold ir; omega) (by unfold ir; omega) dX8_setSecond_9 (by decide) (fun c_9 => ?_) (fun c_9 => ?_)
    · exact xr_v G hret hlk dX8_setSecond_23 ⟨Fr.rf, hI, rfl, (Or.inr ⟨by omega, rfl⟩), (fun j hj => rfl)⟩
    · refine lv_aload_n hx hb dX8_setSecond_12 rfl (lv_at hl 0 rfl) ?_
      refine xa_getr G fd_X8 (a := pq) (x := pq + 1) 0 hpr.ly (by decide) rfl (wm 1 164 rfl rfl) ⟨rfl, rfl, rfl⟩ dX8_setSecond_13 (hpr.hq ω ρ) (G.sr hpr.s0) (by omega) (hpr.hq1 ω ρ) ?_
      refine lv_iload_n hx hb dX8_setSecond_16 rfl (lv_at hl 1 rfl) ?_
      refine lv_iconst (v := iv 4) hx hb dX8_setSecond_17 rfl ?_
      refine xb_imul hx hb dX8_setSecond_18 ?_
      refine lv_iconst (v := iv 2) hx hb dX8_setSecond_19 rfl ?_
      refine xb_iadd hx hb dX8_setSecond_20 ?_
      refine lv_iload_n hx hb dX8_setSecond_21 rfl (lv_at hl 2 rfl) ?_
      refine xa_iast G (a := pq + 1) (i := (x1 * 4) + 2) (x := x2) hpr.ly1 (by omega) (by unfold ir; omega) dX8_setSecond_22 (hpr.hq1 ω ρ) (fun H locs G => ?_)
      have hI_4 : IC (sv μ (pq + 1) ((x1 * 4) + 2) x2) := (IC.pua hI (by rw [hpr.ly1]; decide))
      exact xr_v G hret hlk dX8_setSecond_23 ⟨(Fr.put Fr.rf (by simp)), hI_4, rfl, (Or.inl ⟨by omega, by omega, sv_s _ _ _ _⟩), (fun j hj => (sv_n _ (by omega)))⟩

set_option maxHeartbeats 4000000 in
set_option maxRecDepth 100000 in
theorem c_X8_addConstant (ω : Om) (l : Launch) (μ : M3) (pq : Int) (x1 : Int) (x2 : Int) (x3 : Int) (n : Int) (hpr : isPr pq) (hx1 : ir x1) (hx2 : jr x2) (hI : IC μ) (hn9 : n = μ.1 (pq + 2) 3) (hnb : n < 9000) : CtI ω l yX8_addConstant cX8_addConstant 6 .int 4 150 [.ref (oP ω pq), .int (iv x1), .long (jv x2), .double (dv x3)] μ (fun (r : Int) (μ' : M3) => (Fr [pq + 2, (pq + 2) + 1, (pq + 2) + 2, (pq + 2) + 3] μ μ') ∧ (IC μ') ∧ (r = n) ∧ (μ'.1 (pq + 2) 3 = n + 1)) := by
  refine CtI.go (by decide) (Nat.le_of_ble_eq_true rfl) (fun ρ p e s m below meth c R ls G hR hret hlk hl => ?_)
  have hx := G.1.1
  have hb := G.1.2.1
  have hl : lv_has ls 6 [(0, .ref (oP ω pq)), (1, .int (iv x1)), (2, .long (jv x2)), (4, .double (dv x3))] := hl
  generalize s.drawn = d0 at G ⊢
  have hr_x1 : -2147483648 ≤ x1 ∧ x1 ≤ 2147483647 := hx1
  have hpr_d : pq = 13 ∨ pq = 71 ∨ pq = 81 ∨ pq = 91 ∨ pq = 101 := hpr
  have hk_1 := hI.pr (p := pq) hpr
  unfold pk at hk_1
  have hc_2 : 16 ≤ μ.2.1 (pq + 1) ∧ μ.2.1 (pq + 1) ≤ 73024 := hI.rm.1 _ hpr.cap
  have hbr9 := hpr.br
  refine lv_aload_n hx hb dX8_addConstant_0 rfl (lv_at hl 0 rfl) ?_
  refine xa_getr G fd_X8 (a := pq) (x := pq + 2) 2 hpr.ly (by decide) rfl (wm 1 166 rfl rfl) ⟨rfl, rfl, rfl⟩ dX8_addConstant_1 (hpr.hq ω ρ) (G.sr hpr.s2) (by omega) ((hpr.row).hq ω ρ) ?_
  refine lv_iload_n hx hb dX8_addConstant_4 rfl (lv_at hl 1 rfl) ?_
  refine lv_lload_n hx hb dX8_addConstant_5 rfl (lv_at hl 2 rfl) ?_
  refine lv_dload hx hb dX8_addConstant_6 (lv_at hl 3 rfl) ?_
  have hk_3 := hI.row (r := pq + 2) (hpr.row)
  unfold rk at hk_3
  have hbr_4 : BR (pq + 2) = 9000 := hpr.br
  refine xc_vV G (b := pq + 2) (rest := []) (As := [.int (iv x1), .long (jv x2), .double (dv x3)]) (c_X9_push ω l μ (pq + 2) x1 x2 x3 (μ.1 (pq + 2) 3) (hpr.row) (by unfold ir; omega) hx2 hI (by omega) (by omega)) (wm 4 71 rfl rfl) (wm 4 72 rfl rfl) (wm 4 73 rfl rfl) (hpr.row).ly rfl (by decide) ((hpr.row).hq ω ρ) (wm 1 10 rfl rfl) (wm 4 74 rfl rfl) (by decide) hR (by decide) (n := 3) rfl rfl (Nat.le_of_ble_eq_true rfl) hl.1 dX8_addConstant_8 (fun μ5 ρ d0 H locs hp G => ?_)
  obtain ⟨F_6, hI_7, hs_8⟩ := hp
  refine lv_aload_n hx hb dX8_addConstant_11 rfl (lv_at hl 0 rfl) ?_
  refine xa_getr G fd_X8 (a := pq) (x := pq + 2) 2 hpr.ly (by decide) rfl (wm 1 166 rfl rfl) ⟨rfl, rfl, rfl⟩ dX8_addConstant_12 (hpr.hq ω ρ) (G.sr hpr.s2) (by omega) ((hpr.row).hq ω ρ) ?_
  have e_9 : μ5.1 (pq + 2) 3 = (μ.1 (pq + 2) 3) + 1 := hs_8
  refine xc_iV G (b := pq + 2) (rest := []) (As := []) (c_X9_count ω l μ5 (pq + 2) (hpr.row) hI_7) (wm 4 80 rfl rfl) (wm 4 81 rfl rfl) (wm 4 82 rfl rfl) (hpr.row).ly rfl (by decide) ((hpr.row).hq ω ρ) (wm 1 10 rfl rfl) (wm 4 83 rfl rfl) (by decide) hR (by decide) (n := 0) rfl rfl (Nat.le_of_ble_eq_true rfl) hl.1 dX8_addConstant_15 (fun r_11 μ10 ρ d0 H locs hr_r_11 hp G => ?_)
  have hr_r_11 : -2147483648 ≤ r_11 ∧ r_11 ≤ 2147483647 := hr_r_11
  obtain ⟨hsm_12, hp_13⟩ := hp
  have hsm_12 := Eq.symm hsm_12
  subst hsm_12
  refine lv_iconst (v := iv 1) hx hb dX8_addConstant_18 rfl ?_
  refine xb_isub hx hb dX8_addConstant_19 ?_
  have e_14 : μ5.1 (pq + 2) 3 = (μ.1 (pq + 2) 3) + 1 := hs_8
  exact xr_i G (x := r_11 - 1) hret hlk (by unfold ir; omega) rfl dX8_addConstant_20 ⟨(Fr.tr Fr.rf F_6 (by simp)), hI_7, (by omega), (by omega)⟩

set_option maxHeartbeats 4000000 in
set_option maxRecDepth 100000 in
theorem c_X8_addFunction (ω : Om) (l : Launch) (μ : M3) (pq : Int) (x1 : Int) (hpr : isPr pq) (hx1 : jr x1) (hI : IC μ) : CtV ω l yX8_addFunction cX8_addFunction 3 0 0 [.ref (oP ω pq), .long (jv x1)] μ (fun (μ' : M3) => (Fr [pq + 6, pq + 7, pq] μ μ') ∧ (IC μ') ∧ (μ'.2 = μ.2) ∧ (μ'.1 pq 1 = μ.1 pq 1)) := by
  refine CtV.go (by decide) (Nat.le_of_ble_eq_true rfl) (fun ρ p e s m below meth c R ls G hR hret hlk hl => ?_)
  have hx := G.1.1
  have hb := G.1.2.1
  have hl : lv_has ls 3 [(0, .ref (oP ω pq)), (1, .long (jv x1))] := hl
  generalize s.drawn = d0 at G ⊢
  have hpr_d : pq = 13 ∨ pq = 71 ∨ pq = 81 ∨ pq = 91 ∨ pq = 101 := hpr
  have hk_1 := hI.pr (p := pq) hpr
  unfold pk at hk_1
  have hc_2 : 16 ≤ μ.2.1 (pq + 1) ∧ μ.2.1 (pq + 1) ≤ 73024 := hI.rm.1 _ hpr.cap
  have hbr9 := hpr.br
  refine lv_aload_n hx hb dX8_addFunction_0 rfl (lv_at hl 0 rfl) ?_
  refine xa_geti G fd_X8 (a := pq) (x := μ.1 pq 7) 7 hpr.ly (by decide) rfl (wm 1 171 rfl rfl) ⟨rfl, rfl, rfl⟩ dX8_addFunction_1 (hpr.hq ω ρ) rfl ?_
  have hr_3 : -2147483648 ≤ μ.1 pq 7 ∧ μ.1 pq 7 ≤ 2147483647 := by have h9 := G.hr (a := pq) (k := 7) hpr.t7; exact h9
  refine lv_bipush (v := iv 40) hx hb dX8_addFunction_4 rfl ?_
  refine xb_icmp_ge (tgt := 42) hx hb (by unfold ir; omega) (by unfold ir; omega) dX8_addFunction_6 (by decide) (fun c_6 => ?_) (fun c_6 => ?_)
  · exact xr_v G hret hlk dX8_addFunction_42 ⟨Fr.rf, hI, rfl, (by omega)⟩
  · refine lv_aload_n hx hb dX8_addFunction_9 rfl (lv_at hl 0 rfl) ?_
    refine xa_getr G fd_X8 (a := pq) (x := pq + 6) 3 hpr.ly (by decide) rfl (wm 1 167 rfl rfl) ⟨rfl, rfl, rfl⟩ dX8_addFunction_10 (hpr.hq ω ρ) (G.sr hpr.s3) (by omega) (hpr.hq6 ω ρ) ?_
    refine lv_aload_n hx hb dX8_addFunction_13 rfl (lv_at hl 0 rfl) ?_
    refine xa_geti G fd_X8 (a := pq) (x := μ.1 pq 7) 7 hpr.ly (by decide) rfl (wm 1 171 rfl rfl) ⟨rfl, rfl, rfl⟩ dX8_addFunction_14 (hpr.hq ω ρ) rfl ?_
    refine lv_lload_n hx hb dX8_addFunction_17 rfl (lv_at hl 1 rfl) ?_
    refine xa_last G (a := pq + 6) (i := μ.1 pq 7) (x := x1) hpr.ly6 (by have h9 := (G.ll hpr.l6); omega) hx1 dX8_addFunction_18 (hpr.hq6 ω ρ) (fun H locs G => ?_)
    refine lv_aload_n hx hb dX8_addFunction_19 rfl (lv_at hl 0 rfl) ?_
    refine xa_getr G fd_X8 (a := pq) (x := pq + 7) 4 hpr.ly (by decide) rfl (wm 1 168 rfl rfl) ⟨rfl, rfl, rfl⟩ dX8_addFunction_20 (hpr.hq ω ρ) (G.sr hpr.s4) (by omega) (hpr.hq7 ω ρ) ?_
    refine lv_aload_n hx hb dX8_addFunction_23 rfl (lv_at hl 0 rfl) ?_
    refine xa_geti G fd_X8 (a := pq) (x := μ.1 pq 7) 7 hpr.ly (by decide) rfl (wm 1 171 rfl rfl) ⟨rfl, rfl, rfl⟩ dX8_addFunction_24 (hpr.hq ω ρ) (sv_n _ (by omega)) ?_
    refine lv_aload_n hx hb dX8_addFunction_27 rfl (lv_at hl 0 rfl) ?_
    refine xa_geti G fd_X8 (a := pq) (x := μ.1 pq 1) 1 hpr.ly (by decide) rfl (wm 1 165 rfl rfl) ⟨rfl, rfl, rfl⟩ dX8_addFunction_28 (hpr.hq ω ρ) (sv_n _ (by omega)) ?_
    have hr_4 : -2147483648 ≤ μ.1 pq 1 ∧ μ.1 pq 1 ≤ 2147483647 := by have h9 := G.hr (a := pq) (k := 1) hpr.t1; rw [show (sv μ (pq + 6) (μ.1 pq 7) x1).1 pq 1 = μ.1 pq 1 from (sv_n _ (by omega))] at h9; exact h9
    refine xa_iast G (a := pq + 7) (i := μ.1 pq 7) (x := μ.1 pq 1) hpr.ly7 (by have h9 := (G.ll hpr.l7); omega) (by unfold ir; omega) dX8_addFunction_31 (hpr.hq7 ω ρ) (fun H locs G => ?_)
    refine lv_aload_n hx hb dX8_addFunction_32 rfl (lv_at hl 0 rfl) ?_
    refine lv_dup hx hb dX8_addFunction_33 rfl ?_
    refine xa_geti G fd_X8 (a := pq) (x := μ.1 pq 7) 7 hpr.ly (by decide) rfl (wm 1 171 rfl rfl) ⟨rfl, rfl, rfl⟩ dX8_addFunction_34 (hpr.hq ω ρ) ((sv_n _ (by omega)).trans (sv_n _ (by omega))) ?_
    refine lv_iconst (v := iv 1) hx hb dX8_addFunction_37 rfl ?_
    refine xb_iadd hx hb dX8_addFunction_38 ?_
    refine xa_puti G fd_X8 (a := pq) (x := (μ.1 pq 7) + 1) 7 (kz := 7) rfl hpr.ly (by decide) rfl (by unfold ir; omega) (wm 1 171 rfl rfl) ⟨rfl, rfl, rfl, rfl⟩ rfl dX8_addFunction_39 (hpr.hq ω ρ) (fun H locs G => ?_)
    have hI_5 : IC (sv (sv (sv μ (pq + 6) (μ.1 pq 7) x1) (pq + 7) (μ.1 pq 7) (μ.1 pq 1)) pq 7 ((μ.1 pq 7) + 1)) := (IC.pf (IC.pua (IC.pua hI (by rw [hpr.ly6]; decide)) (by rw [hpr.ly7]; decide)) hpr (by omega))
    have e_6 : (sv (sv (sv μ (pq + 6) (μ.1 pq 7) x1) (pq + 7) (μ.1 pq 7) (μ.1 pq 1)) pq 7 ((μ.1 pq 7) + 1)).1 pq 1 = μ.1 pq 1 := ((sv_n _ (fun h9 => absurd h9.2 (by decide))).trans ((sv_n _ (by omega)).trans (sv_n _ (by omega))))
    exact xr_v G hret hlk dX8_addFunction_42 ⟨(Fr.put (Fr.put (Fr.put Fr.rf (by simp)) (by simp)) (by simp)), hI_5, rfl, (by omega)⟩

set_option maxHeartbeats 4000000 in
set_option maxRecDepth 100000 in
theorem c_X8_setCounts (ω : Om) (l : Launch) (μ : M3) (pq : Int) (x1 : Int) (x2 : Int) (x3 : Int) (hpr : isPr pq) (hx1 : ir x1) (hx2 : ir x2) (hx3 : ir x3) (hI : IC μ) : CtV ω l yX8_setCounts cX8_setCounts 4 0 0 [.ref (oP ω pq), .int (iv x1), .int (iv x2), .int (iv x3)] μ (fun (μ' : M3) => (Fr [pq + 8, pq + 9] μ μ') ∧ (IC μ') ∧ (μ'.2 = μ.2)) := by
  refine CtV.go (by decide) (Nat.le_of_ble_eq_true rfl) (fun ρ p e s m below meth c R ls G hR hret hlk hl => ?_)
  have hx := G.1.1
  have hb := G.1.2.1
  have hl : lv_has ls 4 [(0, .ref (oP ω pq)), (1, .int (iv x1)), (2, .int (iv x2)), (3, .int (iv x3))] := hl
  generalize s.drawn = d0 at G ⊢
  have hr_x1 : -2147483648 ≤ x1 ∧ x1 ≤ 2147483647 := hx1
  have hr_x2 : -2147483648 ≤ x2 ∧ x2 ≤ 2147483647 := hx2
  have hr_x3 : -2147483648 ≤ x3 ∧ x3 ≤ 2147483647 := hx3
  have hpr_d : pq = 13 ∨ pq = 71 ∨ pq = 81 ∨ pq = 91 ∨ pq = 101 := hpr
  have hk_1 := hI.pr (p := pq) hpr
  unfold pk at hk_1
  have hc_2 : 16 ≤ μ.2.1 (pq + 1) ∧ μ.2.1 (pq + 1) ≤ 73024 := hI.rm.1 _ hpr.cap
  have hbr9 := hpr.br
  refine lv_iload_n hx hb dX8_setCounts_0 rfl (lv_at hl 1 rfl) ?_
  refine xb_if_lt (tgt := 26) hx hb (by unfold ir; omega) dX8_setCounts_1 (by decide) (fun c_1 => ?_) (fun c_1 => ?_)
  · exact xr_v G hret hlk dX8_setCounts_26 ⟨Fr.rf, hI, rfl⟩
  · refine lv_iload_n hx hb dX8_setCounts_4 rfl (lv_at hl 1 rfl) ?_
    refine lv_aload_n hx hb dX8_setCounts_5 rfl (lv_at hl 0 rfl) ?_
    refine xa_geti G fd_X8 (a := pq) (x := μ.1 pq 7) 7 hpr.ly (by decide) rfl (wm 1 171 rfl rfl) ⟨rfl, rfl, rfl⟩ dX8_setCounts_6 (hpr.hq ω ρ) rfl ?_
    have hr_3 : -2147483648 ≤ μ.1 pq 7 ∧ μ.1 pq 7 ≤ 2147483647 := by have h9 := G.hr (a := pq) (k := 7) hpr.t7; exact h9
    refine xb_icmp_ge (tgt := 26) hx hb (by unfold ir; omega) (by unfold ir; omega) dX8_setCounts_9 (by decide) (fun c_9 => ?_) (fun c_9 => ?_)
    · exact xr_v G hret hlk dX8_setCounts_26 ⟨Fr.rf, hI, rfl⟩
    · refine lv_aload_n hx hb dX8_setCounts_12 rfl (lv_at hl 0 rfl) ?_
      refine xa_getr G fd_X8 (a := pq) (x := pq + 8) 5 hpr.ly (by decide) rfl (wm 1 169 rfl rfl) ⟨rfl, rfl, rfl⟩ dX8_setCounts_13 (hpr.hq ω ρ) (G.sr hpr.s5) (by omega) (hpr.hq8 ω ρ) ?_
      refine lv_iload_n hx hb dX8_setCounts_16 rfl (lv_at hl 1 rfl) ?_
      refine lv_iload_n hx hb dX8_setCounts_17 rfl (lv_at hl 2 rfl) ?_
      refine xa_iast G (a := pq + 8) (i := x1) (x := x2) hpr.ly8 (by have h9 := (G.ll hpr.l8); omega) (by unfold ir; omega) dX8_setCounts_18 (hpr.hq8 ω ρ) (fun H locs G => ?_)
      refine lv_aload_n hx hb dX8_setCounts_19 rfl (lv_at hl 0 rfl) ?_
      refine xa_getr G fd_X8 (a := pq) (x := pq + 9) 6 hpr.ly (by decide) rfl (wm 1 170 rfl rfl) ⟨rfl, rfl, rfl⟩ dX8_setCounts_20 (hpr.hq ω ρ) (G.sr hpr.s6) (by omega) (hpr.hq9 ω ρ) ?_
      refine lv_iload_n hx hb dX8_setCounts_23 rfl (lv_at hl 1 rfl) ?_
      refine lv_iload_n hx hb dX8_setCounts_24 rfl (lv_at hl 3 rfl) ?_
      refine xa_iast G (a := pq + 9) (i := x1) (x := x3) hpr.ly9 (by have h9 := (G.ll hpr.l9); omega) (by unfold ir; omega) dX8_setCounts_25 (hpr.hq9 ω ρ) (fun H locs G => ?_)
      have hI_4 : IC (sv (sv μ (pq + 8) x1 x2) (pq + 9) x1 x3) := (IC.pua (IC.pua hI (by rw [hpr.ly8]; decide)) (by rw [hpr.ly9]; decide))
      exact xr_v G hret hlk dX8_setCounts_26 ⟨(Fr.put (Fr.put Fr.rf (by simp)) (by simp)), hI_4, rfl⟩

set_option maxHeartbeats 4000000 in
set_option maxRecDepth 100000 in
theorem c_X8_find (ω : Om) (l : Launch) (μ : M3) (pq : Int) (x1 : Int) (hpr : isPr pq) (hx1 : jr x1) (hI : IC μ) : CtI ω l yX8_find cX8_find 4 .int 0 0 [.ref (oP ω pq), .long (jv x1)] μ (fun (r : Int) (μ' : M3) => (μ' = μ) ∧ (-1 ≤ r ∧ r < 40)) := by
  refine CtI.go (by decide) (Nat.le_of_ble_eq_true rfl) (fun ρ p e s m below meth c R ls G hR hret hlk hl => ?_)
  have hx := G.1.1
  have hb := G.1.2.1
  have hl : lv_has ls 4 [(0, .ref (oP ω pq)), (1, .long (jv x1))] := hl
  generalize s.drawn = d0 at G ⊢
  have hpr_d : pq = 13 ∨ pq = 71 ∨ pq = 81 ∨ pq = 91 ∨ pq = 101 := hpr
  have hk_1 := hI.pr (p := pq) hpr
  unfold pk at hk_1
  have hc_2 : 16 ≤ μ.2.1 (pq + 1) ∧ μ.2.1 (pq + 1) ≤ 73024 := hI.rm.1 _ hpr.cap
  have hbr9 := hpr.br
  refine lv_iconst (v := iv 0) hx hb dX8_find_0 rfl ?_
  refine lv_istore_n (lv' := [(3, .int (iv 0)), (0, .ref (oP ω pq)), (1, .long (jv x1))]) hx hb dX8_find_1 rfl hl (by decide) rfl (fun ls hl => ?_)
  refine xl (fun n_9 μ' ls => ∃ (i9 : Int), (μ' = μ) ∧ (-2147483648 ≤ i9 ∧ i9 ≤ 2147483647) ∧ (0 ≤ i9) ∧ (i9 ≤ 40) ∧ n_9 = Int.toNat (60 - i9) ∧ lv_has ls 4 [(3, .int (iv i9)), (0, .ref (oP ω pq)), (1, .long (jv x1))]) (fun n_9 ρ μL3 d0 H locs ls hI_l G ih => ?_) _ _ _ _ _ _ _ ⟨0, rfl, (by omega), (by omega), (by omega), rfl, lv_sub hl [0, 1, 2] rfl⟩ G
  obtain ⟨i9, FL4, hi_6, hi_7, hi_8, hn5, hl⟩ := hI_l
  have FL4 := Eq.symm FL4
  subst FL4
  refine lv_iload_n hx hb dX8_find_2 rfl (lv_at hl 0 rfl) ?_
  refine lv_aload_n hx hb dX8_find_3 rfl (lv_at hl 1 rfl) ?_
  refine xa_geti G fd_X8 (a := pq) (x := μ.1 pq 7) 7 hpr.ly (by decide) rfl (wm 1 171 rfl rfl) ⟨rfl, rfl, rfl⟩ dX8_find_4 (hpr.hq ω ρ) rfl ?_
  have hr_9 : -2147483648 ≤ μ.1 pq 7 ∧ μ.1 pq 7 ≤ 2147483647 := by have h9 := G.hr (a := pq) (k := 7) hpr.t7; exact h9
  refine xb_icmp_ge (tgt := 29) hx hb (by unfold ir; omega) (by unfold ir; omega) dX8_find_7 (by decide) (fun c_7 => ?_) (fun c_7 => ?_)
  · refine lv_iconst (v := iv (-1)) hx hb dX8_find_29 rfl ?_
    exact xr_i G (x := (-1)) hret hlk (by unfold ir; omega) rfl dX8_find_30 ⟨rfl, (by omega)⟩
  · refine lv_aload_n hx hb dX8_find_10 rfl (lv_at hl 1 rfl) ?_
    refine xa_getr G fd_X8 (a := pq) (x := pq + 6) 3 hpr.ly (by decide) rfl (wm 1 167 rfl rfl) ⟨rfl, rfl, rfl⟩ dX8_find_11 (hpr.hq ω ρ) (G.sr hpr.s3) (by omega) (hpr.hq6 ω ρ) ?_
    refine lv_iload_n hx hb dX8_find_14 rfl (lv_at hl 0 rfl) ?_
    refine xa_lald G (a := pq + 6) (i := i9) hpr.ly6 (by have h9 := (G.ll hpr.l6); omega) dX8_find_15 (hpr.hq6 ω ρ) ?_
    have hj_10 : jr (μ.1 (pq + 6) i9) := (by have h9 := G.hj (a := pq + 6) (k := i9) hpr.ta6; exact h9)
    refine lv_lload_n hx hb dX8_find_16 rfl (lv_at hl 2 rfl) ?_
    refine xb_lcmp hx hb hj_10 hx1 dX8_find_17 ?_
    have hr_11 : -2147483648 ≤ lcm (μ.1 (pq + 6) i9) x1 ∧ lcm (μ.1 (pq + 6) i9) x1 ≤ 2147483647 := lcm_ir _ _
    refine xb_if_ne (tgt := 23) hx hb (by unfold ir; omega) dX8_find_18 (by decide) (fun c_18 => ?_) (fun c_18 => ?_)
    · refine lv_iinc (v := iv (i9 + 1)) (lv' := [(3, .int (iv (i9 + 1))), (0, .ref (oP ω pq)), (1, .long (jv x1))]) hx hb dX8_find_23 hl (k := 0) rfl (by rw [show Int32.ofInt 1 = iv 1 from rfl, iv_add]) (by decide) rfl (fun ls hl => ?_)
      refine lv_goto (tgt := 2) hx hb dX8_find_26 (by decide) ?_
      exact ih _ _ _ _ _ _ _ (by omega) ⟨i9 + 1, rfl, (by omega), (by omega), (by omega), rfl, lv_sub hl [0, 1, 2] rfl⟩ G
    · refine lv_iload_n hx hb dX8_find_21 rfl (lv_at hl 0 rfl) ?_
      exact xr_i G (x := i9) hret hlk (by unfold ir; omega) rfl dX8_find_22 ⟨rfl, (by omega)⟩

set_option maxHeartbeats 4000000 in
set_option maxRecDepth 100000 in
theorem c_X8_start (ω : Om) (l : Launch) (μ : M3) (pq : Int) (x1 : Int) (hpr : isPr pq) (hx1 : ir x1) (hI : IC μ) : CtI ω l yX8_start cX8_start 2 .int 0 0 [.ref (oP ω pq), .int (iv x1)] μ (fun (r : Int) (μ' : M3) => (μ' = μ) ∧ (r = μ.1 pq 1 ∨ (0 ≤ x1 ∧ x1 < μ.1 pq 7 ∧ r = μ.1 (pq + 7) x1))) := by
  refine CtI.go (by decide) (Nat.le_of_ble_eq_true rfl) (fun ρ p e s m below meth c R ls G hR hret hlk hl => ?_)
  have hx := G.1.1
  have hb := G.1.2.1
  have hl : lv_has ls 2 [(0, .ref (oP ω pq)), (1, .int (iv x1))] := hl
  generalize s.drawn = d0 at G ⊢
  have hr_x1 : -2147483648 ≤ x1 ∧ x1 ≤ 2147483647 := hx1
  have hpr_d : pq = 13 ∨ pq = 71 ∨ pq = 81 ∨ pq = 91 ∨ pq = 101 := hpr
  have hk_1 := hI.pr (p := pq) hpr
  unfold pk at hk_1
  have hc_2 : 16 ≤ μ.2.1 (pq + 1) ∧ μ.2.1 (pq + 1) ≤ 73024 := hI.rm.1 _ hpr.cap
  have hbr9 := hpr.br
  refine lv_iload_n hx hb dX8_start_0 rfl (lv_at hl 1 rfl) ?_
  refine xb_if_lt (tgt := 21) hx hb (by unfold ir; omega) dX8_start_1 (by decide) (fun c_1 => ?_) (fun c_1 => ?_)
  · refine lv_aload_n hx hb dX8_start_21 rfl (lv_at hl 0 rfl) ?_
    refine xa_geti G fd_X8 (a := pq) (x := μ.1 pq 1) 1 hpr.ly (by decide) rfl (wm 1 165 rfl rfl) ⟨rfl, rfl, rfl⟩ dX8_start_22 (hpr.hq ω ρ) rfl ?_
    have hr_3 : -2147483648 ≤ μ.1 pq 1 ∧ μ.1 pq 1 ≤ 2147483647 := by have h9 := G.hr (a := pq) (k := 1) hpr.t1; exact h9
    exact xr_i G (x := μ.1 pq 1) hret hlk (by unfold ir; omega) rfl dX8_start_25 ⟨rfl, (by omega)⟩
  · refine lv_iload_n hx hb dX8_start_4 rfl (lv_at hl 1 rfl) ?_
    refine lv_aload_n hx hb dX8_start_5 rfl (lv_at hl 0 rfl) ?_
    refine xa_geti G fd_X8 (a := pq) (x := μ.1 pq 7) 7 hpr.ly (by decide) rfl (wm 1 171 rfl rfl) ⟨rfl, rfl, rfl⟩ dX8_start_6 (hpr.hq ω ρ) rfl ?_
    have hr_4 : -2147483648 ≤ μ.1 pq 7 ∧ μ.1 pq 7 ≤ 2147483647 := by have h9 := G.hr (a := pq) (k := 7) hpr.t7; exact h9
    refine xb_icmp_ge (tgt := 21) hx hb (by unfold ir; omega) (by unfold ir; omega) dX8_start_9 (by decide) (fun c_9 => ?_) (fun c_9 => ?_)
    · refine lv_aload_n hx hb dX8_start_21 rfl (lv_at hl 0 rfl) ?_
      refine xa_geti G fd_X8 (a := pq) (x := μ.1 pq 1) 1 hpr.ly (by decide) rfl (wm 1 165 rfl rfl) ⟨rfl, rfl, rfl⟩ dX8_start_22 (hpr.hq ω ρ) rfl ?_
      have hr_5 : -2147483648 ≤ μ.1 pq 1 ∧ μ.1 pq 1 ≤ 2147483647 := by have h9 := G.hr (a := pq) (k := 1) hpr.t1; exact h9
      exact xr_i G (x := μ.1 pq 1) hret hlk (by unfold ir; omega) rfl dX8_start_25 ⟨rfl, (by omega)⟩
    · refine lv_aload_n hx hb dX8_start_12 rfl (lv_at hl 0 rfl) ?_
      refine xa_getr G fd_X8 (a := pq) (x := pq + 7) 4 hpr.ly (by decide) rfl (wm 1 168 rfl rfl) ⟨rfl, rfl, rfl⟩ dX8_start_13 (hpr.hq ω ρ) (G.sr hpr.s4) (by omega) (hpr.hq7 ω ρ) ?_
      refine lv_iload_n hx hb dX8_start_16 rfl (lv_at hl 1 rfl) ?_
      refine xa_iald G (a := pq + 7) (i := x1) hpr.ly7 (by have h9 := (G.ll hpr.l7); omega) dX8_start_17 (hpr.hq7 ω ρ) ?_
      have hr_6 : -2147483648 ≤ μ.1 (pq + 7) x1 ∧ μ.1 (pq + 7) x1 ≤ 2147483647 := by have h9 := G.hr (a := pq + 7) (k := x1) hpr.ta7; exact h9
      refine lv_goto (tgt := 25) hx hb dX8_start_18 (by decide) ?_
      exact xr_i G (x := μ.1 (pq + 7) x1) hret hlk (by unfold ir; omega) rfl dX8_start_25 ⟨rfl, (by omega)⟩

set_option maxHeartbeats 4000000 in
set_option maxRecDepth 100000 in
theorem c_X8_parameters (ω : Om) (l : Launch) (μ : M3) (pq : Int) (x1 : Int) (hpr : isPr pq) (hx1 : ir x1) (hI : IC μ) : CtI ω l yX8_parameters cX8_parameters 2 .int 0 0 [.ref (oP ω pq), .int (iv x1)] μ (fun (r : Int) (μ' : M3) => (μ' = μ)) := by
  refine CtI.go (by decide) (Nat.le_of_ble_eq_true rfl) (fun ρ p e s m below meth c R ls G hR hret hlk hl => ?_)
  have hx := G.1.1
  have hb := G.1.2.1
  have hl : lv_has ls 2 [(0, .ref (oP ω pq)), (1, .int (iv x1))] := hl
  generalize s.drawn = d0 at G ⊢
  have hr_x1 : -2147483648 ≤ x1 ∧ x1 ≤ 2147483647 := hx1
  have hpr_d : pq = 13 ∨ pq = 71 ∨ pq = 81 ∨ pq = 91 ∨ pq = 101 := hpr
  have hk_1 := hI.pr (p := pq) hpr
  unfold pk at hk_1
  have hc_2 : 16 ≤ μ.2.1 (pq + 1) ∧ μ.2.1 (pq + 1) ≤ 73024 := hI.rm.1 _ hpr.cap
  have hbr9 := hpr.br
  refine lv_iload_n hx hb dX8_parameters_0 rfl (lv_at hl 1 rfl) ?_
  refine xb_if_lt (tgt := 21) hx hb (by unfold ir; omega) dX8_parameters_1 (by decide) (fun c_1 => ?_) (fun c_1 => ?_)
  · refine lv_iconst (v := iv 0) hx hb dX8_parameters_21 rfl ?_
    exact xr_i G (x := 0) hret hlk (by unfold ir; omega) rfl dX8_parameters_22 rfl
  · refine lv_iload_n hx hb dX8_parameters_4 rfl (lv_at hl 1 rfl) ?_
    refine lv_aload_n hx hb dX8_parameters_5 rfl (lv_at hl 0 rfl) ?_
    refine xa_geti G fd_X8 (a := pq) (x := μ.1 pq 7) 7 hpr.ly (by decide) rfl (wm 1 171 rfl rfl) ⟨rfl, rfl, rfl⟩ dX8_parameters_6 (hpr.hq ω ρ) rfl ?_
    have hr_3 : -2147483648 ≤ μ.1 pq 7 ∧ μ.1 pq 7 ≤ 2147483647 := by have h9 := G.hr (a := pq) (k := 7) hpr.t7; exact h9
    refine xb_icmp_ge (tgt := 21) hx hb (by unfold ir; omega) (by unfold ir; omega) dX8_parameters_9 (by decide) (fun c_9 => ?_) (fun c_9 => ?_)
    · refine lv_iconst (v := iv 0) hx hb dX8_parameters_21 rfl ?_
      exact xr_i G (x := 0) hret hlk (by unfold ir; omega) rfl dX8_parameters_22 rfl
    · refine lv_aload_n hx hb dX8_parameters_12 rfl (lv_at hl 0 rfl) ?_
      refine xa_getr G fd_X8 (a := pq) (x := pq + 8) 5 hpr.ly (by decide) rfl (wm 1 169 rfl rfl) ⟨rfl, rfl, rfl⟩ dX8_parameters_13 (hpr.hq ω ρ) (G.sr hpr.s5) (by omega) (hpr.hq8 ω ρ) ?_
      refine lv_iload_n hx hb dX8_parameters_16 rfl (lv_at hl 1 rfl) ?_
      refine xa_iald G (a := pq + 8) (i := x1) hpr.ly8 (by have h9 := (G.ll hpr.l8); omega) dX8_parameters_17 (hpr.hq8 ω ρ) ?_
      have hr_4 : -2147483648 ≤ μ.1 (pq + 8) x1 ∧ μ.1 (pq + 8) x1 ≤ 2147483647 := by have h9 := G.hr (a := pq + 8) (k := x1) hpr.ta8; exact h9
      refine lv_goto (tgt := 22) hx hb dX8_parameters_18 (by decide) ?_
      exact xr_i G (x := μ.1 (pq + 8) x1) hret hlk (by unfold ir; omega) rfl dX8_parameters_22 rfl

set_option maxHeartbeats 4000000 in
set_option maxRecDepth 100000 in
theorem c_X8_variables (ω : Om) (l : Launch) (μ : M3) (pq : Int) (x1 : Int) (hpr : isPr pq) (hx1 : ir x1) (hI : IC μ) : CtI ω l yX8_variables cX8_variables 2 .int 0 0 [.ref (oP ω pq), .int (iv x1)] μ (fun (r : Int) (μ' : M3) => (μ' = μ) ∧ (r = 0 ∨ r = μ.1 (pq + 9) x1)) := by
  refine CtI.go (by decide) (Nat.le_of_ble_eq_true rfl) (fun ρ p e s m below meth c R ls G hR hret hlk hl => ?_)
  have hx := G.1.1
  have hb := G.1.2.1
  have hl : lv_has ls 2 [(0, .ref (oP ω pq)), (1, .int (iv x1))] := hl
  generalize s.drawn = d0 at G ⊢
  have hr_x1 : -2147483648 ≤ x1 ∧ x1 ≤ 2147483647 := hx1
  have hpr_d : pq = 13 ∨ pq = 71 ∨ pq = 81 ∨ pq = 91 ∨ pq = 101 := hpr
  have hk_1 := hI.pr (p := pq) hpr
  unfold pk at hk_1
  have hc_2 : 16 ≤ μ.2.1 (pq + 1) ∧ μ.2.1 (pq + 1) ≤ 73024 := hI.rm.1 _ hpr.cap
  have hbr9 := hpr.br
  refine lv_iload_n hx hb dX8_variables_0 rfl (lv_at hl 1 rfl) ?_
  refine xb_if_lt (tgt := 21) hx hb (by unfold ir; omega) dX8_variables_1 (by decide) (fun c_1 => ?_) (fun c_1 => ?_)
  · refine lv_iconst (v := iv 0) hx hb dX8_variables_21 rfl ?_
    exact xr_i G (x := 0) hret hlk (by unfold ir; omega) rfl dX8_variables_22 ⟨rfl, (by omega)⟩
  · refine lv_iload_n hx hb dX8_variables_4 rfl (lv_at hl 1 rfl) ?_
    refine lv_aload_n hx hb dX8_variables_5 rfl (lv_at hl 0 rfl) ?_
    refine xa_geti G fd_X8 (a := pq) (x := μ.1 pq 7) 7 hpr.ly (by decide) rfl (wm 1 171 rfl rfl) ⟨rfl, rfl, rfl⟩ dX8_variables_6 (hpr.hq ω ρ) rfl ?_
    have hr_3 : -2147483648 ≤ μ.1 pq 7 ∧ μ.1 pq 7 ≤ 2147483647 := by have h9 := G.hr (a := pq) (k := 7) hpr.t7; exact h9
    refine xb_icmp_ge (tgt := 21) hx hb (by unfold ir; omega) (by unfold ir; omega) dX8_variables_9 (by decide) (fun c_9 => ?_) (fun c_9 => ?_)
    · refine lv_iconst (v := iv 0) hx hb dX8_variables_21 rfl ?_
      exact xr_i G (x := 0) hret hlk (by unfold ir; omega) rfl dX8_variables_22 ⟨rfl, (by omega)⟩
    · refine lv_aload_n hx hb dX8_variables_12 rfl (lv_at hl 0 rfl) ?_
      refine xa_getr G fd_X8 (a := pq) (x := pq + 9) 6 hpr.ly (by decide) rfl (wm 1 170 rfl rfl) ⟨rfl, rfl, rfl⟩ dX8_variables_13 (hpr.hq ω ρ) (G.sr hpr.s6) (by omega) (hpr.hq9 ω ρ) ?_
      refine lv_iload_n hx hb dX8_variables_16 rfl (lv_at hl 1 rfl) ?_
      refine xa_iald G (a := pq + 9) (i := x1) hpr.ly9 (by have h9 := (G.ll hpr.l9); omega) dX8_variables_17 (hpr.hq9 ω ρ) ?_
      have hr_4 : -2147483648 ≤ μ.1 (pq + 9) x1 ∧ μ.1 (pq + 9) x1 ≤ 2147483647 := by have h9 := G.hr (a := pq + 9) (k := x1) hpr.ta9; exact h9
      refine lv_goto (tgt := 22) hx hb dX8_variables_18 (by decide) ?_
      exact xr_i G (x := μ.1 (pq + 9) x1) hret hlk (by unfold ir; omega) rfl dX8_variables_22 ⟨rfl, (by omega)⟩
