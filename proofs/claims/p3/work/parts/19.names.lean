abbrev cX0_setEntry : ByteArray := prog_2_method_5_code
def yX0_setEntry : MethodName := ⟨RX0, "setEntry", "(IIII)Z"⟩
abbrev cX0_find : ByteArray := prog_2_method_6_code
def yX0_find : MethodName := ⟨RX0, "find", "(III)I"⟩
abbrev cX0_entryFor : ByteArray := prog_2_method_7_code
def yX0_entryFor : MethodName := ⟨RX0, "entryFor", "(IIILFourTongues$Names;)I"⟩
abbrev cX0_becomes : ByteArray := prog_2_method_8_code
def yX0_becomes : MethodName := ⟨RX0, "becomes", "(III)I"⟩
abbrev cX0_wrapped : ByteArray := prog_2_method_11_code
def yX0_wrapped : MethodName := ⟨RX0, "wrapped", "(IJ)J"⟩
abbrev cX5_numberOf : ByteArray := prog_7_method_5_code
def yX5_numberOf : MethodName := ⟨RX5, "numberOf", "(J)I"⟩
abbrev cX5_letterOf : ByteArray := prog_7_method_6_code
def yX5_letterOf : MethodName := ⟨RX5, "letterOf", "(II)I"⟩
abbrev cX5_isOrUnder : ByteArray := prog_7_method_9_code
def yX5_isOrUnder : MethodName := ⟨RX5, "isOrUnder", "(II)Z"⟩
theorem dX0_setEntry_0 : decode cX0_setEntry 0 = .ok (.aload_n 0, 1) := by decide +kernel
theorem dX0_setEntry_1 : decode cX0_setEntry 1 = .ok (.iload_n 1, 1) := by decide +kernel
theorem dX0_setEntry_2 : decode cX0_setEntry 2 = .ok (.iload_n 2, 1) := by decide +kernel
theorem dX0_setEntry_3 : decode cX0_setEntry 3 = .ok (.iload_n 3, 1) := by decide +kernel
theorem dX0_setEntry_4 : decode cX0_setEntry 4 = .ok (.invokevirtual 41, 3) := by decide +kernel
theorem dX0_setEntry_7 : decode cX0_setEntry 7 = .ok (.istore 5, 2) := by decide +kernel
theorem dX0_setEntry_9 : decode cX0_setEntry 9 = .ok (.iload 5, 2) := by decide +kernel
theorem dX0_setEntry_11 : decode cX0_setEntry 11 = .ok (.ifCond .ge 30, 3) := by decide +kernel
theorem dX0_setEntry_14 : decode cX0_setEntry 14 = .ok (.aload_n 0, 1) := by decide +kernel
theorem dX0_setEntry_15 : decode cX0_setEntry 15 = .ok (.getfield 27, 3) := by decide +kernel
theorem dX0_setEntry_18 : decode cX0_setEntry 18 = .ok (.bipush 100, 2) := by decide +kernel
theorem dX0_setEntry_20 : decode cX0_setEntry 20 = .ok (.if_icmp .lt 5, 3) := by decide +kernel
theorem dX0_setEntry_23 : decode cX0_setEntry 23 = .ok (.iconst 0, 1) := by decide +kernel
theorem dX0_setEntry_24 : decode cX0_setEntry 24 = .ok (.ireturn, 1) := by decide +kernel
theorem dX0_setEntry_25 : decode cX0_setEntry 25 = .ok (.aload_n 0, 1) := by decide +kernel
theorem dX0_setEntry_26 : decode cX0_setEntry 26 = .ok (.getfield 27, 3) := by decide +kernel
theorem dX0_setEntry_29 : decode cX0_setEntry 29 = .ok (.istore 5, 2) := by decide +kernel
theorem dX0_setEntry_31 : decode cX0_setEntry 31 = .ok (.aload_n 0, 1) := by decide +kernel
theorem dX0_setEntry_32 : decode cX0_setEntry 32 = .ok (.dup, 1) := by decide +kernel
theorem dX0_setEntry_33 : decode cX0_setEntry 33 = .ok (.getfield 27, 3) := by decide +kernel
theorem dX0_setEntry_36 : decode cX0_setEntry 36 = .ok (.iconst 1, 1) := by decide +kernel
theorem dX0_setEntry_37 : decode cX0_setEntry 37 = .ok (.iadd, 1) := by decide +kernel
theorem dX0_setEntry_38 : decode cX0_setEntry 38 = .ok (.putfield 27, 3) := by decide +kernel
theorem dX0_setEntry_41 : decode cX0_setEntry 41 = .ok (.aload_n 0, 1) := by decide +kernel
theorem dX0_setEntry_42 : decode cX0_setEntry 42 = .ok (.getfield 18, 3) := by decide +kernel
theorem dX0_setEntry_45 : decode cX0_setEntry 45 = .ok (.iload 5, 2) := by decide +kernel
theorem dX0_setEntry_47 : decode cX0_setEntry 47 = .ok (.iload_n 1, 1) := by decide +kernel
theorem dX0_setEntry_48 : decode cX0_setEntry 48 = .ok (.iload_n 2, 1) := by decide +kernel
theorem dX0_setEntry_49 : decode cX0_setEntry 49 = .ok (.invokestatic 37, 3) := by decide +kernel
theorem dX0_setEntry_52 : decode cX0_setEntry 52 = .ok (.iastore, 1) := by decide +kernel
theorem dX0_setEntry_53 : decode cX0_setEntry 53 = .ok (.aload_n 0, 1) := by decide +kernel
theorem dX0_setEntry_54 : decode cX0_setEntry 54 = .ok (.getfield 21, 3) := by decide +kernel
theorem dX0_setEntry_57 : decode cX0_setEntry 57 = .ok (.iload 5, 2) := by decide +kernel
theorem dX0_setEntry_59 : decode cX0_setEntry 59 = .ok (.iload_n 3, 1) := by decide +kernel
theorem dX0_setEntry_60 : decode cX0_setEntry 60 = .ok (.iastore, 1) := by decide +kernel
theorem dX0_setEntry_61 : decode cX0_setEntry 61 = .ok (.aload_n 0, 1) := by decide +kernel
theorem dX0_setEntry_62 : decode cX0_setEntry 62 = .ok (.getfield 24, 3) := by decide +kernel
theorem dX0_setEntry_65 : decode cX0_setEntry 65 = .ok (.iload 5, 2) := by decide +kernel
theorem dX0_setEntry_67 : decode cX0_setEntry 67 = .ok (.iload 4, 2) := by decide +kernel
theorem dX0_setEntry_69 : decode cX0_setEntry 69 = .ok (.iastore, 1) := by decide +kernel
theorem dX0_setEntry_70 : decode cX0_setEntry 70 = .ok (.iconst 1, 1) := by decide +kernel
theorem dX0_setEntry_71 : decode cX0_setEntry 71 = .ok (.ireturn, 1) := by decide +kernel
theorem dX0_find_0 : decode cX0_find 0 = .ok (.iload_n 1, 1) := by decide +kernel
theorem dX0_find_1 : decode cX0_find 1 = .ok (.iload_n 2, 1) := by decide +kernel
theorem dX0_find_2 : decode cX0_find 2 = .ok (.invokestatic 37, 3) := by decide +kernel
theorem dX0_find_5 : decode cX0_find 5 = .ok (.istore 4, 2) := by decide +kernel
theorem dX0_find_7 : decode cX0_find 7 = .ok (.iconst 0, 1) := by decide +kernel
theorem dX0_find_8 : decode cX0_find 8 = .ok (.istore 5, 2) := by decide +kernel
theorem dX0_find_10 : decode cX0_find 10 = .ok (.iload 5, 2) := by decide +kernel
theorem dX0_find_12 : decode cX0_find 12 = .ok (.aload_n 0, 1) := by decide +kernel
theorem dX0_find_13 : decode cX0_find 13 = .ok (.getfield 27, 3) := by decide +kernel
theorem dX0_find_16 : decode cX0_find 16 = .ok (.if_icmp .ge 35, 3) := by decide +kernel
theorem dX0_find_19 : decode cX0_find 19 = .ok (.aload_n 0, 1) := by decide +kernel
theorem dX0_find_20 : decode cX0_find 20 = .ok (.getfield 18, 3) := by decide +kernel
theorem dX0_find_23 : decode cX0_find 23 = .ok (.iload 5, 2) := by decide +kernel
theorem dX0_find_25 : decode cX0_find 25 = .ok (.iaload, 1) := by decide +kernel
theorem dX0_find_26 : decode cX0_find 26 = .ok (.iload 4, 2) := by decide +kernel
theorem dX0_find_28 : decode cX0_find 28 = .ok (.if_icmp .ne 17, 3) := by decide +kernel
theorem dX0_find_31 : decode cX0_find 31 = .ok (.aload_n 0, 1) := by decide +kernel
theorem dX0_find_32 : decode cX0_find 32 = .ok (.getfield 21, 3) := by decide +kernel
theorem dX0_find_35 : decode cX0_find 35 = .ok (.iload 5, 2) := by decide +kernel
theorem dX0_find_37 : decode cX0_find 37 = .ok (.iaload, 1) := by decide +kernel
theorem dX0_find_38 : decode cX0_find 38 = .ok (.iload_n 3, 1) := by decide +kernel
theorem dX0_find_39 : decode cX0_find 39 = .ok (.if_icmp .ne 6, 3) := by decide +kernel
theorem dX0_find_42 : decode cX0_find 42 = .ok (.iload 5, 2) := by decide +kernel
theorem dX0_find_44 : decode cX0_find 44 = .ok (.ireturn, 1) := by decide +kernel
theorem dX0_find_45 : decode cX0_find 45 = .ok (.iinc 5 1, 3) := by decide +kernel
theorem dX0_find_48 : decode cX0_find 48 = .ok (.goto (-38), 3) := by decide +kernel
theorem dX0_find_51 : decode cX0_find 51 = .ok (.iconst (-1), 1) := by decide +kernel
theorem dX0_find_52 : decode cX0_find 52 = .ok (.ireturn, 1) := by decide +kernel
theorem dX0_entryFor_0 : decode cX0_entryFor 0 = .ok (.aload_n 0, 1) := by decide +kernel
theorem dX0_entryFor_1 : decode cX0_entryFor 1 = .ok (.iload_n 1, 1) := by decide +kernel
theorem dX0_entryFor_2 : decode cX0_entryFor 2 = .ok (.iload_n 2, 1) := by decide +kernel
theorem dX0_entryFor_3 : decode cX0_entryFor 3 = .ok (.iload_n 3, 1) := by decide +kernel
theorem dX0_entryFor_4 : decode cX0_entryFor 4 = .ok (.invokevirtual 41, 3) := by decide +kernel
theorem dX0_entryFor_7 : decode cX0_entryFor 7 = .ok (.istore 5, 2) := by decide +kernel
theorem dX0_entryFor_9 : decode cX0_entryFor 9 = .ok (.iload_n 1, 1) := by decide +kernel
theorem dX0_entryFor_10 : decode cX0_entryFor 10 = .ok (.ifCond .eq 6, 3) := by decide +kernel
theorem dX0_entryFor_13 : decode cX0_entryFor 13 = .ok (.iload 5, 2) := by decide +kernel
theorem dX0_entryFor_15 : decode cX0_entryFor 15 = .ok (.ireturn, 1) := by decide +kernel
theorem dX0_entryFor_16 : decode cX0_entryFor 16 = .ok (.iload_n 3, 1) := by decide +kernel
theorem dX0_entryFor_17 : decode cX0_entryFor 17 = .ok (.istore 6, 2) := by decide +kernel
theorem dX0_entryFor_19 : decode cX0_entryFor 19 = .ok (.iconst 0, 1) := by decide +kernel
theorem dX0_entryFor_20 : decode cX0_entryFor 20 = .ok (.istore 7, 2) := by decide +kernel
theorem dX0_entryFor_22 : decode cX0_entryFor 22 = .ok (.iload 7, 2) := by decide +kernel
theorem dX0_entryFor_24 : decode cX0_entryFor 24 = .ok (.bipush 51, 2) := by decide +kernel
theorem dX0_entryFor_26 : decode cX0_entryFor 26 = .ok (.if_icmp .gt 38, 3) := by decide +kernel
theorem dX0_entryFor_29 : decode cX0_entryFor 29 = .ok (.iload 5, 2) := by decide +kernel
theorem dX0_entryFor_31 : decode cX0_entryFor 31 = .ok (.ifCond .ge 33, 3) := by decide +kernel
theorem dX0_entryFor_34 : decode cX0_entryFor 34 = .ok (.iload 6, 2) := by decide +kernel
theorem dX0_entryFor_36 : decode cX0_entryFor 36 = .ok (.ifCond .eq 28, 3) := by decide +kernel
theorem dX0_entryFor_39 : decode cX0_entryFor 39 = .ok (.aload 4, 2) := by decide +kernel
theorem dX0_entryFor_41 : decode cX0_entryFor 41 = .ok (.iload 6, 2) := by decide +kernel
theorem dX0_entryFor_43 : decode cX0_entryFor 43 = .ok (.invokevirtual 47, 3) := by decide +kernel
theorem dX0_entryFor_46 : decode cX0_entryFor 46 = .ok (.istore 6, 2) := by decide +kernel
theorem dX0_entryFor_48 : decode cX0_entryFor 48 = .ok (.aload_n 0, 1) := by decide +kernel
theorem dX0_entryFor_49 : decode cX0_entryFor 49 = .ok (.iload_n 1, 1) := by decide +kernel
theorem dX0_entryFor_50 : decode cX0_entryFor 50 = .ok (.iload_n 2, 1) := by decide +kernel
theorem dX0_entryFor_51 : decode cX0_entryFor 51 = .ok (.iload 6, 2) := by decide +kernel
theorem dX0_entryFor_53 : decode cX0_entryFor 53 = .ok (.invokevirtual 41, 3) := by decide +kernel
theorem dX0_entryFor_56 : decode cX0_entryFor 56 = .ok (.istore 5, 2) := by decide +kernel
theorem dX0_entryFor_58 : decode cX0_entryFor 58 = .ok (.iinc 7 1, 3) := by decide +kernel
theorem dX0_entryFor_61 : decode cX0_entryFor 61 = .ok (.goto (-39), 3) := by decide +kernel
theorem dX0_entryFor_64 : decode cX0_entryFor 64 = .ok (.iload 5, 2) := by decide +kernel
theorem dX0_entryFor_66 : decode cX0_entryFor 66 = .ok (.ireturn, 1) := by decide +kernel
theorem dX0_becomes_0 : decode cX0_becomes 0 = .ok (.iload_n 3, 1) := by decide +kernel
theorem dX0_becomes_1 : decode cX0_becomes 1 = .ok (.ifCond .lt 20, 3) := by decide +kernel
theorem dX0_becomes_4 : decode cX0_becomes 4 = .ok (.iload_n 3, 1) := by decide +kernel
theorem dX0_becomes_5 : decode cX0_becomes 5 = .ok (.aload_n 0, 1) := by decide +kernel
theorem dX0_becomes_6 : decode cX0_becomes 6 = .ok (.getfield 27, 3) := by decide +kernel
theorem dX0_becomes_9 : decode cX0_becomes 9 = .ok (.if_icmp .ge 12, 3) := by decide +kernel
theorem dX0_becomes_12 : decode cX0_becomes 12 = .ok (.aload_n 0, 1) := by decide +kernel
theorem dX0_becomes_13 : decode cX0_becomes 13 = .ok (.getfield 24, 3) := by decide +kernel
theorem dX0_becomes_16 : decode cX0_becomes 16 = .ok (.iload_n 3, 1) := by decide +kernel
theorem dX0_becomes_17 : decode cX0_becomes 17 = .ok (.iaload, 1) := by decide +kernel
theorem dX0_becomes_18 : decode cX0_becomes 18 = .ok (.goto 13, 3) := by decide +kernel
theorem dX0_becomes_21 : decode cX0_becomes 21 = .ok (.aload_n 0, 1) := by decide +kernel
theorem dX0_becomes_22 : decode cX0_becomes 22 = .ok (.getfield 15, 3) := by decide +kernel
theorem dX0_becomes_25 : decode cX0_becomes 25 = .ok (.iload_n 1, 1) := by decide +kernel
theorem dX0_becomes_26 : decode cX0_becomes 26 = .ok (.iload_n 2, 1) := by decide +kernel
theorem dX0_becomes_27 : decode cX0_becomes 27 = .ok (.invokestatic 37, 3) := by decide +kernel
theorem dX0_becomes_30 : decode cX0_becomes 30 = .ok (.iaload, 1) := by decide +kernel
theorem dX0_becomes_31 : decode cX0_becomes 31 = .ok (.ireturn, 1) := by decide +kernel
theorem dX0_wrapped_0 : decode cX0_wrapped 0 = .ok (.iload_n 0, 1) := by decide +kernel
theorem dX0_wrapped_1 : decode cX0_wrapped 1 = .ok (.iconst 1, 1) := by decide +kernel
theorem dX0_wrapped_2 : decode cX0_wrapped 2 = .ok (.if_icmp .ne 7, 3) := by decide +kernel
theorem dX0_wrapped_5 : decode cX0_wrapped 5 = .ok (.lload_n 1, 1) := by decide +kernel
theorem dX0_wrapped_6 : decode cX0_wrapped 6 = .ok (.l2i, 1) := by decide +kernel
theorem dX0_wrapped_7 : decode cX0_wrapped 7 = .ok (.i2l, 1) := by decide +kernel
theorem dX0_wrapped_8 : decode cX0_wrapped 8 = .ok (.lreturn, 1) := by decide +kernel
theorem dX0_wrapped_9 : decode cX0_wrapped 9 = .ok (.iload_n 0, 1) := by decide +kernel
theorem dX0_wrapped_10 : decode cX0_wrapped 10 = .ok (.iconst 2, 1) := by decide +kernel
theorem dX0_wrapped_11 : decode cX0_wrapped 11 = .ok (.if_icmp .ne 11, 3) := by decide +kernel
theorem dX0_wrapped_14 : decode cX0_wrapped 14 = .ok (.lload_n 1, 1) := by decide +kernel
theorem dX0_wrapped_15 : decode cX0_wrapped 15 = .ok (.ldc2_w 101, 3) := by decide +kernel
theorem dX0_wrapped_18 : decode cX0_wrapped 18 = .ok (.lrem, 1) := by decide +kernel
theorem dX0_wrapped_19 : decode cX0_wrapped 19 = .ok (.goto 4, 3) := by decide +kernel
theorem dX0_wrapped_22 : decode cX0_wrapped 22 = .ok (.lload_n 1, 1) := by decide +kernel
theorem dX0_wrapped_23 : decode cX0_wrapped 23 = .ok (.lreturn, 1) := by decide +kernel
theorem dX5_numberOf_0 : decode cX5_numberOf 0 = .ok (.iconst 1, 1) := by decide +kernel
theorem dX5_numberOf_1 : decode cX5_numberOf 1 = .ok (.istore_n 3, 1) := by decide +kernel
theorem dX5_numberOf_2 : decode cX5_numberOf 2 = .ok (.iload_n 3, 1) := by decide +kernel
theorem dX5_numberOf_3 : decode cX5_numberOf 3 = .ok (.aload_n 0, 1) := by decide +kernel
theorem dX5_numberOf_4 : decode cX5_numberOf 4 = .ok (.getfield 22, 3) := by decide +kernel
theorem dX5_numberOf_7 : decode cX5_numberOf 7 = .ok (.if_icmp .gt 22, 3) := by decide +kernel
theorem dX5_numberOf_10 : decode cX5_numberOf 10 = .ok (.aload_n 0, 1) := by decide +kernel
theorem dX5_numberOf_11 : decode cX5_numberOf 11 = .ok (.getfield 11, 3) := by decide +kernel
theorem dX5_numberOf_14 : decode cX5_numberOf 14 = .ok (.iload_n 3, 1) := by decide +kernel
theorem dX5_numberOf_15 : decode cX5_numberOf 15 = .ok (.laload, 1) := by decide +kernel
theorem dX5_numberOf_16 : decode cX5_numberOf 16 = .ok (.lload_n 1, 1) := by decide +kernel
theorem dX5_numberOf_17 : decode cX5_numberOf 17 = .ok (.lcmp, 1) := by decide +kernel
theorem dX5_numberOf_18 : decode cX5_numberOf 18 = .ok (.ifCond .ne 5, 3) := by decide +kernel
theorem dX5_numberOf_21 : decode cX5_numberOf 21 = .ok (.iload_n 3, 1) := by decide +kernel
theorem dX5_numberOf_22 : decode cX5_numberOf 22 = .ok (.ireturn, 1) := by decide +kernel
theorem dX5_numberOf_23 : decode cX5_numberOf 23 = .ok (.iinc 3 1, 3) := by decide +kernel
theorem dX5_numberOf_26 : decode cX5_numberOf 26 = .ok (.goto (-24), 3) := by decide +kernel
theorem dX5_numberOf_29 : decode cX5_numberOf 29 = .ok (.aload_n 0, 1) := by decide +kernel
theorem dX5_numberOf_30 : decode cX5_numberOf 30 = .ok (.getfield 22, 3) := by decide +kernel
theorem dX5_numberOf_33 : decode cX5_numberOf 33 = .ok (.bipush 51, 2) := by decide +kernel
theorem dX5_numberOf_35 : decode cX5_numberOf 35 = .ok (.if_icmp .lt 5, 3) := by decide +kernel
theorem dX5_numberOf_38 : decode cX5_numberOf 38 = .ok (.iconst 0, 1) := by decide +kernel
theorem dX5_numberOf_39 : decode cX5_numberOf 39 = .ok (.ireturn, 1) := by decide +kernel
theorem dX5_numberOf_40 : decode cX5_numberOf 40 = .ok (.aload_n 0, 1) := by decide +kernel
theorem dX5_numberOf_41 : decode cX5_numberOf 41 = .ok (.dup, 1) := by decide +kernel
theorem dX5_numberOf_42 : decode cX5_numberOf 42 = .ok (.getfield 22, 3) := by decide +kernel
theorem dX5_numberOf_45 : decode cX5_numberOf 45 = .ok (.iconst 1, 1) := by decide +kernel
theorem dX5_numberOf_46 : decode cX5_numberOf 46 = .ok (.iadd, 1) := by decide +kernel
theorem dX5_numberOf_47 : decode cX5_numberOf 47 = .ok (.putfield 22, 3) := by decide +kernel
theorem dX5_numberOf_50 : decode cX5_numberOf 50 = .ok (.aload_n 0, 1) := by decide +kernel
theorem dX5_numberOf_51 : decode cX5_numberOf 51 = .ok (.getfield 11, 3) := by decide +kernel
theorem dX5_numberOf_54 : decode cX5_numberOf 54 = .ok (.aload_n 0, 1) := by decide +kernel
theorem dX5_numberOf_55 : decode cX5_numberOf 55 = .ok (.getfield 22, 3) := by decide +kernel
theorem dX5_numberOf_58 : decode cX5_numberOf 58 = .ok (.lload_n 1, 1) := by decide +kernel
theorem dX5_numberOf_59 : decode cX5_numberOf 59 = .ok (.lastore, 1) := by decide +kernel
theorem dX5_numberOf_60 : decode cX5_numberOf 60 = .ok (.aload_n 0, 1) := by decide +kernel
theorem dX5_numberOf_61 : decode cX5_numberOf 61 = .ok (.getfield 15, 3) := by decide +kernel
theorem dX5_numberOf_64 : decode cX5_numberOf 64 = .ok (.aload_n 0, 1) := by decide +kernel
theorem dX5_numberOf_65 : decode cX5_numberOf 65 = .ok (.getfield 22, 3) := by decide +kernel
theorem dX5_numberOf_68 : decode cX5_numberOf 68 = .ok (.bipush 10, 2) := by decide +kernel
theorem dX5_numberOf_70 : decode cX5_numberOf 70 = .ok (.iastore, 1) := by decide +kernel
theorem dX5_numberOf_71 : decode cX5_numberOf 71 = .ok (.aload_n 0, 1) := by decide +kernel
theorem dX5_numberOf_72 : decode cX5_numberOf 72 = .ok (.getfield 22, 3) := by decide +kernel
theorem dX5_numberOf_75 : decode cX5_numberOf 75 = .ok (.ireturn, 1) := by decide +kernel
theorem dX5_letterOf_0 : decode cX5_letterOf 0 = .ok (.iload_n 1, 1) := by decide +kernel
theorem dX5_letterOf_1 : decode cX5_letterOf 1 = .ok (.iconst 1, 1) := by decide +kernel
theorem dX5_letterOf_2 : decode cX5_letterOf 2 = .ok (.if_icmp .lt 21, 3) := by decide +kernel
theorem dX5_letterOf_5 : decode cX5_letterOf 5 = .ok (.iload_n 1, 1) := by decide +kernel
theorem dX5_letterOf_6 : decode cX5_letterOf 6 = .ok (.aload_n 0, 1) := by decide +kernel
theorem dX5_letterOf_7 : decode cX5_letterOf 7 = .ok (.getfield 22, 3) := by decide +kernel
theorem dX5_letterOf_10 : decode cX5_letterOf 10 = .ok (.if_icmp .gt 13, 3) := by decide +kernel
theorem dX5_letterOf_13 : decode cX5_letterOf 13 = .ok (.iload_n 2, 1) := by decide +kernel
theorem dX5_letterOf_14 : decode cX5_letterOf 14 = .ok (.ifCond .lt 9, 3) := by decide +kernel
theorem dX5_letterOf_17 : decode cX5_letterOf 17 = .ok (.iload_n 2, 1) := by decide +kernel
theorem dX5_letterOf_18 : decode cX5_letterOf 18 = .ok (.bipush 7, 2) := by decide +kernel
theorem dX5_letterOf_20 : decode cX5_letterOf 20 = .ok (.if_icmp .le 5, 3) := by decide +kernel
theorem dX5_letterOf_23 : decode cX5_letterOf 23 = .ok (.iconst (-1), 1) := by decide +kernel
theorem dX5_letterOf_24 : decode cX5_letterOf 24 = .ok (.ireturn, 1) := by decide +kernel
theorem dX5_letterOf_25 : decode cX5_letterOf 25 = .ok (.iconst 0, 1) := by decide +kernel
theorem dX5_letterOf_26 : decode cX5_letterOf 26 = .ok (.istore_n 3, 1) := by decide +kernel
theorem dX5_letterOf_27 : decode cX5_letterOf 27 = .ok (.aload_n 0, 1) := by decide +kernel
theorem dX5_letterOf_28 : decode cX5_letterOf 28 = .ok (.getfield 11, 3) := by decide +kernel
theorem dX5_letterOf_31 : decode cX5_letterOf 31 = .ok (.iload_n 1, 1) := by decide +kernel
theorem dX5_letterOf_32 : decode cX5_letterOf 32 = .ok (.laload, 1) := by decide +kernel
theorem dX5_letterOf_33 : decode cX5_letterOf 33 = .ok (.lstore 4, 2) := by decide +kernel
theorem dX5_letterOf_35 : decode cX5_letterOf 35 = .ok (.lload 4, 2) := by decide +kernel
theorem dX5_letterOf_37 : decode cX5_letterOf 37 = .ok (.lconst 0, 1) := by decide +kernel
theorem dX5_letterOf_38 : decode cX5_letterOf 38 = .ok (.lcmp, 1) := by decide +kernel
theorem dX5_letterOf_39 : decode cX5_letterOf 39 = .ok (.ifCond .eq 22, 3) := by decide +kernel
theorem dX5_letterOf_42 : decode cX5_letterOf 42 = .ok (.iload_n 3, 1) := by decide +kernel
theorem dX5_letterOf_43 : decode cX5_letterOf 43 = .ok (.bipush 8, 2) := by decide +kernel
theorem dX5_letterOf_45 : decode cX5_letterOf 45 = .ok (.if_icmp .ge 16, 3) := by decide +kernel
theorem dX5_letterOf_48 : decode cX5_letterOf 48 = .ok (.iinc 3 1, 3) := by decide +kernel
theorem dX5_letterOf_51 : decode cX5_letterOf 51 = .ok (.lload 4, 2) := by decide +kernel
theorem dX5_letterOf_53 : decode cX5_letterOf 53 = .ok (.bipush 8, 2) := by decide +kernel
theorem dX5_letterOf_55 : decode cX5_letterOf 55 = .ok (.lushr, 1) := by decide +kernel
theorem dX5_letterOf_56 : decode cX5_letterOf 56 = .ok (.lstore 4, 2) := by decide +kernel
theorem dX5_letterOf_58 : decode cX5_letterOf 58 = .ok (.goto (-23), 3) := by decide +kernel
theorem dX5_letterOf_61 : decode cX5_letterOf 61 = .ok (.iload_n 2, 1) := by decide +kernel
theorem dX5_letterOf_62 : decode cX5_letterOf 62 = .ok (.iload_n 3, 1) := by decide +kernel
theorem dX5_letterOf_63 : decode cX5_letterOf 63 = .ok (.if_icmp .ge 26, 3) := by decide +kernel
theorem dX5_letterOf_66 : decode cX5_letterOf 66 = .ok (.aload_n 0, 1) := by decide +kernel
theorem dX5_letterOf_67 : decode cX5_letterOf 67 = .ok (.getfield 11, 3) := by decide +kernel
theorem dX5_letterOf_70 : decode cX5_letterOf 70 = .ok (.iload_n 1, 1) := by decide +kernel
theorem dX5_letterOf_71 : decode cX5_letterOf 71 = .ok (.laload, 1) := by decide +kernel
theorem dX5_letterOf_72 : decode cX5_letterOf 72 = .ok (.bipush 8, 2) := by decide +kernel
theorem dX5_letterOf_74 : decode cX5_letterOf 74 = .ok (.iload_n 3, 1) := by decide +kernel
theorem dX5_letterOf_75 : decode cX5_letterOf 75 = .ok (.iconst 1, 1) := by decide +kernel
theorem dX5_letterOf_76 : decode cX5_letterOf 76 = .ok (.isub, 1) := by decide +kernel
theorem dX5_letterOf_77 : decode cX5_letterOf 77 = .ok (.iload_n 2, 1) := by decide +kernel
theorem dX5_letterOf_78 : decode cX5_letterOf 78 = .ok (.isub, 1) := by decide +kernel
theorem dX5_letterOf_79 : decode cX5_letterOf 79 = .ok (.imul, 1) := by decide +kernel
theorem dX5_letterOf_80 : decode cX5_letterOf 80 = .ok (.lushr, 1) := by decide +kernel
theorem dX5_letterOf_81 : decode cX5_letterOf 81 = .ok (.ldc2_w 47, 3) := by decide +kernel
theorem dX5_letterOf_84 : decode cX5_letterOf 84 = .ok (.land, 1) := by decide +kernel
theorem dX5_letterOf_85 : decode cX5_letterOf 85 = .ok (.l2i, 1) := by decide +kernel
theorem dX5_letterOf_86 : decode cX5_letterOf 86 = .ok (.goto 4, 3) := by decide +kernel
theorem dX5_letterOf_89 : decode cX5_letterOf 89 = .ok (.iconst (-1), 1) := by decide +kernel
theorem dX5_letterOf_90 : decode cX5_letterOf 90 = .ok (.ireturn, 1) := by decide +kernel
theorem dX5_isOrUnder_0 : decode cX5_isOrUnder 0 = .ok (.iload_n 1, 1) := by decide +kernel
theorem dX5_isOrUnder_1 : decode cX5_isOrUnder 1 = .ok (.istore_n 3, 1) := by decide +kernel
theorem dX5_isOrUnder_2 : decode cX5_isOrUnder 2 = .ok (.iconst 0, 1) := by decide +kernel
theorem dX5_isOrUnder_3 : decode cX5_isOrUnder 3 = .ok (.istore 4, 2) := by decide +kernel
theorem dX5_isOrUnder_5 : decode cX5_isOrUnder 5 = .ok (.iload 4, 2) := by decide +kernel
theorem dX5_isOrUnder_7 : decode cX5_isOrUnder 7 = .ok (.bipush 51, 2) := by decide +kernel
theorem dX5_isOrUnder_9 : decode cX5_isOrUnder 9 = .ok (.if_icmp .gt 26, 3) := by decide +kernel
theorem dX5_isOrUnder_12 : decode cX5_isOrUnder 12 = .ok (.iload_n 3, 1) := by decide +kernel
theorem dX5_isOrUnder_13 : decode cX5_isOrUnder 13 = .ok (.ifCond .eq 22, 3) := by decide +kernel
theorem dX5_isOrUnder_16 : decode cX5_isOrUnder 16 = .ok (.iload_n 3, 1) := by decide +kernel
theorem dX5_isOrUnder_17 : decode cX5_isOrUnder 17 = .ok (.iload_n 2, 1) := by decide +kernel
theorem dX5_isOrUnder_18 : decode cX5_isOrUnder 18 = .ok (.if_icmp .ne 5, 3) := by decide +kernel
theorem dX5_isOrUnder_21 : decode cX5_isOrUnder 21 = .ok (.iconst 1, 1) := by decide +kernel
theorem dX5_isOrUnder_22 : decode cX5_isOrUnder 22 = .ok (.ireturn, 1) := by decide +kernel
theorem dX5_isOrUnder_23 : decode cX5_isOrUnder 23 = .ok (.aload_n 0, 1) := by decide +kernel
theorem dX5_isOrUnder_24 : decode cX5_isOrUnder 24 = .ok (.iload_n 3, 1) := by decide +kernel
theorem dX5_isOrUnder_25 : decode cX5_isOrUnder 25 = .ok (.invokevirtual 49, 3) := by decide +kernel
theorem dX5_isOrUnder_28 : decode cX5_isOrUnder 28 = .ok (.istore_n 3, 1) := by decide +kernel
theorem dX5_isOrUnder_29 : decode cX5_isOrUnder 29 = .ok (.iinc 4 1, 3) := by decide +kernel
theorem dX5_isOrUnder_32 : decode cX5_isOrUnder 32 = .ok (.goto (-27), 3) := by decide +kernel
theorem dX5_isOrUnder_35 : decode cX5_isOrUnder 35 = .ok (.iconst 0, 1) := by decide +kernel
theorem dX5_isOrUnder_36 : decode cX5_isOrUnder 36 = .ok (.ireturn, 1) := by decide +kernel
set_option maxHeartbeats 4000000 in
set_option maxRecDepth 100000 in
theorem c_X5_numberOf (ω : Om) (l : Launch) (μ : M3) (x1 : Int) (hx1 : jr x1) (hI : IC μ) : CtI ω l yX5_numberOf cX5_numberOf 4 .int 0 0 [.ref (oP ω 2), .long (jv x1)] μ (fun (r : Int) (μ' : M3) => (Fr [2, 3, 4] μ μ') ∧ (IC μ') ∧ (0 ≤ r ∧ r ≤ 51) ∧ (μ'.1 2 3 ≤ μ.1 2 3 + 1) ∧ (μ.1 2 3 ≤ μ'.1 2 3) ∧ (μ'.2 = μ.2) ∧ (μ'.1 2 4 = μ.1 2 4)) := by
  refine CtI.go (by decide) (Nat.le_of_ble_eq_true rfl) (fun ρ p e s m below meth c R ls G hR hret hlk hl => ?_)
  have hx := G.1.1
  have hb := G.1.2.1
  have hl : lv_has ls 4 [(0, .ref (oP ω 2)), (1, .long (jv x1))] := hl
  generalize s.drawn = d0 at G ⊢
  refine lv_iconst (v := iv 1) hx hb dX5_numberOf_0 rfl ?_
  refine lv_istore_n (lv' := [(3, .int (iv 1)), (0, .ref (oP ω 2)), (1, .long (jv x1))]) hx hb dX5_numberOf_1 rfl hl (by decide) rfl (fun ls hl => ?_)
  refine xl (fun n_9 μ' ls => ∃ (i9 : Int), (μ' = μ) ∧ (-2147483648 ≤ i9 ∧ i9 ≤ 2147483647) ∧ (1 ≤ i9) ∧ (i9 ≤ 52) ∧ n_9 = Int.toNat (60 - i9) ∧ lv_has ls 4 [(3, .int (iv i9)), (0, .ref (oP ω 2)), (1, .long (jv x1))]) (fun n_9 ρ μL1 d0 H locs ls hI_l G ih => ?_) _ _ _ _ _ _ _ ⟨1, rfl, (by omega), (by omega), (by omega), rfl, lv_sub hl [0, 1, 2] rfl⟩ G
  obtain ⟨i9, FL2, hi_4, hi_5, hi_6, hn3, hl⟩ := hI_l
  have FL2 := Eq.symm FL2
  subst FL2
  refine lv_iload_n hx hb dX5_numberOf_2 rfl (lv_at hl 0 rfl) ?_
  refine lv_aload_n hx hb dX5_numberOf_3 rfl (lv_at hl 1 rfl) ?_
  refine xa_geti G fd_X5 (a := 2) (x := μ.1 2 3) 3 rfl (by decide) rfl (wm 1 90 rfl rfl) ⟨rfl, rfl, rfl⟩ dX5_numberOf_4 rfl rfl ?_
  have hr_7 : -2147483648 ≤ μ.1 2 3 ∧ μ.1 2 3 ≤ 2147483647 := by have h9 := G.hr (a := 2) (k := 3) rfl; exact h9
  have hn_8 : 0 ≤ μ.1 2 3 ∧ μ.1 2 3 ≤ 51 := hI.nm.2.1
  refine xb_icmp_gt (tgt := 29) hx hb (by unfold ir; omega) (by unfold ir; omega) dX5_numberOf_7 (by decide) (fun c_7 => ?_) (fun c_7 => ?_)
  · refine lv_aload_n hx hb dX5_numberOf_29 rfl (lv_at hl 1 rfl) ?_
    refine xa_geti G fd_X5 (a := 2) (x := μ.1 2 3) 3 rfl (by decide) rfl (wm 1 90 rfl rfl) ⟨rfl, rfl, rfl⟩ dX5_numberOf_30 rfl rfl ?_
    refine lv_bipush (v := iv 51) hx hb dX5_numberOf_33 rfl ?_
    refine xb_icmp_lt (tgt := 40) hx hb (by unfold ir; omega) (by unfold ir; omega) dX5_numberOf_35 (by decide) (fun c_35 => ?_) (fun c_35 => ?_)
    · refine lv_aload_n hx hb dX5_numberOf_40 rfl (lv_at hl 1 rfl) ?_
      refine lv_dup hx hb dX5_numberOf_41 rfl ?_
      refine xa_geti G fd_X5 (a := 2) (x := μ.1 2 3) 3 rfl (by decide) rfl (wm 1 90 rfl rfl) ⟨rfl, rfl, rfl⟩ dX5_numberOf_42 rfl rfl ?_
      refine lv_iconst (v := iv 1) hx hb dX5_numberOf_45 rfl ?_
      refine xb_iadd hx hb dX5_numberOf_46 ?_
      refine xa_puti G fd_X5 (a := 2) (x := (μ.1 2 3) + 1) 3 (kz := 3) rfl rfl (by decide) rfl (by unfold ir; omega) (wm 1 90 rfl rfl) ⟨rfl, rfl, rfl, rfl⟩ rfl dX5_numberOf_47 rfl (fun H locs G => ?_)
      refine lv_aload_n hx hb dX5_numberOf_50 rfl (lv_at hl 1 rfl) ?_
      refine xa_getr G fd_X5 (a := 2) (x := 3) 0 rfl (by decide) rfl (wm 1 87 rfl rfl) ⟨rfl, rfl, rfl⟩ dX5_numberOf_51 rfl (G.sk 6 rfl) (by decide) rfl ?_
      refine lv_aload_n hx hb dX5_numberOf_54 rfl (lv_at hl 1 rfl) ?_
      refine xa_geti G fd_X5 (a := 2) (x := (μ.1 2 3) + 1) 3 rfl (by decide) rfl (wm 1 90 rfl rfl) ⟨rfl, rfl, rfl⟩ dX5_numberOf_55 rfl (sv_s _ _ _ _) ?_
      have hr_9 : -2147483648 ≤ (μ.1 2 3) + 1 ∧ (μ.1 2 3) + 1 ≤ 2147483647 := by have h9 := G.hr (a := 2) (k := 3) rfl; rw [show (sv μ 2 3 ((μ.1 2 3) + 1)).1 2 3 = (μ.1 2 3) + 1 from (sv_s _ _ _ _)] at h9; exact h9
      refine lv_lload_n hx hb dX5_numberOf_58 rfl (lv_at hl 2 rfl) ?_
      refine xa_last G (a := 3) (i := (μ.1 2 3) + 1) (x := x1) rfl (by have h9 := G.lc (a := 3) (n := 52) 1 rfl; omega) hx1 dX5_numberOf_59 rfl (fun H locs G => ?_)
      refine lv_aload_n hx hb dX5_numberOf_60 rfl (lv_at hl 1 rfl) ?_
      refine xa_getr G fd_X5 (a := 2) (x := 4) 1 rfl (by decide) rfl (wm 1 88 rfl rfl) ⟨rfl, rfl, rfl⟩ dX5_numberOf_61 rfl (G.sk 7 rfl) (by decide) rfl ?_
      refine lv_aload_n hx hb dX5_numberOf_64 rfl (lv_at hl 1 rfl) ?_
      refine xa_geti G fd_X5 (a := 2) (x := (μ.1 2 3) + 1) 3 rfl (by decide) rfl (wm 1 90 rfl rfl) ⟨rfl, rfl, rfl⟩ dX5_numberOf_65 rfl ((sv_n _ (fun h9 => absurd h9.1 (by decide))).trans (sv_s _ _ _ _)) ?_
      refine lv_bipush (v := iv 10) hx hb dX5_numberOf_68 rfl ?_
      refine xa_iast G (a := 4) (i := (μ.1 2 3) + 1) (x := 10) rfl (by have h9 := G.lc (a := 4) (n := 52) 2 rfl; omega) (by unfold ir; omega) dX5_numberOf_70 rfl (fun H locs G => ?_)
      refine lv_aload_n hx hb dX5_numberOf_71 rfl (lv_at hl 1 rfl) ?_
      refine xa_geti G fd_X5 (a := 2) (x := (μ.1 2 3) + 1) 3 rfl (by decide) rfl (wm 1 90 rfl rfl) ⟨rfl, rfl, rfl⟩ dX5_numberOf_72 rfl ((sv_n _ (fun h9 => absurd h9.1 (by decide))).trans ((sv_n _ (fun h9 => absurd h9.1 (by decide))).trans (sv_s _ _ _ _))) ?_
      have hI_10 : IC (sv (sv (sv μ 2 3 ((μ.1 2 3) + 1)) 3 ((μ.1 2 3) + 1) x1) 4 ((μ.1 2 3) + 1) 10) := (IC.pua (IC.pua (IC.n_2_3 hI (by omega)) (by decide)) (by decide))
      have e_11 : (sv (sv (sv μ 2 3 ((μ.1 2 3) + 1)) 3 ((μ.1 2 3) + 1) x1) 4 ((μ.1 2 3) + 1) 10).1 2 3 = (μ.1 2 3) + 1 := ((sv_n _ (fun h9 => absurd h9.1 (by decide))).trans ((sv_n _ (fun h9 => absurd h9.1 (by decide))).trans (sv_s _ _ _ _)))
      have e_12 : (sv (sv (sv μ 2 3 ((μ.1 2 3) + 1)) 3 ((μ.1 2 3) + 1) x1) 4 ((μ.1 2 3) + 1) 10).1 2 3 = (μ.1 2 3) + 1 := ((sv_n _ (fun h9 => absurd h9.1 (by decide))).trans ((sv_n _ (fun h9 => absurd h9.1 (by decide))).trans (sv_s _ _ _ _)))
      have e_13 : (sv (sv (sv μ 2 3 ((μ.1 2 3) + 1)) 3 ((μ.1 2 3) + 1) x1) 4 ((μ.1 2 3) + 1) 10).1 2 4 = μ.1 2 4 := ((sv_n _ (fun h9 => absurd h9.1 (by decide))).trans ((sv_n _ (fun h9 => absurd h9.1 (by decide))).trans (sv_n _ (by decide))))
      exact xr_i G (x := (μ.1 2 3) + 1) hret hlk (by unfold ir; omega) rfl dX5_numberOf_75 ⟨(Fr.put (Fr.put (Fr.put Fr.rf (by decide)) (by decide)) (by decide)), hI_10, (by omega), (by omega), (by omega), rfl, (by omega)⟩
    · refine lv_iconst (v := iv 0) hx hb dX5_numberOf_38 rfl ?_
      exact xr_i G (x := 0) hret hlk (by unfold ir; omega) rfl dX5_numberOf_39 ⟨Fr.rf, hI, (by omega), (by omega), (by omega), rfl, (by omega)⟩
  · refine lv_aload_n hx hb dX5_numberOf_10 rfl (lv_at hl 1 rfl) ?_
    refine xa_getr G fd_X5 (a := 2) (x := 3) 0 rfl (by decide) rfl (wm 1 87 rfl rfl) ⟨rfl, rfl, rfl⟩ dX5_numberOf_11 rfl (G.sk 6 rfl) (by decide) rfl ?_
    refine lv_iload_n hx hb dX5_numberOf_14 rfl (lv_at hl 0 rfl) ?_
    refine xa_lald G (a := 3) (i := i9) rfl (by have h9 := G.lc (a := 3) (n := 52) 1 rfl; omega) dX5_numberOf_15 rfl ?_
    have hj_14 : jr (μ.1 3 i9) := (by have h9 := G.hj (a := 3) (k := i9) rfl; exact h9)
    refine lv_lload_n hx hb dX5_numberOf_16 rfl (lv_at hl 2 rfl) ?_
    refine xb_lcmp hx hb hj_14 hx1 dX5_numberOf_17 ?_
    have hr_15 : -2147483648 ≤ lcm (μ.1 3 i9) x1 ∧ lcm (μ.1 3 i9) x1 ≤ 2147483647 := lcm_ir _ _
    refine xb_if_ne (tgt := 23) hx hb (by unfold ir; omega) dX5_numberOf_18 (by decide) (fun c_18 => ?_) (fun c_18 => ?_)
    · refine lv_iinc (v := iv (i9 + 1)) (lv' := [(3, .int (iv (i9 + 1))), (0, .ref (oP ω 2)), (1, .long (jv x1))]) hx hb dX5_numberOf_23 hl (k := 0) rfl (by rw [show Int32.ofInt 1 = iv 1 from rfl, iv_add]) (by decide) rfl (fun ls hl => ?_)
      refine lv_goto (tgt := 2) hx hb dX5_numberOf_26 (by decide) ?_
      exact ih _ _ _ _ _ _ _ (by omega) ⟨i9 + 1, rfl, (by omega), (by omega), (by omega), rfl, lv_sub hl [0, 1, 2] rfl⟩ G
    · refine lv_iload_n hx hb dX5_numberOf_21 rfl (lv_at hl 0 rfl) ?_
      exact xr_i G (x := i9) hret hlk (by unfold ir; omega) rfl dX5_numberOf_22 ⟨Fr.rf, hI, (by omega), (by omega), (by omega), rfl, (by omega)⟩

set_option maxHeartbeats 4000000 in
set_option maxRecDepth 100000 in
theorem c_X5_letterOf (ω : Om) (l : Launch) (μ : M3) (x1 : Int) (x2 : Int) (hx1 : ir x1) (hx2 : ir x2) (hI : IC μ) : CtI ω l yX5_letterOf cX5_letterOf 6 .int 0 0 [.ref (oP ω 2), .int (iv x1), .int (iv x2)] μ (fun (r : Int) (μ' : M3) => (μ' = μ)) := by
  refine CtI.go (by decide) (Nat.le_of_ble_eq_true rfl) (fun ρ p e s m below meth c R ls G hR hret hlk hl => ?_)
  have hx := G.1.1
  have hb := G.1.2.1
  have hl : lv_has ls 6 [(0, .ref (oP ω 2)), (1, .int (iv x1)), (2, .int (iv x2))] := hl
  generalize s.drawn = d0 at G ⊢
  have hr_x1 : -2147483648 ≤ x1 ∧ x1 ≤ 2147483647 := hx1
  have hr_x2 : -2147483648 ≤ x2 ∧ x2 ≤ 2147483647 := hx2
  refine lv_iload_n hx hb dX5_letterOf_0 rfl (lv_at hl 1 rfl) ?_
  refine lv_iconst (v := iv 1) hx hb dX5_letterOf_1 rfl ?_
  refine xb_icmp_lt (tgt := 23) hx hb (by unfold ir; omega) (by unfold ir; omega) dX5_letterOf_2 (by decide) (fun c_2 => ?_) (fun c_2 => ?_)
  · refine lv_iconst (v := iv (-1)) hx hb dX5_letterOf_23 rfl ?_
    exact xr_i G (x := (-1)) hret hlk (by unfold ir; omega) rfl dX5_letterOf_24 rfl
  · refine lv_iload_n hx hb dX5_letterOf_5 rfl (lv_at hl 1 rfl) ?_
    refine lv_aload_n hx hb dX5_letterOf_6 rfl (lv_at hl 0 rfl) ?_
    refine xa_geti G fd_X5 (a := 2) (x := μ.1 2 3) 3 rfl (by decide) rfl (wm 1 90 rfl rfl) ⟨rfl, rfl, rfl⟩ dX5_letterOf_7 rfl rfl ?_
    have hr_1 : -2147483648 ≤ μ.1 2 3 ∧ μ.1 2 3 ≤ 2147483647 := by have h9 := G.hr (a := 2) (k := 3) rfl; exact h9
    have hn_2 : 0 ≤ μ.1 2 3 ∧ μ.1 2 3 ≤ 51 := hI.nm.2.1
    refine xb_icmp_gt (tgt := 23) hx hb (by unfold ir; omega) (by unfold ir; omega) dX5_letterOf_10 (by decide) (fun c_10 => ?_) (fun c_10 => ?_)
    · refine lv_iconst (v := iv (-1)) hx hb dX5_letterOf_23 rfl ?_
      exact xr_i G (x := (-1)) hret hlk (by unfold ir; omega) rfl dX5_letterOf_24 rfl
    · refine lv_iload_n hx hb dX5_letterOf_13 rfl (lv_at hl 2 rfl) ?_
      refine xb_if_lt (tgt := 23) hx hb (by unfold ir; omega) dX5_letterOf_14 (by decide) (fun c_14 => ?_) (fun c_14 => ?_)
      · refine lv_iconst (v := iv (-1)) hx hb dX5_letterOf_23 rfl ?_
        exact xr_i G (x := (-1)) hret hlk (by unfold ir; omega) rfl dX5_letterOf_24 rfl
      · refine lv_iload_n hx hb dX5_letterOf_17 rfl (lv_at hl 2 rfl) ?_
        refine lv_bipush (v := iv 7) hx hb dX5_letterOf_18 rfl ?_
        refine xb_icmp_le (tgt := 25) hx hb (by unfold ir; omega) (by unfold ir; omega) dX5_letterOf_20 (by decide) (fun c_20 => ?_) (fun c_20 => ?_)
        · refine lv_iconst (v := iv 0) hx hb dX5_letterOf_25 rfl ?_
          refine lv_istore_n (lv' := [(3, .int (iv 0)), (0, .ref (oP ω 2)), (1, .int (iv x1)), (2, .int (iv x2))]) hx hb dX5_letterOf_26 rfl hl (by decide) rfl (fun ls hl => ?_)
          refine lv_aload_n hx hb dX5_letterOf_27 rfl (lv_at hl 1 rfl) ?_
          refine xa_getr G fd_X5 (a := 2) (x := 3) 0 rfl (by decide) rfl (wm 1 87 rfl rfl) ⟨rfl, rfl, rfl⟩ dX5_letterOf_28 rfl (G.sk 6 rfl) (by decide) rfl ?_
          refine lv_iload_n hx hb dX5_letterOf_31 rfl (lv_at hl 2 rfl) ?_
          refine xa_lald G (a := 3) (i := x1) rfl (by have h9 := G.lc (a := 3) (n := 52) 1 rfl; omega) dX5_letterOf_32 rfl ?_
          have hj_3 : jr (μ.1 3 x1) := (by have h9 := G.hj (a := 3) (k := x1) rfl; exact h9)
          refine lv_lstore (lv' := [(4, .long (jv (μ.1 3 x1))), (3, .int (iv 0)), (0, .ref (oP ω 2)), (1, .int (iv x1)), (2, .int (iv x2))]) hx hb dX5_letterOf_33 hl (by decide) rfl (fun ls hl => ?_)
          refine xl (fun n_9 μ' ls => ∃ (i9 : Int), ∃ (v9 : Int), (μ' = μ) ∧ (-2147483648 ≤ i9 ∧ i9 ≤ 2147483647) ∧ (jr v9) ∧ (0 ≤ i9) ∧ (i9 ≤ 8) ∧ n_9 = Int.toNat (60 - i9) ∧ lv_has ls 6 [(4, .long (jv v9)), (3, .int (iv i9)), (0, .ref (oP ω 2)), (1, .int (iv x1)), (2, .int (iv x2))]) (fun n_9 ρ μL4 d0 H locs ls hI_l G ih => ?_) _ _ _ _ _ _ _ ⟨0, μ.1 3 x1, rfl, (by omega), hj_3, (by omega), (by omega), rfl, lv_sub hl [0, 1, 2, 3, 4] rfl⟩ G
          obtain ⟨i9, v9, FL5, hi_7, hi_8, hi_9, hi_10, hn6, hl⟩ := hI_l
          have FL5 := Eq.symm FL5
          subst FL5
          refine lv_lload hx hb dX5_letterOf_35 (lv_at hl 0 rfl) ?_
          refine lv_lconst (v := jv 0) hx hb dX5_letterOf_37 rfl ?_
          refine xb_lcmp hx hb hi_8 (by unfold jr; omega) dX5_letterOf_38 ?_
          have hr_11 : -2147483648 ≤ lcm v9 0 ∧ lcm v9 0 ≤ 2147483647 := lcm_ir _ _
          refine xb_if_eq (tgt := 61) hx hb (by unfold ir; omega) dX5_letterOf_39 (by decide) (fun c_39 => ?_) (fun c_39 => ?_)
          · refine lv_iload_n hx hb dX5_letterOf_61 rfl (lv_at hl 4 rfl) ?_
            refine lv_iload_n hx hb dX5_letterOf_62 rfl (lv_at hl 1 rfl) ?_
            refine xb_icmp_ge (tgt := 89) hx hb (by unfold ir; omega) (by unfold ir; omega) dX5_letterOf_63 (by decide) (fun c_63 => ?_) (fun c_63 => ?_)
            · refine lv_iconst (v := iv (-1)) hx hb dX5_letterOf_89 rfl ?_
              exact xr_i G (x := (-1)) hret hlk (by unfold ir; omega) rfl dX5_letterOf_90 rfl
            · refine lv_aload_n hx hb dX5_letterOf_66 rfl (lv_at hl 2 rfl) ?_
              refine xa_getr G fd_X5 (a := 2) (x := 3) 0 rfl (by decide) rfl (wm 1 87 rfl rfl) ⟨rfl, rfl, rfl⟩ dX5_letterOf_67 rfl (G.sk 6 rfl) (by decide) rfl ?_
              refine lv_iload_n hx hb dX5_letterOf_70 rfl (lv_at hl 3 rfl) ?_
              refine xa_lald G (a := 3) (i := x1) rfl (by have h9 := G.lc (a := 3) (n := 52) 1 rfl; omega) dX5_letterOf_71 rfl ?_
              have hj_12 : jr (μ.1 3 x1) := (by have h9 := G.hj (a := 3) (k := x1) rfl; exact h9)
              refine lv_bipush (v := iv 8) hx hb dX5_letterOf_72 rfl ?_
              refine lv_iload_n hx hb dX5_letterOf_74 rfl (lv_at hl 1 rfl) ?_
              refine lv_iconst (v := iv 1) hx hb dX5_letterOf_75 rfl ?_
              refine xb_isub hx hb dX5_letterOf_76 ?_
              refine lv_iload_n hx hb dX5_letterOf_77 rfl (lv_at hl 4 rfl) ?_
              refine xb_isub hx hb dX5_letterOf_78 ?_
              refine xb_imul hx hb dX5_letterOf_79 ?_
              refine lv_lushr hx hb dX5_letterOf_80 rfl ?_
              refine xb_topl (fun z_13 hr_z_13 he_z_13 => ?_)
              refine lv_ldc2 (s := s.setDrawn d0) hx hb G.1.2.2.2.1 (dr_words G.1.2.2.2.2 d0 _ (wm 4 233 rfl rfl)) dX5_letterOf_81 ?_
              refine xb_litl (x := 255) (by decide) ?_
              refine lv_land hx hb dX5_letterOf_84 ?_
              refine xb_topl (fun z_14 hr_z_14 he_z_14 => ?_)
              refine xb_l2i hx hb dX5_letterOf_85 ?_
              refine xb_topi (fun y_15 hr_y_15 he_y_15 => ?_)
              have hr_y_15 : -2147483648 ≤ y_15 ∧ y_15 ≤ 2147483647 := hr_y_15
              refine lv_goto (tgt := 90) hx hb dX5_letterOf_86 (by decide) ?_
              exact xr_i G (x := y_15) hret hlk (by unfold ir; omega) rfl dX5_letterOf_90 rfl
          · refine lv_iload_n hx hb dX5_letterOf_42 rfl (lv_at hl 1 rfl) ?_
            refine lv_bipush (v := iv 8) hx hb dX5_letterOf_43 rfl ?_
            refine xb_icmp_ge (tgt := 61) hx hb (by unfold ir; omega) (by unfold ir; omega) dX5_letterOf_45 (by decide) (fun c_45 => ?_) (fun c_45 => ?_)
            · refine lv_iload_n hx hb dX5_letterOf_61 rfl (lv_at hl 4 rfl) ?_
              refine lv_iload_n hx hb dX5_letterOf_62 rfl (lv_at hl 1 rfl) ?_
              refine xb_icmp_ge (tgt := 89) hx hb (by unfold ir; omega) (by unfold ir; omega) dX5_letterOf_63 (by decide) (fun c_63 => ?_) (fun c_63 => ?_)
              · refine lv_iconst (v := iv (-1)) hx hb dX5_letterOf_89 rfl ?_
                exact xr_i G (x := (-1)) hret hlk (by unfold ir; omega) rfl dX5_letterOf_90 rfl
              · refine lv_aload_n hx hb dX5_letterOf_66 rfl (lv_at hl 2 rfl) ?_
                refine xa_getr G fd_X5 (a := 2) (x := 3) 0 rfl (by decide) rfl (wm 1 87 rfl rfl) ⟨rfl, rfl, rfl⟩ dX5_letterOf_67 rfl (G.sk 6 rfl) (by decide) rfl ?_
                refine lv_iload_n hx hb dX5_letterOf_70 rfl (lv_at hl 3 rfl) ?_
                refine xa_lald G (a := 3) (i := x1) rfl (by have h9 := G.lc (a := 3) (n := 52) 1 rfl; omega) dX5_letterOf_71 rfl ?_
                have hj_16 : jr (μ.1 3 x1) := (by have h9 := G.hj (a := 3) (k := x1) rfl; exact h9)
                refine lv_bipush (v := iv 8) hx hb dX5_letterOf_72 rfl ?_
                refine lv_iload_n hx hb dX5_letterOf_74 rfl (lv_at hl 1 rfl) ?_
                refine lv_iconst (v := iv 1) hx hb dX5_letterOf_75 rfl ?_
                refine xb_isub hx hb dX5_letterOf_76 ?_
                refine lv_iload_n hx hb dX5_letterOf_77 rfl (lv_at hl 4 rfl) ?_
                refine xb_isub hx hb dX5_letterOf_78 ?_
                refine xb_imul hx hb dX5_letterOf_79 ?_
                refine lv_lushr hx hb dX5_letterOf_80 rfl ?_
                refine xb_topl (fun z_17 hr_z_17 he_z_17 => ?_)
                refine lv_ldc2 (s := s.setDrawn d0) hx hb G.1.2.2.2.1 (dr_words G.1.2.2.2.2 d0 _ (wm 4 233 rfl rfl)) dX5_letterOf_81 ?_
                refine xb_litl (x := 255) (by decide) ?_
                refine lv_land hx hb dX5_letterOf_84 ?_
                refine xb_topl (fun z_18 hr_z_18 he_z_18 => ?_)
                refine xb_l2i hx hb dX5_letterOf_85 ?_
                refine xb_topi (fun y_19 hr_y_19 he_y_19 => ?_)
                have hr_y_19 : -2147483648 ≤ y_19 ∧ y_19 ≤ 2147483647 := hr_y_19
                refine lv_goto (tgt := 90) hx hb dX5_letterOf_86 (by decide) ?_
                exact xr_i G (x := y_19) hret hlk (by unfold ir; omega) rfl dX5_letterOf_90 rfl
            · refine lv_iinc (v := iv (i9 + 1)) (lv' := [(3, .int (iv (i9 + 1))), (4, .long (jv v9)), (0, .ref (oP ω 2)), (1, .int (iv x1)), (2, .int (iv x2))]) hx hb dX5_letterOf_48 hl (k := 1) rfl (by rw [show Int32.ofInt 1 = iv 1 from rfl, iv_add]) (by decide) rfl (fun ls hl => ?_)
              refine lv_lload hx hb dX5_letterOf_51 (lv_at hl 1 rfl) ?_
              refine lv_bipush (v := iv 8) hx hb dX5_letterOf_53 rfl ?_
              refine lv_lushr hx hb dX5_letterOf_55 rfl ?_
              refine xb_topl (fun z_20 hr_z_20 he_z_20 => ?_)
              refine lv_lstore (lv' := [(4, .long (jv z_20)), (3, .int (iv (i9 + 1))), (0, .ref (oP ω 2)), (1, .int (iv x1)), (2, .int (iv x2))]) hx hb dX5_letterOf_56 hl (by decide) rfl (fun ls hl => ?_)
              refine lv_goto (tgt := 35) hx hb dX5_letterOf_58 (by decide) ?_
              exact ih _ _ _ _ _ _ _ (by omega) ⟨i9 + 1, z_20, rfl, (by omega), hr_z_20, (by omega), (by omega), rfl, lv_sub hl [0, 1, 2, 3, 4] rfl⟩ G
        · refine lv_iconst (v := iv (-1)) hx hb dX5_letterOf_23 rfl ?_
          exact xr_i G (x := (-1)) hret hlk (by unfold ir; omega) rfl dX5_letterOf_24 rfl

set_option maxHeartbeats 4000000 in
set_option maxRecDepth 100000 in
theorem c_X5_isOrUnder (ω : Om) (l : Launch) (μ : M3) (x1 : Int) (x2 : Int) (hx1 : ir x1) (hx2 : ir x2) (hI : IC μ) : CtI ω l yX5_isOrUnder cX5_isOrUnder 5 .boolean 1 21 [.ref (oP ω 2), .int (iv x1), .int (iv x2)] μ (fun (r : Int) (μ' : M3) => (μ' = μ) ∧ (r = 0 ∨ r = 1)) := by
  refine CtI.go (by decide) (Nat.le_of_ble_eq_true rfl) (fun ρ p e s m below meth c R ls G hR hret hlk hl => ?_)
  have hx := G.1.1
  have hb := G.1.2.1
  have hl : lv_has ls 5 [(0, .ref (oP ω 2)), (1, .int (iv x1)), (2, .int (iv x2))] := hl
  generalize s.drawn = d0 at G ⊢
  have hr_x1 : -2147483648 ≤ x1 ∧ x1 ≤ 2147483647 := hx1
  have hr_x2 : -2147483648 ≤ x2 ∧ x2 ≤ 2147483647 := hx2
  refine lv_iload_n hx hb dX5_isOrUnder_0 rfl (lv_at hl 1 rfl) ?_
  refine lv_istore_n (lv' := [(3, .int (iv x1)), (0, .ref (oP ω 2)), (1, .int (iv x1)), (2, .int (iv x2))]) hx hb dX5_isOrUnder_1 rfl hl (by decide) rfl (fun ls hl => ?_)
  refine lv_iconst (v := iv 0) hx hb dX5_isOrUnder_2 rfl ?_
  refine lv_istore (lv' := [(4, .int (iv 0)), (3, .int (iv x1)), (0, .ref (oP ω 2)), (1, .int (iv x1)), (2, .int (iv x2))]) hx hb dX5_isOrUnder_3 hl (by decide) rfl (fun ls hl => ?_)
  refine xl (fun n_9 μ' ls => ∃ (a9 : Int), ∃ (i9 : Int), (μ' = μ) ∧ (-2147483648 ≤ a9 ∧ a9 ≤ 2147483647) ∧ (-2147483648 ≤ i9 ∧ i9 ≤ 2147483647) ∧ (0 ≤ i9) ∧ (i9 ≤ 52) ∧ n_9 = Int.toNat (60 - i9) ∧ lv_has ls 5 [(4, .int (iv i9)), (3, .int (iv a9)), (0, .ref (oP ω 2)), (1, .int (iv x1)), (2, .int (iv x2))]) (fun n_9 ρ μL1 d0 H locs ls hI_l G ih => ?_) _ _ _ _ _ _ _ ⟨x1, 0, rfl, (by omega), (by omega), (by omega), (by omega), rfl, lv_sub hl [0, 1, 2, 3, 4] rfl⟩ G
  obtain ⟨a9, i9, FL2, hi_4, hi_5, hi_6, hi_7, hn3, hl⟩ := hI_l
  have FL2 := Eq.symm FL2
  subst FL2
  refine lv_iload hx hb dX5_isOrUnder_5 (lv_at hl 0 rfl) ?_
  refine lv_bipush (v := iv 51) hx hb dX5_isOrUnder_7 rfl ?_
  refine xb_icmp_gt (tgt := 35) hx hb (by unfold ir; omega) (by unfold ir; omega) dX5_isOrUnder_9 (by decide) (fun c_9 => ?_) (fun c_9 => ?_)
  · refine lv_iconst (v := iv 0) hx hb dX5_isOrUnder_35 rfl ?_
    exact xr_i G (x := 0) hret hlk (by unfold ir; omega) (zr (by omega)) dX5_isOrUnder_36 ⟨rfl, (by omega)⟩
  · refine lv_iload_n hx hb dX5_isOrUnder_12 rfl (lv_at hl 1 rfl) ?_
    refine xb_if_eq (tgt := 35) hx hb (by unfold ir; omega) dX5_isOrUnder_13 (by decide) (fun c_13 => ?_) (fun c_13 => ?_)
    · refine lv_iconst (v := iv 0) hx hb dX5_isOrUnder_35 rfl ?_
      exact xr_i G (x := 0) hret hlk (by unfold ir; omega) (zr (by omega)) dX5_isOrUnder_36 ⟨rfl, (by omega)⟩
    · refine lv_iload_n hx hb dX5_isOrUnder_16 rfl (lv_at hl 1 rfl) ?_
      refine lv_iload_n hx hb dX5_isOrUnder_17 rfl (lv_at hl 4 rfl) ?_
      refine xb_icmp_ne (tgt := 23) hx hb (by unfold ir; omega) (by unfold ir; omega) dX5_isOrUnder_18 (by decide) (fun c_18 => ?_) (fun c_18 => ?_)
      · refine lv_aload_n hx hb dX5_isOrUnder_23 rfl (lv_at hl 2 rfl) ?_
        refine lv_iload_n hx hb dX5_isOrUnder_24 rfl (lv_at hl 1 rfl) ?_
        refine xc_iV G (b := 2) (rest := []) (As := [.int (iv a9)]) (c_X5_above ω l μ a9 (by unfold ir; omega) hI) (wm 4 199 rfl rfl) (wm 4 200 rfl rfl) (wm 4 201 rfl rfl) rfl rfl (by decide) rfl (wm 1 2 rfl rfl) (wm 4 202 rfl rfl) (by decide) hR (by decide) (n := 1) rfl rfl (Nat.le_of_ble_eq_true rfl) hl.1 dX5_isOrUnder_25 (fun r_9 μ8 ρ d0 H locs hr_r_9 hp G => ?_)
        have hr_r_9 : -2147483648 ≤ r_9 ∧ r_9 ≤ 2147483647 := hr_r_9
        have hsm_10 := hp
        have hsm_10 := Eq.symm hsm_10
        subst hsm_10
        refine lv_istore_n (lv' := [(3, .int (iv r_9)), (4, .int (iv i9)), (0, .ref (oP ω 2)), (1, .int (iv x1)), (2, .int (iv x2))]) hx hb dX5_isOrUnder_28 rfl hl (by decide) rfl (fun ls hl => ?_)
        refine lv_iinc (v := iv (i9 + 1)) (lv' := [(4, .int (iv (i9 + 1))), (3, .int (iv r_9)), (0, .ref (oP ω 2)), (1, .int (iv x1)), (2, .int (iv x2))]) hx hb dX5_isOrUnder_29 hl (k := 1) rfl (by rw [show Int32.ofInt 1 = iv 1 from rfl, iv_add]) (by decide) rfl (fun ls hl => ?_)
        refine lv_goto (tgt := 5) hx hb dX5_isOrUnder_32 (by decide) ?_
        exact ih _ _ _ _ _ _ _ (by omega) ⟨r_9, i9 + 1, rfl, (by omega), (by omega), (by omega), (by omega), rfl, lv_sub hl [0, 1, 2, 3, 4] rfl⟩ G
      · refine lv_iconst (v := iv 1) hx hb dX5_isOrUnder_21 rfl ?_
        exact xr_i G (x := 1) hret hlk (by unfold ir; omega) (zr (by omega)) dX5_isOrUnder_22 ⟨rfl, (by omega)⟩

set_option maxHeartbeats 4000000 in
set_option maxRecDepth 100000 in
theorem c_X0_find (ω : Om) (l : Launch) (μ : M3) (x1 : Int) (x2 : Int) (x3 : Int) (hx1 : ir x1) (hx2 : ir x2) (hx3 : ir x3) (hI : IC μ) : CtI ω l yX0_find cX0_find 6 .int 1 21 [.ref (oP ω 6), .int (iv x1), .int (iv x2), .int (iv x3)] μ (fun (r : Int) (μ' : M3) => (μ' = μ) ∧ (-1 ≤ r ∧ r < μ.1 6 5)) := by
  refine CtI.go (by decide) (Nat.le_of_ble_eq_true rfl) (fun ρ p e s m below meth c R ls G hR hret hlk hl => ?_)
  have hx := G.1.1
  have hb := G.1.2.1
  have hl : lv_has ls 6 [(0, .ref (oP ω 6)), (1, .int (iv x1)), (2, .int (iv x2)), (3, .int (iv x3))] := hl
  generalize s.drawn = d0 at G ⊢
  have hr_x1 : -2147483648 ≤ x1 ∧ x1 ≤ 2147483647 := hx1
  have hr_x2 : -2147483648 ≤ x2 ∧ x2 ≤ 2147483647 := hx2
  have hr_x3 : -2147483648 ≤ x3 ∧ x3 ≤ 2147483647 := hx3
  refine lv_iload_n hx hb dX0_find_0 rfl (lv_at hl 1 rfl) ?_
  refine lv_iload_n hx hb dX0_find_1 rfl (lv_at hl 2 rfl) ?_
  refine xc_iS G (rest := []) (As := [.int (iv x1), .int (iv x2)]) (c_X0_border ω l μ x1 x2 (by unfold ir; omega) (by unfold ir; omega)) (wm 5 2 rfl rfl) (wm 5 3 rfl rfl) (wm 1 7 rfl rfl) (wm 5 4 rfl rfl) (by decide) hR (by decide) (n := 2) rfl rfl (Nat.le_of_ble_eq_true rfl) hl.1 dX0_find_2 (fun r_2 μ1 ρ d0 H locs hr_r_2 hp G => ?_)
  have hr_r_2 : -2147483648 ≤ r_2 ∧ r_2 ≤ 2147483647 := hr_r_2
  obtain ⟨hsm_3, hp_4⟩ := hp
  have hsm_3 := Eq.symm hsm_3
  subst hsm_3
  refine lv_istore (lv' := [(4, .int (iv r_2)), (0, .ref (oP ω 6)), (1, .int (iv x1)), (2, .int (iv x2)), (3, .int (iv x3))]) hx hb dX0_find_5 hl (by decide) rfl (fun ls hl => ?_)
  refine lv_iconst (v := iv 0) hx hb dX0_find_7 rfl ?_
  refine lv_istore (lv' := [(5, .int (iv 0)), (4, .int (iv r_2)), (0, .ref (oP ω 6)), (1, .int (iv x1)), (2, .int (iv x2)), (3, .int (iv x3))]) hx hb dX0_find_8 hl (by decide) rfl (fun ls hl => ?_)
  have hn_5 : 0 ≤ μ.1 6 5 ∧ μ.1 6 5 ≤ 100 := hI.nm.2.2.2.1
  refine xl (fun n_9 μ' ls => ∃ (i9 : Int), (μ' = μ) ∧ (-2147483648 ≤ i9 ∧ i9 ≤ 2147483647) ∧ (0 ≤ i9) ∧ (i9 ≤ μ.1 6 5) ∧ n_9 = Int.toNat (200 - i9) ∧ lv_has ls 6 [(5, .int (iv i9)), (4, .int (iv r_2)), (0, .ref (oP ω 6)), (1, .int (iv x1)), (2, .int (iv x2)), (3, .int (iv x3))]) (fun n_9 ρ μL6 d0 H locs ls hI_l G ih => ?_) _ _ _ _ _ _ _ ⟨0, rfl, (by omega), (by omega), (by omega), rfl, lv_sub hl [0, 1, 2, 3, 4, 5] rfl⟩ G
  obtain ⟨i9, FL7, hi_9, hi_10, hi_11, hn8, hl⟩ := hI_l
  have FL7 := Eq.symm FL7
  subst FL7
  refine lv_iload hx hb dX0_find_10 (lv_at hl 0 rfl) ?_
  refine lv_aload_n hx hb dX0_find_12 rfl (lv_at hl 2 rfl) ?_
  refine xa_geti G fd_X0 (a := 6) (x := μ.1 6 5) 5 rfl (by decide) rfl (wm 1 120 rfl rfl) ⟨rfl, rfl, rfl⟩ dX0_find_13 rfl rfl ?_
  have hr_12 : -2147483648 ≤ μ.1 6 5 ∧ μ.1 6 5 ≤ 2147483647 := by have h9 := G.hr (a := 6) (k := 5) rfl; exact h9
  refine xb_icmp_ge (tgt := 51) hx hb (by unfold ir; omega) (by unfold ir; omega) dX0_find_16 (by decide) (fun c_16 => ?_) (fun c_16 => ?_)
  · refine lv_iconst (v := iv (-1)) hx hb dX0_find_51 rfl ?_
    exact xr_i G (x := (-1)) hret hlk (by unfold ir; omega) rfl dX0_find_52 ⟨rfl, (by omega)⟩
  · refine lv_aload_n hx hb dX0_find_19 rfl (lv_at hl 2 rfl) ?_
    refine xa_getr G fd_X0 (a := 6) (x := 9) 2 rfl (by decide) rfl (wm 1 117 rfl rfl) ⟨rfl, rfl, rfl⟩ dX0_find_20 rfl (G.sk 11 rfl) (by decide) rfl ?_
    refine lv_iload hx hb dX0_find_23 (lv_at hl 0 rfl) ?_
    refine xa_iald G (a := 9) (i := i9) rfl (by have h9 := G.lc (a := 9) (n := 100) 6 rfl; omega) dX0_find_25 rfl ?_
    have hr_13 : -2147483648 ≤ μ.1 9 i9 ∧ μ.1 9 i9 ≤ 2147483647 := by have h9 := G.hr (a := 9) (k := i9) rfl; exact h9
    refine lv_iload hx hb dX0_find_26 (lv_at hl 1 rfl) ?_
    refine xb_icmp_ne (tgt := 45) hx hb (by unfold ir; omega) (by unfold ir; omega) dX0_find_28 (by decide) (fun c_28 => ?_) (fun c_28 => ?_)
    · refine lv_iinc (v := iv (i9 + 1)) (lv' := [(5, .int (iv (i9 + 1))), (4, .int (iv r_2)), (0, .ref (oP ω 6)), (1, .int (iv x1)), (2, .int (iv x2)), (3, .int (iv x3))]) hx hb dX0_find_45 hl (k := 0) rfl (by rw [show Int32.ofInt 1 = iv 1 from rfl, iv_add]) (by decide) rfl (fun ls hl => ?_)
      refine lv_goto (tgt := 10) hx hb dX0_find_48 (by decide) ?_
      exact ih _ _ _ _ _ _ _ (by omega) ⟨i9 + 1, rfl, (by omega), (by omega), (by omega), rfl, lv_sub hl [0, 1, 2, 3, 4, 5] rfl⟩ G
    · refine lv_aload_n hx hb dX0_find_31 rfl (lv_at hl 2 rfl) ?_
      refine xa_getr G fd_X0 (a := 6) (x := 10) 3 rfl (by decide) rfl (wm 1 118 rfl rfl) ⟨rfl, rfl, rfl⟩ dX0_find_32 rfl (G.sk 12 rfl) (by decide) rfl ?_
      refine lv_iload hx hb dX0_find_35 (lv_at hl 0 rfl) ?_
      refine xa_iald G (a := 10) (i := i9) rfl (by have h9 := G.lc (a := 10) (n := 100) 7 rfl; omega) dX0_find_37 rfl ?_
      have hr_14 : -2147483648 ≤ μ.1 10 i9 ∧ μ.1 10 i9 ≤ 2147483647 := by have h9 := G.hr (a := 10) (k := i9) rfl; exact h9
      refine lv_iload_n hx hb dX0_find_38 rfl (lv_at hl 5 rfl) ?_
      refine xb_icmp_ne (tgt := 45) hx hb (by unfold ir; omega) (by unfold ir; omega) dX0_find_39 (by decide) (fun c_39 => ?_) (fun c_39 => ?_)
      · refine lv_iinc (v := iv (i9 + 1)) (lv' := [(5, .int (iv (i9 + 1))), (4, .int (iv r_2)), (0, .ref (oP ω 6)), (1, .int (iv x1)), (2, .int (iv x2)), (3, .int (iv x3))]) hx hb dX0_find_45 hl (k := 0) rfl (by rw [show Int32.ofInt 1 = iv 1 from rfl, iv_add]) (by decide) rfl (fun ls hl => ?_)
        refine lv_goto (tgt := 10) hx hb dX0_find_48 (by decide) ?_
        exact ih _ _ _ _ _ _ _ (by omega) ⟨i9 + 1, rfl, (by omega), (by omega), (by omega), rfl, lv_sub hl [0, 1, 2, 3, 4, 5] rfl⟩ G
      · refine lv_iload hx hb dX0_find_42 (lv_at hl 0 rfl) ?_
        exact xr_i G (x := i9) hret hlk (by unfold ir; omega) rfl dX0_find_44 ⟨rfl, (by omega)⟩

set_option maxHeartbeats 4000000 in
set_option maxRecDepth 100000 in
theorem c_X0_setEntry (ω : Om) (l : Launch) (μ : M3) (x1 : Int) (x2 : Int) (x3 : Int) (x4 : Int) (hx1 : ir x1) (hx2 : ir x2) (hx3 : ir x3) (hx4 : ir x4) (hI : IC μ) : CtI ω l yX0_setEntry cX0_setEntry 6 .boolean 2 46 [.ref (oP ω 6), .int (iv x1), .int (iv x2), .int (iv x3), .int (iv x4)] μ (fun (r : Int) (μ' : M3) => (Fr [9, 10, 11, 6] μ μ') ∧ (IC μ') ∧ (r = 0 ∨ r = 1)) := by
  refine CtI.go (by decide) (Nat.le_of_ble_eq_true rfl) (fun ρ p e s m below meth c R ls G hR hret hlk hl => ?_)
  have hx := G.1.1
  have hb := G.1.2.1
  have hl : lv_has ls 6 [(0, .ref (oP ω 6)), (1, .int (iv x1)), (2, .int (iv x2)), (3, .int (iv x3)), (4, .int (iv x4))] := hl
  generalize s.drawn = d0 at G ⊢
  have hr_x1 : -2147483648 ≤ x1 ∧ x1 ≤ 2147483647 := hx1
  have hr_x2 : -2147483648 ≤ x2 ∧ x2 ≤ 2147483647 := hx2
  have hr_x3 : -2147483648 ≤ x3 ∧ x3 ≤ 2147483647 := hx3
  have hr_x4 : -2147483648 ≤ x4 ∧ x4 ≤ 2147483647 := hx4
  refine lv_aload_n hx hb dX0_setEntry_0 rfl (lv_at hl 0 rfl) ?_
  refine lv_iload_n hx hb dX0_setEntry_1 rfl (lv_at hl 1 rfl) ?_
  refine lv_iload_n hx hb dX0_setEntry_2 rfl (lv_at hl 2 rfl) ?_
  refine lv_iload_n hx hb dX0_setEntry_3 rfl (lv_at hl 3 rfl) ?_
  have hn_1 : 0 ≤ μ.1 6 5 ∧ μ.1 6 5 ≤ 100 := hI.nm.2.2.2.1
  refine xc_iV G (b := 6) (rest := []) (As := [.int (iv x1), .int (iv x2), .int (iv x3)]) (c_X0_find ω l μ x1 x2 x3 (by unfold ir; omega) (by unfold ir; omega) (by unfold ir; omega) hI) (wm 5 25 rfl rfl) (wm 5 27 rfl rfl) (wm 0 61 rfl rfl) rfl rfl (by decide) rfl (wm 1 7 rfl rfl) (wm 5 28 rfl rfl) (by decide) hR (by decide) (n := 3) rfl rfl (Nat.le_of_ble_eq_true rfl) hl.1 dX0_setEntry_4 (fun r_3 μ2 ρ d0 H locs hr_r_3 hp G => ?_)
  have hr_r_3 : -2147483648 ≤ r_3 ∧ r_3 ≤ 2147483647 := hr_r_3
  obtain ⟨hsm_4, hp_5⟩ := hp
  have hsm_4 := Eq.symm hsm_4
  subst hsm_4
  refine lv_istore (lv' := [(5, .int (iv r_3)), (0, .ref (oP ω 6)), (1, .int (iv x1)), (2, .int (iv x2)), (3, .int (iv x3)), (4, .int (iv x4))]) hx hb dX0_setEntry_7 hl (by decide) rfl (fun ls hl => ?_)
  refine lv_iload hx hb dX0_setEntry_9 (lv_at hl 0 rfl) ?_
  refine xb_if_ge (tgt := 41) hx hb (by unfold ir; omega) dX0_setEntry_11 (by decide) (fun c_11 => ?_) (fun c_11 => ?_)
  · refine lv_aload_n hx hb dX0_setEntry_41 rfl (lv_at hl 1 rfl) ?_
    refine xa_getr G fd_X0 (a := 6) (x := 9) 2 rfl (by decide) rfl (wm 1 117 rfl rfl) ⟨rfl, rfl, rfl⟩ dX0_setEntry_42 rfl (G.sk 11 rfl) (by decide) rfl ?_
    refine lv_iload hx hb dX0_setEntry_45 (lv_at hl 0 rfl) ?_
    refine lv_iload_n hx hb dX0_setEntry_47 rfl (lv_at hl 2 rfl) ?_
    refine lv_iload_n hx hb dX0_setEntry_48 rfl (lv_at hl 3 rfl) ?_
    refine xc_iS G (rest := [.int (iv r_3), .ref (oP ω 9)]) (As := [.int (iv x1), .int (iv x2)]) (c_X0_border ω l μ x1 x2 (by unfold ir; omega) (by unfold ir; omega)) (wm 5 2 rfl rfl) (wm 5 3 rfl rfl) (wm 1 7 rfl rfl) (wm 5 4 rfl rfl) (by decide) hR (by decide) (n := 2) rfl rfl (Nat.le_of_ble_eq_true rfl) hl.1 dX0_setEntry_49 (fun r_7 μ6 ρ d0 H locs hr_r_7 hp G => ?_)
    have hr_r_7 : -2147483648 ≤ r_7 ∧ r_7 ≤ 2147483647 := hr_r_7
    obtain ⟨hsm_8, hp_9⟩ := hp
    have hsm_8 := Eq.symm hsm_8
    subst hsm_8
    refine xa_iast G (a := 9) (i := r_3) (x := r_7) rfl (by have h9 := G.lc (a := 9) (n := 100) 6 rfl; omega) (by unfold ir; omega) dX0_setEntry_52 rfl (fun H locs G => ?_)
    refine lv_aload_n hx hb dX0_setEntry_53 rfl (lv_at hl 1 rfl) ?_
    refine xa_getr G fd_X0 (a := 6) (x := 10) 3 rfl (by decide) rfl (wm 1 118 rfl rfl) ⟨rfl, rfl, rfl⟩ dX0_setEntry_54 rfl (G.sk 12 rfl) (by decide) rfl ?_
    refine lv_iload hx hb dX0_setEntry_57 (lv_at hl 0 rfl) ?_
    refine lv_iload_n hx hb dX0_setEntry_59 rfl (lv_at hl 4 rfl) ?_
    refine xa_iast G (a := 10) (i := r_3) (x := x3) rfl (by have h9 := G.lc (a := 10) (n := 100) 7 rfl; omega) (by unfold ir; omega) dX0_setEntry_60 rfl (fun H locs G => ?_)
    refine lv_aload_n hx hb dX0_setEntry_61 rfl (lv_at hl 1 rfl) ?_
    refine xa_getr G fd_X0 (a := 6) (x := 11) 4 rfl (by decide) rfl (wm 1 119 rfl rfl) ⟨rfl, rfl, rfl⟩ dX0_setEntry_62 rfl (G.sk 13 rfl) (by decide) rfl ?_
    refine lv_iload hx hb dX0_setEntry_65 (lv_at hl 0 rfl) ?_
    refine lv_iload hx hb dX0_setEntry_67 (lv_at hl 5 rfl) ?_
    refine xa_iast G (a := 11) (i := r_3) (x := x4) rfl (by have h9 := G.lc (a := 11) (n := 100) 8 rfl; omega) (by unfold ir; omega) dX0_setEntry_69 rfl (fun H locs G => ?_)
    refine lv_iconst (v := iv 1) hx hb dX0_setEntry_70 rfl ?_
    have hI_10 : IC (sv (sv (sv μ 9 r_3 r_7) 10 r_3 x3) 11 r_3 x4) := (IC.pua (IC.pua (IC.pua hI (by decide)) (by decide)) (by decide))
    exact xr_i G (x := 1) hret hlk (by unfold ir; omega) (zr (by omega)) dX0_setEntry_71 ⟨(Fr.put (Fr.put (Fr.put Fr.rf (by decide)) (by decide)) (by decide)), hI_10, (by omega)⟩
  · refine lv_aload_n hx hb dX0_setEntry_14 rfl (lv_at hl 1 rfl) ?_
    refine xa_geti G fd_X0 (a := 6) (x := μ.1 6 5) 5 rfl (by decide) rfl (wm 1 120 rfl rfl) ⟨rfl, rfl, rfl⟩ dX0_setEntry_15 rfl rfl ?_
    have hr_11 : -2147483648 ≤ μ.1 6 5 ∧ μ.1 6 5 ≤ 2147483647 := by have h9 := G.hr (a := 6) (k := 5) rfl; exact h9
    refine lv_bipush (v := iv 100) hx hb dX0_setEntry_18 rfl ?_
    refine xb_icmp_lt (tgt := 25) hx hb (by unfold ir; omega) (by unfold ir; omega) dX0_setEntry_20 (by decide) (fun c_20 => ?_) (fun c_20 => ?_)
    · refine lv_aload_n hx hb dX0_setEntry_25 rfl (lv_at hl 1 rfl) ?_
      refine xa_geti G fd_X0 (a := 6) (x := μ.1 6 5) 5 rfl (by decide) rfl (wm 1 120 rfl rfl) ⟨rfl, rfl, rfl⟩ dX0_setEntry_26 rfl rfl ?_
      refine lv_istore (lv' := [(5, .int (iv (μ.1 6 5))), (0, .ref (oP ω 6)), (1, .int (iv x1)), (2, .int (iv x2)), (3, .int (iv x3)), (4, .int (iv x4))]) hx hb dX0_setEntry_29 hl (by decide) rfl (fun ls hl => ?_)
      refine lv_aload_n hx hb dX0_setEntry_31 rfl (lv_at hl 1 rfl) ?_
      refine lv_dup hx hb dX0_setEntry_32 rfl ?_
      refine xa_geti G fd_X0 (a := 6) (x := μ.1 6 5) 5 rfl (by decide) rfl (wm 1 120 rfl rfl) ⟨rfl, rfl, rfl⟩ dX0_setEntry_33 rfl rfl ?_
      refine lv_iconst (v := iv 1) hx hb dX0_setEntry_36 rfl ?_
      refine xb_iadd hx hb dX0_setEntry_37 ?_
      refine xa_puti G fd_X0 (a := 6) (x := (μ.1 6 5) + 1) 5 (kz := 5) rfl rfl (by decide) rfl (by unfold ir; omega) (wm 1 120 rfl rfl) ⟨rfl, rfl, rfl, rfl⟩ rfl dX0_setEntry_38 rfl (fun H locs G => ?_)
      refine lv_aload_n hx hb dX0_setEntry_41 rfl (lv_at hl 1 rfl) ?_
      refine xa_getr G fd_X0 (a := 6) (x := 9) 2 rfl (by decide) rfl (wm 1 117 rfl rfl) ⟨rfl, rfl, rfl⟩ dX0_setEntry_42 rfl (G.sk 11 rfl) (by decide) rfl ?_
      refine lv_iload hx hb dX0_setEntry_45 (lv_at hl 0 rfl) ?_
      refine lv_iload_n hx hb dX0_setEntry_47 rfl (lv_at hl 2 rfl) ?_
      refine lv_iload_n hx hb dX0_setEntry_48 rfl (lv_at hl 3 rfl) ?_
      refine xc_iS G (rest := [.int (iv (μ.1 6 5)), .ref (oP ω 9)]) (As := [.int (iv x1), .int (iv x2)]) (c_X0_border ω l (sv μ 6 5 ((μ.1 6 5) + 1)) x1 x2 (by unfold ir; omega) (by unfold ir; omega)) (wm 5 2 rfl rfl) (wm 5 3 rfl rfl) (wm 1 7 rfl rfl) (wm 5 4 rfl rfl) (by decide) hR (by decide) (n := 2) rfl rfl (Nat.le_of_ble_eq_true rfl) hl.1 dX0_setEntry_49 (fun r_13 μ12 ρ d0 H locs hr_r_13 hp G => ?_)
      have hr_r_13 : -2147483648 ≤ r_13 ∧ r_13 ≤ 2147483647 := hr_r_13
      obtain ⟨hsm_14, hp_15⟩ := hp
      have hsm_14 := Eq.symm hsm_14
      subst hsm_14
      refine xa_iast G (a := 9) (i := μ.1 6 5) (x := r_13) rfl (by have h9 := G.lc (a := 9) (n := 100) 6 rfl; omega) (by unfold ir; omega) dX0_setEntry_52 rfl (fun H locs G => ?_)
      refine lv_aload_n hx hb dX0_setEntry_53 rfl (lv_at hl 1 rfl) ?_
      refine xa_getr G fd_X0 (a := 6) (x := 10) 3 rfl (by decide) rfl (wm 1 118 rfl rfl) ⟨rfl, rfl, rfl⟩ dX0_setEntry_54 rfl (G.sk 12 rfl) (by decide) rfl ?_
      refine lv_iload hx hb dX0_setEntry_57 (lv_at hl 0 rfl) ?_
      refine lv_iload_n hx hb dX0_setEntry_59 rfl (lv_at hl 4 rfl) ?_
      refine xa_iast G (a := 10) (i := μ.1 6 5) (x := x3) rfl (by have h9 := G.lc (a := 10) (n := 100) 7 rfl; omega) (by unfold ir; omega) dX0_setEntry_60 rfl (fun H locs G => ?_)
      refine lv_aload_n hx hb dX0_setEntry_61 rfl (lv_at hl 1 rfl) ?_
      refine xa_getr G fd_X0 (a := 6) (x := 11) 4 rfl (by decide) rfl (wm 1 119 rfl rfl) ⟨rfl, rfl, rfl⟩ dX0_setEntry_62 rfl (G.sk 13 rfl) (by decide) rfl ?_
      refine lv_iload hx hb dX0_setEntry_65 (lv_at hl 0 rfl) ?_
      refine lv_iload hx hb dX0_setEntry_67 (lv_at hl 5 rfl) ?_
      refine xa_iast G (a := 11) (i := μ.1 6 5) (x := x4) rfl (by have h9 := G.lc (a := 11) (n := 100) 8 rfl; omega) (by unfold ir; omega) dX0_setEntry_69 rfl (fun H locs G => ?_)
      refine lv_iconst (v := iv 1) hx hb dX0_setEntry_70 rfl ?_
      have hI_16 : IC (sv (sv (sv (sv μ 6 5 ((μ.1 6 5) + 1)) 9 (μ.1 6 5) r_13) 10 (μ.1 6 5) x3) 11 (μ.1 6 5) x4) := (IC.pua (IC.pua (IC.pua (IC.n_6_5 hI (by omega)) (by decide)) (by decide)) (by decide))
      exact xr_i G (x := 1) hret hlk (by unfold ir; omega) (zr (by omega)) dX0_setEntry_71 ⟨(Fr.put (Fr.put (Fr.put (Fr.put Fr.rf (by decide)) (by decide)) (by decide)) (by decide)), hI_16, (by omega)⟩
    · refine lv_iconst (v := iv 0) hx hb dX0_setEntry_23 rfl ?_
      exact xr_i G (x := 0) hret hlk (by unfold ir; omega) (zr (by omega)) dX0_setEntry_24 ⟨Fr.rf, hI, (by omega)⟩

set_option maxHeartbeats 4000000 in
set_option maxRecDepth 100000 in
theorem c_X0_entryFor (ω : Om) (l : Launch) (μ : M3) (x1 : Int) (x2 : Int) (x3 : Int) (hx1 : ir x1) (hx2 : ir x2) (hx3 : ir x3) (hI : IC μ) : CtI ω l yX0_entryFor cX0_entryFor 8 .int 2 46 [.ref (oP ω 6), .int (iv x1), .int (iv x2), .int (iv x3), .ref (oP ω 2)] μ (fun (r : Int) (μ' : M3) => (μ' = μ)) := by
  refine CtI.go (by decide) (Nat.le_of_ble_eq_true rfl) (fun ρ p e s m below meth c R ls G hR hret hlk hl => ?_)
  have hx := G.1.1
  have hb := G.1.2.1
  have hl : lv_has ls 8 [(0, .ref (oP ω 6)), (1, .int (iv x1)), (2, .int (iv x2)), (3, .int (iv x3)), (4, .ref (oP ω 2))] := hl
  generalize s.drawn = d0 at G ⊢
  have hr_x1 : -2147483648 ≤ x1 ∧ x1 ≤ 2147483647 := hx1
  have hr_x2 : -2147483648 ≤ x2 ∧ x2 ≤ 2147483647 := hx2
  have hr_x3 : -2147483648 ≤ x3 ∧ x3 ≤ 2147483647 := hx3
  refine lv_aload_n hx hb dX0_entryFor_0 rfl (lv_at hl 0 rfl) ?_
  refine lv_iload_n hx hb dX0_entryFor_1 rfl (lv_at hl 1 rfl) ?_
  refine lv_iload_n hx hb dX0_entryFor_2 rfl (lv_at hl 2 rfl) ?_
  refine lv_iload_n hx hb dX0_entryFor_3 rfl (lv_at hl 3 rfl) ?_
  have hn_1 : 0 ≤ μ.1 6 5 ∧ μ.1 6 5 ≤ 100 := hI.nm.2.2.2.1
  refine xc_iV G (b := 6) (rest := []) (As := [.int (iv x1), .int (iv x2), .int (iv x3)]) (c_X0_find ω l μ x1 x2 x3 (by unfold ir; omega) (by unfold ir; omega) (by unfold ir; omega) hI) (wm 5 25 rfl rfl) (wm 5 27 rfl rfl) (wm 0 61 rfl rfl) rfl rfl (by decide) rfl (wm 1 7 rfl rfl) (wm 5 28 rfl rfl) (by decide) hR (by decide) (n := 3) rfl rfl (Nat.le_of_ble_eq_true rfl) hl.1 dX0_entryFor_4 (fun r_3 μ2 ρ d0 H locs hr_r_3 hp G => ?_)
  have hr_r_3 : -2147483648 ≤ r_3 ∧ r_3 ≤ 2147483647 := hr_r_3
  obtain ⟨hsm_4, hp_5⟩ := hp
  have hsm_4 := Eq.symm hsm_4
  subst hsm_4
  refine lv_istore (lv' := [(5, .int (iv r_3)), (0, .ref (oP ω 6)), (1, .int (iv x1)), (2, .int (iv x2)), (3, .int (iv x3)), (4, .ref (oP ω 2))]) hx hb dX0_entryFor_7 hl (by decide) rfl (fun ls hl => ?_)
  refine lv_iload_n hx hb dX0_entryFor_9 rfl (lv_at hl 2 rfl) ?_
  refine xb_if_eq (tgt := 16) hx hb (by unfold ir; omega) dX0_entryFor_10 (by decide) (fun c_10 => ?_) (fun c_10 => ?_)
  · refine lv_iload_n hx hb dX0_entryFor_16 rfl (lv_at hl 4 rfl) ?_
    refine lv_istore (lv' := [(6, .int (iv x3)), (5, .int (iv r_3)), (0, .ref (oP ω 6)), (1, .int (iv x1)), (2, .int (iv x2)), (3, .int (iv x3)), (4, .ref (oP ω 2))]) hx hb dX0_entryFor_17 hl (by decide) rfl (fun ls hl => ?_)
    refine lv_iconst (v := iv 0) hx hb dX0_entryFor_19 rfl ?_
    refine lv_istore (lv' := [(7, .int (iv 0)), (6, .int (iv x3)), (5, .int (iv r_3)), (0, .ref (oP ω 6)), (1, .int (iv x1)), (2, .int (iv x2)), (3, .int (iv x3)), (4, .ref (oP ω 2))]) hx hb dX0_entryFor_20 hl (by decide) rfl (fun ls hl => ?_)
    refine xl (fun n_9 μ' ls => ∃ (f9 : Int), ∃ (k9 : Int), ∃ (i9 : Int), (μ' = μ) ∧ (-2147483648 ≤ f9 ∧ f9 ≤ 2147483647) ∧ (-2147483648 ≤ k9 ∧ k9 ≤ 2147483647) ∧ (-2147483648 ≤ i9 ∧ i9 ≤ 2147483647) ∧ (0 ≤ i9) ∧ (i9 ≤ 52) ∧ n_9 = Int.toNat (60 - i9) ∧ lv_has ls 8 [(7, .int (iv i9)), (6, .int (iv k9)), (5, .int (iv f9)), (0, .ref (oP ω 6)), (1, .int (iv x1)), (2, .int (iv x2)), (3, .int (iv x3)), (4, .ref (oP ω 2))]) (fun n_9 ρ μL6 d0 H locs ls hI_l G ih => ?_) _ _ _ _ _ _ _ ⟨r_3, x3, 0, rfl, (by omega), (by omega), (by omega), (by omega), (by omega), rfl, lv_sub hl [0, 1, 2, 3, 4, 5, 6, 7] rfl⟩ G
    obtain ⟨f9, k9, i9, FL7, hi_9, hi_10, hi_11, hi_12, hi_13, hn8, hl⟩ := hI_l
    have FL7 := Eq.symm FL7
    subst FL7
    refine lv_iload hx hb dX0_entryFor_22 (lv_at hl 0 rfl) ?_
    refine lv_bipush (v := iv 51) hx hb dX0_entryFor_24 rfl ?_
    refine xb_icmp_gt (tgt := 64) hx hb (by unfold ir; omega) (by unfold ir; omega) dX0_entryFor_26 (by decide) (fun c_26 => ?_) (fun c_26 => ?_)
    · refine lv_iload hx hb dX0_entryFor_64 (lv_at hl 2 rfl) ?_
      exact xr_i G (x := f9) hret hlk (by unfold ir; omega) rfl dX0_entryFor_66 rfl
    · refine lv_iload hx hb dX0_entryFor_29 (lv_at hl 2 rfl) ?_
      refine xb_if_ge (tgt := 64) hx hb (by unfold ir; omega) dX0_entryFor_31 (by decide) (fun c_31 => ?_) (fun c_31 => ?_)
      · refine lv_iload hx hb dX0_entryFor_64 (lv_at hl 2 rfl) ?_
        exact xr_i G (x := f9) hret hlk (by unfold ir; omega) rfl dX0_entryFor_66 rfl
      · refine lv_iload hx hb dX0_entryFor_34 (lv_at hl 1 rfl) ?_
        refine xb_if_eq (tgt := 64) hx hb (by unfold ir; omega) dX0_entryFor_36 (by decide) (fun c_36 => ?_) (fun c_36 => ?_)
        · refine lv_iload hx hb dX0_entryFor_64 (lv_at hl 2 rfl) ?_
          exact xr_i G (x := f9) hret hlk (by unfold ir; omega) rfl dX0_entryFor_66 rfl
        · refine lv_aload hx hb dX0_entryFor_39 (lv_at hl 7 rfl) ?_
          refine lv_iload hx hb dX0_entryFor_41 (lv_at hl 1 rfl) ?_
          refine xc_iV G (b := 2) (rest := []) (As := [.int (iv k9)]) (c_X5_above ω l μ k9 (by unfold ir; omega) hI) (wm 6 11 rfl rfl) (wm 4 200 rfl rfl) (wm 4 201 rfl rfl) rfl rfl (by decide) rfl (wm 1 2 rfl rfl) (wm 4 202 rfl rfl) (by decide) hR (by decide) (n := 1) rfl rfl (Nat.le_of_ble_eq_true rfl) hl.1 dX0_entryFor_43 (fun r_15 μ14 ρ d0 H locs hr_r_15 hp G => ?_)
          have hr_r_15 : -2147483648 ≤ r_15 ∧ r_15 ≤ 2147483647 := hr_r_15
          have hsm_16 := hp
          have hsm_16 := Eq.symm hsm_16
          subst hsm_16
          refine lv_istore (lv' := [(6, .int (iv r_15)), (7, .int (iv i9)), (5, .int (iv f9)), (0, .ref (oP ω 6)), (1, .int (iv x1)), (2, .int (iv x2)), (3, .int (iv x3)), (4, .ref (oP ω 2))]) hx hb dX0_entryFor_46 hl (by decide) rfl (fun ls hl => ?_)
          refine lv_aload_n hx hb dX0_entryFor_48 rfl (lv_at hl 3 rfl) ?_
          refine lv_iload_n hx hb dX0_entryFor_49 rfl (lv_at hl 4 rfl) ?_
          refine lv_iload_n hx hb dX0_entryFor_50 rfl (lv_at hl 5 rfl) ?_
          refine lv_iload hx hb dX0_entryFor_51 (lv_at hl 0 rfl) ?_
          refine xc_iV G (b := 6) (rest := []) (As := [.int (iv x1), .int (iv x2), .int (iv r_15)]) (c_X0_find ω l μ x1 x2 r_15 (by unfold ir; omega) (by unfold ir; omega) (by unfold ir; omega) hI) (wm 5 25 rfl rfl) (wm 5 27 rfl rfl) (wm 0 61 rfl rfl) rfl rfl (by decide) rfl (wm 1 7 rfl rfl) (wm 5 28 rfl rfl) (by decide) hR (by decide) (n := 3) rfl rfl (Nat.le_of_ble_eq_true rfl) hl.1 dX0_entryFor_53 (fun r_18 μ17 ρ d0 H locs hr_r_18 hp G => ?_)
          have hr_r_18 : -2147483648 ≤ r_18 ∧ r_18 ≤ 2147483647 := hr_r_18
          obtain ⟨hsm_19, hp_20⟩ := hp
          have hsm_19 := Eq.symm hsm_19
          subst hsm_19
          refine lv_istore (lv' := [(5, .int (iv r_18)), (6, .int (iv r_15)), (7, .int (iv i9)), (0, .ref (oP ω 6)), (1, .int (iv x1)), (2, .int (iv x2)), (3, .int (iv x3)), (4, .ref (oP ω 2))]) hx hb dX0_entryFor_56 hl (by decide) rfl (fun ls hl => ?_)
          refine lv_iinc (v := iv (i9 + 1)) (lv' := [(7, .int (iv (i9 + 1))), (5, .int (iv r_18)), (6, .int (iv r_15)), (0, .ref (oP ω 6)), (1, .int (iv x1)), (2, .int (iv x2)), (3, .int (iv x3)), (4, .ref (oP ω 2))]) hx hb dX0_entryFor_58 hl (k := 2) rfl (by rw [show Int32.ofInt 1 = iv 1 from rfl, iv_add]) (by decide) rfl (fun ls hl => ?_)
          refine lv_goto (tgt := 22) hx hb dX0_entryFor_61 (by decide) ?_
          exact ih _ _ _ _ _ _ _ (by omega) ⟨r_18, r_15, i9 + 1, rfl, (by omega), (by omega), (by omega), (by omega), (by omega), rfl, lv_sub hl [0, 2, 1, 3, 4, 5, 6, 7] rfl⟩ G
  · refine lv_iload hx hb dX0_entryFor_13 (lv_at hl 0 rfl) ?_
    exact xr_i G (x := r_3) hret hlk (by unfold ir; omega) rfl dX0_entryFor_15 rfl

set_option maxHeartbeats 4000000 in
set_option maxRecDepth 100000 in
theorem c_X0_becomes (ω : Om) (l : Launch) (μ : M3) (x1 : Int) (x2 : Int) (x3 : Int) (hx1 : ir x1) (hx2 : ir x2) (hx3 : ir x3) (hI : IC μ) : CtI ω l yX0_becomes cX0_becomes 4 .int 1 21 [.ref (oP ω 6), .int (iv x1), .int (iv x2), .int (iv x3)] μ (fun (r : Int) (μ' : M3) => (μ' = μ)) := by
  refine CtI.go (by decide) (Nat.le_of_ble_eq_true rfl) (fun ρ p e s m below meth c R ls G hR hret hlk hl => ?_)
  have hx := G.1.1
  have hb := G.1.2.1
  have hl : lv_has ls 4 [(0, .ref (oP ω 6)), (1, .int (iv x1)), (2, .int (iv x2)), (3, .int (iv x3))] := hl
  generalize s.drawn = d0 at G ⊢
  have hr_x1 : -2147483648 ≤ x1 ∧ x1 ≤ 2147483647 := hx1
  have hr_x2 : -2147483648 ≤ x2 ∧ x2 ≤ 2147483647 := hx2
  have hr_x3 : -2147483648 ≤ x3 ∧ x3 ≤ 2147483647 := hx3
  refine lv_iload_n hx hb dX0_becomes_0 rfl (lv_at hl 3 rfl) ?_
  refine xb_if_lt (tgt := 21) hx hb (by unfold ir; omega) dX0_becomes_1 (by decide) (fun c_1 => ?_) (fun c_1 => ?_)
  · refine lv_aload_n hx hb dX0_becomes_21 rfl (lv_at hl 0 rfl) ?_
    refine xa_getr G fd_X0 (a := 6) (x := 8) 1 rfl (by decide) rfl (wm 1 116 rfl rfl) ⟨rfl, rfl, rfl⟩ dX0_becomes_22 rfl (G.sk 10 rfl) (by decide) rfl ?_
    refine lv_iload_n hx hb dX0_becomes_25 rfl (lv_at hl 1 rfl) ?_
    refine lv_iload_n hx hb dX0_becomes_26 rfl (lv_at hl 2 rfl) ?_
    refine xc_iS G (rest := [.ref (oP ω 8)]) (As := [.int (iv x1), .int (iv x2)]) (c_X0_border ω l μ x1 x2 (by unfold ir; omega) (by unfold ir; omega)) (wm 5 2 rfl rfl) (wm 5 3 rfl rfl) (wm 1 7 rfl rfl) (wm 5 4 rfl rfl) (by decide) hR (by decide) (n := 2) rfl rfl (Nat.le_of_ble_eq_true rfl) hl.1 dX0_becomes_27 (fun r_2 μ1 ρ d0 H locs hr_r_2 hp G => ?_)
    have hr_r_2 : -2147483648 ≤ r_2 ∧ r_2 ≤ 2147483647 := hr_r_2
    obtain ⟨hsm_3, hp_4⟩ := hp
    have hsm_3 := Eq.symm hsm_3
    subst hsm_3
    refine xa_iald G (a := 8) (i := r_2) rfl (by have h9 := G.lc (a := 8) (n := 16) 5 rfl; omega) dX0_becomes_30 rfl ?_
    have hr_5 : -2147483648 ≤ μ.1 8 r_2 ∧ μ.1 8 r_2 ≤ 2147483647 := by have h9 := G.hr (a := 8) (k := r_2) rfl; exact h9
    exact xr_i G (x := μ.1 8 r_2) hret hlk (by unfold ir; omega) rfl dX0_becomes_31 rfl
  · refine lv_iload_n hx hb dX0_becomes_4 rfl (lv_at hl 3 rfl) ?_
    refine lv_aload_n hx hb dX0_becomes_5 rfl (lv_at hl 0 rfl) ?_
    refine xa_geti G fd_X0 (a := 6) (x := μ.1 6 5) 5 rfl (by decide) rfl (wm 1 120 rfl rfl) ⟨rfl, rfl, rfl⟩ dX0_becomes_6 rfl rfl ?_
    have hr_6 : -2147483648 ≤ μ.1 6 5 ∧ μ.1 6 5 ≤ 2147483647 := by have h9 := G.hr (a := 6) (k := 5) rfl; exact h9
    have hn_7 : 0 ≤ μ.1 6 5 ∧ μ.1 6 5 ≤ 100 := hI.nm.2.2.2.1
    refine xb_icmp_ge (tgt := 21) hx hb (by unfold ir; omega) (by unfold ir; omega) dX0_becomes_9 (by decide) (fun c_9 => ?_) (fun c_9 => ?_)
    · refine lv_aload_n hx hb dX0_becomes_21 rfl (lv_at hl 0 rfl) ?_
      refine xa_getr G fd_X0 (a := 6) (x := 8) 1 rfl (by decide) rfl (wm 1 116 rfl rfl) ⟨rfl, rfl, rfl⟩ dX0_becomes_22 rfl (G.sk 10 rfl) (by decide) rfl ?_
      refine lv_iload_n hx hb dX0_becomes_25 rfl (lv_at hl 1 rfl) ?_
      refine lv_iload_n hx hb dX0_becomes_26 rfl (lv_at hl 2 rfl) ?_
      refine xc_iS G (rest := [.ref (oP ω 8)]) (As := [.int (iv x1), .int (iv x2)]) (c_X0_border ω l μ x1 x2 (by unfold ir; omega) (by unfold ir; omega)) (wm 5 2 rfl rfl) (wm 5 3 rfl rfl) (wm 1 7 rfl rfl) (wm 5 4 rfl rfl) (by decide) hR (by decide) (n := 2) rfl rfl (Nat.le_of_ble_eq_true rfl) hl.1 dX0_becomes_27 (fun r_9 μ8 ρ d0 H locs hr_r_9 hp G => ?_)
      have hr_r_9 : -2147483648 ≤ r_9 ∧ r_9 ≤ 2147483647 := hr_r_9
      obtain ⟨hsm_10, hp_11⟩ := hp
      have hsm_10 := Eq.symm hsm_10
      subst hsm_10
      refine xa_iald G (a := 8) (i := r_9) rfl (by have h9 := G.lc (a := 8) (n := 16) 5 rfl; omega) dX0_becomes_30 rfl ?_
      have hr_12 : -2147483648 ≤ μ.1 8 r_9 ∧ μ.1 8 r_9 ≤ 2147483647 := by have h9 := G.hr (a := 8) (k := r_9) rfl; exact h9
      exact xr_i G (x := μ.1 8 r_9) hret hlk (by unfold ir; omega) rfl dX0_becomes_31 rfl
    · refine lv_aload_n hx hb dX0_becomes_12 rfl (lv_at hl 0 rfl) ?_
      refine xa_getr G fd_X0 (a := 6) (x := 11) 4 rfl (by decide) rfl (wm 1 119 rfl rfl) ⟨rfl, rfl, rfl⟩ dX0_becomes_13 rfl (G.sk 13 rfl) (by decide) rfl ?_
      refine lv_iload_n hx hb dX0_becomes_16 rfl (lv_at hl 3 rfl) ?_
      refine xa_iald G (a := 11) (i := x3) rfl (by have h9 := G.lc (a := 11) (n := 100) 8 rfl; omega) dX0_becomes_17 rfl ?_
      have hr_13 : -2147483648 ≤ μ.1 11 x3 ∧ μ.1 11 x3 ≤ 2147483647 := by have h9 := G.hr (a := 11) (k := x3) rfl; exact h9
      refine lv_goto (tgt := 31) hx hb dX0_becomes_18 (by decide) ?_
      exact xr_i G (x := μ.1 11 x3) hret hlk (by unfold ir; omega) rfl dX0_becomes_31 rfl

set_option maxHeartbeats 4000000 in
set_option maxRecDepth 100000 in
theorem c_X0_wrapped (ω : Om) (l : Launch) (μ : M3) (x1 : Int) (x2 : Int) (hx1 : ir x1) (hx2 : jr x2) : CtL ω l yX0_wrapped cX0_wrapped 3 0 0 [.int (iv x1), .long (jv x2)] μ (fun (r : Int) (μ' : M3) => (μ' = μ)) := by
  refine CtL.go (by decide) (Nat.le_of_ble_eq_true rfl) (fun ρ p e s m below meth c R ls G hR hret hlk hl => ?_)
  have hx := G.1.1
  have hb := G.1.2.1
  have hl : lv_has ls 3 [(0, .int (iv x1)), (1, .long (jv x2))] := hl
  generalize s.drawn = d0 at G ⊢
  have hr_x1 : -2147483648 ≤ x1 ∧ x1 ≤ 2147483647 := hx1
  refine lv_iload_n hx hb dX0_wrapped_0 rfl (lv_at hl 0 rfl) ?_
  refine lv_iconst (v := iv 1) hx hb dX0_wrapped_1 rfl ?_
  refine xb_icmp_ne (tgt := 9) hx hb (by unfold ir; omega) (by unfold ir; omega) dX0_wrapped_2 (by decide) (fun c_2 => ?_) (fun c_2 => ?_)
  · refine lv_iload_n hx hb dX0_wrapped_9 rfl (lv_at hl 0 rfl) ?_
    refine lv_iconst (v := iv 2) hx hb dX0_wrapped_10 rfl ?_
    refine xb_icmp_ne (tgt := 22) hx hb (by unfold ir; omega) (by unfold ir; omega) dX0_wrapped_11 (by decide) (fun c_11 => ?_) (fun c_11 => ?_)
    · refine lv_lload_n hx hb dX0_wrapped_22 rfl (lv_at hl 1 rfl) ?_
      exact xr_l G (x := x2) hret hlk hx2 dX0_wrapped_23 rfl
    · refine lv_lload_n hx hb dX0_wrapped_14 rfl (lv_at hl 1 rfl) ?_
      refine lv_ldc2 (s := s.setDrawn d0) hx hb G.1.2.2.2.1 (dr_words G.1.2.2.2.2 d0 _ (wm 6 51 rfl rfl)) dX0_wrapped_15 ?_
      refine xb_litl (x := 100000000000000000) (by decide) ?_
      refine lv_lrem hx hb dX0_wrapped_18 (by decide) ?_
      refine xb_topl (fun z_1 hr_z_1 he_z_1 => ?_)
      refine lv_goto (tgt := 23) hx hb dX0_wrapped_19 (by decide) ?_
      exact xr_l G (x := z_1) hret hlk hr_z_1 dX0_wrapped_23 rfl
  · refine lv_lload_n hx hb dX0_wrapped_5 rfl (lv_at hl 1 rfl) ?_
    refine xb_l2i hx hb dX0_wrapped_6 ?_
    refine xb_topi (fun y_2 hr_y_2 he_y_2 => ?_)
    have hr_y_2 : -2147483648 ≤ y_2 ∧ y_2 ≤ 2147483647 := hr_y_2
    refine xb_i2l hx hb (by unfold ir; omega) dX0_wrapped_7 ?_
    exact xr_l G (x := y_2) hret hlk (by unfold jr; omega) dX0_wrapped_8 rfl
