abbrev cX4_told : ByteArray := prog_6_method_2_code
def yX4_told : MethodName := ⟨RX4, "told", "(I)I"⟩
abbrev cX4_answered : ByteArray := prog_6_method_3_code
def yX4_answered : MethodName := ⟨RX4, "answered", "()J"⟩
abbrev cX4_markOf : ByteArray := prog_6_method_4_code
def yX4_markOf : MethodName := ⟨RX4, "markOf", "(I)J"⟩
abbrev cX4_tongueOfMark : ByteArray := prog_6_method_5_code
def yX4_tongueOfMark : MethodName := ⟨RX4, "tongueOfMark", "(I)I"⟩
abbrev cX4_factOf : ByteArray := prog_6_method_6_code
def yX4_factOf : MethodName := ⟨RX4, "factOf", "(II)I"⟩
abbrev cX4_factUnder : ByteArray := prog_6_method_7_code
def yX4_factUnder : MethodName := ⟨RX4, "factUnder", "(III)I"⟩
abbrev cX4_end : ByteArray := prog_6_method_10_code
def yX4_end : MethodName := ⟨RX4, "end", "(I)V"⟩
abbrev cX4_step : ByteArray := prog_6_method_11_code
def yX4_step : MethodName := ⟨RX4, "step", "()Z"⟩
abbrev cX4_pushNumber : ByteArray := prog_6_method_12_code
def yX4_pushNumber : MethodName := ⟨RX4, "pushNumber", "(IJ)V"⟩
abbrev cX4_top : ByteArray := prog_6_method_15_code
def yX4_top : MethodName := ⟨RX4, "top", "()I"⟩
abbrev cX4_store : ByteArray := prog_6_method_16_code
def yX4_store : MethodName := ⟨RX4, "store", "(I)V"⟩
abbrev cX4_dropValue : ByteArray := prog_6_method_17_code
def yX4_dropValue : MethodName := ⟨RX4, "dropValue", "()V"⟩
abbrev cX4_fails : ByteArray := prog_6_method_18_code
def yX4_fails : MethodName := ⟨RX4, "fails", "(II)V"⟩
abbrev cX4_leaveIfGoing : ByteArray := prog_6_method_19_code
def yX4_leaveIfGoing : MethodName := ⟨RX4, "leaveIfGoing", "()V"⟩
abbrev cX4_failsWithTop : ByteArray := prog_6_method_20_code
def yX4_failsWithTop : MethodName := ⟨RX4, "failsWithTop", "(I)V"⟩
abbrev cX4_give : ByteArray := prog_6_method_21_code
def yX4_give : MethodName := ⟨RX4, "give", "(I)V"⟩
theorem dX4_told_0 : decode cX4_told 0 = .ok (.iload_n 1, 1) := by decide +kernel
theorem dX4_told_1 : decode cX4_told 1 = .ok (.ifCond .lt 18, 3) := by decide +kernel
theorem dX4_told_4 : decode cX4_told 4 = .ok (.iload_n 1, 1) := by decide +kernel
theorem dX4_told_5 : decode cX4_told 5 = .ok (.bipush 10, 2) := by decide +kernel
theorem dX4_told_7 : decode cX4_told 7 = .ok (.if_icmp .ge 12, 3) := by decide +kernel
theorem dX4_told_10 : decode cX4_told 10 = .ok (.aload_n 0, 1) := by decide +kernel
theorem dX4_told_11 : decode cX4_told 11 = .ok (.getfield 47, 3) := by decide +kernel
theorem dX4_told_14 : decode cX4_told 14 = .ok (.iload_n 1, 1) := by decide +kernel
theorem dX4_told_15 : decode cX4_told 15 = .ok (.iaload, 1) := by decide +kernel
theorem dX4_told_16 : decode cX4_told 16 = .ok (.goto 4, 3) := by decide +kernel
theorem dX4_told_19 : decode cX4_told 19 = .ok (.iconst (-1), 1) := by decide +kernel
theorem dX4_told_20 : decode cX4_told 20 = .ok (.ireturn, 1) := by decide +kernel
theorem dX4_answered_0 : decode cX4_answered 0 = .ok (.aload_n 0, 1) := by decide +kernel
theorem dX4_answered_1 : decode cX4_answered 1 = .ok (.getfield 67, 3) := by decide +kernel
theorem dX4_answered_4 : decode cX4_answered 4 = .ok (.lreturn, 1) := by decide +kernel
theorem dX4_markOf_0 : decode cX4_markOf 0 = .ok (.aload_n 0, 1) := by decide +kernel
theorem dX4_markOf_1 : decode cX4_markOf 1 = .ok (.getfield 23, 3) := by decide +kernel
theorem dX4_markOf_4 : decode cX4_markOf 4 = .ok (.iload_n 1, 1) := by decide +kernel
theorem dX4_markOf_5 : decode cX4_markOf 5 = .ok (.invokevirtual 87, 3) := by decide +kernel
theorem dX4_markOf_8 : decode cX4_markOf 8 = .ok (.iconst 3, 1) := by decide +kernel
theorem dX4_markOf_9 : decode cX4_markOf 9 = .ok (.if_icmp .ne 17, 3) := by decide +kernel
theorem dX4_markOf_12 : decode cX4_markOf 12 = .ok (.aload_n 0, 1) := by decide +kernel
theorem dX4_markOf_13 : decode cX4_markOf 13 = .ok (.getfield 23, 3) := by decide +kernel
theorem dX4_markOf_16 : decode cX4_markOf 16 = .ok (.iload_n 1, 1) := by decide +kernel
theorem dX4_markOf_17 : decode cX4_markOf 17 = .ok (.invokevirtual 91, 3) := by decide +kernel
theorem dX4_markOf_20 : decode cX4_markOf 20 = .ok (.invokestatic 95, 3) := by decide +kernel
theorem dX4_markOf_23 : decode cX4_markOf 23 = .ok (.goto 11, 3) := by decide +kernel
theorem dX4_markOf_26 : decode cX4_markOf 26 = .ok (.aload_n 0, 1) := by decide +kernel
theorem dX4_markOf_27 : decode cX4_markOf 27 = .ok (.getfield 23, 3) := by decide +kernel
theorem dX4_markOf_30 : decode cX4_markOf 30 = .ok (.iload_n 1, 1) := by decide +kernel
theorem dX4_markOf_31 : decode cX4_markOf 31 = .ok (.invokevirtual 101, 3) := by decide +kernel
theorem dX4_markOf_34 : decode cX4_markOf 34 = .ok (.lreturn, 1) := by decide +kernel
theorem dX4_tongueOfMark_0 : decode cX4_tongueOfMark 0 = .ok (.iload_n 1, 1) := by decide +kernel
theorem dX4_tongueOfMark_1 : decode cX4_tongueOfMark 1 = .ok (.ifCond .lt 25, 3) := by decide +kernel
theorem dX4_tongueOfMark_4 : decode cX4_tongueOfMark 4 = .ok (.iload_n 1, 1) := by decide +kernel
theorem dX4_tongueOfMark_5 : decode cX4_tongueOfMark 5 = .ok (.aload_n 0, 1) := by decide +kernel
theorem dX4_tongueOfMark_6 : decode cX4_tongueOfMark 6 = .ok (.getfield 23, 3) := by decide +kernel
theorem dX4_tongueOfMark_9 : decode cX4_tongueOfMark 9 = .ok (.invokevirtual 105, 3) := by decide +kernel
theorem dX4_tongueOfMark_12 : decode cX4_tongueOfMark 12 = .ok (.if_icmp .ge 14, 3) := by decide +kernel
theorem dX4_tongueOfMark_15 : decode cX4_tongueOfMark 15 = .ok (.aload_n 0, 1) := by decide +kernel
theorem dX4_tongueOfMark_16 : decode cX4_tongueOfMark 16 = .ok (.getfield 23, 3) := by decide +kernel
theorem dX4_tongueOfMark_19 : decode cX4_tongueOfMark 19 = .ok (.iload_n 1, 1) := by decide +kernel
theorem dX4_tongueOfMark_20 : decode cX4_tongueOfMark 20 = .ok (.invokevirtual 87, 3) := by decide +kernel
theorem dX4_tongueOfMark_23 : decode cX4_tongueOfMark 23 = .ok (.goto 4, 3) := by decide +kernel
theorem dX4_tongueOfMark_26 : decode cX4_tongueOfMark 26 = .ok (.iconst (-1), 1) := by decide +kernel
theorem dX4_tongueOfMark_27 : decode cX4_tongueOfMark 27 = .ok (.ireturn, 1) := by decide +kernel
theorem dX4_factOf_0 : decode cX4_factOf 0 = .ok (.iload_n 2, 1) := by decide +kernel
theorem dX4_factOf_1 : decode cX4_factOf 1 = .ok (.bipush 6, 2) := by decide +kernel
theorem dX4_factOf_3 : decode cX4_factOf 3 = .ok (.if_icmp .le 7, 3) := by decide +kernel
theorem dX4_factOf_6 : decode cX4_factOf 6 = .ok (.iconst (-1), 1) := by decide +kernel
theorem dX4_factOf_7 : decode cX4_factOf 7 = .ok (.goto 23, 3) := by decide +kernel
theorem dX4_factOf_10 : decode cX4_factOf 10 = .ok (.aload_n 0, 1) := by decide +kernel
theorem dX4_factOf_11 : decode cX4_factOf 11 = .ok (.getfield 29, 3) := by decide +kernel
theorem dX4_factOf_14 : decode cX4_factOf 14 = .ok (.aload_n 0, 1) := by decide +kernel
theorem dX4_factOf_15 : decode cX4_factOf 15 = .ok (.getfield 29, 3) := by decide +kernel
theorem dX4_factOf_18 : decode cX4_factOf 18 = .ok (.aload_n 0, 1) := by decide +kernel
theorem dX4_factOf_19 : decode cX4_factOf 19 = .ok (.getfield 64, 3) := by decide +kernel
theorem dX4_factOf_22 : decode cX4_factOf 22 = .ok (.iload_n 1, 1) := by decide +kernel
theorem dX4_factOf_23 : decode cX4_factOf 23 = .ok (.invokevirtual 109, 3) := by decide +kernel
theorem dX4_factOf_26 : decode cX4_factOf 26 = .ok (.iload_n 2, 1) := by decide +kernel
theorem dX4_factOf_27 : decode cX4_factOf 27 = .ok (.invokevirtual 113, 3) := by decide +kernel
theorem dX4_factOf_30 : decode cX4_factOf 30 = .ok (.ireturn, 1) := by decide +kernel
theorem dX4_factUnder_0 : decode cX4_factUnder 0 = .ok (.aload_n 0, 1) := by decide +kernel
theorem dX4_factUnder_1 : decode cX4_factUnder 1 = .ok (.getfield 29, 3) := by decide +kernel
theorem dX4_factUnder_4 : decode cX4_factUnder 4 = .ok (.aload_n 0, 1) := by decide +kernel
theorem dX4_factUnder_5 : decode cX4_factUnder 5 = .ok (.getfield 29, 3) := by decide +kernel
theorem dX4_factUnder_8 : decode cX4_factUnder 8 = .ok (.aload_n 0, 1) := by decide +kernel
theorem dX4_factUnder_9 : decode cX4_factUnder 9 = .ok (.getfield 64, 3) := by decide +kernel
theorem dX4_factUnder_12 : decode cX4_factUnder 12 = .ok (.iload_n 1, 1) := by decide +kernel
theorem dX4_factUnder_13 : decode cX4_factUnder 13 = .ok (.invokevirtual 109, 3) := by decide +kernel
theorem dX4_factUnder_16 : decode cX4_factUnder 16 = .ok (.iload_n 2, 1) := by decide +kernel
theorem dX4_factUnder_17 : decode cX4_factUnder 17 = .ok (.invokevirtual 116, 3) := by decide +kernel
theorem dX4_factUnder_20 : decode cX4_factUnder 20 = .ok (.istore 4, 2) := by decide +kernel
theorem dX4_factUnder_22 : decode cX4_factUnder 22 = .ok (.iload_n 3, 1) := by decide +kernel
theorem dX4_factUnder_23 : decode cX4_factUnder 23 = .ok (.bipush 6, 2) := by decide +kernel
theorem dX4_factUnder_25 : decode cX4_factUnder 25 = .ok (.if_icmp .le 7, 3) := by decide +kernel
theorem dX4_factUnder_28 : decode cX4_factUnder 28 = .ok (.iconst (-1), 1) := by decide +kernel
theorem dX4_factUnder_29 : decode cX4_factUnder 29 = .ok (.goto 13, 3) := by decide +kernel
theorem dX4_factUnder_32 : decode cX4_factUnder 32 = .ok (.aload_n 0, 1) := by decide +kernel
theorem dX4_factUnder_33 : decode cX4_factUnder 33 = .ok (.getfield 29, 3) := by decide +kernel
theorem dX4_factUnder_36 : decode cX4_factUnder 36 = .ok (.iload 4, 2) := by decide +kernel
theorem dX4_factUnder_38 : decode cX4_factUnder 38 = .ok (.iload_n 3, 1) := by decide +kernel
theorem dX4_factUnder_39 : decode cX4_factUnder 39 = .ok (.invokevirtual 113, 3) := by decide +kernel
theorem dX4_factUnder_42 : decode cX4_factUnder 42 = .ok (.ireturn, 1) := by decide +kernel
theorem dX4_end_0 : decode cX4_end 0 = .ok (.aload_n 0, 1) := by decide +kernel
theorem dX4_end_1 : decode cX4_end 1 = .ok (.getfield 47, 3) := by decide +kernel
theorem dX4_end_4 : decode cX4_end 4 = .ok (.iconst 0, 1) := by decide +kernel
theorem dX4_end_5 : decode cX4_end 5 = .ok (.iload_n 1, 1) := by decide +kernel
theorem dX4_end_6 : decode cX4_end 6 = .ok (.iastore, 1) := by decide +kernel
theorem dX4_end_7 : decode cX4_end 7 = .ok (.aload_n 0, 1) := by decide +kernel
theorem dX4_end_8 : decode cX4_end 8 = .ok (.iconst 4, 1) := by decide +kernel
theorem dX4_end_9 : decode cX4_end 9 = .ok (.putfield 58, 3) := by decide +kernel
theorem dX4_end_12 : decode cX4_end 12 = .ok (.return_, 1) := by decide +kernel
theorem dX4_step_0 : decode cX4_step 0 = .ok (.aload_n 0, 1) := by decide +kernel
theorem dX4_step_1 : decode cX4_step 1 = .ok (.getfield 47, 3) := by decide +kernel
theorem dX4_step_4 : decode cX4_step 4 = .ok (.iconst 2, 1) := by decide +kernel
theorem dX4_step_5 : decode cX4_step 5 = .ok (.iaload, 1) := by decide +kernel
theorem dX4_step_6 : decode cX4_step 6 = .ok (.sipush 5000, 3) := by decide +kernel
theorem dX4_step_9 : decode cX4_step 9 = .ok (.if_icmp .ge 15, 3) := by decide +kernel
theorem dX4_step_12 : decode cX4_step 12 = .ok (.aload_n 0, 1) := by decide +kernel
theorem dX4_step_13 : decode cX4_step 13 = .ok (.getfield 47, 3) := by decide +kernel
theorem dX4_step_16 : decode cX4_step 16 = .ok (.bipush 8, 2) := by decide +kernel
theorem dX4_step_18 : decode cX4_step 18 = .ok (.iaload, 1) := by decide +kernel
theorem dX4_step_19 : decode cX4_step 19 = .ok (.ldc 157, 2) := by decide +kernel
theorem dX4_step_21 : decode cX4_step 21 = .ok (.if_icmp .lt 10, 3) := by decide +kernel
theorem dX4_step_24 : decode cX4_step 24 = .ok (.aload_n 0, 1) := by decide +kernel
theorem dX4_step_25 : decode cX4_step 25 = .ok (.iconst 2, 1) := by decide +kernel
theorem dX4_step_26 : decode cX4_step 26 = .ok (.invokevirtual 158, 3) := by decide +kernel
theorem dX4_step_29 : decode cX4_step 29 = .ok (.iconst 0, 1) := by decide +kernel
theorem dX4_step_30 : decode cX4_step 30 = .ok (.ireturn, 1) := by decide +kernel
theorem dX4_step_31 : decode cX4_step 31 = .ok (.aload_n 0, 1) := by decide +kernel
theorem dX4_step_32 : decode cX4_step 32 = .ok (.getfield 47, 3) := by decide +kernel
theorem dX4_step_35 : decode cX4_step 35 = .ok (.iconst 2, 1) := by decide +kernel
theorem dX4_step_36 : decode cX4_step 36 = .ok (.dup2, 1) := by decide +kernel
theorem dX4_step_37 : decode cX4_step 37 = .ok (.iaload, 1) := by decide +kernel
theorem dX4_step_38 : decode cX4_step 38 = .ok (.iconst 1, 1) := by decide +kernel
theorem dX4_step_39 : decode cX4_step 39 = .ok (.iadd, 1) := by decide +kernel
theorem dX4_step_40 : decode cX4_step 40 = .ok (.iastore, 1) := by decide +kernel
theorem dX4_step_41 : decode cX4_step 41 = .ok (.aload_n 0, 1) := by decide +kernel
theorem dX4_step_42 : decode cX4_step 42 = .ok (.getfield 47, 3) := by decide +kernel
theorem dX4_step_45 : decode cX4_step 45 = .ok (.bipush 8, 2) := by decide +kernel
theorem dX4_step_47 : decode cX4_step 47 = .ok (.dup2, 1) := by decide +kernel
theorem dX4_step_48 : decode cX4_step 48 = .ok (.iaload, 1) := by decide +kernel
theorem dX4_step_49 : decode cX4_step 49 = .ok (.iconst 1, 1) := by decide +kernel
theorem dX4_step_50 : decode cX4_step 50 = .ok (.iadd, 1) := by decide +kernel
theorem dX4_step_51 : decode cX4_step 51 = .ok (.iastore, 1) := by decide +kernel
theorem dX4_step_52 : decode cX4_step 52 = .ok (.iconst 1, 1) := by decide +kernel
theorem dX4_step_53 : decode cX4_step 53 = .ok (.ireturn, 1) := by decide +kernel
theorem dX4_pushNumber_0 : decode cX4_pushNumber 0 = .ok (.iload_n 1, 1) := by decide +kernel
theorem dX4_pushNumber_1 : decode cX4_pushNumber 1 = .ok (.iconst 3, 1) := by decide +kernel
theorem dX4_pushNumber_2 : decode cX4_pushNumber 2 = .ok (.if_icmp .ne 17, 3) := by decide +kernel
theorem dX4_pushNumber_5 : decode cX4_pushNumber 5 = .ok (.aload_n 0, 1) := by decide +kernel
theorem dX4_pushNumber_6 : decode cX4_pushNumber 6 = .ok (.getfield 14, 3) := by decide +kernel
theorem dX4_pushNumber_9 : decode cX4_pushNumber 9 = .ok (.iconst 1, 1) := by decide +kernel
theorem dX4_pushNumber_10 : decode cX4_pushNumber 10 = .ok (.lconst 0, 1) := by decide +kernel
theorem dX4_pushNumber_11 : decode cX4_pushNumber 11 = .ok (.lload_n 2, 1) := by decide +kernel
theorem dX4_pushNumber_12 : decode cX4_pushNumber 12 = .ok (.l2d, 1) := by decide +kernel
theorem dX4_pushNumber_13 : decode cX4_pushNumber 13 = .ok (.invokevirtual 161, 3) := by decide +kernel
theorem dX4_pushNumber_16 : decode cX4_pushNumber 16 = .ok (.goto 13, 3) := by decide +kernel
theorem dX4_pushNumber_19 : decode cX4_pushNumber 19 = .ok (.aload_n 0, 1) := by decide +kernel
theorem dX4_pushNumber_20 : decode cX4_pushNumber 20 = .ok (.getfield 14, 3) := by decide +kernel
theorem dX4_pushNumber_23 : decode cX4_pushNumber 23 = .ok (.iconst 1, 1) := by decide +kernel
theorem dX4_pushNumber_24 : decode cX4_pushNumber 24 = .ok (.lload_n 2, 1) := by decide +kernel
theorem dX4_pushNumber_25 : decode cX4_pushNumber 25 = .ok (.dconst 0, 1) := by decide +kernel
theorem dX4_pushNumber_26 : decode cX4_pushNumber 26 = .ok (.invokevirtual 161, 3) := by decide +kernel
theorem dX4_pushNumber_29 : decode cX4_pushNumber 29 = .ok (.return_, 1) := by decide +kernel
theorem dX4_top_0 : decode cX4_top 0 = .ok (.aload_n 0, 1) := by decide +kernel
theorem dX4_top_1 : decode cX4_top 1 = .ok (.getfield 14, 3) := by decide +kernel
theorem dX4_top_4 : decode cX4_top 4 = .ok (.invokevirtual 105, 3) := by decide +kernel
theorem dX4_top_7 : decode cX4_top 7 = .ok (.iconst 1, 1) := by decide +kernel
theorem dX4_top_8 : decode cX4_top 8 = .ok (.isub, 1) := by decide +kernel
theorem dX4_top_9 : decode cX4_top 9 = .ok (.ireturn, 1) := by decide +kernel
theorem dX4_store_0 : decode cX4_store 0 = .ok (.aload_n 0, 1) := by decide +kernel
theorem dX4_store_1 : decode cX4_store 1 = .ok (.getfield 14, 3) := by decide +kernel
theorem dX4_store_4 : decode cX4_store 4 = .ok (.aload_n 0, 1) := by decide +kernel
theorem dX4_store_5 : decode cX4_store 5 = .ok (.getfield 36, 3) := by decide +kernel
theorem dX4_store_8 : decode cX4_store 8 = .ok (.invokevirtual 183, 3) := by decide +kernel
theorem dX4_store_11 : decode cX4_store 11 = .ok (.iload_n 1, 1) := by decide +kernel
theorem dX4_store_12 : decode cX4_store 12 = .ok (.iadd, 1) := by decide +kernel
theorem dX4_store_13 : decode cX4_store 13 = .ok (.aload_n 0, 1) := by decide +kernel
theorem dX4_store_14 : decode cX4_store 14 = .ok (.getfield 14, 3) := by decide +kernel
theorem dX4_store_17 : decode cX4_store 17 = .ok (.aload_n 0, 1) := by decide +kernel
theorem dX4_store_18 : decode cX4_store 18 = .ok (.invokevirtual 255, 3) := by decide +kernel
theorem dX4_store_21 : decode cX4_store 21 = .ok (.invokevirtual 258, 3) := by decide +kernel
theorem dX4_store_24 : decode cX4_store 24 = .ok (.aload_n 0, 1) := by decide +kernel
theorem dX4_store_25 : decode cX4_store 25 = .ok (.getfield 14, 3) := by decide +kernel
theorem dX4_store_28 : decode cX4_store 28 = .ok (.iconst 1, 1) := by decide +kernel
theorem dX4_store_29 : decode cX4_store 29 = .ok (.invokevirtual 262, 3) := by decide +kernel
theorem dX4_store_32 : decode cX4_store 32 = .ok (.return_, 1) := by decide +kernel
theorem dX4_dropValue_0 : decode cX4_dropValue 0 = .ok (.aload_n 0, 1) := by decide +kernel
theorem dX4_dropValue_1 : decode cX4_dropValue 1 = .ok (.getfield 14, 3) := by decide +kernel
theorem dX4_dropValue_4 : decode cX4_dropValue 4 = .ok (.invokevirtual 265, 3) := by decide +kernel
theorem dX4_dropValue_7 : decode cX4_dropValue 7 = .ok (.iconst 4, 1) := by decide +kernel
theorem dX4_dropValue_8 : decode cX4_dropValue 8 = .ok (.if_icmp .ne 13, 3) := by decide +kernel
theorem dX4_dropValue_11 : decode cX4_dropValue 11 = .ok (.aload_n 0, 1) := by decide +kernel
theorem dX4_dropValue_12 : decode cX4_dropValue 12 = .ok (.getfield 47, 3) := by decide +kernel
theorem dX4_dropValue_15 : decode cX4_dropValue 15 = .ok (.iconst 4, 1) := by decide +kernel
theorem dX4_dropValue_16 : decode cX4_dropValue 16 = .ok (.dup2, 1) := by decide +kernel
theorem dX4_dropValue_17 : decode cX4_dropValue 17 = .ok (.iaload, 1) := by decide +kernel
theorem dX4_dropValue_18 : decode cX4_dropValue 18 = .ok (.iconst 1, 1) := by decide +kernel
theorem dX4_dropValue_19 : decode cX4_dropValue 19 = .ok (.iadd, 1) := by decide +kernel
theorem dX4_dropValue_20 : decode cX4_dropValue 20 = .ok (.iastore, 1) := by decide +kernel
theorem dX4_dropValue_21 : decode cX4_dropValue 21 = .ok (.aload_n 0, 1) := by decide +kernel
theorem dX4_dropValue_22 : decode cX4_dropValue 22 = .ok (.getfield 14, 3) := by decide +kernel
theorem dX4_dropValue_25 : decode cX4_dropValue 25 = .ok (.iconst 1, 1) := by decide +kernel
theorem dX4_dropValue_26 : decode cX4_dropValue 26 = .ok (.invokevirtual 262, 3) := by decide +kernel
theorem dX4_dropValue_29 : decode cX4_dropValue 29 = .ok (.return_, 1) := by decide +kernel
theorem dX4_fails_0 : decode cX4_fails 0 = .ok (.aload_n 0, 1) := by decide +kernel
theorem dX4_fails_1 : decode cX4_fails 1 = .ok (.getfield 14, 3) := by decide +kernel
theorem dX4_fails_4 : decode cX4_fails 4 = .ok (.iload_n 2, 1) := by decide +kernel
theorem dX4_fails_5 : decode cX4_fails 5 = .ok (.invokevirtual 262, 3) := by decide +kernel
theorem dX4_fails_8 : decode cX4_fails 8 = .ok (.aload_n 0, 1) := by decide +kernel
theorem dX4_fails_9 : decode cX4_fails 9 = .ok (.invokevirtual 171, 3) := by decide +kernel
theorem dX4_fails_12 : decode cX4_fails 12 = .ok (.ifCond .eq 42, 3) := by decide +kernel
theorem dX4_fails_15 : decode cX4_fails 15 = .ok (.aload_n 0, 1) := by decide +kernel
theorem dX4_fails_16 : decode cX4_fails 16 = .ok (.aload_n 0, 1) := by decide +kernel
theorem dX4_fails_17 : decode cX4_fails 17 = .ok (.getfield 29, 3) := by decide +kernel
theorem dX4_fails_20 : decode cX4_fails 20 = .ok (.aload_n 0, 1) := by decide +kernel
theorem dX4_fails_21 : decode cX4_fails 21 = .ok (.getfield 36, 3) := by decide +kernel
theorem dX4_fails_24 : decode cX4_fails 24 = .ok (.invokevirtual 268, 3) := by decide +kernel
theorem dX4_fails_27 : decode cX4_fails 27 = .ok (.iload_n 1, 1) := by decide +kernel
theorem dX4_fails_28 : decode cX4_fails 28 = .ok (.aload_n 0, 1) := by decide +kernel
theorem dX4_fails_29 : decode cX4_fails 29 = .ok (.getfield 83, 3) := by decide +kernel
theorem dX4_fails_32 : decode cX4_fails 32 = .ok (.aload_n 0, 1) := by decide +kernel
theorem dX4_fails_33 : decode cX4_fails 33 = .ok (.getfield 51, 3) := by decide +kernel
theorem dX4_fails_36 : decode cX4_fails 36 = .ok (.invokevirtual 271, 3) := by decide +kernel
theorem dX4_fails_39 : decode cX4_fails 39 = .ok (.iconst 0, 1) := by decide +kernel
theorem dX4_fails_40 : decode cX4_fails 40 = .ok (.aload_n 0, 1) := by decide +kernel
theorem dX4_fails_41 : decode cX4_fails 41 = .ok (.getfield 36, 3) := by decide +kernel
theorem dX4_fails_44 : decode cX4_fails 44 = .ok (.invokevirtual 274, 3) := by decide +kernel
theorem dX4_fails_47 : decode cX4_fails 47 = .ok (.iconst (-1), 1) := by decide +kernel
theorem dX4_fails_48 : decode cX4_fails 48 = .ok (.invokevirtual 277, 3) := by decide +kernel
theorem dX4_fails_51 : decode cX4_fails 51 = .ok (.invokevirtual 281, 3) := by decide +kernel
theorem dX4_fails_54 : decode cX4_fails 54 = .ok (.return_, 1) := by decide +kernel
theorem dX4_leaveIfGoing_0 : decode cX4_leaveIfGoing 0 = .ok (.aload_n 0, 1) := by decide +kernel
theorem dX4_leaveIfGoing_1 : decode cX4_leaveIfGoing 1 = .ok (.getfield 58, 3) := by decide +kernel
theorem dX4_leaveIfGoing_4 : decode cX4_leaveIfGoing 4 = .ok (.ifCond .ne 8, 3) := by decide +kernel
theorem dX4_leaveIfGoing_7 : decode cX4_leaveIfGoing 7 = .ok (.aload_n 0, 1) := by decide +kernel
theorem dX4_leaveIfGoing_8 : decode cX4_leaveIfGoing 8 = .ok (.iconst 3, 1) := by decide +kernel
theorem dX4_leaveIfGoing_9 : decode cX4_leaveIfGoing 9 = .ok (.putfield 58, 3) := by decide +kernel
theorem dX4_leaveIfGoing_12 : decode cX4_leaveIfGoing 12 = .ok (.return_, 1) := by decide +kernel
theorem dX4_failsWithTop_0 : decode cX4_failsWithTop 0 = .ok (.aload_n 0, 1) := by decide +kernel
theorem dX4_failsWithTop_1 : decode cX4_failsWithTop 1 = .ok (.invokevirtual 171, 3) := by decide +kernel
theorem dX4_failsWithTop_4 : decode cX4_failsWithTop 4 = .ok (.ifCond .ne 4, 3) := by decide +kernel
theorem dX4_failsWithTop_7 : decode cX4_failsWithTop 7 = .ok (.return_, 1) := by decide +kernel
theorem dX4_failsWithTop_8 : decode cX4_failsWithTop 8 = .ok (.aload_n 0, 1) := by decide +kernel
theorem dX4_failsWithTop_9 : decode cX4_failsWithTop 9 = .ok (.getfield 29, 3) := by decide +kernel
theorem dX4_failsWithTop_12 : decode cX4_failsWithTop 12 = .ok (.aload_n 0, 1) := by decide +kernel
theorem dX4_failsWithTop_13 : decode cX4_failsWithTop 13 = .ok (.getfield 36, 3) := by decide +kernel
theorem dX4_failsWithTop_16 : decode cX4_failsWithTop 16 = .ok (.invokevirtual 268, 3) := by decide +kernel
theorem dX4_failsWithTop_19 : decode cX4_failsWithTop 19 = .ok (.iload_n 1, 1) := by decide +kernel
theorem dX4_failsWithTop_20 : decode cX4_failsWithTop 20 = .ok (.aload_n 0, 1) := by decide +kernel
theorem dX4_failsWithTop_21 : decode cX4_failsWithTop 21 = .ok (.getfield 83, 3) := by decide +kernel
theorem dX4_failsWithTop_24 : decode cX4_failsWithTop 24 = .ok (.aload_n 0, 1) := by decide +kernel
theorem dX4_failsWithTop_25 : decode cX4_failsWithTop 25 = .ok (.getfield 51, 3) := by decide +kernel
theorem dX4_failsWithTop_28 : decode cX4_failsWithTop 28 = .ok (.invokevirtual 271, 3) := by decide +kernel
theorem dX4_failsWithTop_31 : decode cX4_failsWithTop 31 = .ok (.iconst 0, 1) := by decide +kernel
theorem dX4_failsWithTop_32 : decode cX4_failsWithTop 32 = .ok (.aload_n 0, 1) := by decide +kernel
theorem dX4_failsWithTop_33 : decode cX4_failsWithTop 33 = .ok (.getfield 36, 3) := by decide +kernel
theorem dX4_failsWithTop_36 : decode cX4_failsWithTop 36 = .ok (.invokevirtual 274, 3) := by decide +kernel
theorem dX4_failsWithTop_39 : decode cX4_failsWithTop 39 = .ok (.iconst (-1), 1) := by decide +kernel
theorem dX4_failsWithTop_40 : decode cX4_failsWithTop 40 = .ok (.invokevirtual 277, 3) := by decide +kernel
theorem dX4_failsWithTop_43 : decode cX4_failsWithTop 43 = .ok (.istore_n 2, 1) := by decide +kernel
theorem dX4_failsWithTop_44 : decode cX4_failsWithTop 44 = .ok (.aload_n 0, 1) := by decide +kernel
theorem dX4_failsWithTop_45 : decode cX4_failsWithTop 45 = .ok (.getfield 29, 3) := by decide +kernel
theorem dX4_failsWithTop_48 : decode cX4_failsWithTop 48 = .ok (.invokevirtual 284, 3) := by decide +kernel
theorem dX4_failsWithTop_51 : decode cX4_failsWithTop 51 = .ok (.iload_n 2, 1) := by decide +kernel
theorem dX4_failsWithTop_52 : decode cX4_failsWithTop 52 = .ok (.aload_n 0, 1) := by decide +kernel
theorem dX4_failsWithTop_53 : decode cX4_failsWithTop 53 = .ok (.getfield 14, 3) := by decide +kernel
theorem dX4_failsWithTop_56 : decode cX4_failsWithTop 56 = .ok (.aload_n 0, 1) := by decide +kernel
theorem dX4_failsWithTop_57 : decode cX4_failsWithTop 57 = .ok (.invokevirtual 255, 3) := by decide +kernel
theorem dX4_failsWithTop_60 : decode cX4_failsWithTop 60 = .ok (.invokevirtual 258, 3) := by decide +kernel
theorem dX4_failsWithTop_63 : decode cX4_failsWithTop 63 = .ok (.aload_n 0, 1) := by decide +kernel
theorem dX4_failsWithTop_64 : decode cX4_failsWithTop 64 = .ok (.getfield 14, 3) := by decide +kernel
theorem dX4_failsWithTop_67 : decode cX4_failsWithTop 67 = .ok (.iconst 1, 1) := by decide +kernel
theorem dX4_failsWithTop_68 : decode cX4_failsWithTop 68 = .ok (.invokevirtual 262, 3) := by decide +kernel
theorem dX4_failsWithTop_71 : decode cX4_failsWithTop 71 = .ok (.aload_n 0, 1) := by decide +kernel
theorem dX4_failsWithTop_72 : decode cX4_failsWithTop 72 = .ok (.iload_n 2, 1) := by decide +kernel
theorem dX4_failsWithTop_73 : decode cX4_failsWithTop 73 = .ok (.invokevirtual 281, 3) := by decide +kernel
theorem dX4_failsWithTop_76 : decode cX4_failsWithTop 76 = .ok (.return_, 1) := by decide +kernel
theorem dX4_give_0 : decode cX4_give 0 = .ok (.aload_n 0, 1) := by decide +kernel
theorem dX4_give_1 : decode cX4_give 1 = .ok (.getfield 36, 3) := by decide +kernel
theorem dX4_give_4 : decode cX4_give 4 = .ok (.invokevirtual 268, 3) := by decide +kernel
theorem dX4_give_7 : decode cX4_give 7 = .ok (.istore_n 2, 1) := by decide +kernel
theorem dX4_give_8 : decode cX4_give 8 = .ok (.iload_n 2, 1) := by decide +kernel
theorem dX4_give_9 : decode cX4_give 9 = .ok (.iconst 2, 1) := by decide +kernel
theorem dX4_give_10 : decode cX4_give 10 = .ok (.if_icmp .ne 15, 3) := by decide +kernel
theorem dX4_give_13 : decode cX4_give 13 = .ok (.aload_n 0, 1) := by decide +kernel
theorem dX4_give_14 : decode cX4_give 14 = .ok (.getfield 14, 3) := by decide +kernel
theorem dX4_give_17 : decode cX4_give 17 = .ok (.iconst 4, 1) := by decide +kernel
theorem dX4_give_18 : decode cX4_give 18 = .ok (.iload_n 1, 1) := by decide +kernel
theorem dX4_give_19 : decode cX4_give 19 = .ok (.i2l, 1) := by decide +kernel
theorem dX4_give_20 : decode cX4_give 20 = .ok (.dconst 0, 1) := by decide +kernel
theorem dX4_give_21 : decode cX4_give 21 = .ok (.invokevirtual 161, 3) := by decide +kernel
theorem dX4_give_24 : decode cX4_give 24 = .ok (.return_, 1) := by decide +kernel
theorem dX4_give_25 : decode cX4_give 25 = .ok (.iload_n 2, 1) := by decide +kernel
theorem dX4_give_26 : decode cX4_give 26 = .ok (.iconst 1, 1) := by decide +kernel
theorem dX4_give_27 : decode cX4_give 27 = .ok (.if_icmp .ne 19, 3) := by decide +kernel
theorem dX4_give_30 : decode cX4_give 30 = .ok (.aload_n 0, 1) := by decide +kernel
theorem dX4_give_31 : decode cX4_give 31 = .ok (.getfield 47, 3) := by decide +kernel
theorem dX4_give_34 : decode cX4_give 34 = .ok (.bipush 9, 2) := by decide +kernel
theorem dX4_give_36 : decode cX4_give 36 = .ok (.aload_n 0, 1) := by decide +kernel
theorem dX4_give_37 : decode cX4_give 37 = .ok (.getfield 29, 3) := by decide +kernel
theorem dX4_give_40 : decode cX4_give 40 = .ok (.iload_n 1, 1) := by decide +kernel
theorem dX4_give_41 : decode cX4_give 41 = .ok (.iconst 1, 1) := by decide +kernel
theorem dX4_give_42 : decode cX4_give 42 = .ok (.invokevirtual 113, 3) := by decide +kernel
theorem dX4_give_45 : decode cX4_give 45 = .ok (.iastore, 1) := by decide +kernel
theorem dX4_give_46 : decode cX4_give 46 = .ok (.aload_n 0, 1) := by decide +kernel
theorem dX4_give_47 : decode cX4_give 47 = .ok (.iload_n 1, 1) := by decide +kernel
theorem dX4_give_48 : decode cX4_give 48 = .ok (.putfield 61, 3) := by decide +kernel
theorem dX4_give_51 : decode cX4_give 51 = .ok (.aload_n 0, 1) := by decide +kernel
theorem dX4_give_52 : decode cX4_give 52 = .ok (.iconst 1, 1) := by decide +kernel
theorem dX4_give_53 : decode cX4_give 53 = .ok (.putfield 58, 3) := by decide +kernel
theorem dX4_give_56 : decode cX4_give 56 = .ok (.return_, 1) := by decide +kernel
set_option maxHeartbeats 4000000 in
set_option maxRecDepth 100000 in
theorem c_X4_told (ω : Om) (l : Launch) (μ : M3) (x1 : Int) (hx1 : ir x1) (hI : IC μ) : CtI ω l yX4_told cX4_told 2 .int 0 0 [.ref (oP ω 32), .int (iv x1)] μ (fun (r : Int) (μ' : M3) => (μ' = μ)) := by
  refine CtI.go (by decide) (Nat.le_of_ble_eq_true rfl) (fun ρ p e s m below meth c R ls G hR hret hlk hl => ?_)
  have hx := G.1.1
  have hb := G.1.2.1
  have hl : lv_has ls 2 [(0, .ref (oP ω 32)), (1, .int (iv x1))] := hl
  generalize s.drawn = d0 at G ⊢
  have hr_x1 : -2147483648 ≤ x1 ∧ x1 ≤ 2147483647 := hx1
  refine lv_iload_n hx hb dX4_told_0 rfl (lv_at hl 1 rfl) ?_
  refine xb_if_lt (tgt := 19) hx hb (by unfold ir; omega) dX4_told_1 (by decide) (fun c_1 => ?_) (fun c_1 => ?_)
  · refine lv_iconst (v := iv (-1)) hx hb dX4_told_19 rfl ?_
    exact xr_i G (x := (-1)) hret hlk (by unfold ir; omega) rfl dX4_told_20 rfl
  · refine lv_iload_n hx hb dX4_told_4 rfl (lv_at hl 1 rfl) ?_
    refine lv_bipush (v := iv 10) hx hb dX4_told_5 rfl ?_
    refine xb_icmp_ge (tgt := 19) hx hb (by unfold ir; omega) (by unfold ir; omega) dX4_told_7 (by decide) (fun c_7 => ?_) (fun c_7 => ?_)
    · refine lv_iconst (v := iv (-1)) hx hb dX4_told_19 rfl ?_
      exact xr_i G (x := (-1)) hret hlk (by unfold ir; omega) rfl dX4_told_20 rfl
    · refine lv_aload_n hx hb dX4_told_10 rfl (lv_at hl 0 rfl) ?_
      refine xa_getr G fd_X4 (a := 32) (x := 70) 9 rfl (by decide) rfl (wm 2 153 rfl rfl) ⟨rfl, rfl, rfl⟩ dX4_told_11 rfl (G.sk 42 rfl) (by decide) rfl ?_
      refine lv_iload_n hx hb dX4_told_14 rfl (lv_at hl 1 rfl) ?_
      refine xa_iald G (a := 70) (i := x1) rfl (by have h9 := G.lc (a := 70) (n := 10) 33 rfl; omega) dX4_told_15 rfl ?_
      have hr_1 : -2147483648 ≤ μ.1 70 x1 ∧ μ.1 70 x1 ≤ 2147483647 := by have h9 := G.hr (a := 70) (k := x1) rfl; exact h9
      refine lv_goto (tgt := 20) hx hb dX4_told_16 (by decide) ?_
      exact xr_i G (x := μ.1 70 x1) hret hlk (by unfold ir; omega) rfl dX4_told_20 rfl

set_option maxHeartbeats 4000000 in
set_option maxRecDepth 100000 in
theorem c_X4_answered (ω : Om) (l : Launch) (μ : M3) (hI : IC μ) : CtL ω l yX4_answered cX4_answered 1 0 0 [.ref (oP ω 32)] μ (fun (r : Int) (μ' : M3) => (μ' = μ)) := by
  refine CtL.go (by decide) (Nat.le_of_ble_eq_true rfl) (fun ρ p e s m below meth c R ls G hR hret hlk hl => ?_)
  have hx := G.1.1
  have hb := G.1.2.1
  have hl : lv_has ls 1 [(0, .ref (oP ω 32))] := hl
  generalize s.drawn = d0 at G ⊢
  refine lv_aload_n hx hb dX4_answered_0 rfl (lv_at hl 0 rfl) ?_
  refine xa_getl G fd_X4 (a := 32) (x := μ.1 32 16) 16 rfl (by decide) rfl (wm 2 160 rfl rfl) ⟨rfl, rfl, rfl⟩ dX4_answered_1 rfl rfl ?_
  have hj_1 : jr (μ.1 32 16) := by have h9 := G.hj (a := 32) (k := 16) rfl; exact h9
  exact xr_l G (x := μ.1 32 16) hret hlk hj_1 dX4_answered_4 rfl

set_option maxHeartbeats 4000000 in
set_option maxRecDepth 100000 in
theorem c_X4_markOf (ω : Om) (l : Launch) (μ : M3) (x1 : Int) (hx1 : ir x1) (hI : IC μ) : CtL ω l yX4_markOf cX4_markOf 2 1 28 [.ref (oP ω 32), .int (iv x1)] μ (fun (r : Int) (μ' : M3) => (μ' = μ)) := by
  refine CtL.go (by decide) (Nat.le_of_ble_eq_true rfl) (fun ρ p e s m below meth c R ls G hR hret hlk hl => ?_)
  have hx := G.1.1
  have hb := G.1.2.1
  have hl : lv_has ls 2 [(0, .ref (oP ω 32)), (1, .int (iv x1))] := hl
  generalize s.drawn = d0 at G ⊢
  have hr_x1 : -2147483648 ≤ x1 ∧ x1 ≤ 2147483647 := hx1
  refine lv_aload_n hx hb dX4_markOf_0 rfl (lv_at hl 0 rfl) ?_
  refine xa_getr G fd_X4 (a := 32) (x := 41) 5 rfl (by decide) rfl (wm 2 149 rfl rfl) ⟨rfl, rfl, rfl⟩ dX4_markOf_1 rfl (G.sk 38 rfl) (by decide) rfl ?_
  refine lv_iload_n hx hb dX4_markOf_4 rfl (lv_at hl 1 rfl) ?_
  refine xc_iV G (b := 41) (rest := []) (As := [.int (iv x1)]) (c_X9_kind ω l μ 41 x1 (by unfold isRow; decide) (by unfold ir; omega) hI) (wm 6 146 rfl rfl) (wm 5 156 rfl rfl) (wm 5 157 rfl rfl) rfl rfl (by decide) rfl (wm 1 10 rfl rfl) (wm 5 158 rfl rfl) (by decide) hR (by decide) (n := 1) rfl rfl (Nat.le_of_ble_eq_true rfl) hl.1 dX4_markOf_5 (fun r_2 μ1 ρ d0 H locs hr_r_2 hp G => ?_)
  have hr_r_2 : -2147483648 ≤ r_2 ∧ r_2 ≤ 2147483647 := hr_r_2
  have hsm_3 := hp
  have hsm_3 := Eq.symm hsm_3
  subst hsm_3
  refine lv_iconst (v := iv 3) hx hb dX4_markOf_8 rfl ?_
  refine xb_icmp_ne (tgt := 26) hx hb (by unfold ir; omega) (by unfold ir; omega) dX4_markOf_9 (by decide) (fun c_9 => ?_) (fun c_9 => ?_)
  · refine lv_aload_n hx hb dX4_markOf_26 rfl (lv_at hl 0 rfl) ?_
    refine xa_getr G fd_X4 (a := 32) (x := 41) 5 rfl (by decide) rfl (wm 2 149 rfl rfl) ⟨rfl, rfl, rfl⟩ dX4_markOf_27 rfl (G.sk 38 rfl) (by decide) rfl ?_
    refine lv_iload_n hx hb dX4_markOf_30 rfl (lv_at hl 1 rfl) ?_
    refine xc_lV G (b := 41) (rest := []) (As := [.int (iv x1)]) (c_X9_whole ω l μ 41 x1 (by unfold isRow; decide) (by unfold ir; omega) hI) (wm 6 84 rfl rfl) (wm 5 160 rfl rfl) (wm 5 161 rfl rfl) rfl rfl (by decide) rfl (wm 1 10 rfl rfl) (wm 5 162 rfl rfl) (by decide) hR (by decide) (n := 1) rfl rfl (Nat.le_of_ble_eq_true rfl) hl.1 dX4_markOf_31 (fun r_5 μ4 ρ d0 H locs hr_r_5 hp G => ?_)
    have hsm_6 := hp
    have hsm_6 := Eq.symm hsm_6
    subst hsm_6
    exact xr_l G (x := r_5) hret hlk hr_r_5 dX4_markOf_34 rfl
  · refine lv_aload_n hx hb dX4_markOf_12 rfl (lv_at hl 0 rfl) ?_
    refine xa_getr G fd_X4 (a := 32) (x := 41) 5 rfl (by decide) rfl (wm 2 149 rfl rfl) ⟨rfl, rfl, rfl⟩ dX4_markOf_13 rfl (G.sk 38 rfl) (by decide) rfl ?_
    refine lv_iload_n hx hb dX4_markOf_16 rfl (lv_at hl 1 rfl) ?_
    refine xc_dV G (b := 41) (rest := []) (As := [.int (iv x1)]) (c_X9_real ω l μ 41 x1 (by unfold isRow; decide) (by unfold ir; omega) hI) (wm 6 106 rfl rfl) (wm 5 206 rfl rfl) (wm 5 207 rfl rfl) rfl rfl (by decide) rfl (wm 1 10 rfl rfl) (wm 5 208 rfl rfl) (by decide) hR (by decide) (n := 1) rfl rfl (Nat.le_of_ble_eq_true rfl) hl.1 dX4_markOf_17 (fun r_8 μ7 ρ d0 H locs hp G => ?_)
    have hsm_9 := hp
    have hsm_9 := Eq.symm hsm_9
    subst hsm_9
    refine xc_lS G (rest := []) (As := [.double (dv r_8)]) (c_X6_bits ω l μ r_8 ) (wm 6 107 rfl rfl) (wm 6 108 rfl rfl) (wm 1 20 rfl rfl) (wm 6 109 rfl rfl) (by decide) hR (by decide) (n := 1) rfl rfl (Nat.le_of_ble_eq_true rfl) hl.1 dX4_markOf_20 (fun r_11 μ10 ρ d0 H locs hr_r_11 hp G => ?_)
    have hsm_12 := hp
    have hsm_12 := Eq.symm hsm_12
    subst hsm_12
    refine lv_goto (tgt := 34) hx hb dX4_markOf_23 (by decide) ?_
    exact xr_l G (x := r_11) hret hlk hr_r_11 dX4_markOf_34 rfl

set_option maxHeartbeats 4000000 in
set_option maxRecDepth 100000 in
theorem c_X4_tongueOfMark (ω : Om) (l : Launch) (μ : M3) (x1 : Int) (hx1 : ir x1) (hI : IC μ) : CtI ω l yX4_tongueOfMark cX4_tongueOfMark 2 .int 1 21 [.ref (oP ω 32), .int (iv x1)] μ (fun (r : Int) (μ' : M3) => (μ' = μ)) := by
  refine CtI.go (by decide) (Nat.le_of_ble_eq_true rfl) (fun ρ p e s m below meth c R ls G hR hret hlk hl => ?_)
  have hx := G.1.1
  have hb := G.1.2.1
  have hl : lv_has ls 2 [(0, .ref (oP ω 32)), (1, .int (iv x1))] := hl
  generalize s.drawn = d0 at G ⊢
  have hr_x1 : -2147483648 ≤ x1 ∧ x1 ≤ 2147483647 := hx1
  refine lv_iload_n hx hb dX4_tongueOfMark_0 rfl (lv_at hl 1 rfl) ?_
  refine xb_if_lt (tgt := 26) hx hb (by unfold ir; omega) dX4_tongueOfMark_1 (by decide) (fun c_1 => ?_) (fun c_1 => ?_)
  · refine lv_iconst (v := iv (-1)) hx hb dX4_tongueOfMark_26 rfl ?_
    exact xr_i G (x := (-1)) hret hlk (by unfold ir; omega) rfl dX4_tongueOfMark_27 rfl
  · refine lv_iload_n hx hb dX4_tongueOfMark_4 rfl (lv_at hl 1 rfl) ?_
    refine lv_aload_n hx hb dX4_tongueOfMark_5 rfl (lv_at hl 0 rfl) ?_
    refine xa_getr G fd_X4 (a := 32) (x := 41) 5 rfl (by decide) rfl (wm 2 149 rfl rfl) ⟨rfl, rfl, rfl⟩ dX4_tongueOfMark_6 rfl (G.sk 38 rfl) (by decide) rfl ?_
    have hk_1 := hI.row (r := 41) (by unfold isRow; decide)
    unfold rk at hk_1
    simp only [Int.reduceAdd] at hk_1
    have hbr_41 : BR 41 = 210 := rfl
    refine xc_iV G (b := 41) (rest := [.int (iv x1)]) (As := []) (c_X9_count ω l μ 41 (by unfold isRow; decide) hI) (wm 5 79 rfl rfl) (wm 4 81 rfl rfl) (wm 4 82 rfl rfl) rfl rfl (by decide) rfl (wm 1 10 rfl rfl) (wm 4 83 rfl rfl) (by decide) hR (by decide) (n := 0) rfl rfl (Nat.le_of_ble_eq_true rfl) hl.1 dX4_tongueOfMark_9 (fun r_3 μ2 ρ d0 H locs hr_r_3 hp G => ?_)
    have hr_r_3 : -2147483648 ≤ r_3 ∧ r_3 ≤ 2147483647 := hr_r_3
    obtain ⟨hsm_4, hp_5⟩ := hp
    have hsm_4 := Eq.symm hsm_4
    subst hsm_4
    refine xb_icmp_ge (tgt := 26) hx hb (by unfold ir; omega) (by unfold ir; omega) dX4_tongueOfMark_12 (by decide) (fun c_12 => ?_) (fun c_12 => ?_)
    · refine lv_iconst (v := iv (-1)) hx hb dX4_tongueOfMark_26 rfl ?_
      exact xr_i G (x := (-1)) hret hlk (by unfold ir; omega) rfl dX4_tongueOfMark_27 rfl
    · refine lv_aload_n hx hb dX4_tongueOfMark_15 rfl (lv_at hl 0 rfl) ?_
      refine xa_getr G fd_X4 (a := 32) (x := 41) 5 rfl (by decide) rfl (wm 2 149 rfl rfl) ⟨rfl, rfl, rfl⟩ dX4_tongueOfMark_16 rfl (G.sk 38 rfl) (by decide) rfl ?_
      refine lv_iload_n hx hb dX4_tongueOfMark_19 rfl (lv_at hl 1 rfl) ?_
      refine xc_iV G (b := 41) (rest := []) (As := [.int (iv x1)]) (c_X9_kind ω l μ 41 x1 (by unfold isRow; decide) (by unfold ir; omega) hI) (wm 6 146 rfl rfl) (wm 5 156 rfl rfl) (wm 5 157 rfl rfl) rfl rfl (by decide) rfl (wm 1 10 rfl rfl) (wm 5 158 rfl rfl) (by decide) hR (by decide) (n := 1) rfl rfl (Nat.le_of_ble_eq_true rfl) hl.1 dX4_tongueOfMark_20 (fun r_7 μ6 ρ d0 H locs hr_r_7 hp G => ?_)
      have hr_r_7 : -2147483648 ≤ r_7 ∧ r_7 ≤ 2147483647 := hr_r_7
      have hsm_8 := hp
      have hsm_8 := Eq.symm hsm_8
      subst hsm_8
      refine lv_goto (tgt := 27) hx hb dX4_tongueOfMark_23 (by decide) ?_
      exact xr_i G (x := r_7) hret hlk (by unfold ir; omega) rfl dX4_tongueOfMark_27 rfl

set_option maxHeartbeats 4000000 in
set_option maxRecDepth 100000 in
theorem c_X4_factOf (ω : Om) (l : Launch) (μ : M3) (x1 : Int) (x2 : Int) (hx1 : ir x1) (hx2 : ir x2) (hI : IC μ) : CtI ω l yX4_factOf cX4_factOf 3 .int 3 67 [.ref (oP ω 32), .int (iv x1), .int (iv x2)] μ (fun (r : Int) (μ' : M3) => (μ' = μ)) := by
  refine CtI.go (by decide) (Nat.le_of_ble_eq_true rfl) (fun ρ p e s m below meth c R ls G hR hret hlk hl => ?_)
  have hx := G.1.1
  have hb := G.1.2.1
  have hl : lv_has ls 3 [(0, .ref (oP ω 32)), (1, .int (iv x1)), (2, .int (iv x2))] := hl
  generalize s.drawn = d0 at G ⊢
  have hr_x1 : -2147483648 ≤ x1 ∧ x1 ≤ 2147483647 := hx1
  have hr_x2 : -2147483648 ≤ x2 ∧ x2 ≤ 2147483647 := hx2
  refine lv_iload_n hx hb dX4_factOf_0 rfl (lv_at hl 2 rfl) ?_
  refine lv_bipush (v := iv 6) hx hb dX4_factOf_1 rfl ?_
  refine xb_icmp_le (tgt := 10) hx hb (by unfold ir; omega) (by unfold ir; omega) dX4_factOf_3 (by decide) (fun c_3 => ?_) (fun c_3 => ?_)
  · refine lv_aload_n hx hb dX4_factOf_10 rfl (lv_at hl 0 rfl) ?_
    refine xa_getr G fd_X4 (a := 32) (x := 45) 6 rfl (by decide) rfl (wm 2 150 rfl rfl) ⟨rfl, rfl, rfl⟩ dX4_factOf_11 rfl (G.sk 39 rfl) (by decide) rfl ?_
    refine lv_aload_n hx hb dX4_factOf_14 rfl (lv_at hl 0 rfl) ?_
    refine xa_getr G fd_X4 (a := 32) (x := 45) 6 rfl (by decide) rfl (wm 2 150 rfl rfl) ⟨rfl, rfl, rfl⟩ dX4_factOf_15 rfl (G.sk 39 rfl) (by decide) rfl ?_
    refine lv_aload_n hx hb dX4_factOf_18 rfl (lv_at hl 0 rfl) ?_
    refine xa_geti G fd_X4 (a := 32) (x := μ.1 32 15) 15 rfl (by decide) rfl (wm 2 159 rfl rfl) ⟨rfl, rfl, rfl⟩ dX4_factOf_19 rfl rfl ?_
    have hr_1 : -2147483648 ≤ μ.1 32 15 ∧ μ.1 32 15 ≤ 2147483647 := by have h9 := G.hr (a := 32) (k := 15) rfl; exact h9
    refine lv_iload_n hx hb dX4_factOf_22 rfl (lv_at hl 1 rfl) ?_
    refine xc_iV G (b := 45) (rest := [.ref (oP ω 45)]) (As := [.int (iv (μ.1 32 15)), .int (iv x1)]) (c_X1_source ω l μ (μ.1 32 15) x1 (by unfold ir; omega) (by unfold ir; omega) hI) (wm 7 118 rfl rfl) (wm 7 119 rfl rfl) (wm 7 120 rfl rfl) rfl rfl (by decide) rfl (wm 1 15 rfl rfl) (wm 7 121 rfl rfl) (by decide) hR (by decide) (n := 2) rfl rfl (Nat.le_of_ble_eq_true rfl) hl.1 dX4_factOf_23 (fun r_3 μ2 ρ d0 H locs hr_r_3 hp G => ?_)
    have hr_r_3 : -2147483648 ≤ r_3 ∧ r_3 ≤ 2147483647 := hr_r_3
    have hsm_4 := hp
    have hsm_4 := Eq.symm hsm_4
    subst hsm_4
    refine lv_iload_n hx hb dX4_factOf_26 rfl (lv_at hl 2 rfl) ?_
    have hn_5 : 0 ≤ μ.1 45 1 ∧ 9 * μ.1 45 1 ≤ μ.2.1 46 := hI.nm.2.2.2.2.2.2.1
    have hn_6 : 0 ≤ μ.1 45 4 ∧ 2 * μ.1 45 4 ≤ μ.2.1 51 := hI.nm.2.2.2.2.2.2.2.1
    refine xc_iV G (b := 45) (rest := []) (As := [.int (iv r_3), .int (iv x2)]) (c_X1_fact ω l μ r_3 x2 (μ.1 45 1) (μ.1 45 4) (by unfold ir; omega) (by unfold ir; omega) hI (by omega) (by omega)) (wm 5 168 rfl rfl) (wm 5 169 rfl rfl) (wm 5 170 rfl rfl) rfl rfl (by decide) rfl (wm 1 15 rfl rfl) (wm 5 171 rfl rfl) (by decide) hR (by decide) (n := 2) rfl rfl (Nat.le_of_ble_eq_true rfl) hl.1 dX4_factOf_27 (fun r_8 μ7 ρ d0 H locs hr_r_8 hp G => ?_)
    have hr_r_8 : -2147483648 ≤ r_8 ∧ r_8 ≤ 2147483647 := hr_r_8
    have hsm_9 := hp
    have hsm_9 := Eq.symm hsm_9
    subst hsm_9
    exact xr_i G (x := r_8) hret hlk (by unfold ir; omega) rfl dX4_factOf_30 rfl
  · refine lv_iconst (v := iv (-1)) hx hb dX4_factOf_6 rfl ?_
    refine lv_goto (tgt := 30) hx hb dX4_factOf_7 (by decide) ?_
    exact xr_i G (x := (-1)) hret hlk (by unfold ir; omega) rfl dX4_factOf_30 rfl

set_option maxHeartbeats 4000000 in
set_option maxRecDepth 100000 in
theorem c_X4_factUnder (ω : Om) (l : Launch) (μ : M3) (x1 : Int) (x2 : Int) (x3 : Int) (hx1 : ir x1) (hx2 : ir x2) (hx3 : ir x3) (hI : IC μ) : CtI ω l yX4_factUnder cX4_factUnder 5 .int 3 67 [.ref (oP ω 32), .int (iv x1), .int (iv x2), .int (iv x3)] μ (fun (r : Int) (μ' : M3) => (μ' = μ)) := by
  refine CtI.go (by decide) (Nat.le_of_ble_eq_true rfl) (fun ρ p e s m below meth c R ls G hR hret hlk hl => ?_)
  have hx := G.1.1
  have hb := G.1.2.1
  have hl : lv_has ls 5 [(0, .ref (oP ω 32)), (1, .int (iv x1)), (2, .int (iv x2)), (3, .int (iv x3))] := hl
  generalize s.drawn = d0 at G ⊢
  have hr_x1 : -2147483648 ≤ x1 ∧ x1 ≤ 2147483647 := hx1
  have hr_x2 : -2147483648 ≤ x2 ∧ x2 ≤ 2147483647 := hx2
  have hr_x3 : -2147483648 ≤ x3 ∧ x3 ≤ 2147483647 := hx3
  refine lv_aload_n hx hb dX4_factUnder_0 rfl (lv_at hl 0 rfl) ?_
  refine xa_getr G fd_X4 (a := 32) (x := 45) 6 rfl (by decide) rfl (wm 2 150 rfl rfl) ⟨rfl, rfl, rfl⟩ dX4_factUnder_1 rfl (G.sk 39 rfl) (by decide) rfl ?_
  refine lv_aload_n hx hb dX4_factUnder_4 rfl (lv_at hl 0 rfl) ?_
  refine xa_getr G fd_X4 (a := 32) (x := 45) 6 rfl (by decide) rfl (wm 2 150 rfl rfl) ⟨rfl, rfl, rfl⟩ dX4_factUnder_5 rfl (G.sk 39 rfl) (by decide) rfl ?_
  refine lv_aload_n hx hb dX4_factUnder_8 rfl (lv_at hl 0 rfl) ?_
  refine xa_geti G fd_X4 (a := 32) (x := μ.1 32 15) 15 rfl (by decide) rfl (wm 2 159 rfl rfl) ⟨rfl, rfl, rfl⟩ dX4_factUnder_9 rfl rfl ?_
  have hr_1 : -2147483648 ≤ μ.1 32 15 ∧ μ.1 32 15 ≤ 2147483647 := by have h9 := G.hr (a := 32) (k := 15) rfl; exact h9
  refine lv_iload_n hx hb dX4_factUnder_12 rfl (lv_at hl 1 rfl) ?_
  refine xc_iV G (b := 45) (rest := [.ref (oP ω 45)]) (As := [.int (iv (μ.1 32 15)), .int (iv x1)]) (c_X1_source ω l μ (μ.1 32 15) x1 (by unfold ir; omega) (by unfold ir; omega) hI) (wm 7 118 rfl rfl) (wm 7 119 rfl rfl) (wm 7 120 rfl rfl) rfl rfl (by decide) rfl (wm 1 15 rfl rfl) (wm 7 121 rfl rfl) (by decide) hR (by decide) (n := 2) rfl rfl (Nat.le_of_ble_eq_true rfl) hl.1 dX4_factUnder_13 (fun r_3 μ2 ρ d0 H locs hr_r_3 hp G => ?_)
  have hr_r_3 : -2147483648 ≤ r_3 ∧ r_3 ≤ 2147483647 := hr_r_3
  have hsm_4 := hp
  have hsm_4 := Eq.symm hsm_4
  subst hsm_4
  refine lv_iload_n hx hb dX4_factUnder_16 rfl (lv_at hl 2 rfl) ?_
  have hn_5 : 0 ≤ μ.1 45 1 ∧ 9 * μ.1 45 1 ≤ μ.2.1 46 := hI.nm.2.2.2.2.2.2.1
  have hn_6 : 0 ≤ μ.1 45 4 ∧ 2 * μ.1 45 4 ≤ μ.2.1 51 := hI.nm.2.2.2.2.2.2.2.1
  refine xc_iV G (b := 45) (rest := []) (As := [.int (iv r_3), .int (iv x2)]) (c_X1_lower ω l μ r_3 x2 (μ.1 45 1) (μ.1 45 4) (by unfold ir; omega) (by unfold ir; omega) hI (by omega) (by omega)) (wm 7 131 rfl rfl) (wm 7 132 rfl rfl) (wm 7 133 rfl rfl) rfl rfl (by decide) rfl (wm 1 15 rfl rfl) (wm 7 134 rfl rfl) (by decide) hR (by decide) (n := 2) rfl rfl (Nat.le_of_ble_eq_true rfl) hl.1 dX4_factUnder_17 (fun r_8 μ7 ρ d0 H locs hr_r_8 hp G => ?_)
  have hr_r_8 : -2147483648 ≤ r_8 ∧ r_8 ≤ 2147483647 := hr_r_8
  have hsm_9 := hp
  have hsm_9 := Eq.symm hsm_9
  subst hsm_9
  refine lv_istore (lv' := [(4, .int (iv r_8)), (0, .ref (oP ω 32)), (1, .int (iv x1)), (2, .int (iv x2)), (3, .int (iv x3))]) hx hb dX4_factUnder_20 hl (by decide) rfl (fun ls hl => ?_)
  refine lv_iload_n hx hb dX4_factUnder_22 rfl (lv_at hl 4 rfl) ?_
  refine lv_bipush (v := iv 6) hx hb dX4_factUnder_23 rfl ?_
  refine xb_icmp_le (tgt := 32) hx hb (by unfold ir; omega) (by unfold ir; omega) dX4_factUnder_25 (by decide) (fun c_25 => ?_) (fun c_25 => ?_)
  · refine lv_aload_n hx hb dX4_factUnder_32 rfl (lv_at hl 1 rfl) ?_
    refine xa_getr G fd_X4 (a := 32) (x := 45) 6 rfl (by decide) rfl (wm 2 150 rfl rfl) ⟨rfl, rfl, rfl⟩ dX4_factUnder_33 rfl (G.sk 39 rfl) (by decide) rfl ?_
    refine lv_iload hx hb dX4_factUnder_36 (lv_at hl 0 rfl) ?_
    refine lv_iload_n hx hb dX4_factUnder_38 rfl (lv_at hl 4 rfl) ?_
    refine xc_iV G (b := 45) (rest := []) (As := [.int (iv r_8), .int (iv x3)]) (c_X1_fact ω l μ r_8 x3 (μ.1 45 1) (μ.1 45 4) (by unfold ir; omega) (by unfold ir; omega) hI (by omega) (by omega)) (wm 5 168 rfl rfl) (wm 5 169 rfl rfl) (wm 5 170 rfl rfl) rfl rfl (by decide) rfl (wm 1 15 rfl rfl) (wm 5 171 rfl rfl) (by decide) hR (by decide) (n := 2) rfl rfl (Nat.le_of_ble_eq_true rfl) hl.1 dX4_factUnder_39 (fun r_11 μ10 ρ d0 H locs hr_r_11 hp G => ?_)
    have hr_r_11 : -2147483648 ≤ r_11 ∧ r_11 ≤ 2147483647 := hr_r_11
    have hsm_12 := hp
    have hsm_12 := Eq.symm hsm_12
    subst hsm_12
    exact xr_i G (x := r_11) hret hlk (by unfold ir; omega) rfl dX4_factUnder_42 rfl
  · refine lv_iconst (v := iv (-1)) hx hb dX4_factUnder_28 rfl ?_
    refine lv_goto (tgt := 42) hx hb dX4_factUnder_29 (by decide) ?_
    exact xr_i G (x := (-1)) hret hlk (by unfold ir; omega) rfl dX4_factUnder_42 rfl

set_option maxHeartbeats 4000000 in
set_option maxRecDepth 100000 in
theorem c_X4_end (ω : Om) (l : Launch) (μ : M3) (x1 : Int) (hx1 : ir x1) (hI : IC μ) : CtV ω l yX4_end cX4_end 2 0 0 [.ref (oP ω 32), .int (iv x1)] μ (fun (μ' : M3) => (Fr [70, 32] μ μ') ∧ (IC μ') ∧ (μ'.1 32 13 = 4) ∧ (μ'.1 70 1 = μ.1 70 1) ∧ (μ'.1 70 2 = μ.1 70 2) ∧ (μ'.1 70 3 = μ.1 70 3) ∧ (μ'.1 70 4 = μ.1 70 4) ∧ (μ'.1 70 5 = μ.1 70 5) ∧ (μ'.1 70 6 = μ.1 70 6) ∧ (μ'.1 70 7 = μ.1 70 7) ∧ (μ'.1 70 8 = μ.1 70 8) ∧ (μ'.1 70 9 = μ.1 70 9) ∧ (μ'.1 32 10 = μ.1 32 10) ∧ (μ'.1 32 11 = μ.1 32 11) ∧ (μ'.1 32 12 = μ.1 32 12) ∧ (μ'.1 32 14 = μ.1 32 14) ∧ (μ'.1 32 15 = μ.1 32 15) ∧ (μ'.1 32 16 = μ.1 32 16)) := by
  refine CtV.go (by decide) (Nat.le_of_ble_eq_true rfl) (fun ρ p e s m below meth c R ls G hR hret hlk hl => ?_)
  have hx := G.1.1
  have hb := G.1.2.1
  have hl : lv_has ls 2 [(0, .ref (oP ω 32)), (1, .int (iv x1))] := hl
  generalize s.drawn = d0 at G ⊢
  have hr_x1 : -2147483648 ≤ x1 ∧ x1 ≤ 2147483647 := hx1
  refine lv_aload_n hx hb dX4_end_0 rfl (lv_at hl 0 rfl) ?_
  refine xa_getr G fd_X4 (a := 32) (x := 70) 9 rfl (by decide) rfl (wm 2 153 rfl rfl) ⟨rfl, rfl, rfl⟩ dX4_end_1 rfl (G.sk 42 rfl) (by decide) rfl ?_
  refine lv_iconst (v := iv 0) hx hb dX4_end_4 rfl ?_
  refine lv_iload_n hx hb dX4_end_5 rfl (lv_at hl 1 rfl) ?_
  refine xa_iast G (a := 70) (i := 0) (x := x1) rfl (by have h9 := G.lc (a := 70) (n := 10) 33 rfl; omega) (by unfold ir; omega) dX4_end_6 rfl (fun H locs G => ?_)
  refine lv_aload_n hx hb dX4_end_7 rfl (lv_at hl 0 rfl) ?_
  refine lv_iconst (v := iv 4) hx hb dX4_end_8 rfl ?_
  refine xa_puti G fd_X4 (a := 32) (x := 4) 13 (kz := 13) rfl rfl (by decide) rfl (by unfold ir; omega) (wm 2 157 rfl rfl) ⟨rfl, rfl, rfl, rfl⟩ rfl dX4_end_9 rfl (fun H locs G => ?_)
  have hI_1 : IC (sv (sv μ 70 0 x1) 32 13 4) := (IC.put (IC.pua hI (by decide)) (by decide +kernel))
  have e_2 : (sv (sv μ 70 0 x1) 32 13 4).1 32 13 = 4 := (sv_s _ _ _ _)
  have e_3 : (sv (sv μ 70 0 x1) 32 13 4).1 70 1 = μ.1 70 1 := ((sv_n _ (fun h9 => absurd h9.1 (by decide))).trans (sv_n _ (by decide)))
  have e_4 : (sv (sv μ 70 0 x1) 32 13 4).1 70 2 = μ.1 70 2 := ((sv_n _ (fun h9 => absurd h9.1 (by decide))).trans (sv_n _ (by decide)))
  have e_5 : (sv (sv μ 70 0 x1) 32 13 4).1 70 3 = μ.1 70 3 := ((sv_n _ (fun h9 => absurd h9.1 (by decide))).trans (sv_n _ (by decide)))
  have e_6 : (sv (sv μ 70 0 x1) 32 13 4).1 70 4 = μ.1 70 4 := ((sv_n _ (fun h9 => absurd h9.1 (by decide))).trans (sv_n _ (by decide)))
  have e_7 : (sv (sv μ 70 0 x1) 32 13 4).1 70 5 = μ.1 70 5 := ((sv_n _ (fun h9 => absurd h9.1 (by decide))).trans (sv_n _ (by decide)))
  have e_8 : (sv (sv μ 70 0 x1) 32 13 4).1 70 6 = μ.1 70 6 := ((sv_n _ (fun h9 => absurd h9.1 (by decide))).trans (sv_n _ (by decide)))
  have e_9 : (sv (sv μ 70 0 x1) 32 13 4).1 70 7 = μ.1 70 7 := ((sv_n _ (fun h9 => absurd h9.1 (by decide))).trans (sv_n _ (by decide)))
  have e_10 : (sv (sv μ 70 0 x1) 32 13 4).1 70 8 = μ.1 70 8 := ((sv_n _ (fun h9 => absurd h9.1 (by decide))).trans (sv_n _ (by decide)))
  have e_11 : (sv (sv μ 70 0 x1) 32 13 4).1 70 9 = μ.1 70 9 := ((sv_n _ (fun h9 => absurd h9.1 (by decide))).trans (sv_n _ (by decide)))
  have e_12 : (sv (sv μ 70 0 x1) 32 13 4).1 32 10 = μ.1 32 10 := ((sv_n _ (by decide)).trans (sv_n _ (fun h9 => absurd h9.1 (by decide))))
  have e_13 : (sv (sv μ 70 0 x1) 32 13 4).1 32 11 = μ.1 32 11 := ((sv_n _ (by decide)).trans (sv_n _ (fun h9 => absurd h9.1 (by decide))))
  have e_14 : (sv (sv μ 70 0 x1) 32 13 4).1 32 12 = μ.1 32 12 := ((sv_n _ (by decide)).trans (sv_n _ (fun h9 => absurd h9.1 (by decide))))
  have e_15 : (sv (sv μ 70 0 x1) 32 13 4).1 32 14 = μ.1 32 14 := ((sv_n _ (by decide)).trans (sv_n _ (fun h9 => absurd h9.1 (by decide))))
  have e_16 : (sv (sv μ 70 0 x1) 32 13 4).1 32 15 = μ.1 32 15 := ((sv_n _ (by decide)).trans (sv_n _ (fun h9 => absurd h9.1 (by decide))))
  have e_17 : (sv (sv μ 70 0 x1) 32 13 4).1 32 16 = μ.1 32 16 := ((sv_n _ (by decide)).trans (sv_n _ (fun h9 => absurd h9.1 (by decide))))
  exact xr_v G hret hlk dX4_end_12 ⟨(Fr.put (Fr.put Fr.rf (by decide)) (by decide)), hI_1, (by omega), (by omega), (by omega), (by omega), (by omega), (by omega), (by omega), (by omega), (by omega), (by omega), (by omega), (by omega), (by omega), (by omega), (by omega), (by omega)⟩

set_option maxHeartbeats 4000000 in
set_option maxRecDepth 100000 in
theorem c_X4_step (ω : Om) (l : Launch) (μ : M3) (hI : IC μ) (hst : 0 ≤ μ.1 70 2 ∧ μ.1 70 2 ≤ 5000 ∧ 0 ≤ μ.1 70 8 ∧ μ.1 70 8 ≤ 80000 ∧ μ.1 45 1 ≤ μ.1 70 2) : CtI ω l yX4_step cX4_step 1 .boolean 1 21 [.ref (oP ω 32)] μ (fun (r : Int) (μ' : M3) => (Fr [70, 32] μ μ') ∧ (IC μ') ∧ ((r = 1 ∧ μ'.1 70 2 = μ.1 70 2 + 1 ∧ μ'.1 70 8 = μ.1 70 8 + 1 ∧ μ'.1 32 13 = μ.1 32 13 ∧ μ.1 70 2 ≤ 4999 ∧ μ.1 70 8 ≤ 79999) ∨ (r = 0 ∧ μ'.1 70 2 = μ.1 70 2 ∧ μ'.1 70 8 = μ.1 70 8 ∧ μ'.1 32 13 = 4)) ∧ (μ'.1 70 1 = μ.1 70 1) ∧ (μ'.1 70 3 = μ.1 70 3) ∧ (μ'.1 70 4 = μ.1 70 4) ∧ (μ'.1 70 5 = μ.1 70 5) ∧ (μ'.1 70 6 = μ.1 70 6) ∧ (μ'.1 70 7 = μ.1 70 7) ∧ (μ'.1 70 9 = μ.1 70 9) ∧ (μ'.1 32 10 = μ.1 32 10) ∧ (μ'.1 32 11 = μ.1 32 11) ∧ (μ'.1 32 12 = μ.1 32 12) ∧ (μ'.1 32 14 = μ.1 32 14) ∧ (μ'.1 32 15 = μ.1 32 15) ∧ (μ'.1 32 16 = μ.1 32 16)) := by
  refine CtI.go (by decide) (Nat.le_of_ble_eq_true rfl) (fun ρ p e s m below meth c R ls G hR hret hlk hl => ?_)
  have hx := G.1.1
  have hb := G.1.2.1
  have hl : lv_has ls 1 [(0, .ref (oP ω 32))] := hl
  generalize s.drawn = d0 at G ⊢
  refine lv_aload_n hx hb dX4_step_0 rfl (lv_at hl 0 rfl) ?_
  refine xa_getr G fd_X4 (a := 32) (x := 70) 9 rfl (by decide) rfl (wm 2 153 rfl rfl) ⟨rfl, rfl, rfl⟩ dX4_step_1 rfl (G.sk 42 rfl) (by decide) rfl ?_
  refine lv_iconst (v := iv 2) hx hb dX4_step_4 rfl ?_
  refine xa_iald G (a := 70) (i := 2) rfl (by have h9 := G.lc (a := 70) (n := 10) 33 rfl; omega) dX4_step_5 rfl ?_
  have hr_1 : -2147483648 ≤ μ.1 70 2 ∧ μ.1 70 2 ≤ 2147483647 := by have h9 := G.hr (a := 70) (k := 2) rfl; exact h9
  refine lv_sipush (v := iv 5000) hx hb dX4_step_6 rfl ?_
  refine xb_icmp_ge (tgt := 24) hx hb (by unfold ir; omega) (by unfold ir; omega) dX4_step_9 (by decide) (fun c_9 => ?_) (fun c_9 => ?_)
  · refine lv_aload_n hx hb dX4_step_24 rfl (lv_at hl 0 rfl) ?_
    refine lv_iconst (v := iv 2) hx hb dX4_step_25 rfl ?_
    refine xc_vV G (b := 32) (rest := []) (As := [.int (iv 2)]) (c_X4_end ω l μ 2 (by unfold ir; omega) hI) (wm 5 214 rfl rfl) (wm 5 216 rfl rfl) (wm 0 72 rfl rfl) rfl rfl (by decide) rfl (wm 1 14 rfl rfl) (wm 5 217 rfl rfl) (by decide) hR (by decide) (n := 1) rfl rfl (Nat.le_of_ble_eq_true rfl) hl.1 dX4_step_26 (fun μ2 ρ d0 H locs hp G => ?_)
    obtain ⟨F_3, hI_4, hp_5, hs_6, hs_7, hs_8, hs_9, hs_10, hs_11, hs_12, hs_13, hs_14, hs_15, hs_16, hs_17, hs_18, hs_19, hs_20⟩ := hp
    refine lv_iconst (v := iv 0) hx hb dX4_step_29 rfl ?_
    have e_21 : μ2.1 70 2 = μ.1 70 2 := hs_7
    have e_22 : μ2.1 70 8 = μ.1 70 8 := hs_13
    have e_23 : μ2.1 70 2 = μ.1 70 2 := hs_7
    have e_24 : μ2.1 70 8 = μ.1 70 8 := hs_13
    have e_25 : μ2.1 70 1 = μ.1 70 1 := hs_6
    have e_26 : μ2.1 70 3 = μ.1 70 3 := hs_8
    have e_27 : μ2.1 70 4 = μ.1 70 4 := hs_9
    have e_28 : μ2.1 70 5 = μ.1 70 5 := hs_10
    have e_29 : μ2.1 70 6 = μ.1 70 6 := hs_11
    have e_30 : μ2.1 70 7 = μ.1 70 7 := hs_12
    have e_31 : μ2.1 70 9 = μ.1 70 9 := hs_14
    have e_32 : μ2.1 32 10 = μ.1 32 10 := hs_15
    have e_33 : μ2.1 32 11 = μ.1 32 11 := hs_16
    have e_34 : μ2.1 32 12 = μ.1 32 12 := hs_17
    have e_35 : μ2.1 32 14 = μ.1 32 14 := hs_18
    have e_36 : μ2.1 32 15 = μ.1 32 15 := hs_19
    have e_37 : μ2.1 32 16 = μ.1 32 16 := hs_20
    exact xr_i G (x := 0) hret hlk (by unfold ir; omega) (zr (by omega)) dX4_step_30 ⟨(Fr.tr Fr.rf F_3 (by decide)), hI_4, (by omega), (by omega), (by omega), (by omega), (by omega), (by omega), (by omega), (by omega), (by omega), (by omega), (by omega), (by omega), (by omega), (by omega)⟩
  · refine lv_aload_n hx hb dX4_step_12 rfl (lv_at hl 0 rfl) ?_
    refine xa_getr G fd_X4 (a := 32) (x := 70) 9 rfl (by decide) rfl (wm 2 153 rfl rfl) ⟨rfl, rfl, rfl⟩ dX4_step_13 rfl (G.sk 42 rfl) (by decide) rfl ?_
    refine lv_bipush (v := iv 8) hx hb dX4_step_16 rfl ?_
    refine xa_iald G (a := 70) (i := 8) rfl (by have h9 := G.lc (a := 70) (n := 10) 33 rfl; omega) dX4_step_18 rfl ?_
    have hr_38 : -2147483648 ≤ μ.1 70 8 ∧ μ.1 70 8 ≤ 2147483647 := by have h9 := G.hr (a := 70) (k := 8) rfl; exact h9
    refine lv_ldc (s := s.setDrawn d0) hx hb G.1.2.2.2.1 (dr_words G.1.2.2.2.2 d0 _ (wm 6 6 rfl rfl)) dX4_step_19 ?_
    refine xb_lit (x := 80000) (by decide) ?_
    refine xb_icmp_lt (tgt := 31) hx hb (by unfold ir; omega) (by unfold ir; omega) dX4_step_21 (by decide) (fun c_21 => ?_) (fun c_21 => ?_)
    · refine lv_aload_n hx hb dX4_step_31 rfl (lv_at hl 0 rfl) ?_
      refine xa_getr G fd_X4 (a := 32) (x := 70) 9 rfl (by decide) rfl (wm 2 153 rfl rfl) ⟨rfl, rfl, rfl⟩ dX4_step_32 rfl (G.sk 42 rfl) (by decide) rfl ?_
      refine lv_iconst (v := iv 2) hx hb dX4_step_35 rfl ?_
      refine lv_dup2_11 hx hb dX4_step_36 rfl rfl ?_
      refine xa_iald G (a := 70) (i := 2) rfl (by have h9 := G.lc (a := 70) (n := 10) 33 rfl; omega) dX4_step_37 rfl ?_
      refine lv_iconst (v := iv 1) hx hb dX4_step_38 rfl ?_
      refine xb_iadd hx hb dX4_step_39 ?_
      refine xa_iast G (a := 70) (i := 2) (x := (μ.1 70 2) + 1) rfl (by have h9 := G.lc (a := 70) (n := 10) 33 rfl; omega) (by unfold ir; omega) dX4_step_40 rfl (fun H locs G => ?_)
      refine lv_aload_n hx hb dX4_step_41 rfl (lv_at hl 0 rfl) ?_
      refine xa_getr G fd_X4 (a := 32) (x := 70) 9 rfl (by decide) rfl (wm 2 153 rfl rfl) ⟨rfl, rfl, rfl⟩ dX4_step_42 rfl (G.sk 42 rfl) (by decide) rfl ?_
      refine lv_bipush (v := iv 8) hx hb dX4_step_45 rfl ?_
      refine lv_dup2_11 hx hb dX4_step_47 rfl rfl ?_
      refine xa_iald G (a := 70) (i := 8) rfl (by have h9 := G.lc (a := 70) (n := 10) 33 rfl; omega) dX4_step_48 rfl ?_
      refine xb_ti (y := μ.1 70 8) (sv_n _ (by decide)) ?_
      refine lv_iconst (v := iv 1) hx hb dX4_step_49 rfl ?_
      refine xb_iadd hx hb dX4_step_50 ?_
      refine xa_iast G (a := 70) (i := 8) (x := (μ.1 70 8) + 1) rfl (by have h9 := G.lc (a := 70) (n := 10) 33 rfl; omega) (by unfold ir; omega) dX4_step_51 rfl (fun H locs G => ?_)
      refine lv_iconst (v := iv 1) hx hb dX4_step_52 rfl ?_
      have hI_39 : IC (sv (sv μ 70 2 ((μ.1 70 2) + 1)) 70 8 ((μ.1 70 8) + 1)) := (IC.pua (IC.pua hI (by decide)) (by decide))
      have e_40 : (sv (sv μ 70 2 ((μ.1 70 2) + 1)) 70 8 ((μ.1 70 8) + 1)).1 70 2 = (μ.1 70 2) + 1 := ((sv_n _ (by decide)).trans (sv_s _ _ _ _))
      have e_41 : (sv (sv μ 70 2 ((μ.1 70 2) + 1)) 70 8 ((μ.1 70 8) + 1)).1 70 8 = (μ.1 70 8) + 1 := (sv_s _ _ _ _)
      have e_42 : (sv (sv μ 70 2 ((μ.1 70 2) + 1)) 70 8 ((μ.1 70 8) + 1)).1 32 13 = μ.1 32 13 := ((sv_n _ (fun h9 => absurd h9.1 (by decide))).trans (sv_n _ (fun h9 => absurd h9.1 (by decide))))
      have e_43 : (sv (sv μ 70 2 ((μ.1 70 2) + 1)) 70 8 ((μ.1 70 8) + 1)).1 70 2 = (μ.1 70 2) + 1 := ((sv_n _ (by decide)).trans (sv_s _ _ _ _))
      have e_44 : (sv (sv μ 70 2 ((μ.1 70 2) + 1)) 70 8 ((μ.1 70 8) + 1)).1 70 8 = (μ.1 70 8) + 1 := (sv_s _ _ _ _)
      have e_45 : (sv (sv μ 70 2 ((μ.1 70 2) + 1)) 70 8 ((μ.1 70 8) + 1)).1 32 13 = μ.1 32 13 := ((sv_n _ (fun h9 => absurd h9.1 (by decide))).trans (sv_n _ (fun h9 => absurd h9.1 (by decide))))
      have e_46 : (sv (sv μ 70 2 ((μ.1 70 2) + 1)) 70 8 ((μ.1 70 8) + 1)).1 70 1 = μ.1 70 1 := ((sv_n _ (by decide)).trans (sv_n _ (by decide)))
      have e_47 : (sv (sv μ 70 2 ((μ.1 70 2) + 1)) 70 8 ((μ.1 70 8) + 1)).1 70 3 = μ.1 70 3 := ((sv_n _ (by decide)).trans (sv_n _ (by decide)))
      have e_48 : (sv (sv μ 70 2 ((μ.1 70 2) + 1)) 70 8 ((μ.1 70 8) + 1)).1 70 4 = μ.1 70 4 := ((sv_n _ (by decide)).trans (sv_n _ (by decide)))
      have e_49 : (sv (sv μ 70 2 ((μ.1 70 2) + 1)) 70 8 ((μ.1 70 8) + 1)).1 70 5 = μ.1 70 5 := ((sv_n _ (by decide)).trans (sv_n _ (by decide)))
      have e_50 : (sv (sv μ 70 2 ((μ.1 70 2) + 1)) 70 8 ((μ.1 70 8) + 1)).1 70 6 = μ.1 70 6 := ((sv_n _ (by decide)).trans (sv_n _ (by decide)))
      have e_51 : (sv (sv μ 70 2 ((μ.1 70 2) + 1)) 70 8 ((μ.1 70 8) + 1)).1 70 7 = μ.1 70 7 := ((sv_n _ (by decide)).trans (sv_n _ (by decide)))
      have e_52 : (sv (sv μ 70 2 ((μ.1 70 2) + 1)) 70 8 ((μ.1 70 8) + 1)).1 70 9 = μ.1 70 9 := ((sv_n _ (by decide)).trans (sv_n _ (by decide)))
      have e_53 : (sv (sv μ 70 2 ((μ.1 70 2) + 1)) 70 8 ((μ.1 70 8) + 1)).1 32 10 = μ.1 32 10 := ((sv_n _ (fun h9 => absurd h9.1 (by decide))).trans (sv_n _ (fun h9 => absurd h9.1 (by decide))))
      have e_54 : (sv (sv μ 70 2 ((μ.1 70 2) + 1)) 70 8 ((μ.1 70 8) + 1)).1 32 11 = μ.1 32 11 := ((sv_n _ (fun h9 => absurd h9.1 (by decide))).trans (sv_n _ (fun h9 => absurd h9.1 (by decide))))
      have e_55 : (sv (sv μ 70 2 ((μ.1 70 2) + 1)) 70 8 ((μ.1 70 8) + 1)).1 32 12 = μ.1 32 12 := ((sv_n _ (fun h9 => absurd h9.1 (by decide))).trans (sv_n _ (fun h9 => absurd h9.1 (by decide))))
      have e_56 : (sv (sv μ 70 2 ((μ.1 70 2) + 1)) 70 8 ((μ.1 70 8) + 1)).1 32 14 = μ.1 32 14 := ((sv_n _ (fun h9 => absurd h9.1 (by decide))).trans (sv_n _ (fun h9 => absurd h9.1 (by decide))))
      have e_57 : (sv (sv μ 70 2 ((μ.1 70 2) + 1)) 70 8 ((μ.1 70 8) + 1)).1 32 15 = μ.1 32 15 := ((sv_n _ (fun h9 => absurd h9.1 (by decide))).trans (sv_n _ (fun h9 => absurd h9.1 (by decide))))
      have e_58 : (sv (sv μ 70 2 ((μ.1 70 2) + 1)) 70 8 ((μ.1 70 8) + 1)).1 32 16 = μ.1 32 16 := ((sv_n _ (fun h9 => absurd h9.1 (by decide))).trans (sv_n _ (fun h9 => absurd h9.1 (by decide))))
      exact xr_i G (x := 1) hret hlk (by unfold ir; omega) (zr (by omega)) dX4_step_53 ⟨(Fr.put (Fr.put Fr.rf (by decide)) (by decide)), hI_39, (by omega), (by omega), (by omega), (by omega), (by omega), (by omega), (by omega), (by omega), (by omega), (by omega), (by omega), (by omega), (by omega), (by omega)⟩
    · refine lv_aload_n hx hb dX4_step_24 rfl (lv_at hl 0 rfl) ?_
      refine lv_iconst (v := iv 2) hx hb dX4_step_25 rfl ?_
      refine xc_vV G (b := 32) (rest := []) (As := [.int (iv 2)]) (c_X4_end ω l μ 2 (by unfold ir; omega) hI) (wm 5 214 rfl rfl) (wm 5 216 rfl rfl) (wm 0 72 rfl rfl) rfl rfl (by decide) rfl (wm 1 14 rfl rfl) (wm 5 217 rfl rfl) (by decide) hR (by decide) (n := 1) rfl rfl (Nat.le_of_ble_eq_true rfl) hl.1 dX4_step_26 (fun μ59 ρ d0 H locs hp G => ?_)
      obtain ⟨F_60, hI_61, hp_62, hs_63, hs_64, hs_65, hs_66, hs_67, hs_68, hs_69, hs_70, hs_71, hs_72, hs_73, hs_74, hs_75, hs_76, hs_77⟩ := hp
      refine lv_iconst (v := iv 0) hx hb dX4_step_29 rfl ?_
      have e_78 : μ59.1 70 2 = μ.1 70 2 := hs_64
      have e_79 : μ59.1 70 8 = μ.1 70 8 := hs_70
      have e_80 : μ59.1 70 2 = μ.1 70 2 := hs_64
      have e_81 : μ59.1 70 8 = μ.1 70 8 := hs_70
      have e_82 : μ59.1 70 1 = μ.1 70 1 := hs_63
      have e_83 : μ59.1 70 3 = μ.1 70 3 := hs_65
      have e_84 : μ59.1 70 4 = μ.1 70 4 := hs_66
      have e_85 : μ59.1 70 5 = μ.1 70 5 := hs_67
      have e_86 : μ59.1 70 6 = μ.1 70 6 := hs_68
      have e_87 : μ59.1 70 7 = μ.1 70 7 := hs_69
      have e_88 : μ59.1 70 9 = μ.1 70 9 := hs_71
      have e_89 : μ59.1 32 10 = μ.1 32 10 := hs_72
      have e_90 : μ59.1 32 11 = μ.1 32 11 := hs_73
      have e_91 : μ59.1 32 12 = μ.1 32 12 := hs_74
      have e_92 : μ59.1 32 14 = μ.1 32 14 := hs_75
      have e_93 : μ59.1 32 15 = μ.1 32 15 := hs_76
      have e_94 : μ59.1 32 16 = μ.1 32 16 := hs_77
      exact xr_i G (x := 0) hret hlk (by unfold ir; omega) (zr (by omega)) dX4_step_30 ⟨(Fr.tr Fr.rf F_60 (by decide)), hI_61, (by omega), (by omega), (by omega), (by omega), (by omega), (by omega), (by omega), (by omega), (by omega), (by omega), (by omega), (by omega), (by omega), (by omega)⟩

set_option maxHeartbeats 4000000 in
set_option maxRecDepth 100000 in
theorem c_X4_pushNumber (ω : Om) (l : Launch) (μ : M3) (x1 : Int) (x2 : Int) (S : Int) (hx1 : ir x1) (hx2 : jr x2) (hI : IC μ) (hS : S = μ.1 33 3) (hSb : S < 240100) : CtV ω l yX4_pushNumber cX4_pushNumber 4 4 150 [.ref (oP ω 32), .int (iv x1), .long (jv x2)] μ (fun (μ' : M3) => (Fr [33, 34, 35, 36] μ μ') ∧ (IC μ') ∧ (μ'.1 33 3 = S + 1)) := by
  refine CtV.go (by decide) (Nat.le_of_ble_eq_true rfl) (fun ρ p e s m below meth c R ls G hR hret hlk hl => ?_)
  have hx := G.1.1
  have hb := G.1.2.1
  have hl : lv_has ls 4 [(0, .ref (oP ω 32)), (1, .int (iv x1)), (2, .long (jv x2))] := hl
  generalize s.drawn = d0 at G ⊢
  have hr_x1 : -2147483648 ≤ x1 ∧ x1 ≤ 2147483647 := hx1
  have hk_1 := hI.row (r := 33) (by unfold isRow; decide)
  unfold rk at hk_1
  simp only [Int.reduceAdd] at hk_1
  have hbr_33 : BR 33 = 240100 := rfl
  refine lv_iload_n hx hb dX4_pushNumber_0 rfl (lv_at hl 1 rfl) ?_
  refine lv_iconst (v := iv 3) hx hb dX4_pushNumber_1 rfl ?_
  refine xb_icmp_ne (tgt := 19) hx hb (by unfold ir; omega) (by unfold ir; omega) dX4_pushNumber_2 (by decide) (fun c_2 => ?_) (fun c_2 => ?_)
  · refine lv_aload_n hx hb dX4_pushNumber_19 rfl (lv_at hl 0 rfl) ?_
    refine xa_getr G fd_X4 (a := 32) (x := 33) 3 rfl (by decide) rfl (wm 2 147 rfl rfl) ⟨rfl, rfl, rfl⟩ dX4_pushNumber_20 rfl (G.sk 36 rfl) (by decide) rfl ?_
    refine lv_iconst (v := iv 1) hx hb dX4_pushNumber_23 rfl ?_
    refine lv_lload_n hx hb dX4_pushNumber_24 rfl (lv_at hl 2 rfl) ?_
    refine lv_dconst0 hx hb dX4_pushNumber_25 ?_
    refine xb_topd (fun dd_2 he_dd_2 => ?_)
    have e_3 : μ.1 33 3 = S := hS.symm
    refine xc_vV G (b := 33) (rest := []) (As := [.int (iv 1), .long (jv x2), .double (dv dd_2)]) (c_X9_push ω l μ 33 1 x2 dd_2 S (by unfold isRow; decide) (by unfold ir; omega) hx2 hI (by omega) (by omega)) (wm 5 74 rfl rfl) (wm 4 72 rfl rfl) (wm 4 73 rfl rfl) rfl rfl (by decide) rfl (wm 1 10 rfl rfl) (wm 4 74 rfl rfl) (by decide) hR (by decide) (n := 3) rfl rfl (Nat.le_of_ble_eq_true rfl) hl.1 dX4_pushNumber_26 (fun μ4 ρ d0 H locs hp G => ?_)
    obtain ⟨F_5, hI_6, hs_7⟩ := hp
    have e_8 : μ4.1 33 3 = S + 1 := hs_7
    exact xr_v G hret hlk dX4_pushNumber_29 ⟨(Fr.tr Fr.rf F_5 (by decide)), hI_6, (by omega)⟩
  · refine lv_aload_n hx hb dX4_pushNumber_5 rfl (lv_at hl 0 rfl) ?_
    refine xa_getr G fd_X4 (a := 32) (x := 33) 3 rfl (by decide) rfl (wm 2 147 rfl rfl) ⟨rfl, rfl, rfl⟩ dX4_pushNumber_6 rfl (G.sk 36 rfl) (by decide) rfl ?_
    refine lv_iconst (v := iv 1) hx hb dX4_pushNumber_9 rfl ?_
    refine lv_lconst (v := jv 0) hx hb dX4_pushNumber_10 rfl ?_
    refine lv_lload_n hx hb dX4_pushNumber_11 rfl (lv_at hl 2 rfl) ?_
    refine lv_l2d hx hb dX4_pushNumber_12 ?_
    refine xb_topd (fun dd_9 he_dd_9 => ?_)
    have e_10 : μ.1 33 3 = S := hS.symm
    refine xc_vV G (b := 33) (rest := []) (As := [.int (iv 1), .long (jv 0), .double (dv dd_9)]) (c_X9_push ω l μ 33 1 0 dd_9 S (by unfold isRow; decide) (by unfold ir; omega) (by unfold jr; omega) hI (by omega) (by omega)) (wm 5 74 rfl rfl) (wm 4 72 rfl rfl) (wm 4 73 rfl rfl) rfl rfl (by decide) rfl (wm 1 10 rfl rfl) (wm 4 74 rfl rfl) (by decide) hR (by decide) (n := 3) rfl rfl (Nat.le_of_ble_eq_true rfl) hl.1 dX4_pushNumber_13 (fun μ11 ρ d0 H locs hp G => ?_)
    obtain ⟨F_12, hI_13, hs_14⟩ := hp
    refine lv_goto (tgt := 29) hx hb dX4_pushNumber_16 (by decide) ?_
    have e_15 : μ11.1 33 3 = S + 1 := hs_14
    exact xr_v G hret hlk dX4_pushNumber_29 ⟨(Fr.tr Fr.rf F_12 (by decide)), hI_13, (by omega)⟩

set_option maxHeartbeats 4000000 in
set_option maxRecDepth 100000 in
theorem c_X4_top (ω : Om) (l : Launch) (μ : M3) (S : Int) (hI : IC μ) (hS : S = μ.1 33 3) : CtI ω l yX4_top cX4_top 1 .int 1 20 [.ref (oP ω 32)] μ (fun (r : Int) (μ' : M3) => (μ' = μ) ∧ (r = S - 1)) := by
  refine CtI.go (by decide) (Nat.le_of_ble_eq_true rfl) (fun ρ p e s m below meth c R ls G hR hret hlk hl => ?_)
  have hx := G.1.1
  have hb := G.1.2.1
  have hl : lv_has ls 1 [(0, .ref (oP ω 32))] := hl
  generalize s.drawn = d0 at G ⊢
  have hk_1 := hI.row (r := 33) (by unfold isRow; decide)
  unfold rk at hk_1
  simp only [Int.reduceAdd] at hk_1
  have hbr_33 : BR 33 = 240100 := rfl
  refine lv_aload_n hx hb dX4_top_0 rfl (lv_at hl 0 rfl) ?_
  refine xa_getr G fd_X4 (a := 32) (x := 33) 3 rfl (by decide) rfl (wm 2 147 rfl rfl) ⟨rfl, rfl, rfl⟩ dX4_top_1 rfl (G.sk 36 rfl) (by decide) rfl ?_
  have e_2 : μ.1 33 3 = S := hS.symm
  refine xc_iV G (b := 33) (rest := []) (As := []) (c_X9_count ω l μ 33 (by unfold isRow; decide) hI) (wm 5 79 rfl rfl) (wm 4 81 rfl rfl) (wm 4 82 rfl rfl) rfl rfl (by decide) rfl (wm 1 10 rfl rfl) (wm 4 83 rfl rfl) (by decide) hR (by decide) (n := 0) rfl rfl (Nat.le_of_ble_eq_true rfl) hl.1 dX4_top_4 (fun r_4 μ3 ρ d0 H locs hr_r_4 hp G => ?_)
  have hr_r_4 : -2147483648 ≤ r_4 ∧ r_4 ≤ 2147483647 := hr_r_4
  obtain ⟨hsm_5, hp_6⟩ := hp
  have hsm_5 := Eq.symm hsm_5
  subst hsm_5
  refine lv_iconst (v := iv 1) hx hb dX4_top_7 rfl ?_
  refine xb_isub hx hb dX4_top_8 ?_
  exact xr_i G (x := r_4 - 1) hret hlk (by unfold ir; omega) rfl dX4_top_9 ⟨rfl, (by omega)⟩

set_option maxHeartbeats 4000000 in
set_option maxRecDepth 100000 in
theorem c_X4_store (ω : Om) (l : Launch) (μ : M3) (x1 : Int) (S : Int) (hx1 : ir x1) (hI : IC μ) (hS : S = μ.1 33 3) : CtV ω l yX4_store cX4_store 2 4 146 [.ref (oP ω 32), .int (iv x1)] μ (fun (μ' : M3) => (Fr [34, 35, 36, 33] μ μ') ∧ (IC μ') ∧ (μ'.1 33 3 = max (S - 1) 0)) := by
  refine CtV.go (by decide) (Nat.le_of_ble_eq_true rfl) (fun ρ p e s m below meth c R ls G hR hret hlk hl => ?_)
  have hx := G.1.1
  have hb := G.1.2.1
  have hl : lv_has ls 2 [(0, .ref (oP ω 32)), (1, .int (iv x1))] := hl
  generalize s.drawn = d0 at G ⊢
  have hr_x1 : -2147483648 ≤ x1 ∧ x1 ≤ 2147483647 := hx1
  have hk_1 := hI.row (r := 33) (by unfold isRow; decide)
  unfold rk at hk_1
  simp only [Int.reduceAdd] at hk_1
  have hbr_33 : BR 33 = 240100 := rfl
  refine lv_aload_n hx hb dX4_store_0 rfl (lv_at hl 0 rfl) ?_
  refine xa_getr G fd_X4 (a := 32) (x := 33) 3 rfl (by decide) rfl (wm 2 147 rfl rfl) ⟨rfl, rfl, rfl⟩ dX4_store_1 rfl (G.sk 36 rfl) (by decide) rfl ?_
  refine lv_aload_n hx hb dX4_store_4 rfl (lv_at hl 0 rfl) ?_
  refine xa_getr G fd_X4 (a := 32) (x := 52) 7 rfl (by decide) rfl (wm 2 151 rfl rfl) ⟨rfl, rfl, rfl⟩ dX4_store_5 rfl (G.sk 40 rfl) (by decide) rfl ?_
  refine xc_iV G (b := 52) (rest := [.ref (oP ω 33)]) (As := []) (c_X2_base ω l μ  hI) (wm 6 126 rfl rfl) (wm 6 127 rfl rfl) (wm 6 128 rfl rfl) rfl rfl (by decide) rfl (wm 1 16 rfl rfl) (wm 6 129 rfl rfl) (by decide) hR (by decide) (n := 0) rfl rfl (Nat.le_of_ble_eq_true rfl) hl.1 dX4_store_8 (fun r_3 μ2 ρ d0 H locs hr_r_3 hp G => ?_)
  have hr_r_3 : -2147483648 ≤ r_3 ∧ r_3 ≤ 2147483647 := hr_r_3
  obtain ⟨hsm_4, hp_5⟩ := hp
  have hsm_4 := Eq.symm hsm_4
  subst hsm_4
  refine lv_iload_n hx hb dX4_store_11 rfl (lv_at hl 1 rfl) ?_
  refine xb_iadd hx hb dX4_store_12 ?_
  refine xb_topi (fun y_6 hr_y_6 he_y_6 => ?_)
  have hr_y_6 : -2147483648 ≤ y_6 ∧ y_6 ≤ 2147483647 := hr_y_6
  refine lv_aload_n hx hb dX4_store_13 rfl (lv_at hl 0 rfl) ?_
  refine xa_getr G fd_X4 (a := 32) (x := 33) 3 rfl (by decide) rfl (wm 2 147 rfl rfl) ⟨rfl, rfl, rfl⟩ dX4_store_14 rfl (G.sk 36 rfl) (by decide) rfl ?_
  refine lv_aload_n hx hb dX4_store_17 rfl (lv_at hl 0 rfl) ?_
  have e_7 : μ.1 33 3 = S := hS.symm
  refine xc_iV G (b := 32) (rest := [.ref (oP ω 33), .int (iv y_6), .ref (oP ω 33)]) (As := []) (c_X4_top ω l μ S hI (by omega)) (wm 6 73 rfl rfl) (wm 6 75 rfl rfl) (wm 0 80 rfl rfl) rfl rfl (by decide) rfl (wm 1 14 rfl rfl) (wm 6 76 rfl rfl) (by decide) hR (by decide) (n := 0) rfl rfl (Nat.le_of_ble_eq_true rfl) hl.1 dX4_store_18 (fun r_9 μ8 ρ d0 H locs hr_r_9 hp G => ?_)
  have hr_r_9 : -2147483648 ≤ r_9 ∧ r_9 ≤ 2147483647 := hr_r_9
  obtain ⟨hsm_10, hp_11⟩ := hp
  have hsm_10 := Eq.symm hsm_10
  subst hsm_10
  refine xc_vV G (b := 33) (rest := []) (As := [.int (iv y_6), .ref (oP ω 33), .int (iv r_9)]) (c_X9_copy ω l μ 33 y_6 33 r_9 (by unfold isRow; decide) (by unfold ir; omega) (by unfold isRow; decide) (by unfold ir; omega) hI) (wm 6 28 rfl rfl) (wm 6 29 rfl rfl) (wm 6 30 rfl rfl) rfl rfl (by decide) rfl (wm 1 10 rfl rfl) (wm 6 31 rfl rfl) (by decide) hR (by decide) (n := 3) rfl rfl (Nat.le_of_ble_eq_true rfl) hl.1 dX4_store_21 (fun μ12 ρ d0 H locs hp G => ?_)
  obtain ⟨F_13, hI_14, hp_15⟩ := hp
  refine lv_aload_n hx hb dX4_store_24 rfl (lv_at hl 0 rfl) ?_
  refine xa_getr G fd_X4 (a := 32) (x := 33) 3 rfl (by decide) rfl (wm 2 147 rfl rfl) ⟨rfl, rfl, rfl⟩ dX4_store_25 rfl (G.sk 36 rfl) (by decide) rfl ?_
  refine lv_iconst (v := iv 1) hx hb dX4_store_28 rfl ?_
  have e_16 : μ12.1 33 3 = S := ((F_13.1 33 (by decide) 3).trans hS.symm)
  refine xc_vV G (b := 33) (rest := []) (As := [.int (iv 1)]) (c_X9_drop ω l μ12 33 1 S (by unfold isRow; decide) (by unfold ir; omega) hI_14 (by omega) (by omega)) (wm 6 89 rfl rfl) (wm 6 90 rfl rfl) (wm 6 91 rfl rfl) rfl rfl (by decide) rfl (wm 1 10 rfl rfl) (wm 6 92 rfl rfl) (by decide) hR (by decide) (n := 1) rfl rfl (Nat.le_of_ble_eq_true rfl) hl.1 dX4_store_29 (fun μ17 ρ d0 H locs hp G => ?_)
  obtain ⟨F_18, hI_19, hs_20⟩ := hp
  have e_21 : μ17.1 33 3 = max (S - 1) 0 := hs_20
  exact xr_v G hret hlk dX4_store_32 ⟨(Fr.tr (Fr.tr Fr.rf F_13 (by decide)) F_18 (by decide)), hI_19, (by omega)⟩

set_option maxHeartbeats 4000000 in
set_option maxRecDepth 100000 in
theorem c_X4_dropValue (ω : Om) (l : Launch) (μ : M3) (S : Int) (hI : IC μ) (hS : S = μ.1 33 3) : CtV ω l yX4_dropValue cX4_dropValue 1 4 146 [.ref (oP ω 32)] μ (fun (μ' : M3) => (Fr [33, 34, 35, 36, 70] μ μ') ∧ (IC μ') ∧ (μ'.1 33 3 = max (S - 1) 0) ∧ (μ'.1 70 0 = μ.1 70 0) ∧ (μ'.1 70 1 = μ.1 70 1) ∧ (μ'.1 70 2 = μ.1 70 2) ∧ (μ'.1 70 3 = μ.1 70 3) ∧ (μ'.1 70 5 = μ.1 70 5) ∧ (μ'.1 70 6 = μ.1 70 6) ∧ (μ'.1 70 7 = μ.1 70 7) ∧ (μ'.1 70 8 = μ.1 70 8) ∧ (μ'.1 70 9 = μ.1 70 9)) := by
  refine CtV.go (by decide) (Nat.le_of_ble_eq_true rfl) (fun ρ p e s m below meth c R ls G hR hret hlk hl => ?_)
  have hx := G.1.1
  have hb := G.1.2.1
  have hl : lv_has ls 1 [(0, .ref (oP ω 32))] := hl
  generalize s.drawn = d0 at G ⊢
  have hk_1 := hI.row (r := 33) (by unfold isRow; decide)
  unfold rk at hk_1
  simp only [Int.reduceAdd] at hk_1
  have hbr_33 : BR 33 = 240100 := rfl
  refine lv_aload_n hx hb dX4_dropValue_0 rfl (lv_at hl 0 rfl) ?_
  refine xa_getr G fd_X4 (a := 32) (x := 33) 3 rfl (by decide) rfl (wm 2 147 rfl rfl) ⟨rfl, rfl, rfl⟩ dX4_dropValue_1 rfl (G.sk 36 rfl) (by decide) rfl ?_
  refine xc_iV G (b := 33) (rest := []) (As := []) (c_X9_kindOfTop ω l μ 33 (by unfold isRow; decide) hI) (wm 6 83 rfl rfl) (wm 5 152 rfl rfl) (wm 5 153 rfl rfl) rfl rfl (by decide) rfl (wm 1 10 rfl rfl) (wm 5 154 rfl rfl) (by decide) hR (by decide) (n := 0) rfl rfl (Nat.le_of_ble_eq_true rfl) hl.1 dX4_dropValue_4 (fun r_3 μ2 ρ d0 H locs hr_r_3 hp G => ?_)
  have hr_r_3 : -2147483648 ≤ r_3 ∧ r_3 ≤ 2147483647 := hr_r_3
  have hsm_4 := hp
  have hsm_4 := Eq.symm hsm_4
  subst hsm_4
  refine lv_iconst (v := iv 4) hx hb dX4_dropValue_7 rfl ?_
  refine xb_icmp_ne (tgt := 21) hx hb (by unfold ir; omega) (by unfold ir; omega) dX4_dropValue_8 (by decide) (fun c_8 => ?_) (fun c_8 => ?_)
  · refine lv_aload_n hx hb dX4_dropValue_21 rfl (lv_at hl 0 rfl) ?_
    refine xa_getr G fd_X4 (a := 32) (x := 33) 3 rfl (by decide) rfl (wm 2 147 rfl rfl) ⟨rfl, rfl, rfl⟩ dX4_dropValue_22 rfl (G.sk 36 rfl) (by decide) rfl ?_
    refine lv_iconst (v := iv 1) hx hb dX4_dropValue_25 rfl ?_
    have e_5 : μ.1 33 3 = S := hS.symm
    refine xc_vV G (b := 33) (rest := []) (As := [.int (iv 1)]) (c_X9_drop ω l μ 33 1 S (by unfold isRow; decide) (by unfold ir; omega) hI (by omega) (by omega)) (wm 6 89 rfl rfl) (wm 6 90 rfl rfl) (wm 6 91 rfl rfl) rfl rfl (by decide) rfl (wm 1 10 rfl rfl) (wm 6 92 rfl rfl) (by decide) hR (by decide) (n := 1) rfl rfl (Nat.le_of_ble_eq_true rfl) hl.1 dX4_dropValue_26 (fun μ6 ρ d0 H locs hp G => ?_)
    obtain ⟨F_7, hI_8, hs_9⟩ := hp
    have e_10 : μ6.1 33 3 = max (S - 1) 0 := hs_9
    have e_11 : μ6.1 70 0 = μ.1 70 0 := (F_7.1 70 (by decide) 0)
    have e_12 : μ6.1 70 1 = μ.1 70 1 := (F_7.1 70 (by decide) 1)
    have e_13 : μ6.1 70 2 = μ.1 70 2 := (F_7.1 70 (by decide) 2)
    have e_14 : μ6.1 70 3 = μ.1 70 3 := (F_7.1 70 (by decide) 3)
    have e_15 : μ6.1 70 5 = μ.1 70 5 := (F_7.1 70 (by decide) 5)
    have e_16 : μ6.1 70 6 = μ.1 70 6 := (F_7.1 70 (by decide) 6)
    have e_17 : μ6.1 70 7 = μ.1 70 7 := (F_7.1 70 (by decide) 7)
    have e_18 : μ6.1 70 8 = μ.1 70 8 := (F_7.1 70 (by decide) 8)
    have e_19 : μ6.1 70 9 = μ.1 70 9 := (F_7.1 70 (by decide) 9)
    exact xr_v G hret hlk dX4_dropValue_29 ⟨(Fr.tr Fr.rf F_7 (by decide)), hI_8, (by omega), (by omega), (by omega), (by omega), (by omega), (by omega), (by omega), (by omega), (by omega), (by omega)⟩
  · refine lv_aload_n hx hb dX4_dropValue_11 rfl (lv_at hl 0 rfl) ?_
    refine xa_getr G fd_X4 (a := 32) (x := 70) 9 rfl (by decide) rfl (wm 2 153 rfl rfl) ⟨rfl, rfl, rfl⟩ dX4_dropValue_12 rfl (G.sk 42 rfl) (by decide) rfl ?_
    refine lv_iconst (v := iv 4) hx hb dX4_dropValue_15 rfl ?_
    refine lv_dup2_11 hx hb dX4_dropValue_16 rfl rfl ?_
    refine xa_iald G (a := 70) (i := 4) rfl (by have h9 := G.lc (a := 70) (n := 10) 33 rfl; omega) dX4_dropValue_17 rfl ?_
    have hr_20 : -2147483648 ≤ μ.1 70 4 ∧ μ.1 70 4 ≤ 2147483647 := by have h9 := G.hr (a := 70) (k := 4) rfl; exact h9
    refine lv_iconst (v := iv 1) hx hb dX4_dropValue_18 rfl ?_
    refine xb_iadd hx hb dX4_dropValue_19 ?_
    refine xb_topi (fun y_21 hr_y_21 he_y_21 => ?_)
    have hr_y_21 : -2147483648 ≤ y_21 ∧ y_21 ≤ 2147483647 := hr_y_21
    refine xa_iast G (a := 70) (i := 4) (x := y_21) rfl (by have h9 := G.lc (a := 70) (n := 10) 33 rfl; omega) (by unfold ir; omega) dX4_dropValue_20 rfl (fun H locs G => ?_)
    refine lv_aload_n hx hb dX4_dropValue_21 rfl (lv_at hl 0 rfl) ?_
    refine xa_getr G fd_X4 (a := 32) (x := 33) 3 rfl (by decide) rfl (wm 2 147 rfl rfl) ⟨rfl, rfl, rfl⟩ dX4_dropValue_22 rfl (G.sk 36 rfl) (by decide) rfl ?_
    refine lv_iconst (v := iv 1) hx hb dX4_dropValue_25 rfl ?_
    have hI_22 : IC (sv μ 70 4 y_21) := (IC.pua hI (by decide))
    have e_23 : (sv μ 70 4 y_21).1 33 3 = S := ((sv_n _ (fun h9 => absurd h9.1 (by decide))).trans hS.symm)
    refine xc_vV G (b := 33) (rest := []) (As := [.int (iv 1)]) (c_X9_drop ω l (sv μ 70 4 y_21) 33 1 S (by unfold isRow; decide) (by unfold ir; omega) hI_22 (by omega) (by omega)) (wm 6 89 rfl rfl) (wm 6 90 rfl rfl) (wm 6 91 rfl rfl) rfl rfl (by decide) rfl (wm 1 10 rfl rfl) (wm 6 92 rfl rfl) (by decide) hR (by decide) (n := 1) rfl rfl (Nat.le_of_ble_eq_true rfl) hl.1 dX4_dropValue_26 (fun μ24 ρ d0 H locs hp G => ?_)
    obtain ⟨F_25, hI_26, hs_27⟩ := hp
    have e_28 : μ24.1 33 3 = max (S - 1) 0 := hs_27
    have e_29 : μ24.1 70 0 = μ.1 70 0 := ((F_25.1 70 (by decide) 0).trans (sv_n _ (by decide)))
    have e_30 : μ24.1 70 1 = μ.1 70 1 := ((F_25.1 70 (by decide) 1).trans (sv_n _ (by decide)))
    have e_31 : μ24.1 70 2 = μ.1 70 2 := ((F_25.1 70 (by decide) 2).trans (sv_n _ (by decide)))
    have e_32 : μ24.1 70 3 = μ.1 70 3 := ((F_25.1 70 (by decide) 3).trans (sv_n _ (by decide)))
    have e_33 : μ24.1 70 5 = μ.1 70 5 := ((F_25.1 70 (by decide) 5).trans (sv_n _ (by decide)))
    have e_34 : μ24.1 70 6 = μ.1 70 6 := ((F_25.1 70 (by decide) 6).trans (sv_n _ (by decide)))
    have e_35 : μ24.1 70 7 = μ.1 70 7 := ((F_25.1 70 (by decide) 7).trans (sv_n _ (by decide)))
    have e_36 : μ24.1 70 8 = μ.1 70 8 := ((F_25.1 70 (by decide) 8).trans (sv_n _ (by decide)))
    have e_37 : μ24.1 70 9 = μ.1 70 9 := ((F_25.1 70 (by decide) 9).trans (sv_n _ (by decide)))
    exact xr_v G hret hlk dX4_dropValue_29 ⟨(Fr.tr (Fr.put Fr.rf (by decide)) F_25 (by decide)), hI_26, (by omega), (by omega), (by omega), (by omega), (by omega), (by omega), (by omega), (by omega), (by omega), (by omega)⟩

set_option maxHeartbeats 4000000 in
set_option maxRecDepth 100000 in
theorem c_X4_leaveIfGoing (ω : Om) (l : Launch) (μ : M3) (hI : IC μ) : CtV ω l yX4_leaveIfGoing cX4_leaveIfGoing 1 0 0 [.ref (oP ω 32)] μ (fun (μ' : M3) => (Fr [32] μ μ') ∧ (IC μ') ∧ ((μ.1 32 13 = 0 ∧ μ'.1 32 13 = 3) ∨ (μ.1 32 13 ≠ 0 ∧ μ'.1 32 13 = μ.1 32 13)) ∧ (μ'.1 32 10 = μ.1 32 10) ∧ (μ'.1 32 11 = μ.1 32 11) ∧ (μ'.1 32 12 = μ.1 32 12) ∧ (μ'.1 32 14 = μ.1 32 14) ∧ (μ'.1 32 15 = μ.1 32 15) ∧ (μ'.1 32 16 = μ.1 32 16)) := by
  refine CtV.go (by decide) (Nat.le_of_ble_eq_true rfl) (fun ρ p e s m below meth c R ls G hR hret hlk hl => ?_)
  have hx := G.1.1
  have hb := G.1.2.1
  have hl : lv_has ls 1 [(0, .ref (oP ω 32))] := hl
  generalize s.drawn = d0 at G ⊢
  refine lv_aload_n hx hb dX4_leaveIfGoing_0 rfl (lv_at hl 0 rfl) ?_
  refine xa_geti G fd_X4 (a := 32) (x := μ.1 32 13) 13 rfl (by decide) rfl (wm 2 157 rfl rfl) ⟨rfl, rfl, rfl⟩ dX4_leaveIfGoing_1 rfl rfl ?_
  have hr_1 : -2147483648 ≤ μ.1 32 13 ∧ μ.1 32 13 ≤ 2147483647 := by have h9 := G.hr (a := 32) (k := 13) rfl; exact h9
  refine xb_if_ne (tgt := 12) hx hb (by unfold ir; omega) dX4_leaveIfGoing_4 (by decide) (fun c_4 => ?_) (fun c_4 => ?_)
  · exact xr_v G hret hlk dX4_leaveIfGoing_12 ⟨Fr.rf, hI, (by omega), (by omega), (by omega), (by omega), (by omega), (by omega), (by omega)⟩
  · refine lv_aload_n hx hb dX4_leaveIfGoing_7 rfl (lv_at hl 0 rfl) ?_
    refine lv_iconst (v := iv 3) hx hb dX4_leaveIfGoing_8 rfl ?_
    refine xa_puti G fd_X4 (a := 32) (x := 3) 13 (kz := 13) rfl rfl (by decide) rfl (by unfold ir; omega) (wm 2 157 rfl rfl) ⟨rfl, rfl, rfl, rfl⟩ rfl dX4_leaveIfGoing_9 rfl (fun H locs G => ?_)
    have hI_2 : IC (sv μ 32 13 3) := (IC.put hI (by decide +kernel))
    have e_3 : (sv μ 32 13 3).1 32 13 = 3 := (sv_s _ _ _ _)
    have e_4 : (sv μ 32 13 3).1 32 13 = 3 := (sv_s _ _ _ _)
    have e_5 : (sv μ 32 13 3).1 32 10 = μ.1 32 10 := (sv_n _ (by decide))
    have e_6 : (sv μ 32 13 3).1 32 11 = μ.1 32 11 := (sv_n _ (by decide))
    have e_7 : (sv μ 32 13 3).1 32 12 = μ.1 32 12 := (sv_n _ (by decide))
    have e_8 : (sv μ 32 13 3).1 32 14 = μ.1 32 14 := (sv_n _ (by decide))
    have e_9 : (sv μ 32 13 3).1 32 15 = μ.1 32 15 := (sv_n _ (by decide))
    have e_10 : (sv μ 32 13 3).1 32 16 = μ.1 32 16 := (sv_n _ (by decide))
    exact xr_v G hret hlk dX4_leaveIfGoing_12 ⟨(Fr.put Fr.rf (by decide)), hI_2, (by omega), (by omega), (by omega), (by omega), (by omega), (by omega), (by omega)⟩

set_option maxHeartbeats 4000000 in
set_option maxRecDepth 100000 in
theorem c_X4_give (ω : Om) (l : Launch) (μ : M3) (x1 : Int) (S : Int) (hx1 : ir x1) (hI : IC μ) (hS : S = μ.1 33 3) (hSb : S < 240099) : CtV ω l yX4_give cX4_give 3 4 150 [.ref (oP ω 32), .int (iv x1)] μ (fun (μ' : M3) => (Fr [32, 70, 33, 34, 35, 36] μ μ') ∧ (IC μ') ∧ ((μ'.1 33 3 = S + 1 ∧ μ'.1 32 13 = μ.1 32 13 ∧ ofF μ 53 = 2) ∨ (μ'.1 33 3 = S ∧ μ'.1 32 13 = 1 ∧ ofF μ 53 ≠ 2)) ∧ (μ'.1 32 10 = μ.1 32 10) ∧ (μ'.1 32 11 = μ.1 32 11) ∧ (μ'.1 32 12 = μ.1 32 12) ∧ (μ'.1 32 15 = μ.1 32 15) ∧ (μ'.1 32 16 = μ.1 32 16) ∧ (μ'.1 70 0 = μ.1 70 0) ∧ (μ'.1 70 1 = μ.1 70 1) ∧ (μ'.1 70 2 = μ.1 70 2) ∧ (μ'.1 70 3 = μ.1 70 3) ∧ (μ'.1 70 4 = μ.1 70 4) ∧ (μ'.1 70 5 = μ.1 70 5) ∧ (μ'.1 70 6 = μ.1 70 6) ∧ (μ'.1 70 7 = μ.1 70 7) ∧ (μ'.1 70 8 = μ.1 70 8)) := by
  refine CtV.go (by decide) (Nat.le_of_ble_eq_true rfl) (fun ρ p e s m below meth c R ls G hR hret hlk hl => ?_)
  have hx := G.1.1
  have hb := G.1.2.1
  have hl : lv_has ls 3 [(0, .ref (oP ω 32)), (1, .int (iv x1))] := hl
  generalize s.drawn = d0 at G ⊢
  have hr_x1 : -2147483648 ≤ x1 ∧ x1 ≤ 2147483647 := hx1
  have hk_1 := hI.row (r := 33) (by unfold isRow; decide)
  unfold rk at hk_1
  simp only [Int.reduceAdd] at hk_1
  have hbr_33 : BR 33 = 240100 := rfl
  refine lv_aload_n hx hb dX4_give_0 rfl (lv_at hl 0 rfl) ?_
  refine xa_getr G fd_X4 (a := 32) (x := 52) 7 rfl (by decide) rfl (wm 2 151 rfl rfl) ⟨rfl, rfl, rfl⟩ dX4_give_1 rfl (G.sk 40 rfl) (by decide) rfl ?_
  refine xc_iV G (b := 52) (rest := []) (As := []) (c_X2_tongue ω l μ  hI) (wm 5 218 rfl rfl) (wm 5 219 rfl rfl) (wm 5 220 rfl rfl) rfl rfl (by decide) rfl (wm 1 16 rfl rfl) (wm 5 221 rfl rfl) (by decide) hR (by decide) (n := 0) rfl rfl (Nat.le_of_ble_eq_true rfl) hl.1 dX4_give_4 (fun r_3 μ2 ρ d0 H locs hr_r_3 hp G => ?_)
  have hr_r_3 : -2147483648 ≤ r_3 ∧ r_3 ≤ 2147483647 := hr_r_3
  obtain ⟨hsm_4, hp_5⟩ := hp
  have hsm_4 := Eq.symm hsm_4
  subst hsm_4
  refine lv_istore_n (lv' := [(2, .int (iv r_3)), (0, .ref (oP ω 32)), (1, .int (iv x1))]) hx hb dX4_give_7 rfl hl (by decide) rfl (fun ls hl => ?_)
  refine lv_iload_n hx hb dX4_give_8 rfl (lv_at hl 0 rfl) ?_
  refine lv_iconst (v := iv 2) hx hb dX4_give_9 rfl ?_
  refine xb_icmp_ne (tgt := 25) hx hb (by unfold ir; omega) (by unfold ir; omega) dX4_give_10 (by decide) (fun c_10 => ?_) (fun c_10 => ?_)
  · refine lv_iload_n hx hb dX4_give_25 rfl (lv_at hl 0 rfl) ?_
    refine lv_iconst (v := iv 1) hx hb dX4_give_26 rfl ?_
    refine xb_icmp_ne (tgt := 46) hx hb (by unfold ir; omega) (by unfold ir; omega) dX4_give_27 (by decide) (fun c_27 => ?_) (fun c_27 => ?_)
    · refine lv_aload_n hx hb dX4_give_46 rfl (lv_at hl 1 rfl) ?_
      refine lv_iload_n hx hb dX4_give_47 rfl (lv_at hl 2 rfl) ?_
      refine xa_puti G fd_X4 (a := 32) (x := x1) 14 (kz := 14) rfl rfl (by decide) rfl (by unfold ir; omega) (wm 2 158 rfl rfl) ⟨rfl, rfl, rfl, rfl⟩ rfl dX4_give_48 rfl (fun H locs G => ?_)
      refine lv_aload_n hx hb dX4_give_51 rfl (lv_at hl 1 rfl) ?_
      refine lv_iconst (v := iv 1) hx hb dX4_give_52 rfl ?_
      refine xa_puti G fd_X4 (a := 32) (x := 1) 13 (kz := 13) rfl rfl (by decide) rfl (by unfold ir; omega) (wm 2 157 rfl rfl) ⟨rfl, rfl, rfl, rfl⟩ rfl dX4_give_53 rfl (fun H locs G => ?_)
      have hI_6 : IC (sv (sv μ 32 14 x1) 32 13 1) := (IC.put (IC.put hI (by decide +kernel)) (by decide +kernel))
      have e_7 : (sv (sv μ 32 14 x1) 32 13 1).1 33 3 = S := ((sv_n _ (fun h9 => absurd h9.1 (by decide))).trans ((sv_n _ (fun h9 => absurd h9.1 (by decide))).trans hS.symm))
      have e_8 : (sv (sv μ 32 14 x1) 32 13 1).1 32 13 = 1 := (sv_s _ _ _ _)
      have e_9 : (sv (sv μ 32 14 x1) 32 13 1).1 33 3 = S := ((sv_n _ (fun h9 => absurd h9.1 (by decide))).trans ((sv_n _ (fun h9 => absurd h9.1 (by decide))).trans hS.symm))
      have e_10 : (sv (sv μ 32 14 x1) 32 13 1).1 32 13 = 1 := (sv_s _ _ _ _)
      have e_11 : (sv (sv μ 32 14 x1) 32 13 1).1 32 10 = μ.1 32 10 := ((sv_n _ (by decide)).trans (sv_n _ (by decide)))
      have e_12 : (sv (sv μ 32 14 x1) 32 13 1).1 32 11 = μ.1 32 11 := ((sv_n _ (by decide)).trans (sv_n _ (by decide)))
      have e_13 : (sv (sv μ 32 14 x1) 32 13 1).1 32 12 = μ.1 32 12 := ((sv_n _ (by decide)).trans (sv_n _ (by decide)))
      have e_14 : (sv (sv μ 32 14 x1) 32 13 1).1 32 15 = μ.1 32 15 := ((sv_n _ (by decide)).trans (sv_n _ (by decide)))
      have e_15 : (sv (sv μ 32 14 x1) 32 13 1).1 32 16 = μ.1 32 16 := ((sv_n _ (by decide)).trans (sv_n _ (by decide)))
      have e_16 : (sv (sv μ 32 14 x1) 32 13 1).1 70 0 = μ.1 70 0 := ((sv_n _ (fun h9 => absurd h9.1 (by decide))).trans (sv_n _ (fun h9 => absurd h9.1 (by decide))))
      have e_17 : (sv (sv μ 32 14 x1) 32 13 1).1 70 1 = μ.1 70 1 := ((sv_n _ (fun h9 => absurd h9.1 (by decide))).trans (sv_n _ (fun h9 => absurd h9.1 (by decide))))
      have e_18 : (sv (sv μ 32 14 x1) 32 13 1).1 70 2 = μ.1 70 2 := ((sv_n _ (fun h9 => absurd h9.1 (by decide))).trans (sv_n _ (fun h9 => absurd h9.1 (by decide))))
      have e_19 : (sv (sv μ 32 14 x1) 32 13 1).1 70 3 = μ.1 70 3 := ((sv_n _ (fun h9 => absurd h9.1 (by decide))).trans (sv_n _ (fun h9 => absurd h9.1 (by decide))))
      have e_20 : (sv (sv μ 32 14 x1) 32 13 1).1 70 4 = μ.1 70 4 := ((sv_n _ (fun h9 => absurd h9.1 (by decide))).trans (sv_n _ (fun h9 => absurd h9.1 (by decide))))
      have e_21 : (sv (sv μ 32 14 x1) 32 13 1).1 70 5 = μ.1 70 5 := ((sv_n _ (fun h9 => absurd h9.1 (by decide))).trans (sv_n _ (fun h9 => absurd h9.1 (by decide))))
      have e_22 : (sv (sv μ 32 14 x1) 32 13 1).1 70 6 = μ.1 70 6 := ((sv_n _ (fun h9 => absurd h9.1 (by decide))).trans (sv_n _ (fun h9 => absurd h9.1 (by decide))))
      have e_23 : (sv (sv μ 32 14 x1) 32 13 1).1 70 7 = μ.1 70 7 := ((sv_n _ (fun h9 => absurd h9.1 (by decide))).trans (sv_n _ (fun h9 => absurd h9.1 (by decide))))
      have e_24 : (sv (sv μ 32 14 x1) 32 13 1).1 70 8 = μ.1 70 8 := ((sv_n _ (fun h9 => absurd h9.1 (by decide))).trans (sv_n _ (fun h9 => absurd h9.1 (by decide))))
      exact xr_v G hret hlk dX4_give_56 ⟨(Fr.put (Fr.put Fr.rf (by decide)) (by decide)), hI_6, (by omega), (by omega), (by omega), (by omega), (by omega), (by omega), (by omega), (by omega), (by omega), (by omega), (by omega), (by omega), (by omega), (by omega), (by omega)⟩
    · refine lv_aload_n hx hb dX4_give_30 rfl (lv_at hl 1 rfl) ?_
      refine xa_getr G fd_X4 (a := 32) (x := 70) 9 rfl (by decide) rfl (wm 2 153 rfl rfl) ⟨rfl, rfl, rfl⟩ dX4_give_31 rfl (G.sk 42 rfl) (by decide) rfl ?_
      refine lv_bipush (v := iv 9) hx hb dX4_give_34 rfl ?_
      refine lv_aload_n hx hb dX4_give_36 rfl (lv_at hl 1 rfl) ?_
      refine xa_getr G fd_X4 (a := 32) (x := 45) 6 rfl (by decide) rfl (wm 2 150 rfl rfl) ⟨rfl, rfl, rfl⟩ dX4_give_37 rfl (G.sk 39 rfl) (by decide) rfl ?_
      refine lv_iload_n hx hb dX4_give_40 rfl (lv_at hl 2 rfl) ?_
      refine lv_iconst (v := iv 1) hx hb dX4_give_41 rfl ?_
      have hn_25 : 0 ≤ μ.1 45 1 ∧ 9 * μ.1 45 1 ≤ μ.2.1 46 := hI.nm.2.2.2.2.2.2.1
      have hn_26 : 0 ≤ μ.1 45 4 ∧ 2 * μ.1 45 4 ≤ μ.2.1 51 := hI.nm.2.2.2.2.2.2.2.1
      refine xc_iV G (b := 45) (rest := [.int (iv 9), .ref (oP ω 70)]) (As := [.int (iv x1), .int (iv 1)]) (c_X1_fact ω l μ x1 1 (μ.1 45 1) (μ.1 45 4) (by unfold ir; omega) (by unfold ir; omega) hI (by omega) (by omega)) (wm 5 168 rfl rfl) (wm 5 169 rfl rfl) (wm 5 170 rfl rfl) rfl rfl (by decide) rfl (wm 1 15 rfl rfl) (wm 5 171 rfl rfl) (by decide) hR (by decide) (n := 2) rfl rfl (Nat.le_of_ble_eq_true rfl) hl.1 dX4_give_42 (fun r_28 μ27 ρ d0 H locs hr_r_28 hp G => ?_)
      have hr_r_28 : -2147483648 ≤ r_28 ∧ r_28 ≤ 2147483647 := hr_r_28
      have hsm_29 := hp
      have hsm_29 := Eq.symm hsm_29
      subst hsm_29
      refine xa_iast G (a := 70) (i := 9) (x := r_28) rfl (by have h9 := G.lc (a := 70) (n := 10) 33 rfl; omega) (by unfold ir; omega) dX4_give_45 rfl (fun H locs G => ?_)
      refine lv_aload_n hx hb dX4_give_46 rfl (lv_at hl 1 rfl) ?_
      refine lv_iload_n hx hb dX4_give_47 rfl (lv_at hl 2 rfl) ?_
      refine xa_puti G fd_X4 (a := 32) (x := x1) 14 (kz := 14) rfl rfl (by decide) rfl (by unfold ir; omega) (wm 2 158 rfl rfl) ⟨rfl, rfl, rfl, rfl⟩ rfl dX4_give_48 rfl (fun H locs G => ?_)
      refine lv_aload_n hx hb dX4_give_51 rfl (lv_at hl 1 rfl) ?_
      refine lv_iconst (v := iv 1) hx hb dX4_give_52 rfl ?_
      refine xa_puti G fd_X4 (a := 32) (x := 1) 13 (kz := 13) rfl rfl (by decide) rfl (by unfold ir; omega) (wm 2 157 rfl rfl) ⟨rfl, rfl, rfl, rfl⟩ rfl dX4_give_53 rfl (fun H locs G => ?_)
      have hI_30 : IC (sv (sv (sv μ 70 9 r_28) 32 14 x1) 32 13 1) := (IC.put (IC.put (IC.pua hI (by decide)) (by decide +kernel)) (by decide +kernel))
      have e_31 : (sv (sv (sv μ 70 9 r_28) 32 14 x1) 32 13 1).1 33 3 = S := ((sv_n _ (fun h9 => absurd h9.1 (by decide))).trans ((sv_n _ (fun h9 => absurd h9.1 (by decide))).trans ((sv_n _ (fun h9 => absurd h9.1 (by decide))).trans hS.symm)))
      have e_32 : (sv (sv (sv μ 70 9 r_28) 32 14 x1) 32 13 1).1 32 13 = 1 := (sv_s _ _ _ _)
      have e_33 : (sv (sv (sv μ 70 9 r_28) 32 14 x1) 32 13 1).1 33 3 = S := ((sv_n _ (fun h9 => absurd h9.1 (by decide))).trans ((sv_n _ (fun h9 => absurd h9.1 (by decide))).trans ((sv_n _ (fun h9 => absurd h9.1 (by decide))).trans hS.symm)))
      have e_34 : (sv (sv (sv μ 70 9 r_28) 32 14 x1) 32 13 1).1 32 13 = 1 := (sv_s _ _ _ _)
      have e_35 : (sv (sv (sv μ 70 9 r_28) 32 14 x1) 32 13 1).1 32 10 = μ.1 32 10 := ((sv_n _ (by decide)).trans ((sv_n _ (by decide)).trans (sv_n _ (fun h9 => absurd h9.1 (by decide)))))
      have e_36 : (sv (sv (sv μ 70 9 r_28) 32 14 x1) 32 13 1).1 32 11 = μ.1 32 11 := ((sv_n _ (by decide)).trans ((sv_n _ (by decide)).trans (sv_n _ (fun h9 => absurd h9.1 (by decide)))))
      have e_37 : (sv (sv (sv μ 70 9 r_28) 32 14 x1) 32 13 1).1 32 12 = μ.1 32 12 := ((sv_n _ (by decide)).trans ((sv_n _ (by decide)).trans (sv_n _ (fun h9 => absurd h9.1 (by decide)))))
      have e_38 : (sv (sv (sv μ 70 9 r_28) 32 14 x1) 32 13 1).1 32 15 = μ.1 32 15 := ((sv_n _ (by decide)).trans ((sv_n _ (by decide)).trans (sv_n _ (fun h9 => absurd h9.1 (by decide)))))
      have e_39 : (sv (sv (sv μ 70 9 r_28) 32 14 x1) 32 13 1).1 32 16 = μ.1 32 16 := ((sv_n _ (by decide)).trans ((sv_n _ (by decide)).trans (sv_n _ (fun h9 => absurd h9.1 (by decide)))))
      have e_40 : (sv (sv (sv μ 70 9 r_28) 32 14 x1) 32 13 1).1 70 0 = μ.1 70 0 := ((sv_n _ (fun h9 => absurd h9.1 (by decide))).trans ((sv_n _ (fun h9 => absurd h9.1 (by decide))).trans (sv_n _ (by decide))))
      have e_41 : (sv (sv (sv μ 70 9 r_28) 32 14 x1) 32 13 1).1 70 1 = μ.1 70 1 := ((sv_n _ (fun h9 => absurd h9.1 (by decide))).trans ((sv_n _ (fun h9 => absurd h9.1 (by decide))).trans (sv_n _ (by decide))))
      have e_42 : (sv (sv (sv μ 70 9 r_28) 32 14 x1) 32 13 1).1 70 2 = μ.1 70 2 := ((sv_n _ (fun h9 => absurd h9.1 (by decide))).trans ((sv_n _ (fun h9 => absurd h9.1 (by decide))).trans (sv_n _ (by decide))))
      have e_43 : (sv (sv (sv μ 70 9 r_28) 32 14 x1) 32 13 1).1 70 3 = μ.1 70 3 := ((sv_n _ (fun h9 => absurd h9.1 (by decide))).trans ((sv_n _ (fun h9 => absurd h9.1 (by decide))).trans (sv_n _ (by decide))))
      have e_44 : (sv (sv (sv μ 70 9 r_28) 32 14 x1) 32 13 1).1 70 4 = μ.1 70 4 := ((sv_n _ (fun h9 => absurd h9.1 (by decide))).trans ((sv_n _ (fun h9 => absurd h9.1 (by decide))).trans (sv_n _ (by decide))))
      have e_45 : (sv (sv (sv μ 70 9 r_28) 32 14 x1) 32 13 1).1 70 5 = μ.1 70 5 := ((sv_n _ (fun h9 => absurd h9.1 (by decide))).trans ((sv_n _ (fun h9 => absurd h9.1 (by decide))).trans (sv_n _ (by decide))))
      have e_46 : (sv (sv (sv μ 70 9 r_28) 32 14 x1) 32 13 1).1 70 6 = μ.1 70 6 := ((sv_n _ (fun h9 => absurd h9.1 (by decide))).trans ((sv_n _ (fun h9 => absurd h9.1 (by decide))).trans (sv_n _ (by decide))))
      have e_47 : (sv (sv (sv μ 70 9 r_28) 32 14 x1) 32 13 1).1 70 7 = μ.1 70 7 := ((sv_n _ (fun h9 => absurd h9.1 (by decide))).trans ((sv_n _ (fun h9 => absurd h9.1 (by decide))).trans (sv_n _ (by decide))))
      have e_48 : (sv (sv (sv μ 70 9 r_28) 32 14 x1) 32 13 1).1 70 8 = μ.1 70 8 := ((sv_n _ (fun h9 => absurd h9.1 (by decide))).trans ((sv_n _ (fun h9 => absurd h9.1 (by decide))).trans (sv_n _ (by decide))))
      exact xr_v G hret hlk dX4_give_56 ⟨(Fr.put (Fr.put (Fr.put Fr.rf (by decide)) (by decide)) (by decide)), hI_30, (by omega), (by omega), (by omega), (by omega), (by omega), (by omega), (by omega), (by omega), (by omega), (by omega), (by omega), (by omega), (by omega), (by omega), (by omega)⟩
  · refine lv_aload_n hx hb dX4_give_13 rfl (lv_at hl 1 rfl) ?_
    refine xa_getr G fd_X4 (a := 32) (x := 33) 3 rfl (by decide) rfl (wm 2 147 rfl rfl) ⟨rfl, rfl, rfl⟩ dX4_give_14 rfl (G.sk 36 rfl) (by decide) rfl ?_
    refine lv_iconst (v := iv 4) hx hb dX4_give_17 rfl ?_
    refine lv_iload_n hx hb dX4_give_18 rfl (lv_at hl 2 rfl) ?_
    refine xb_i2l hx hb (by unfold ir; omega) dX4_give_19 ?_
    refine lv_dconst0 hx hb dX4_give_20 ?_
    refine xb_topd (fun dd_49 he_dd_49 => ?_)
    have e_50 : μ.1 33 3 = S := hS.symm
    refine xc_vV G (b := 33) (rest := []) (As := [.int (iv 4), .long (jv x1), .double (dv dd_49)]) (c_X9_push ω l μ 33 4 x1 dd_49 S (by unfold isRow; decide) (by unfold ir; omega) (by unfold jr; omega) hI (by omega) (by omega)) (wm 5 74 rfl rfl) (wm 4 72 rfl rfl) (wm 4 73 rfl rfl) rfl rfl (by decide) rfl (wm 1 10 rfl rfl) (wm 4 74 rfl rfl) (by decide) hR (by decide) (n := 3) rfl rfl (Nat.le_of_ble_eq_true rfl) hl.1 dX4_give_21 (fun μ51 ρ d0 H locs hp G => ?_)
    obtain ⟨F_52, hI_53, hs_54⟩ := hp
    have e_55 : μ51.1 33 3 = S + 1 := hs_54
    have e_56 : μ51.1 32 13 = μ.1 32 13 := (F_52.1 32 (by decide) 13)
    have e_57 : μ51.1 33 3 = S + 1 := hs_54
    have e_58 : μ51.1 32 13 = μ.1 32 13 := (F_52.1 32 (by decide) 13)
    have e_59 : μ51.1 32 10 = μ.1 32 10 := (F_52.1 32 (by decide) 10)
    have e_60 : μ51.1 32 11 = μ.1 32 11 := (F_52.1 32 (by decide) 11)
    have e_61 : μ51.1 32 12 = μ.1 32 12 := (F_52.1 32 (by decide) 12)
    have e_62 : μ51.1 32 15 = μ.1 32 15 := (F_52.1 32 (by decide) 15)
    have e_63 : μ51.1 32 16 = μ.1 32 16 := (F_52.1 32 (by decide) 16)
    have e_64 : μ51.1 70 0 = μ.1 70 0 := (F_52.1 70 (by decide) 0)
    have e_65 : μ51.1 70 1 = μ.1 70 1 := (F_52.1 70 (by decide) 1)
    have e_66 : μ51.1 70 2 = μ.1 70 2 := (F_52.1 70 (by decide) 2)
    have e_67 : μ51.1 70 3 = μ.1 70 3 := (F_52.1 70 (by decide) 3)
    have e_68 : μ51.1 70 4 = μ.1 70 4 := (F_52.1 70 (by decide) 4)
    have e_69 : μ51.1 70 5 = μ.1 70 5 := (F_52.1 70 (by decide) 5)
    have e_70 : μ51.1 70 6 = μ.1 70 6 := (F_52.1 70 (by decide) 6)
    have e_71 : μ51.1 70 7 = μ.1 70 7 := (F_52.1 70 (by decide) 7)
    have e_72 : μ51.1 70 8 = μ.1 70 8 := (F_52.1 70 (by decide) 8)
    exact xr_v G hret hlk dX4_give_24 ⟨(Fr.tr Fr.rf F_52 (by decide)), hI_53, (by omega), (by omega), (by omega), (by omega), (by omega), (by omega), (by omega), (by omega), (by omega), (by omega), (by omega), (by omega), (by omega), (by omega), (by omega)⟩

set_option maxHeartbeats 4000000 in
set_option maxRecDepth 100000 in
theorem c_X4_fails (ω : Om) (l : Launch) (μ : M3) (x1 : Int) (x2 : Int) (S : Int) (hx1 : ir x1) (hx2 : ir x2) (hI : IC μ) (hS : S = μ.1 33 3) (hSb : S < 240099) (hst : 0 ≤ μ.1 70 2 ∧ μ.1 70 2 ≤ 5000 ∧ 0 ≤ μ.1 70 8 ∧ μ.1 70 8 ≤ 80000 ∧ μ.1 45 1 ≤ μ.1 70 2) (hp9 : 0 ≤ x2) : CtV ω l yX4_fails cX4_fails 3 5 172 [.ref (oP ω 32), .int (iv x1), .int (iv x2)] μ (fun (μ' : M3) => (Fr [33, 34, 35, 36, 70, 32, 45, 46, 47, 48, 49, 50] μ μ') ∧ (IC μ') ∧ (((μ'.1 33 3 ≤ max (S - x2) 0 + 1 ∧ μ'.1 32 13 = μ.1 32 13 ∧ ofF μ 53 = 2) ∨ (μ'.1 33 3 ≤ max S 0 ∧ (μ'.1 32 13 = 1 ∨ μ'.1 32 13 = 4)))) ∧ (μ.1 70 2 ≤ μ'.1 70 2 ∧ μ'.1 70 2 ≤ 5000 ∧ 0 ≤ μ'.1 70 8 ∧ μ'.1 70 8 ≤ 80000 ∧ μ'.1 45 1 ≤ μ'.1 70 2) ∧ (μ'.1 70 1 = μ.1 70 1) ∧ (μ'.1 70 3 = μ.1 70 3) ∧ (μ'.1 70 4 = μ.1 70 4) ∧ (μ'.1 70 5 = μ.1 70 5) ∧ (μ'.1 70 6 = μ.1 70 6) ∧ (μ'.1 70 7 = μ.1 70 7) ∧ (μ'.1 32 10 = μ.1 32 10) ∧ (μ'.1 32 11 = μ.1 32 11) ∧ (μ'.1 32 12 = μ.1 32 12) ∧ (μ'.1 32 15 = μ.1 32 15) ∧ (μ'.1 32 16 = μ.1 32 16) ∧ (μ'.1 45 4 = μ.1 45 4)) := by
  refine CtV.go (by decide) (Nat.le_of_ble_eq_true rfl) (fun ρ p e s m below meth c R ls G hR hret hlk hl => ?_)
  have hx := G.1.1
  have hb := G.1.2.1
  have hl : lv_has ls 3 [(0, .ref (oP ω 32)), (1, .int (iv x1)), (2, .int (iv x2))] := hl
  generalize s.drawn = d0 at G ⊢
  have hr_x1 : -2147483648 ≤ x1 ∧ x1 ≤ 2147483647 := hx1
  have hr_x2 : -2147483648 ≤ x2 ∧ x2 ≤ 2147483647 := hx2
  have hk_1 := hI.row (r := 33) (by unfold isRow; decide)
  unfold rk at hk_1
  simp only [Int.reduceAdd] at hk_1
  have hbr_33 : BR 33 = 240100 := rfl
  refine lv_aload_n hx hb dX4_fails_0 rfl (lv_at hl 0 rfl) ?_
  refine xa_getr G fd_X4 (a := 32) (x := 33) 3 rfl (by decide) rfl (wm 2 147 rfl rfl) ⟨rfl, rfl, rfl⟩ dX4_fails_1 rfl (G.sk 36 rfl) (by decide) rfl ?_
  refine lv_iload_n hx hb dX4_fails_4 rfl (lv_at hl 2 rfl) ?_
  have e_2 : μ.1 33 3 = S := hS.symm
  refine xc_vV G (b := 33) (rest := []) (As := [.int (iv x2)]) (c_X9_drop ω l μ 33 x2 S (by unfold isRow; decide) (by unfold ir; omega) hI (by omega) (by omega)) (wm 6 89 rfl rfl) (wm 6 90 rfl rfl) (wm 6 91 rfl rfl) rfl rfl (by decide) rfl (wm 1 10 rfl rfl) (wm 6 92 rfl rfl) (by decide) hR (by decide) (n := 1) rfl rfl (Nat.le_of_ble_eq_true rfl) hl.1 dX4_fails_5 (fun μ3 ρ d0 H locs hp G => ?_)
  obtain ⟨F_4, hI_5, hs_6⟩ := hp
  refine lv_aload_n hx hb dX4_fails_8 rfl (lv_at hl 0 rfl) ?_
  have e_7 : μ3.1 70 2 = μ.1 70 2 := (F_4.1 70 (by decide) 2)
  have e_8 : μ3.1 70 2 = μ.1 70 2 := (F_4.1 70 (by decide) 2)
  have e_9 : μ3.1 70 8 = μ.1 70 8 := (F_4.1 70 (by decide) 8)
  have e_10 : μ3.1 70 8 = μ.1 70 8 := (F_4.1 70 (by decide) 8)
  have hn_11 : 0 ≤ μ.1 45 1 ∧ 9 * μ.1 45 1 ≤ μ.2.1 46 := hI.nm.2.2.2.2.2.2.1
  have e_12 : μ3.1 45 1 = μ.1 45 1 := (F_4.1 45 (by decide) 1)
  have e_13 : μ3.1 70 2 = μ.1 70 2 := (F_4.1 70 (by decide) 2)
  have e_14 : μ3.1 70 2 = μ.1 70 2 := (F_4.1 70 (by decide) 2)
  have e_15 : μ3.1 70 8 = μ.1 70 8 := (F_4.1 70 (by decide) 8)
  have e_16 : μ3.1 32 13 = μ.1 32 13 := (F_4.1 32 (by decide) 13)
  have e_17 : μ3.1 70 2 = μ.1 70 2 := (F_4.1 70 (by decide) 2)
  have e_18 : μ3.1 70 8 = μ.1 70 8 := (F_4.1 70 (by decide) 8)
  have e_19 : μ3.1 70 2 = μ.1 70 2 := (F_4.1 70 (by decide) 2)
  have e_20 : μ3.1 70 8 = μ.1 70 8 := (F_4.1 70 (by decide) 8)
  have e_21 : μ3.1 70 1 = μ.1 70 1 := (F_4.1 70 (by decide) 1)
  have e_22 : μ3.1 70 3 = μ.1 70 3 := (F_4.1 70 (by decide) 3)
  have e_23 : μ3.1 70 4 = μ.1 70 4 := (F_4.1 70 (by decide) 4)
  have e_24 : μ3.1 70 5 = μ.1 70 5 := (F_4.1 70 (by decide) 5)
  have e_25 : μ3.1 70 6 = μ.1 70 6 := (F_4.1 70 (by decide) 6)
  have e_26 : μ3.1 70 7 = μ.1 70 7 := (F_4.1 70 (by decide) 7)
  have e_27 : μ3.1 70 9 = μ.1 70 9 := (F_4.1 70 (by decide) 9)
  have e_28 : μ3.1 32 10 = μ.1 32 10 := (F_4.1 32 (by decide) 10)
  have e_29 : μ3.1 32 11 = μ.1 32 11 := (F_4.1 32 (by decide) 11)
  have e_30 : μ3.1 32 12 = μ.1 32 12 := (F_4.1 32 (by decide) 12)
  have e_31 : μ3.1 32 14 = μ.1 32 14 := (F_4.1 32 (by decide) 14)
  have e_32 : μ3.1 32 15 = μ.1 32 15 := (F_4.1 32 (by decide) 15)
  have e_33 : μ3.1 32 16 = μ.1 32 16 := (F_4.1 32 (by decide) 16)
  refine xc_iV G (b := 32) (rest := []) (As := []) (c_X4_step ω l μ3  hI_5 (by omega)) (wm 6 2 rfl rfl) (wm 6 4 rfl rfl) (wm 0 75 rfl rfl) rfl rfl (by decide) rfl (wm 1 14 rfl rfl) (wm 6 5 rfl rfl) (by decide) hR (by decide) (n := 0) rfl rfl (Nat.le_of_ble_eq_true rfl) hl.1 dX4_fails_9 (fun r_35 μ34 ρ d0 H locs hr_r_35 hp G => ?_)
  have hr_r_35 : -2147483648 ≤ r_35 ∧ r_35 ≤ 2147483647 := hr_r_35
  obtain ⟨F_36, hI_37, hp_38, hs_39, hs_40, hs_41, hs_42, hs_43, hs_44, hs_45, hs_46, hs_47, hs_48, hs_49, hs_50, hs_51⟩ := hp
  refine xb_if_eq (tgt := 54) hx hb (by unfold ir; omega) dX4_fails_12 (by decide) (fun c_12 => ?_) (fun c_12 => ?_)
  · have e_52 : μ34.1 33 3 = max (S - x2) 0 := ((F_36.1 33 (by decide) 3).trans hs_6)
    have e_53 : μ34.1 33 3 = max (S - x2) 0 := ((F_36.1 33 (by decide) 3).trans hs_6)
    have e_54 : μ34.1 45 1 = μ.1 45 1 := ((F_36.1 45 (by decide) 1).trans (F_4.1 45 (by decide) 1))
    have e_55 : μ34.1 70 1 = μ.1 70 1 := (hs_39.trans (F_4.1 70 (by decide) 1))
    have e_56 : μ34.1 70 3 = μ.1 70 3 := (hs_40.trans (F_4.1 70 (by decide) 3))
    have e_57 : μ34.1 70 4 = μ.1 70 4 := (hs_41.trans (F_4.1 70 (by decide) 4))
    have e_58 : μ34.1 70 5 = μ.1 70 5 := (hs_42.trans (F_4.1 70 (by decide) 5))
    have e_59 : μ34.1 70 6 = μ.1 70 6 := (hs_43.trans (F_4.1 70 (by decide) 6))
    have e_60 : μ34.1 70 7 = μ.1 70 7 := (hs_44.trans (F_4.1 70 (by decide) 7))
    have e_61 : μ34.1 32 10 = μ.1 32 10 := (hs_46.trans (F_4.1 32 (by decide) 10))
    have e_62 : μ34.1 32 11 = μ.1 32 11 := (hs_47.trans (F_4.1 32 (by decide) 11))
    have e_63 : μ34.1 32 12 = μ.1 32 12 := (hs_48.trans (F_4.1 32 (by decide) 12))
    have e_64 : μ34.1 32 15 = μ.1 32 15 := (hs_50.trans (F_4.1 32 (by decide) 15))
    have e_65 : μ34.1 32 16 = μ.1 32 16 := (hs_51.trans (F_4.1 32 (by decide) 16))
    have e_66 : μ34.1 45 4 = μ.1 45 4 := ((F_36.1 45 (by decide) 4).trans (F_4.1 45 (by decide) 4))
    exact xr_v G hret hlk dX4_fails_54 ⟨(Fr.tr (Fr.tr Fr.rf F_4 (by decide)) F_36 (by decide)), hI_37, (by omega), (by omega), (by omega), (by omega), (by omega), (by omega), (by omega), (by omega), (by omega), (by omega), (by omega), (by omega), (by omega), (by omega)⟩
  · refine lv_aload_n hx hb dX4_fails_15 rfl (lv_at hl 0 rfl) ?_
    refine lv_aload_n hx hb dX4_fails_16 rfl (lv_at hl 0 rfl) ?_
    refine xa_getr G fd_X4 (a := 32) (x := 45) 6 rfl (by decide) rfl (wm 2 150 rfl rfl) ⟨rfl, rfl, rfl⟩ dX4_fails_17 rfl (G.sk 39 rfl) (by decide) rfl ?_
    refine lv_aload_n hx hb dX4_fails_20 rfl (lv_at hl 0 rfl) ?_
    refine xa_getr G fd_X4 (a := 32) (x := 52) 7 rfl (by decide) rfl (wm 2 151 rfl rfl) ⟨rfl, rfl, rfl⟩ dX4_fails_21 rfl (G.sk 40 rfl) (by decide) rfl ?_
    have e_67 : ofF μ34 53 = ofF μ 53 := ((ofF_fr F_36 (by decide) (by decide)).trans (ofF_fr F_4 (by decide) (by decide)))
    refine xc_iV G (b := 52) (rest := [.ref (oP ω 45), .ref (oP ω 32)]) (As := []) (c_X2_tongue ω l μ34  hI_37) (wm 5 218 rfl rfl) (wm 5 219 rfl rfl) (wm 5 220 rfl rfl) rfl rfl (by decide) rfl (wm 1 16 rfl rfl) (wm 5 221 rfl rfl) (by decide) hR (by decide) (n := 0) rfl rfl (Nat.le_of_ble_eq_true rfl) hl.1 dX4_fails_24 (fun r_69 μ68 ρ d0 H locs hr_r_69 hp G => ?_)
    have hr_r_69 : -2147483648 ≤ r_69 ∧ r_69 ≤ 2147483647 := hr_r_69
    obtain ⟨hsm_70, hp_71⟩ := hp
    have hsm_70 := Eq.symm hsm_70
    subst hsm_70
    refine lv_iload_n hx hb dX4_fails_27 rfl (lv_at hl 1 rfl) ?_
    refine lv_aload_n hx hb dX4_fails_28 rfl (lv_at hl 0 rfl) ?_
    obtain ⟨pd72, he_pd72, hd_pd72⟩ : ∃ z : Int, μ.1 32 10 = z ∧ isPr z := ⟨_, rfl, by have h9 := G.sr0.2.2.2.2.1; rw [show μ34.1 32 10 = μ.1 32 10 from (hs_46.trans (F_4.1 32 (by decide) 10))] at h9; exact h9⟩
    have hd_pd72_d : pd72 = 13 ∨ pd72 = 71 ∨ pd72 = 81 ∨ pd72 = 91 ∨ pd72 = 101 := hd_pd72
    refine xa_getr G fd_X4 (a := 32) (x := pd72) 10 rfl (by decide) rfl (wm 2 154 rfl rfl) ⟨rfl, rfl, rfl⟩ dX4_fails_29 rfl (Eq.trans (hs_46.trans (F_4.1 32 (by decide) 10)) he_pd72) (by omega) (hd_pd72.hq ω ρ) ?_
    refine lv_aload_n hx hb dX4_fails_32 rfl (lv_at hl 0 rfl) ?_
    refine xa_geti G fd_X4 (a := 32) (x := μ.1 32 11) 11 rfl (by decide) rfl (wm 2 155 rfl rfl) ⟨rfl, rfl, rfl⟩ dX4_fails_33 rfl (hs_47.trans (F_4.1 32 (by decide) 11)) ?_
    have hr_73 : -2147483648 ≤ μ.1 32 11 ∧ μ.1 32 11 ≤ 2147483647 := by have h9 := G.hr (a := 32) (k := 11) rfl; rw [show μ34.1 32 11 = μ.1 32 11 from (hs_47.trans (F_4.1 32 (by decide) 11))] at h9; exact h9
    have e_74 : μ34.1 32 11 = μ.1 32 11 := (hs_47.trans (F_4.1 32 (by decide) 11))
    refine xc_iV G (b := pd72) (rest := [.int (iv x1), .int (iv r_69), .ref (oP ω 45), .ref (oP ω 32)]) (As := [.int (iv (μ.1 32 11))]) (c_X8_place ω l μ34 pd72 (μ.1 32 11) hd_pd72 (by unfold ir; omega) hI_37) (wm 6 16 rfl rfl) (wm 6 17 rfl rfl) (wm 6 18 rfl rfl) hd_pd72.ly rfl (by decide) (hd_pd72.hq ω ρ) (wm 1 9 rfl rfl) (wm 6 19 rfl rfl) (by decide) hR (by decide) (n := 1) rfl rfl (Nat.le_of_ble_eq_true rfl) hl.1 dX4_fails_36 (fun r_76 μ75 ρ d0 H locs hr_r_76 hp G => ?_)
    have hr_r_76 : -2147483648 ≤ r_76 ∧ r_76 ≤ 2147483647 := hr_r_76
    obtain ⟨hsm_77, hp_78⟩ := hp
    have hsm_77 := Eq.symm hsm_77
    subst hsm_77
    refine lv_iconst (v := iv 0) hx hb dX4_fails_39 rfl ?_
    refine lv_aload_n hx hb dX4_fails_40 rfl (lv_at hl 0 rfl) ?_
    refine xa_getr G fd_X4 (a := 32) (x := 52) 7 rfl (by decide) rfl (wm 2 151 rfl rfl) ⟨rfl, rfl, rfl⟩ dX4_fails_41 rfl (G.sk 40 rfl) (by decide) rfl ?_
    have e_79 : ofF μ34 54 = ofF μ 54 := ((ofF_fr F_36 (by decide) (by decide)).trans (ofF_fr F_4 (by decide) (by decide)))
    refine xc_iV G (b := 52) (rest := [.int (iv 0), .int (iv r_76), .int (iv x1), .int (iv r_69), .ref (oP ω 45), .ref (oP ω 32)]) (As := []) (c_X2_function ω l μ34  hI_37) (wm 6 20 rfl rfl) (wm 6 21 rfl rfl) (wm 6 22 rfl rfl) rfl rfl (by decide) rfl (wm 1 16 rfl rfl) (wm 6 23 rfl rfl) (by decide) hR (by decide) (n := 0) rfl rfl (Nat.le_of_ble_eq_true rfl) hl.1 dX4_fails_44 (fun r_81 μ80 ρ d0 H locs hr_r_81 hp G => ?_)
    have hr_r_81 : -2147483648 ≤ r_81 ∧ r_81 ≤ 2147483647 := hr_r_81
    obtain ⟨hsm_82, hp_83⟩ := hp
    have hsm_82 := Eq.symm hsm_82
    subst hsm_82
    refine lv_iconst (v := iv (-1)) hx hb dX4_fails_47 rfl ?_
    have e_84 : μ34.1 45 1 = μ.1 45 1 := ((F_36.1 45 (by decide) 1).trans (F_4.1 45 (by decide) 1))
    have e_85 : μ34.1 45 1 = μ.1 45 1 := ((F_36.1 45 (by decide) 1).trans (F_4.1 45 (by decide) 1))
    have hn_86 : 0 ≤ μ.1 45 4 ∧ 2 * μ.1 45 4 ≤ μ.2.1 51 := hI.nm.2.2.2.2.2.2.2.1
    have e_87 : μ34.1 45 4 = μ.1 45 4 := ((F_36.1 45 (by decide) 4).trans (F_4.1 45 (by decide) 4))
    have e_88 : μ34.1 45 4 = μ.1 45 4 := ((F_36.1 45 (by decide) 4).trans (F_4.1 45 (by decide) 4))
    have e_89 : μ34.1 45 1 = μ.1 45 1 := ((F_36.1 45 (by decide) 1).trans (F_4.1 45 (by decide) 1))
    have e_90 : μ34.1 45 1 = μ.1 45 1 := ((F_36.1 45 (by decide) 1).trans (F_4.1 45 (by decide) 1))
    have e_91 : μ34.1 45 1 = μ.1 45 1 := ((F_36.1 45 (by decide) 1).trans (F_4.1 45 (by decide) 1))
    have e_92 : μ34.1 45 4 = μ.1 45 4 := ((F_36.1 45 (by decide) 4).trans (F_4.1 45 (by decide) 4))
    have e_93 : μ34.1 45 4 = μ.1 45 4 := ((F_36.1 45 (by decide) 4).trans (F_4.1 45 (by decide) 4))
    refine xc_iV G (b := 45) (rest := [.ref (oP ω 32)]) (As := [.int (iv r_69), .int (iv x1), .int (iv r_76), .int (iv 0), .int (iv r_81), .int (iv (-1))]) (c_X1_add ω l μ34 r_69 x1 r_76 0 r_81 (-1) (μ.1 45 1) (μ.1 45 4) (by unfold ir; omega) (by unfold ir; omega) (by unfold ir; omega) (by unfold ir; omega) (by unfold ir; omega) (by unfold ir; omega) hI_37 (by omega) (by omega) (by omega)) (wm 6 24 rfl rfl) (wm 6 25 rfl rfl) (wm 6 26 rfl rfl) rfl rfl (by decide) rfl (wm 1 15 rfl rfl) (wm 6 27 rfl rfl) (by decide) hR (by decide) (n := 6) rfl rfl (Nat.le_of_ble_eq_true rfl) hl.1 dX4_fails_48 (fun r_95 μ94 ρ d0 H locs hr_r_95 hp G => ?_)
    have hr_r_95 : -2147483648 ≤ r_95 ∧ r_95 ≤ 2147483647 := hr_r_95
    obtain ⟨F_96, hI_97, hp_98, hp_99, hp_100, hs_101⟩ := hp
    have hn_102 : 0 ≤ μ94.1 45 1 ∧ 9 * μ94.1 45 1 ≤ μ94.2.1 46 := hI_97.nm.2.2.2.2.2.2.1
    have hn_103 : 0 ≤ μ94.1 45 4 ∧ 2 * μ94.1 45 4 ≤ μ94.2.1 51 := hI_97.nm.2.2.2.2.2.2.2.1
    have e_104 : μ94.1 33 3 = max (S - x2) 0 := ((F_96.1 33 (by decide) 3).trans ((F_36.1 33 (by decide) 3).trans hs_6))
    have e_105 : μ94.1 32 13 = μ34.1 32 13 := (F_96.1 32 (by decide) 13)
    have e_106 : ofF μ94 53 = ofF μ 53 := ((ofF_fr F_96 (by decide) (by decide)).trans ((ofF_fr F_36 (by decide) (by decide)).trans (ofF_fr F_4 (by decide) (by decide))))
    have e_107 : ofF μ94 53 = ofF μ 53 := ((ofF_fr F_96 (by decide) (by decide)).trans ((ofF_fr F_36 (by decide) (by decide)).trans (ofF_fr F_4 (by decide) (by decide))))
    have e_108 : μ94.1 32 10 = μ.1 32 10 := ((F_96.1 32 (by decide) 10).trans (hs_46.trans (F_4.1 32 (by decide) 10)))
    have e_109 : μ94.1 32 11 = μ.1 32 11 := ((F_96.1 32 (by decide) 11).trans (hs_47.trans (F_4.1 32 (by decide) 11)))
    have e_110 : μ94.1 32 12 = μ.1 32 12 := ((F_96.1 32 (by decide) 12).trans (hs_48.trans (F_4.1 32 (by decide) 12)))
    have e_111 : μ94.1 32 15 = μ.1 32 15 := ((F_96.1 32 (by decide) 15).trans (hs_50.trans (F_4.1 32 (by decide) 15)))
    have e_112 : μ94.1 32 16 = μ.1 32 16 := ((F_96.1 32 (by decide) 16).trans (hs_51.trans (F_4.1 32 (by decide) 16)))
    have e_113 : μ94.1 70 0 = μ34.1 70 0 := (F_96.1 70 (by decide) 0)
    have e_114 : μ94.1 70 1 = μ.1 70 1 := ((F_96.1 70 (by decide) 1).trans (hs_39.trans (F_4.1 70 (by decide) 1)))
    have e_115 : μ94.1 70 2 = μ34.1 70 2 := (F_96.1 70 (by decide) 2)
    have e_116 : μ94.1 70 3 = μ.1 70 3 := ((F_96.1 70 (by decide) 3).trans (hs_40.trans (F_4.1 70 (by decide) 3)))
    have e_117 : μ94.1 70 4 = μ.1 70 4 := ((F_96.1 70 (by decide) 4).trans (hs_41.trans (F_4.1 70 (by decide) 4)))
    have e_118 : μ94.1 70 5 = μ.1 70 5 := ((F_96.1 70 (by decide) 5).trans (hs_42.trans (F_4.1 70 (by decide) 5)))
    have e_119 : μ94.1 70 6 = μ.1 70 6 := ((F_96.1 70 (by decide) 6).trans (hs_43.trans (F_4.1 70 (by decide) 6)))
    have e_120 : μ94.1 70 7 = μ.1 70 7 := ((F_96.1 70 (by decide) 7).trans (hs_44.trans (F_4.1 70 (by decide) 7)))
    have e_121 : μ94.1 70 8 = μ34.1 70 8 := (F_96.1 70 (by decide) 8)
    refine xc_vV G (b := 32) (rest := []) (As := [.int (iv r_95)]) (c_X4_give ω l μ94 r_95 (max (S - x2) 0) (by unfold ir; omega) hI_97 (by omega) (by omega)) (wm 6 61 rfl rfl) (wm 6 63 rfl rfl) (wm 0 77 rfl rfl) rfl rfl (by decide) rfl (wm 1 14 rfl rfl) (wm 6 64 rfl rfl) (by decide) hR (by decide) (n := 1) rfl rfl (Nat.le_of_ble_eq_true rfl) hl.1 dX4_fails_51 (fun μ122 ρ d0 H locs hp G => ?_)
    obtain ⟨F_123, hI_124, hp_125, hs_126, hs_127, hs_128, hs_129, hs_130, hs_131, hs_132, hs_133, hs_134, hs_135, hs_136, hs_137, hs_138, hs_139⟩ := hp
    have hk_140 := hI_124.row (r := 33) (by unfold isRow; decide)
    unfold rk at hk_140
    simp only [Int.reduceAdd] at hk_140
    have e_141 : μ122.1 70 2 = μ34.1 70 2 := (hs_133.trans (F_96.1 70 (by decide) 2))
    have e_142 : μ122.1 70 2 = μ34.1 70 2 := (hs_133.trans (F_96.1 70 (by decide) 2))
    have e_143 : μ122.1 70 8 = μ34.1 70 8 := (hs_139.trans (F_96.1 70 (by decide) 8))
    have e_144 : μ122.1 70 8 = μ34.1 70 8 := (hs_139.trans (F_96.1 70 (by decide) 8))
    have e_145 : μ122.1 45 1 = μ94.1 45 1 := (F_123.1 45 (by decide) 1)
    have e_146 : μ122.1 70 2 = μ34.1 70 2 := (hs_133.trans (F_96.1 70 (by decide) 2))
    have e_147 : μ122.1 70 1 = μ.1 70 1 := (hs_132.trans ((F_96.1 70 (by decide) 1).trans (hs_39.trans (F_4.1 70 (by decide) 1))))
    have e_148 : μ122.1 70 3 = μ.1 70 3 := (hs_134.trans ((F_96.1 70 (by decide) 3).trans (hs_40.trans (F_4.1 70 (by decide) 3))))
    have e_149 : μ122.1 70 4 = μ.1 70 4 := (hs_135.trans ((F_96.1 70 (by decide) 4).trans (hs_41.trans (F_4.1 70 (by decide) 4))))
    have e_150 : μ122.1 70 5 = μ.1 70 5 := (hs_136.trans ((F_96.1 70 (by decide) 5).trans (hs_42.trans (F_4.1 70 (by decide) 5))))
    have e_151 : μ122.1 70 6 = μ.1 70 6 := (hs_137.trans ((F_96.1 70 (by decide) 6).trans (hs_43.trans (F_4.1 70 (by decide) 6))))
    have e_152 : μ122.1 70 7 = μ.1 70 7 := (hs_138.trans ((F_96.1 70 (by decide) 7).trans (hs_44.trans (F_4.1 70 (by decide) 7))))
    have e_153 : μ122.1 32 10 = μ.1 32 10 := (hs_126.trans ((F_96.1 32 (by decide) 10).trans (hs_46.trans (F_4.1 32 (by decide) 10))))
    have e_154 : μ122.1 32 11 = μ.1 32 11 := (hs_127.trans ((F_96.1 32 (by decide) 11).trans (hs_47.trans (F_4.1 32 (by decide) 11))))
    have e_155 : μ122.1 32 12 = μ.1 32 12 := (hs_128.trans ((F_96.1 32 (by decide) 12).trans (hs_48.trans (F_4.1 32 (by decide) 12))))
    have e_156 : μ122.1 32 15 = μ.1 32 15 := (hs_129.trans ((F_96.1 32 (by decide) 15).trans (hs_50.trans (F_4.1 32 (by decide) 15))))
    have e_157 : μ122.1 32 16 = μ.1 32 16 := (hs_130.trans ((F_96.1 32 (by decide) 16).trans (hs_51.trans (F_4.1 32 (by decide) 16))))
    have e_158 : μ122.1 45 4 = μ.1 45 4 := ((F_123.1 45 (by decide) 4).trans (hs_101.trans ((F_36.1 45 (by decide) 4).trans (F_4.1 45 (by decide) 4))))
    exact xr_v G hret hlk dX4_fails_54 ⟨(Fr.tr (Fr.tr (Fr.tr (Fr.tr Fr.rf F_4 (by decide)) F_36 (by decide)) F_96 (by decide)) F_123 (by decide)), hI_124, (by omega), (by omega), (by omega), (by omega), (by omega), (by omega), (by omega), (by omega), (by omega), (by omega), (by omega), (by omega), (by omega), (by omega)⟩

set_option maxHeartbeats 4000000 in
set_option maxRecDepth 100000 in
theorem c_X4_failsWithTop (ω : Om) (l : Launch) (μ : M3) (x1 : Int) (S : Int) (hx1 : ir x1) (hI : IC μ) (hS : S = μ.1 33 3) (hSb : S < 240099) (hst : 0 ≤ μ.1 70 2 ∧ μ.1 70 2 ≤ 5000 ∧ 0 ≤ μ.1 70 8 ∧ μ.1 70 8 ≤ 80000 ∧ μ.1 45 1 ≤ μ.1 70 2) : CtV ω l yX4_failsWithTop cX4_failsWithTop 3 5 172 [.ref (oP ω 32), .int (iv x1)] μ (fun (μ' : M3) => (Fr [70, 32, 45, 46, 47, 48, 49, 50, 33, 34, 35, 36] μ μ') ∧ (IC μ') ∧ (((μ'.1 33 3 ≤ max (S - 1) 0 + 1 ∧ μ'.1 32 13 = μ.1 32 13 ∧ ofF μ 53 = 2) ∨ (μ'.1 33 3 ≤ max S 0 ∧ (μ'.1 32 13 = 1 ∨ μ'.1 32 13 = 4)))) ∧ (μ.1 70 2 ≤ μ'.1 70 2 ∧ μ'.1 70 2 ≤ 5000 ∧ 0 ≤ μ'.1 70 8 ∧ μ'.1 70 8 ≤ 80000 ∧ μ'.1 45 1 ≤ μ'.1 70 2) ∧ (μ'.1 70 1 = μ.1 70 1) ∧ (μ'.1 70 3 = μ.1 70 3) ∧ (μ'.1 70 4 = μ.1 70 4) ∧ (μ'.1 70 5 = μ.1 70 5) ∧ (μ'.1 70 6 = μ.1 70 6) ∧ (μ'.1 70 7 = μ.1 70 7) ∧ (μ'.1 32 10 = μ.1 32 10) ∧ (μ'.1 32 11 = μ.1 32 11) ∧ (μ'.1 32 12 = μ.1 32 12) ∧ (μ'.1 32 15 = μ.1 32 15) ∧ (μ'.1 32 16 = μ.1 32 16) ∧ (μ'.1 45 4 = μ.1 45 4)) := by
  refine CtV.go (by decide) (Nat.le_of_ble_eq_true rfl) (fun ρ p e s m below meth c R ls G hR hret hlk hl => ?_)
  have hx := G.1.1
  have hb := G.1.2.1
  have hl : lv_has ls 3 [(0, .ref (oP ω 32)), (1, .int (iv x1))] := hl
  generalize s.drawn = d0 at G ⊢
  have hr_x1 : -2147483648 ≤ x1 ∧ x1 ≤ 2147483647 := hx1
  have hk_1 := hI.row (r := 33) (by unfold isRow; decide)
  unfold rk at hk_1
  simp only [Int.reduceAdd] at hk_1
  have hbr_33 : BR 33 = 240100 := rfl
  refine lv_aload_n hx hb dX4_failsWithTop_0 rfl (lv_at hl 0 rfl) ?_
  have hn_2 : 0 ≤ μ.1 45 1 ∧ 9 * μ.1 45 1 ≤ μ.2.1 46 := hI.nm.2.2.2.2.2.2.1
  refine xc_iV G (b := 32) (rest := []) (As := []) (c_X4_step ω l μ  hI (by omega)) (wm 6 2 rfl rfl) (wm 6 4 rfl rfl) (wm 0 75 rfl rfl) rfl rfl (by decide) rfl (wm 1 14 rfl rfl) (wm 6 5 rfl rfl) (by decide) hR (by decide) (n := 0) rfl rfl (Nat.le_of_ble_eq_true rfl) hl.1 dX4_failsWithTop_1 (fun r_4 μ3 ρ d0 H locs hr_r_4 hp G => ?_)
  have hr_r_4 : -2147483648 ≤ r_4 ∧ r_4 ≤ 2147483647 := hr_r_4
  obtain ⟨F_5, hI_6, hp_7, hs_8, hs_9, hs_10, hs_11, hs_12, hs_13, hs_14, hs_15, hs_16, hs_17, hs_18, hs_19, hs_20⟩ := hp
  refine xb_if_ne (tgt := 8) hx hb (by unfold ir; omega) dX4_failsWithTop_4 (by decide) (fun c_4 => ?_) (fun c_4 => ?_)
  · refine lv_aload_n hx hb dX4_failsWithTop_8 rfl (lv_at hl 0 rfl) ?_
    refine xa_getr G fd_X4 (a := 32) (x := 45) 6 rfl (by decide) rfl (wm 2 150 rfl rfl) ⟨rfl, rfl, rfl⟩ dX4_failsWithTop_9 rfl (G.sk 39 rfl) (by decide) rfl ?_
    refine lv_aload_n hx hb dX4_failsWithTop_12 rfl (lv_at hl 0 rfl) ?_
    refine xa_getr G fd_X4 (a := 32) (x := 52) 7 rfl (by decide) rfl (wm 2 151 rfl rfl) ⟨rfl, rfl, rfl⟩ dX4_failsWithTop_13 rfl (G.sk 40 rfl) (by decide) rfl ?_
    have e_21 : ofF μ3 53 = ofF μ 53 := (ofF_fr F_5 (by decide) (by decide))
    refine xc_iV G (b := 52) (rest := [.ref (oP ω 45)]) (As := []) (c_X2_tongue ω l μ3  hI_6) (wm 5 218 rfl rfl) (wm 5 219 rfl rfl) (wm 5 220 rfl rfl) rfl rfl (by decide) rfl (wm 1 16 rfl rfl) (wm 5 221 rfl rfl) (by decide) hR (by decide) (n := 0) rfl rfl (Nat.le_of_ble_eq_true rfl) hl.1 dX4_failsWithTop_16 (fun r_23 μ22 ρ d0 H locs hr_r_23 hp G => ?_)
    have hr_r_23 : -2147483648 ≤ r_23 ∧ r_23 ≤ 2147483647 := hr_r_23
    obtain ⟨hsm_24, hp_25⟩ := hp
    have hsm_24 := Eq.symm hsm_24
    subst hsm_24
    refine lv_iload_n hx hb dX4_failsWithTop_19 rfl (lv_at hl 1 rfl) ?_
    refine lv_aload_n hx hb dX4_failsWithTop_20 rfl (lv_at hl 0 rfl) ?_
    obtain ⟨pd26, he_pd26, hd_pd26⟩ : ∃ z : Int, μ.1 32 10 = z ∧ isPr z := ⟨_, rfl, by have h9 := G.sr0.2.2.2.2.1; rw [show μ3.1 32 10 = μ.1 32 10 from hs_15] at h9; exact h9⟩
    have hd_pd26_d : pd26 = 13 ∨ pd26 = 71 ∨ pd26 = 81 ∨ pd26 = 91 ∨ pd26 = 101 := hd_pd26
    refine xa_getr G fd_X4 (a := 32) (x := pd26) 10 rfl (by decide) rfl (wm 2 154 rfl rfl) ⟨rfl, rfl, rfl⟩ dX4_failsWithTop_21 rfl (Eq.trans hs_15 he_pd26) (by omega) (hd_pd26.hq ω ρ) ?_
    refine lv_aload_n hx hb dX4_failsWithTop_24 rfl (lv_at hl 0 rfl) ?_
    refine xa_geti G fd_X4 (a := 32) (x := μ.1 32 11) 11 rfl (by decide) rfl (wm 2 155 rfl rfl) ⟨rfl, rfl, rfl⟩ dX4_failsWithTop_25 rfl hs_16 ?_
    have hr_27 : -2147483648 ≤ μ.1 32 11 ∧ μ.1 32 11 ≤ 2147483647 := by have h9 := G.hr (a := 32) (k := 11) rfl; rw [show μ3.1 32 11 = μ.1 32 11 from hs_16] at h9; exact h9
    have e_28 : μ3.1 32 11 = μ.1 32 11 := hs_16
    refine xc_iV G (b := pd26) (rest := [.int (iv x1), .int (iv r_23), .ref (oP ω 45)]) (As := [.int (iv (μ.1 32 11))]) (c_X8_place ω l μ3 pd26 (μ.1 32 11) hd_pd26 (by unfold ir; omega) hI_6) (wm 6 16 rfl rfl) (wm 6 17 rfl rfl) (wm 6 18 rfl rfl) hd_pd26.ly rfl (by decide) (hd_pd26.hq ω ρ) (wm 1 9 rfl rfl) (wm 6 19 rfl rfl) (by decide) hR (by decide) (n := 1) rfl rfl (Nat.le_of_ble_eq_true rfl) hl.1 dX4_failsWithTop_28 (fun r_30 μ29 ρ d0 H locs hr_r_30 hp G => ?_)
    have hr_r_30 : -2147483648 ≤ r_30 ∧ r_30 ≤ 2147483647 := hr_r_30
    obtain ⟨hsm_31, hp_32⟩ := hp
    have hsm_31 := Eq.symm hsm_31
    subst hsm_31
    refine lv_iconst (v := iv 0) hx hb dX4_failsWithTop_31 rfl ?_
    refine lv_aload_n hx hb dX4_failsWithTop_32 rfl (lv_at hl 0 rfl) ?_
    refine xa_getr G fd_X4 (a := 32) (x := 52) 7 rfl (by decide) rfl (wm 2 151 rfl rfl) ⟨rfl, rfl, rfl⟩ dX4_failsWithTop_33 rfl (G.sk 40 rfl) (by decide) rfl ?_
    have e_33 : ofF μ3 54 = ofF μ 54 := (ofF_fr F_5 (by decide) (by decide))
    refine xc_iV G (b := 52) (rest := [.int (iv 0), .int (iv r_30), .int (iv x1), .int (iv r_23), .ref (oP ω 45)]) (As := []) (c_X2_function ω l μ3  hI_6) (wm 6 20 rfl rfl) (wm 6 21 rfl rfl) (wm 6 22 rfl rfl) rfl rfl (by decide) rfl (wm 1 16 rfl rfl) (wm 6 23 rfl rfl) (by decide) hR (by decide) (n := 0) rfl rfl (Nat.le_of_ble_eq_true rfl) hl.1 dX4_failsWithTop_36 (fun r_35 μ34 ρ d0 H locs hr_r_35 hp G => ?_)
    have hr_r_35 : -2147483648 ≤ r_35 ∧ r_35 ≤ 2147483647 := hr_r_35
    obtain ⟨hsm_36, hp_37⟩ := hp
    have hsm_36 := Eq.symm hsm_36
    subst hsm_36
    refine lv_iconst (v := iv (-1)) hx hb dX4_failsWithTop_39 rfl ?_
    have e_38 : μ3.1 45 1 = μ.1 45 1 := (F_5.1 45 (by decide) 1)
    have e_39 : μ3.1 45 1 = μ.1 45 1 := (F_5.1 45 (by decide) 1)
    have hn_40 : 0 ≤ μ.1 45 4 ∧ 2 * μ.1 45 4 ≤ μ.2.1 51 := hI.nm.2.2.2.2.2.2.2.1
    have e_41 : μ3.1 45 4 = μ.1 45 4 := (F_5.1 45 (by decide) 4)
    have e_42 : μ3.1 45 4 = μ.1 45 4 := (F_5.1 45 (by decide) 4)
    have e_43 : μ3.1 45 1 = μ.1 45 1 := (F_5.1 45 (by decide) 1)
    have e_44 : μ3.1 45 1 = μ.1 45 1 := (F_5.1 45 (by decide) 1)
    have e_45 : μ3.1 45 1 = μ.1 45 1 := (F_5.1 45 (by decide) 1)
    have e_46 : μ3.1 45 4 = μ.1 45 4 := (F_5.1 45 (by decide) 4)
    have e_47 : μ3.1 45 4 = μ.1 45 4 := (F_5.1 45 (by decide) 4)
    refine xc_iV G (b := 45) (rest := []) (As := [.int (iv r_23), .int (iv x1), .int (iv r_30), .int (iv 0), .int (iv r_35), .int (iv (-1))]) (c_X1_add ω l μ3 r_23 x1 r_30 0 r_35 (-1) (μ.1 45 1) (μ.1 45 4) (by unfold ir; omega) (by unfold ir; omega) (by unfold ir; omega) (by unfold ir; omega) (by unfold ir; omega) (by unfold ir; omega) hI_6 (by omega) (by omega) (by omega)) (wm 6 24 rfl rfl) (wm 6 25 rfl rfl) (wm 6 26 rfl rfl) rfl rfl (by decide) rfl (wm 1 15 rfl rfl) (wm 6 27 rfl rfl) (by decide) hR (by decide) (n := 6) rfl rfl (Nat.le_of_ble_eq_true rfl) hl.1 dX4_failsWithTop_40 (fun r_49 μ48 ρ d0 H locs hr_r_49 hp G => ?_)
    have hr_r_49 : -2147483648 ≤ r_49 ∧ r_49 ≤ 2147483647 := hr_r_49
    obtain ⟨F_50, hI_51, hp_52, hp_53, hp_54, hs_55⟩ := hp
    have hn_56 : 0 ≤ μ48.1 45 1 ∧ 9 * μ48.1 45 1 ≤ μ48.2.1 46 := hI_51.nm.2.2.2.2.2.2.1
    have hn_57 : 0 ≤ μ48.1 45 4 ∧ 2 * μ48.1 45 4 ≤ μ48.2.1 51 := hI_51.nm.2.2.2.2.2.2.2.1
    refine lv_istore_n (lv' := [(2, .int (iv r_49)), (0, .ref (oP ω 32)), (1, .int (iv x1))]) hx hb dX4_failsWithTop_43 rfl hl (by decide) rfl (fun ls hl => ?_)
    refine lv_aload_n hx hb dX4_failsWithTop_44 rfl (lv_at hl 1 rfl) ?_
    refine xa_getr G fd_X4 (a := 32) (x := 45) 6 rfl (by decide) rfl (wm 2 150 rfl rfl) ⟨rfl, rfl, rfl⟩ dX4_failsWithTop_45 rfl (G.sk 39 rfl) (by decide) rfl ?_
    refine xc_rV G (b := 45) (rest := []) (As := []) (c_X1_values ω l μ48  hI_51) (wm 5 196 rfl rfl) (wm 5 197 rfl rfl) (wm 5 198 rfl rfl) rfl rfl (by decide) rfl (wm 1 15 rfl rfl) (wm 5 199 rfl rfl) (by decide) hR (by decide) (n := 0) rfl rfl (Nat.le_of_ble_eq_true rfl) hl.1 dX4_failsWithTop_48 (fun r_59 μ58 ρ d0 H locs hp G => ?_)
    obtain ⟨hsm_60, hp_61⟩ := hp
    have hsm_60 := Eq.symm hsm_60
    subst hsm_60
    subst hp_61
    refine lv_iload_n hx hb dX4_failsWithTop_51 rfl (lv_at hl 0 rfl) ?_
    refine lv_aload_n hx hb dX4_failsWithTop_52 rfl (lv_at hl 1 rfl) ?_
    refine xa_getr G fd_X4 (a := 32) (x := 33) 3 rfl (by decide) rfl (wm 2 147 rfl rfl) ⟨rfl, rfl, rfl⟩ dX4_failsWithTop_53 rfl (G.sk 36 rfl) (by decide) rfl ?_
    refine lv_aload_n hx hb dX4_failsWithTop_56 rfl (lv_at hl 1 rfl) ?_
    have e_62 : μ48.1 33 3 = S := ((F_50.1 33 (by decide) 3).trans ((F_5.1 33 (by decide) 3).trans hS.symm))
    refine xc_iV G (b := 32) (rest := [.ref (oP ω 33), .int (iv r_49), .ref (oP ω 47)]) (As := []) (c_X4_top ω l μ48 S hI_51 (by omega)) (wm 6 73 rfl rfl) (wm 6 75 rfl rfl) (wm 0 80 rfl rfl) rfl rfl (by decide) rfl (wm 1 14 rfl rfl) (wm 6 76 rfl rfl) (by decide) hR (by decide) (n := 0) rfl rfl (Nat.le_of_ble_eq_true rfl) hl.1 dX4_failsWithTop_57 (fun r_64 μ63 ρ d0 H locs hr_r_64 hp G => ?_)
    have hr_r_64 : -2147483648 ≤ r_64 ∧ r_64 ≤ 2147483647 := hr_r_64
    obtain ⟨hsm_65, hp_66⟩ := hp
    have hsm_65 := Eq.symm hsm_65
    subst hsm_65
    refine xc_vV G (b := 47) (rest := []) (As := [.int (iv r_49), .ref (oP ω 33), .int (iv r_64)]) (c_X9_copy ω l μ48 47 r_49 33 r_64 (by unfold isRow; decide) (by unfold ir; omega) (by unfold isRow; decide) (by unfold ir; omega) hI_51) (wm 6 28 rfl rfl) (wm 6 29 rfl rfl) (wm 6 30 rfl rfl) rfl rfl (by decide) rfl (wm 1 10 rfl rfl) (wm 6 31 rfl rfl) (by decide) hR (by decide) (n := 3) rfl rfl (Nat.le_of_ble_eq_true rfl) hl.1 dX4_failsWithTop_60 (fun μ67 ρ d0 H locs hp G => ?_)
    obtain ⟨F_68, hI_69, hp_70⟩ := hp
    refine lv_aload_n hx hb dX4_failsWithTop_63 rfl (lv_at hl 1 rfl) ?_
    refine xa_getr G fd_X4 (a := 32) (x := 33) 3 rfl (by decide) rfl (wm 2 147 rfl rfl) ⟨rfl, rfl, rfl⟩ dX4_failsWithTop_64 rfl (G.sk 36 rfl) (by decide) rfl ?_
    refine lv_iconst (v := iv 1) hx hb dX4_failsWithTop_67 rfl ?_
    have e_71 : μ67.1 33 3 = S := ((F_68.1 33 (by decide) 3).trans ((F_50.1 33 (by decide) 3).trans ((F_5.1 33 (by decide) 3).trans hS.symm)))
    refine xc_vV G (b := 33) (rest := []) (As := [.int (iv 1)]) (c_X9_drop ω l μ67 33 1 S (by unfold isRow; decide) (by unfold ir; omega) hI_69 (by omega) (by omega)) (wm 6 89 rfl rfl) (wm 6 90 rfl rfl) (wm 6 91 rfl rfl) rfl rfl (by decide) rfl (wm 1 10 rfl rfl) (wm 6 92 rfl rfl) (by decide) hR (by decide) (n := 1) rfl rfl (Nat.le_of_ble_eq_true rfl) hl.1 dX4_failsWithTop_68 (fun μ72 ρ d0 H locs hp G => ?_)
    obtain ⟨F_73, hI_74, hs_75⟩ := hp
    refine lv_aload_n hx hb dX4_failsWithTop_71 rfl (lv_at hl 1 rfl) ?_
    refine lv_iload_n hx hb dX4_failsWithTop_72 rfl (lv_at hl 0 rfl) ?_
    have e_76 : μ72.1 33 3 = max (S - 1) 0 := hs_75
    have e_77 : μ72.1 32 13 = μ3.1 32 13 := ((F_73.1 32 (by decide) 13).trans ((F_68.1 32 (by decide) 13).trans (F_50.1 32 (by decide) 13)))
    have e_78 : ofF μ72 53 = ofF μ 53 := ((ofF_fr F_73 (by decide) (by decide)).trans ((ofF_fr F_68 (by decide) (by decide)).trans ((ofF_fr F_50 (by decide) (by decide)).trans (ofF_fr F_5 (by decide) (by decide)))))
    have e_79 : ofF μ72 53 = ofF μ 53 := ((ofF_fr F_73 (by decide) (by decide)).trans ((ofF_fr F_68 (by decide) (by decide)).trans ((ofF_fr F_50 (by decide) (by decide)).trans (ofF_fr F_5 (by decide) (by decide)))))
    have e_80 : μ72.1 32 10 = μ.1 32 10 := ((F_73.1 32 (by decide) 10).trans ((F_68.1 32 (by decide) 10).trans ((F_50.1 32 (by decide) 10).trans hs_15)))
    have e_81 : μ72.1 32 11 = μ.1 32 11 := ((F_73.1 32 (by decide) 11).trans ((F_68.1 32 (by decide) 11).trans ((F_50.1 32 (by decide) 11).trans hs_16)))
    have e_82 : μ72.1 32 12 = μ.1 32 12 := ((F_73.1 32 (by decide) 12).trans ((F_68.1 32 (by decide) 12).trans ((F_50.1 32 (by decide) 12).trans hs_17)))
    have e_83 : μ72.1 32 15 = μ.1 32 15 := ((F_73.1 32 (by decide) 15).trans ((F_68.1 32 (by decide) 15).trans ((F_50.1 32 (by decide) 15).trans hs_19)))
    have e_84 : μ72.1 32 16 = μ.1 32 16 := ((F_73.1 32 (by decide) 16).trans ((F_68.1 32 (by decide) 16).trans ((F_50.1 32 (by decide) 16).trans hs_20)))
    have e_85 : μ72.1 70 0 = μ3.1 70 0 := ((F_73.1 70 (by decide) 0).trans ((F_68.1 70 (by decide) 0).trans (F_50.1 70 (by decide) 0)))
    have e_86 : μ72.1 70 1 = μ.1 70 1 := ((F_73.1 70 (by decide) 1).trans ((F_68.1 70 (by decide) 1).trans ((F_50.1 70 (by decide) 1).trans hs_8)))
    have e_87 : μ72.1 70 2 = μ3.1 70 2 := ((F_73.1 70 (by decide) 2).trans ((F_68.1 70 (by decide) 2).trans (F_50.1 70 (by decide) 2)))
    have e_88 : μ72.1 70 3 = μ.1 70 3 := ((F_73.1 70 (by decide) 3).trans ((F_68.1 70 (by decide) 3).trans ((F_50.1 70 (by decide) 3).trans hs_9)))
    have e_89 : μ72.1 70 4 = μ.1 70 4 := ((F_73.1 70 (by decide) 4).trans ((F_68.1 70 (by decide) 4).trans ((F_50.1 70 (by decide) 4).trans hs_10)))
    have e_90 : μ72.1 70 5 = μ.1 70 5 := ((F_73.1 70 (by decide) 5).trans ((F_68.1 70 (by decide) 5).trans ((F_50.1 70 (by decide) 5).trans hs_11)))
    have e_91 : μ72.1 70 6 = μ.1 70 6 := ((F_73.1 70 (by decide) 6).trans ((F_68.1 70 (by decide) 6).trans ((F_50.1 70 (by decide) 6).trans hs_12)))
    have e_92 : μ72.1 70 7 = μ.1 70 7 := ((F_73.1 70 (by decide) 7).trans ((F_68.1 70 (by decide) 7).trans ((F_50.1 70 (by decide) 7).trans hs_13)))
    have e_93 : μ72.1 70 8 = μ3.1 70 8 := ((F_73.1 70 (by decide) 8).trans ((F_68.1 70 (by decide) 8).trans (F_50.1 70 (by decide) 8)))
    refine xc_vV G (b := 32) (rest := []) (As := [.int (iv r_49)]) (c_X4_give ω l μ72 r_49 (max (S - 1) 0) (by unfold ir; omega) hI_74 (by omega) (by omega)) (wm 6 61 rfl rfl) (wm 6 63 rfl rfl) (wm 0 77 rfl rfl) rfl rfl (by decide) rfl (wm 1 14 rfl rfl) (wm 6 64 rfl rfl) (by decide) hR (by decide) (n := 1) rfl rfl (Nat.le_of_ble_eq_true rfl) hl.1 dX4_failsWithTop_73 (fun μ94 ρ d0 H locs hp G => ?_)
    obtain ⟨F_95, hI_96, hp_97, hs_98, hs_99, hs_100, hs_101, hs_102, hs_103, hs_104, hs_105, hs_106, hs_107, hs_108, hs_109, hs_110, hs_111⟩ := hp
    have hk_112 := hI_96.row (r := 33) (by unfold isRow; decide)
    unfold rk at hk_112
    simp only [Int.reduceAdd] at hk_112
    have e_113 : μ94.1 70 2 = μ3.1 70 2 := (hs_105.trans ((F_73.1 70 (by decide) 2).trans ((F_68.1 70 (by decide) 2).trans (F_50.1 70 (by decide) 2))))
    have e_114 : μ94.1 70 2 = μ3.1 70 2 := (hs_105.trans ((F_73.1 70 (by decide) 2).trans ((F_68.1 70 (by decide) 2).trans (F_50.1 70 (by decide) 2))))
    have e_115 : μ94.1 70 8 = μ3.1 70 8 := (hs_111.trans ((F_73.1 70 (by decide) 8).trans ((F_68.1 70 (by decide) 8).trans (F_50.1 70 (by decide) 8))))
    have e_116 : μ94.1 70 8 = μ3.1 70 8 := (hs_111.trans ((F_73.1 70 (by decide) 8).trans ((F_68.1 70 (by decide) 8).trans (F_50.1 70 (by decide) 8))))
    have e_117 : μ94.1 45 1 = μ48.1 45 1 := ((F_95.1 45 (by decide) 1).trans ((F_73.1 45 (by decide) 1).trans (F_68.1 45 (by decide) 1)))
    have e_118 : μ94.1 70 2 = μ3.1 70 2 := (hs_105.trans ((F_73.1 70 (by decide) 2).trans ((F_68.1 70 (by decide) 2).trans (F_50.1 70 (by decide) 2))))
    have e_119 : μ94.1 70 1 = μ.1 70 1 := (hs_104.trans ((F_73.1 70 (by decide) 1).trans ((F_68.1 70 (by decide) 1).trans ((F_50.1 70 (by decide) 1).trans hs_8))))
    have e_120 : μ94.1 70 3 = μ.1 70 3 := (hs_106.trans ((F_73.1 70 (by decide) 3).trans ((F_68.1 70 (by decide) 3).trans ((F_50.1 70 (by decide) 3).trans hs_9))))
    have e_121 : μ94.1 70 4 = μ.1 70 4 := (hs_107.trans ((F_73.1 70 (by decide) 4).trans ((F_68.1 70 (by decide) 4).trans ((F_50.1 70 (by decide) 4).trans hs_10))))
    have e_122 : μ94.1 70 5 = μ.1 70 5 := (hs_108.trans ((F_73.1 70 (by decide) 5).trans ((F_68.1 70 (by decide) 5).trans ((F_50.1 70 (by decide) 5).trans hs_11))))
    have e_123 : μ94.1 70 6 = μ.1 70 6 := (hs_109.trans ((F_73.1 70 (by decide) 6).trans ((F_68.1 70 (by decide) 6).trans ((F_50.1 70 (by decide) 6).trans hs_12))))
    have e_124 : μ94.1 70 7 = μ.1 70 7 := (hs_110.trans ((F_73.1 70 (by decide) 7).trans ((F_68.1 70 (by decide) 7).trans ((F_50.1 70 (by decide) 7).trans hs_13))))
    have e_125 : μ94.1 32 10 = μ.1 32 10 := (hs_98.trans ((F_73.1 32 (by decide) 10).trans ((F_68.1 32 (by decide) 10).trans ((F_50.1 32 (by decide) 10).trans hs_15))))
    have e_126 : μ94.1 32 11 = μ.1 32 11 := (hs_99.trans ((F_73.1 32 (by decide) 11).trans ((F_68.1 32 (by decide) 11).trans ((F_50.1 32 (by decide) 11).trans hs_16))))
    have e_127 : μ94.1 32 12 = μ.1 32 12 := (hs_100.trans ((F_73.1 32 (by decide) 12).trans ((F_68.1 32 (by decide) 12).trans ((F_50.1 32 (by decide) 12).trans hs_17))))
    have e_128 : μ94.1 32 15 = μ.1 32 15 := (hs_101.trans ((F_73.1 32 (by decide) 15).trans ((F_68.1 32 (by decide) 15).trans ((F_50.1 32 (by decide) 15).trans hs_19))))
    have e_129 : μ94.1 32 16 = μ.1 32 16 := (hs_102.trans ((F_73.1 32 (by decide) 16).trans ((F_68.1 32 (by decide) 16).trans ((F_50.1 32 (by decide) 16).trans hs_20))))
    have e_130 : μ94.1 45 4 = μ.1 45 4 := ((F_95.1 45 (by decide) 4).trans ((F_73.1 45 (by decide) 4).trans ((F_68.1 45 (by decide) 4).trans (hs_55.trans (F_5.1 45 (by decide) 4)))))
    exact xr_v G hret hlk dX4_failsWithTop_76 ⟨(Fr.tr (Fr.tr (Fr.tr (Fr.tr (Fr.tr Fr.rf F_5 (by decide)) F_50 (by decide)) F_68 (by decide)) F_73 (by decide)) F_95 (by decide)), hI_96, (by omega), (by omega), (by omega), (by omega), (by omega), (by omega), (by omega), (by omega), (by omega), (by omega), (by omega), (by omega), (by omega), (by omega)⟩
  · have e_131 : μ3.1 33 3 = S := ((F_5.1 33 (by decide) 3).trans hS.symm)
    have e_132 : μ3.1 33 3 = S := ((F_5.1 33 (by decide) 3).trans hS.symm)
    have e_133 : μ3.1 45 1 = μ.1 45 1 := (F_5.1 45 (by decide) 1)
    have e_134 : μ3.1 70 1 = μ.1 70 1 := hs_8
    have e_135 : μ3.1 70 3 = μ.1 70 3 := hs_9
    have e_136 : μ3.1 70 4 = μ.1 70 4 := hs_10
    have e_137 : μ3.1 70 5 = μ.1 70 5 := hs_11
    have e_138 : μ3.1 70 6 = μ.1 70 6 := hs_12
    have e_139 : μ3.1 70 7 = μ.1 70 7 := hs_13
    have e_140 : μ3.1 32 10 = μ.1 32 10 := hs_15
    have e_141 : μ3.1 32 11 = μ.1 32 11 := hs_16
    have e_142 : μ3.1 32 12 = μ.1 32 12 := hs_17
    have e_143 : μ3.1 32 15 = μ.1 32 15 := hs_19
    have e_144 : μ3.1 32 16 = μ.1 32 16 := hs_20
    have e_145 : μ3.1 45 4 = μ.1 45 4 := (F_5.1 45 (by decide) 4)
    exact xr_v G hret hlk dX4_failsWithTop_7 ⟨(Fr.tr Fr.rf F_5 (by decide)), hI_6, (by omega), (by omega), (by omega), (by omega), (by omega), (by omega), (by omega), (by omega), (by omega), (by omega), (by omega), (by omega), (by omega), (by omega)⟩
