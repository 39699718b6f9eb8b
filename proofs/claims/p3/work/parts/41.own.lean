abbrev cX10_stop : ByteArray := prog_12_method_4_code
def yX10_stop : MethodName := ⟨RX10, "stop", "()V"⟩
abbrev cX10_isLetter : ByteArray := prog_12_method_7_code
def yX10_isLetter : MethodName := ⟨RX10, "isLetter", "(I)Z"⟩
abbrev cX10_isDigit : ByteArray := prog_12_method_8_code
def yX10_isDigit : MethodName := ⟨RX10, "isDigit", "(I)Z"⟩
abbrev cX10_wordOrName : ByteArray := prog_12_method_10_code
def yX10_wordOrName : MethodName := ⟨RX10, "wordOrName", "()I"⟩
abbrev cX11_fault : ByteArray := prog_1_method_4_code
def yX11_fault : MethodName := ⟨RX11, "fault", "()I"⟩
abbrev cX11_letter : ByteArray := prog_1_method_5_code
def yX11_letter : MethodName := ⟨RX11, "letter", "(II)I"⟩
abbrev cX11_rule : ByteArray := prog_1_method_6_code
def yX11_rule : MethodName := ⟨RX11, "rule", "(III)Z"⟩
abbrev cX11_entry : ByteArray := prog_1_method_7_code
def yX11_entry : MethodName := ⟨RX11, "entry", "(IIII)Z"⟩
abbrev cX11_look : ByteArray := prog_1_method_9_code
def yX11_look : MethodName := ⟨RX11, "look", "(I)I"⟩
abbrev cX11_answer : ByteArray := prog_1_method_10_code
def yX11_answer : MethodName := ⟨RX11, "answer", "()J"⟩
abbrev cX11_mark : ByteArray := prog_1_method_11_code
def yX11_mark : MethodName := ⟨RX11, "mark", "(I)J"⟩
abbrev cX11_markTongue : ByteArray := prog_1_method_12_code
def yX11_markTongue : MethodName := ⟨RX11, "markTongue", "(I)I"⟩
abbrev cX11_failure : ByteArray := prog_1_method_13_code
def yX11_failure : MethodName := ⟨RX11, "failure", "(II)I"⟩
abbrev cX11_under : ByteArray := prog_1_method_14_code
def yX11_under : MethodName := ⟨RX11, "under", "(III)I"⟩
abbrev cX11_canFail : ByteArray := prog_1_method_16_code
def yX11_canFail : MethodName := ⟨RX11, "canFail", "(II)Z"⟩
abbrev cX11_isTongue : ByteArray := prog_1_method_17_code
def yX11_isTongue : MethodName := ⟨RX11, "isTongue", "(I)Z"⟩
theorem dX10_stop_0 : decode cX10_stop 0 = .ok (.aload_n 0, 1) := by decide +kernel
theorem dX10_stop_1 : decode cX10_stop 1 = .ok (.iconst 1, 1) := by decide +kernel
theorem dX10_stop_2 : decode cX10_stop 2 = .ok (.putfield 45, 3) := by decide +kernel
theorem dX10_stop_5 : decode cX10_stop 5 = .ok (.aload_n 0, 1) := by decide +kernel
theorem dX10_stop_6 : decode cX10_stop 6 = .ok (.iconst 3, 1) := by decide +kernel
theorem dX10_stop_7 : decode cX10_stop 7 = .ok (.putfield 49, 3) := by decide +kernel
theorem dX10_stop_10 : decode cX10_stop 10 = .ok (.return_, 1) := by decide +kernel
theorem dX10_isLetter_0 : decode cX10_isLetter 0 = .ok (.iload_n 0, 1) := by decide +kernel
theorem dX10_isLetter_1 : decode cX10_isLetter 1 = .ok (.bipush 97, 2) := by decide +kernel
theorem dX10_isLetter_3 : decode cX10_isLetter 3 = .ok (.if_icmp .lt 13, 3) := by decide +kernel
theorem dX10_isLetter_6 : decode cX10_isLetter 6 = .ok (.iload_n 0, 1) := by decide +kernel
theorem dX10_isLetter_7 : decode cX10_isLetter 7 = .ok (.bipush 122, 2) := by decide +kernel
theorem dX10_isLetter_9 : decode cX10_isLetter 9 = .ok (.if_icmp .gt 7, 3) := by decide +kernel
theorem dX10_isLetter_12 : decode cX10_isLetter 12 = .ok (.iconst 1, 1) := by decide +kernel
theorem dX10_isLetter_13 : decode cX10_isLetter 13 = .ok (.goto 4, 3) := by decide +kernel
theorem dX10_isLetter_16 : decode cX10_isLetter 16 = .ok (.iconst 0, 1) := by decide +kernel
theorem dX10_isLetter_17 : decode cX10_isLetter 17 = .ok (.ireturn, 1) := by decide +kernel
theorem dX10_isDigit_0 : decode cX10_isDigit 0 = .ok (.iload_n 0, 1) := by decide +kernel
theorem dX10_isDigit_1 : decode cX10_isDigit 1 = .ok (.bipush 48, 2) := by decide +kernel
theorem dX10_isDigit_3 : decode cX10_isDigit 3 = .ok (.if_icmp .lt 13, 3) := by decide +kernel
theorem dX10_isDigit_6 : decode cX10_isDigit 6 = .ok (.iload_n 0, 1) := by decide +kernel
theorem dX10_isDigit_7 : decode cX10_isDigit 7 = .ok (.bipush 57, 2) := by decide +kernel
theorem dX10_isDigit_9 : decode cX10_isDigit 9 = .ok (.if_icmp .gt 7, 3) := by decide +kernel
theorem dX10_isDigit_12 : decode cX10_isDigit 12 = .ok (.iconst 1, 1) := by decide +kernel
theorem dX10_isDigit_13 : decode cX10_isDigit 13 = .ok (.goto 4, 3) := by decide +kernel
theorem dX10_isDigit_16 : decode cX10_isDigit 16 = .ok (.iconst 0, 1) := by decide +kernel
theorem dX10_isDigit_17 : decode cX10_isDigit 17 = .ok (.ireturn, 1) := by decide +kernel
theorem dX10_wordOrName_0 : decode cX10_wordOrName 0 = .ok (.iconst 0, 1) := by decide +kernel
theorem dX10_wordOrName_1 : decode cX10_wordOrName 1 = .ok (.istore_n 1, 1) := by decide +kernel
theorem dX10_wordOrName_2 : decode cX10_wordOrName 2 = .ok (.iload_n 1, 1) := by decide +kernel
theorem dX10_wordOrName_3 : decode cX10_wordOrName 3 = .ok (.bipush 33, 2) := by decide +kernel
theorem dX10_wordOrName_5 : decode cX10_wordOrName 5 = .ok (.if_icmp .ge 29, 3) := by decide +kernel
theorem dX10_wordOrName_8 : decode cX10_wordOrName 8 = .ok (.aload_n 0, 1) := by decide +kernel
theorem dX10_wordOrName_9 : decode cX10_wordOrName 9 = .ok (.getfield 11, 3) := by decide +kernel
theorem dX10_wordOrName_12 : decode cX10_wordOrName 12 = .ok (.iload_n 1, 1) := by decide +kernel
theorem dX10_wordOrName_13 : decode cX10_wordOrName 13 = .ok (.laload, 1) := by decide +kernel
theorem dX10_wordOrName_14 : decode cX10_wordOrName 14 = .ok (.aload_n 0, 1) := by decide +kernel
theorem dX10_wordOrName_15 : decode cX10_wordOrName 15 = .ok (.getfield 55, 3) := by decide +kernel
theorem dX10_wordOrName_18 : decode cX10_wordOrName 18 = .ok (.lcmp, 1) := by decide +kernel
theorem dX10_wordOrName_19 : decode cX10_wordOrName 19 = .ok (.ifCond .ne 9, 3) := by decide +kernel
theorem dX10_wordOrName_22 : decode cX10_wordOrName 22 = .ok (.sipush 200, 3) := by decide +kernel
theorem dX10_wordOrName_25 : decode cX10_wordOrName 25 = .ok (.iload_n 1, 1) := by decide +kernel
theorem dX10_wordOrName_26 : decode cX10_wordOrName 26 = .ok (.iadd, 1) := by decide +kernel
theorem dX10_wordOrName_27 : decode cX10_wordOrName 27 = .ok (.ireturn, 1) := by decide +kernel
theorem dX10_wordOrName_28 : decode cX10_wordOrName 28 = .ok (.iinc 1 1, 3) := by decide +kernel
theorem dX10_wordOrName_31 : decode cX10_wordOrName 31 = .ok (.goto (-29), 3) := by decide +kernel
theorem dX10_wordOrName_34 : decode cX10_wordOrName 34 = .ok (.iconst 1, 1) := by decide +kernel
theorem dX10_wordOrName_35 : decode cX10_wordOrName 35 = .ok (.ireturn, 1) := by decide +kernel
theorem dX11_fault_0 : decode cX11_fault 0 = .ok (.aload_n 0, 1) := by decide +kernel
theorem dX11_fault_1 : decode cX11_fault 1 = .ok (.getfield 17, 3) := by decide +kernel
theorem dX11_fault_4 : decode cX11_fault 4 = .ok (.ireturn, 1) := by decide +kernel
theorem dX11_letter_0 : decode cX11_letter 0 = .ok (.aload_n 0, 1) := by decide +kernel
theorem dX11_letter_1 : decode cX11_letter 1 = .ok (.getfield 23, 3) := by decide +kernel
theorem dX11_letter_4 : decode cX11_letter 4 = .ok (.iload_n 1, 1) := by decide +kernel
theorem dX11_letter_5 : decode cX11_letter 5 = .ok (.iload_n 2, 1) := by decide +kernel
theorem dX11_letter_6 : decode cX11_letter 6 = .ok (.invokevirtual 90, 3) := by decide +kernel
theorem dX11_letter_9 : decode cX11_letter 9 = .ok (.ireturn, 1) := by decide +kernel
theorem dX11_rule_0 : decode cX11_rule 0 = .ok (.iload_n 1, 1) := by decide +kernel
theorem dX11_rule_1 : decode cX11_rule 1 = .ok (.invokestatic 67, 3) := by decide +kernel
theorem dX11_rule_4 : decode cX11_rule 4 = .ok (.ifCond .eq 24, 3) := by decide +kernel
theorem dX11_rule_7 : decode cX11_rule 7 = .ok (.iload_n 2, 1) := by decide +kernel
theorem dX11_rule_8 : decode cX11_rule 8 = .ok (.invokestatic 67, 3) := by decide +kernel
theorem dX11_rule_11 : decode cX11_rule 11 = .ok (.ifCond .eq 17, 3) := by decide +kernel
theorem dX11_rule_14 : decode cX11_rule 14 = .ok (.iload_n 1, 1) := by decide +kernel
theorem dX11_rule_15 : decode cX11_rule 15 = .ok (.iload_n 2, 1) := by decide +kernel
theorem dX11_rule_16 : decode cX11_rule 16 = .ok (.if_icmp .eq 12, 3) := by decide +kernel
theorem dX11_rule_19 : decode cX11_rule 19 = .ok (.iload_n 3, 1) := by decide +kernel
theorem dX11_rule_20 : decode cX11_rule 20 = .ok (.ifCond .lt 8, 3) := by decide +kernel
theorem dX11_rule_23 : decode cX11_rule 23 = .ok (.iload_n 3, 1) := by decide +kernel
theorem dX11_rule_24 : decode cX11_rule 24 = .ok (.iconst 2, 1) := by decide +kernel
theorem dX11_rule_25 : decode cX11_rule 25 = .ok (.if_icmp .le 5, 3) := by decide +kernel
theorem dX11_rule_28 : decode cX11_rule 28 = .ok (.iconst 0, 1) := by decide +kernel
theorem dX11_rule_29 : decode cX11_rule 29 = .ok (.ireturn, 1) := by decide +kernel
theorem dX11_rule_30 : decode cX11_rule 30 = .ok (.aload_n 0, 1) := by decide +kernel
theorem dX11_rule_31 : decode cX11_rule 31 = .ok (.getfield 30, 3) := by decide +kernel
theorem dX11_rule_34 : decode cX11_rule 34 = .ok (.iload_n 1, 1) := by decide +kernel
theorem dX11_rule_35 : decode cX11_rule 35 = .ok (.iload_n 2, 1) := by decide +kernel
theorem dX11_rule_36 : decode cX11_rule 36 = .ok (.iload_n 3, 1) := by decide +kernel
theorem dX11_rule_37 : decode cX11_rule 37 = .ok (.invokevirtual 94, 3) := by decide +kernel
theorem dX11_rule_40 : decode cX11_rule 40 = .ok (.iconst 1, 1) := by decide +kernel
theorem dX11_rule_41 : decode cX11_rule 41 = .ok (.ireturn, 1) := by decide +kernel
theorem dX11_entry_0 : decode cX11_entry 0 = .ok (.iload_n 1, 1) := by decide +kernel
theorem dX11_entry_1 : decode cX11_entry 1 = .ok (.invokestatic 67, 3) := by decide +kernel
theorem dX11_entry_4 : decode cX11_entry 4 = .ok (.ifCond .eq 15, 3) := by decide +kernel
theorem dX11_entry_7 : decode cX11_entry 7 = .ok (.iload_n 2, 1) := by decide +kernel
theorem dX11_entry_8 : decode cX11_entry 8 = .ok (.invokestatic 67, 3) := by decide +kernel
theorem dX11_entry_11 : decode cX11_entry 11 = .ok (.ifCond .eq 8, 3) := by decide +kernel
theorem dX11_entry_14 : decode cX11_entry 14 = .ok (.iload_n 1, 1) := by decide +kernel
theorem dX11_entry_15 : decode cX11_entry 15 = .ok (.iload_n 2, 1) := by decide +kernel
theorem dX11_entry_16 : decode cX11_entry 16 = .ok (.if_icmp .ne 5, 3) := by decide +kernel
theorem dX11_entry_19 : decode cX11_entry 19 = .ok (.iconst 0, 1) := by decide +kernel
theorem dX11_entry_20 : decode cX11_entry 20 = .ok (.ireturn, 1) := by decide +kernel
theorem dX11_entry_21 : decode cX11_entry 21 = .ok (.aload_n 0, 1) := by decide +kernel
theorem dX11_entry_22 : decode cX11_entry 22 = .ok (.iload_n 2, 1) := by decide +kernel
theorem dX11_entry_23 : decode cX11_entry 23 = .ok (.iload 4, 2) := by decide +kernel
theorem dX11_entry_25 : decode cX11_entry 25 = .ok (.invokevirtual 98, 3) := by decide +kernel
theorem dX11_entry_28 : decode cX11_entry 28 = .ok (.ifCond .ne 5, 3) := by decide +kernel
theorem dX11_entry_31 : decode cX11_entry 31 = .ok (.iconst 0, 1) := by decide +kernel
theorem dX11_entry_32 : decode cX11_entry 32 = .ok (.ireturn, 1) := by decide +kernel
theorem dX11_entry_33 : decode cX11_entry 33 = .ok (.iload_n 3, 1) := by decide +kernel
theorem dX11_entry_34 : decode cX11_entry 34 = .ok (.ifCond .ne 16, 3) := by decide +kernel
theorem dX11_entry_37 : decode cX11_entry 37 = .ok (.aload_n 0, 1) := by decide +kernel
theorem dX11_entry_38 : decode cX11_entry 38 = .ok (.getfield 30, 3) := by decide +kernel
theorem dX11_entry_41 : decode cX11_entry 41 = .ok (.iload_n 1, 1) := by decide +kernel
theorem dX11_entry_42 : decode cX11_entry 42 = .ok (.iload_n 2, 1) := by decide +kernel
theorem dX11_entry_43 : decode cX11_entry 43 = .ok (.iload 4, 2) := by decide +kernel
theorem dX11_entry_45 : decode cX11_entry 45 = .ok (.invokevirtual 102, 3) := by decide +kernel
theorem dX11_entry_48 : decode cX11_entry 48 = .ok (.iconst 1, 1) := by decide +kernel
theorem dX11_entry_49 : decode cX11_entry 49 = .ok (.ireturn, 1) := by decide +kernel
theorem dX11_entry_50 : decode cX11_entry 50 = .ok (.aload_n 0, 1) := by decide +kernel
theorem dX11_entry_51 : decode cX11_entry 51 = .ok (.iload_n 1, 1) := by decide +kernel
theorem dX11_entry_52 : decode cX11_entry 52 = .ok (.iload_n 3, 1) := by decide +kernel
theorem dX11_entry_53 : decode cX11_entry 53 = .ok (.invokevirtual 98, 3) := by decide +kernel
theorem dX11_entry_56 : decode cX11_entry 56 = .ok (.ifCond .eq 22, 3) := by decide +kernel
theorem dX11_entry_59 : decode cX11_entry 59 = .ok (.aload_n 0, 1) := by decide +kernel
theorem dX11_entry_60 : decode cX11_entry 60 = .ok (.getfield 30, 3) := by decide +kernel
theorem dX11_entry_63 : decode cX11_entry 63 = .ok (.iload_n 1, 1) := by decide +kernel
theorem dX11_entry_64 : decode cX11_entry 64 = .ok (.iload_n 2, 1) := by decide +kernel
theorem dX11_entry_65 : decode cX11_entry 65 = .ok (.iload_n 3, 1) := by decide +kernel
theorem dX11_entry_66 : decode cX11_entry 66 = .ok (.iload 4, 2) := by decide +kernel
theorem dX11_entry_68 : decode cX11_entry 68 = .ok (.invokevirtual 105, 3) := by decide +kernel
theorem dX11_entry_71 : decode cX11_entry 71 = .ok (.ifCond .eq 7, 3) := by decide +kernel
theorem dX11_entry_74 : decode cX11_entry 74 = .ok (.iconst 1, 1) := by decide +kernel
theorem dX11_entry_75 : decode cX11_entry 75 = .ok (.goto 4, 3) := by decide +kernel
theorem dX11_entry_78 : decode cX11_entry 78 = .ok (.iconst 0, 1) := by decide +kernel
theorem dX11_entry_79 : decode cX11_entry 79 = .ok (.ireturn, 1) := by decide +kernel
theorem dX11_look_0 : decode cX11_look 0 = .ok (.iload_n 1, 1) := by decide +kernel
theorem dX11_look_1 : decode cX11_look 1 = .ok (.bipush 10, 2) := by decide +kernel
theorem dX11_look_3 : decode cX11_look 3 = .ok (.if_icmp .ne 11, 3) := by decide +kernel
theorem dX11_look_6 : decode cX11_look 6 = .ok (.aload_n 0, 1) := by decide +kernel
theorem dX11_look_7 : decode cX11_look 7 = .ok (.getfield 23, 3) := by decide +kernel
theorem dX11_look_10 : decode cX11_look 10 = .ok (.invokevirtual 119, 3) := by decide +kernel
theorem dX11_look_13 : decode cX11_look 13 = .ok (.ireturn, 1) := by decide +kernel
theorem dX11_look_14 : decode cX11_look 14 = .ok (.aload_n 0, 1) := by decide +kernel
theorem dX11_look_15 : decode cX11_look 15 = .ok (.getfield 59, 3) := by decide +kernel
theorem dX11_look_18 : decode cX11_look 18 = .ok (.iload_n 1, 1) := by decide +kernel
theorem dX11_look_19 : decode cX11_look 19 = .ok (.invokevirtual 122, 3) := by decide +kernel
theorem dX11_look_22 : decode cX11_look 22 = .ok (.ireturn, 1) := by decide +kernel
theorem dX11_answer_0 : decode cX11_answer 0 = .ok (.aload_n 0, 1) := by decide +kernel
theorem dX11_answer_1 : decode cX11_answer 1 = .ok (.getfield 59, 3) := by decide +kernel
theorem dX11_answer_4 : decode cX11_answer 4 = .ok (.invokevirtual 126, 3) := by decide +kernel
theorem dX11_answer_7 : decode cX11_answer 7 = .ok (.lreturn, 1) := by decide +kernel
theorem dX11_mark_0 : decode cX11_mark 0 = .ok (.aload_n 0, 1) := by decide +kernel
theorem dX11_mark_1 : decode cX11_mark 1 = .ok (.getfield 59, 3) := by decide +kernel
theorem dX11_mark_4 : decode cX11_mark 4 = .ok (.iload_n 1, 1) := by decide +kernel
theorem dX11_mark_5 : decode cX11_mark 5 = .ok (.invokevirtual 130, 3) := by decide +kernel
theorem dX11_mark_8 : decode cX11_mark 8 = .ok (.lreturn, 1) := by decide +kernel
theorem dX11_markTongue_0 : decode cX11_markTongue 0 = .ok (.aload_n 0, 1) := by decide +kernel
theorem dX11_markTongue_1 : decode cX11_markTongue 1 = .ok (.getfield 59, 3) := by decide +kernel
theorem dX11_markTongue_4 : decode cX11_markTongue 4 = .ok (.iload_n 1, 1) := by decide +kernel
theorem dX11_markTongue_5 : decode cX11_markTongue 5 = .ok (.invokevirtual 134, 3) := by decide +kernel
theorem dX11_markTongue_8 : decode cX11_markTongue 8 = .ok (.ireturn, 1) := by decide +kernel
theorem dX11_failure_0 : decode cX11_failure 0 = .ok (.aload_n 0, 1) := by decide +kernel
theorem dX11_failure_1 : decode cX11_failure 1 = .ok (.getfield 59, 3) := by decide +kernel
theorem dX11_failure_4 : decode cX11_failure 4 = .ok (.iload_n 1, 1) := by decide +kernel
theorem dX11_failure_5 : decode cX11_failure 5 = .ok (.iload_n 2, 1) := by decide +kernel
theorem dX11_failure_6 : decode cX11_failure 6 = .ok (.invokevirtual 137, 3) := by decide +kernel
theorem dX11_failure_9 : decode cX11_failure 9 = .ok (.ireturn, 1) := by decide +kernel
theorem dX11_under_0 : decode cX11_under 0 = .ok (.aload_n 0, 1) := by decide +kernel
theorem dX11_under_1 : decode cX11_under 1 = .ok (.getfield 59, 3) := by decide +kernel
theorem dX11_under_4 : decode cX11_under 4 = .ok (.iload_n 1, 1) := by decide +kernel
theorem dX11_under_5 : decode cX11_under 5 = .ok (.iload_n 2, 1) := by decide +kernel
theorem dX11_under_6 : decode cX11_under 6 = .ok (.iload_n 3, 1) := by decide +kernel
theorem dX11_under_7 : decode cX11_under 7 = .ok (.invokevirtual 140, 3) := by decide +kernel
theorem dX11_under_10 : decode cX11_under 10 = .ok (.ireturn, 1) := by decide +kernel
theorem dX11_canFail_0 : decode cX11_canFail 0 = .ok (.iload_n 1, 1) := by decide +kernel
theorem dX11_canFail_1 : decode cX11_canFail 1 = .ok (.iconst 1, 1) := by decide +kernel
theorem dX11_canFail_2 : decode cX11_canFail 2 = .ok (.if_icmp .ne 13, 3) := by decide +kernel
theorem dX11_canFail_5 : decode cX11_canFail 5 = .ok (.iload_n 2, 1) := by decide +kernel
theorem dX11_canFail_6 : decode cX11_canFail 6 = .ok (.ifCond .eq 7, 3) := by decide +kernel
theorem dX11_canFail_9 : decode cX11_canFail 9 = .ok (.iconst 1, 1) := by decide +kernel
theorem dX11_canFail_10 : decode cX11_canFail 10 = .ok (.goto 4, 3) := by decide +kernel
theorem dX11_canFail_13 : decode cX11_canFail 13 = .ok (.iconst 0, 1) := by decide +kernel
theorem dX11_canFail_14 : decode cX11_canFail 14 = .ok (.ireturn, 1) := by decide +kernel
theorem dX11_canFail_15 : decode cX11_canFail 15 = .ok (.iload_n 2, 1) := by decide +kernel
theorem dX11_canFail_16 : decode cX11_canFail 16 = .ok (.iconst 1, 1) := by decide +kernel
theorem dX11_canFail_17 : decode cX11_canFail 17 = .ok (.if_icmp .lt 18, 3) := by decide +kernel
theorem dX11_canFail_20 : decode cX11_canFail 20 = .ok (.iload_n 2, 1) := by decide +kernel
theorem dX11_canFail_21 : decode cX11_canFail 21 = .ok (.aload_n 0, 1) := by decide +kernel
theorem dX11_canFail_22 : decode cX11_canFail 22 = .ok (.getfield 23, 3) := by decide +kernel
theorem dX11_canFail_25 : decode cX11_canFail 25 = .ok (.invokevirtual 119, 3) := by decide +kernel
theorem dX11_canFail_28 : decode cX11_canFail 28 = .ok (.if_icmp .gt 7, 3) := by decide +kernel
theorem dX11_canFail_31 : decode cX11_canFail 31 = .ok (.iconst 1, 1) := by decide +kernel
theorem dX11_canFail_32 : decode cX11_canFail 32 = .ok (.goto 4, 3) := by decide +kernel
theorem dX11_canFail_35 : decode cX11_canFail 35 = .ok (.iconst 0, 1) := by decide +kernel
theorem dX11_canFail_36 : decode cX11_canFail 36 = .ok (.ireturn, 1) := by decide +kernel
theorem dX11_isTongue_0 : decode cX11_isTongue 0 = .ok (.iload_n 0, 1) := by decide +kernel
theorem dX11_isTongue_1 : decode cX11_isTongue 1 = .ok (.ifCond .lt 12, 3) := by decide +kernel
theorem dX11_isTongue_4 : decode cX11_isTongue 4 = .ok (.iload_n 0, 1) := by decide +kernel
theorem dX11_isTongue_5 : decode cX11_isTongue 5 = .ok (.iconst 4, 1) := by decide +kernel
theorem dX11_isTongue_6 : decode cX11_isTongue 6 = .ok (.if_icmp .ge 7, 3) := by decide +kernel
theorem dX11_isTongue_9 : decode cX11_isTongue 9 = .ok (.iconst 1, 1) := by decide +kernel
theorem dX11_isTongue_10 : decode cX11_isTongue 10 = .ok (.goto 4, 3) := by decide +kernel
theorem dX11_isTongue_13 : decode cX11_isTongue 13 = .ok (.iconst 0, 1) := by decide +kernel
theorem dX11_isTongue_14 : decode cX11_isTongue 14 = .ok (.ireturn, 1) := by decide +kernel
set_option maxHeartbeats 4000000 in
set_option maxRecDepth 100000 in
theorem c_X11_isTongue (ω : Om) (l : Launch) (μ : M3) (x1 : Int) (hx1 : ir x1) : CtI ω l yX11_isTongue cX11_isTongue 1 .boolean 0 0 [.int (iv x1)] μ (fun (r : Int) (μ' : M3) => (μ' = μ) ∧ ((r = 1 ∧ 0 ≤ x1 ∧ x1 ≤ 3) ∨ (r = 0 ∧ (x1 < 0 ∨ 3 < x1)))) := by
  refine CtI.go (by decide) (Nat.le_of_ble_eq_true rfl) (fun ρ p e s m below meth c R ls G hR hret hlk hl => ?_)
  have hx := G.1.1
  have hb := G.1.2.1
  have hl : lv_has ls 1 [(0, .int (iv x1))] := hl
  generalize s.drawn = d0 at G ⊢
  have hr_x1 : -2147483648 ≤ x1 ∧ x1 ≤ 2147483647 := hx1
  refine lv_iload_n hx hb dX11_isTongue_0 rfl (lv_at hl 0 rfl) ?_
  refine xb_if_lt (tgt := 13) hx hb (by unfold ir; omega) dX11_isTongue_1 (by decide) (fun c_1 => ?_) (fun c_1 => ?_)
  · refine lv_iconst (v := iv 0) hx hb dX11_isTongue_13 rfl ?_
    exact xr_i G (x := 0) hret hlk (by unfold ir; omega) (zr (by omega)) dX11_isTongue_14 ⟨rfl, (by omega)⟩
  · refine lv_iload_n hx hb dX11_isTongue_4 rfl (lv_at hl 0 rfl) ?_
    refine lv_iconst (v := iv 4) hx hb dX11_isTongue_5 rfl ?_
    refine xb_icmp_ge (tgt := 13) hx hb (by unfold ir; omega) (by unfold ir; omega) dX11_isTongue_6 (by decide) (fun c_6 => ?_) (fun c_6 => ?_)
    · refine lv_iconst (v := iv 0) hx hb dX11_isTongue_13 rfl ?_
      exact xr_i G (x := 0) hret hlk (by unfold ir; omega) (zr (by omega)) dX11_isTongue_14 ⟨rfl, (by omega)⟩
    · refine lv_iconst (v := iv 1) hx hb dX11_isTongue_9 rfl ?_
      refine lv_goto (tgt := 14) hx hb dX11_isTongue_10 (by decide) ?_
      exact xr_i G (x := 1) hret hlk (by unfold ir; omega) (zr (by omega)) dX11_isTongue_14 ⟨rfl, (by omega)⟩

set_option maxHeartbeats 4000000 in
set_option maxRecDepth 100000 in
theorem c_X11_canFail (ω : Om) (l : Launch) (μ : M3) (x1 : Int) (x2 : Int) (hx1 : ir x1) (hx2 : ir x2) (hI : IC μ) : CtI ω l yX11_canFail cX11_canFail 3 .boolean 1 20 [.ref (oP ω 0), .int (iv x1), .int (iv x2)] μ (fun (r : Int) (μ' : M3) => (μ' = μ) ∧ (r = 0 ∨ r = 1)) := by
  refine CtI.go (by decide) (Nat.le_of_ble_eq_true rfl) (fun ρ p e s m below meth c R ls G hR hret hlk hl => ?_)
  have hx := G.1.1
  have hb := G.1.2.1
  have hl : lv_has ls 3 [(0, .ref (oP ω 0)), (1, .int (iv x1)), (2, .int (iv x2))] := hl
  generalize s.drawn = d0 at G ⊢
  have hr_x1 : -2147483648 ≤ x1 ∧ x1 ≤ 2147483647 := hx1
  have hr_x2 : -2147483648 ≤ x2 ∧ x2 ≤ 2147483647 := hx2
  refine lv_iload_n hx hb dX11_canFail_0 rfl (lv_at hl 1 rfl) ?_
  refine lv_iconst (v := iv 1) hx hb dX11_canFail_1 rfl ?_
  refine xb_icmp_ne (tgt := 15) hx hb (by unfold ir; omega) (by unfold ir; omega) dX11_canFail_2 (by decide) (fun c_2 => ?_) (fun c_2 => ?_)
  · refine lv_iload_n hx hb dX11_canFail_15 rfl (lv_at hl 2 rfl) ?_
    refine lv_iconst (v := iv 1) hx hb dX11_canFail_16 rfl ?_
    refine xb_icmp_lt (tgt := 35) hx hb (by unfold ir; omega) (by unfold ir; omega) dX11_canFail_17 (by decide) (fun c_17 => ?_) (fun c_17 => ?_)
    · refine lv_iconst (v := iv 0) hx hb dX11_canFail_35 rfl ?_
      exact xr_i G (x := 0) hret hlk (by unfold ir; omega) (zr (by omega)) dX11_canFail_36 ⟨rfl, (by omega)⟩
    · refine lv_iload_n hx hb dX11_canFail_20 rfl (lv_at hl 2 rfl) ?_
      refine lv_aload_n hx hb dX11_canFail_21 rfl (lv_at hl 0 rfl) ?_
      refine xa_getr G fd_X11 (a := 0) (x := 2) 3 rfl (by decide) rfl (wm 2 199 rfl rfl) ⟨rfl, rfl, rfl⟩ dX11_canFail_22 rfl (G.sk 1 rfl) (by decide) rfl ?_
      have hn_1 : 0 ≤ μ.1 2 3 ∧ μ.1 2 3 ≤ 51 := hI.nm.2.1
      refine xc_iV G (b := 2) (rest := [.int (iv x2)]) (As := []) (c_X5_inAll ω l μ  hI) (wm 5 13 rfl rfl) (wm 5 14 rfl rfl) (wm 5 15 rfl rfl) rfl rfl (by decide) rfl (wm 1 2 rfl rfl) (wm 5 16 rfl rfl) (by decide) hR (by decide) (n := 0) rfl rfl (Nat.le_of_ble_eq_true rfl) hl.1 dX11_canFail_25 (fun r_3 μ2 ρ d0 H locs hr_r_3 hp G => ?_)
      have hr_r_3 : -2147483648 ≤ r_3 ∧ r_3 ≤ 2147483647 := hr_r_3
      obtain ⟨hsm_4, hp_5⟩ := hp
      have hsm_4 := Eq.symm hsm_4
      subst hsm_4
      refine xb_icmp_gt (tgt := 35) hx hb (by unfold ir; omega) (by unfold ir; omega) dX11_canFail_28 (by decide) (fun c_28 => ?_) (fun c_28 => ?_)
      · refine lv_iconst (v := iv 0) hx hb dX11_canFail_35 rfl ?_
        exact xr_i G (x := 0) hret hlk (by unfold ir; omega) (zr (by omega)) dX11_canFail_36 ⟨rfl, (by omega)⟩
      · refine lv_iconst (v := iv 1) hx hb dX11_canFail_31 rfl ?_
        refine lv_goto (tgt := 36) hx hb dX11_canFail_32 (by decide) ?_
        exact xr_i G (x := 1) hret hlk (by unfold ir; omega) (zr (by omega)) dX11_canFail_36 ⟨rfl, (by omega)⟩
  · refine lv_iload_n hx hb dX11_canFail_5 rfl (lv_at hl 2 rfl) ?_
    refine xb_if_eq (tgt := 13) hx hb (by unfold ir; omega) dX11_canFail_6 (by decide) (fun c_6 => ?_) (fun c_6 => ?_)
    · refine lv_iconst (v := iv 0) hx hb dX11_canFail_13 rfl ?_
      exact xr_i G (x := 0) hret hlk (by unfold ir; omega) (zr (by omega)) dX11_canFail_14 ⟨rfl, (by omega)⟩
    · refine lv_iconst (v := iv 1) hx hb dX11_canFail_9 rfl ?_
      refine lv_goto (tgt := 14) hx hb dX11_canFail_10 (by decide) ?_
      exact xr_i G (x := 1) hret hlk (by unfold ir; omega) (zr (by omega)) dX11_canFail_14 ⟨rfl, (by omega)⟩

set_option maxHeartbeats 4000000 in
set_option maxRecDepth 100000 in
theorem c_X11_fault (ω : Om) (l : Launch) (μ : M3) (hI : IC μ) : CtI ω l yX11_fault cX11_fault 1 .int 0 0 [.ref (oP ω 0)] μ (fun (r : Int) (μ' : M3) => (μ' = μ) ∧ (r = μ.1 0 2)) := by
  refine CtI.go (by decide) (Nat.le_of_ble_eq_true rfl) (fun ρ p e s m below meth c R ls G hR hret hlk hl => ?_)
  have hx := G.1.1
  have hb := G.1.2.1
  have hl : lv_has ls 1 [(0, .ref (oP ω 0))] := hl
  generalize s.drawn = d0 at G ⊢
  refine lv_aload_n hx hb dX11_fault_0 rfl (lv_at hl 0 rfl) ?_
  refine xa_geti G fd_X11 (a := 0) (x := μ.1 0 2) 2 rfl (by decide) rfl (wm 2 198 rfl rfl) ⟨rfl, rfl, rfl⟩ dX11_fault_1 rfl rfl ?_
  have hr_1 : -2147483648 ≤ μ.1 0 2 ∧ μ.1 0 2 ≤ 2147483647 := by have h9 := G.hr (a := 0) (k := 2) rfl; exact h9
  exact xr_i G (x := μ.1 0 2) hret hlk (by unfold ir; omega) rfl dX11_fault_4 ⟨rfl, (by omega)⟩

set_option maxHeartbeats 4000000 in
set_option maxRecDepth 100000 in
theorem c_X11_letter (ω : Om) (l : Launch) (μ : M3) (x1 : Int) (x2 : Int) (hx1 : ir x1) (hx2 : ir x2) (hI : IC μ) : CtI ω l yX11_letter cX11_letter 3 .int 1 25 [.ref (oP ω 0), .int (iv x1), .int (iv x2)] μ (fun (r : Int) (μ' : M3) => (μ' = μ)) := by
  refine CtI.go (by decide) (Nat.le_of_ble_eq_true rfl) (fun ρ p e s m below meth c R ls G hR hret hlk hl => ?_)
  have hx := G.1.1
  have hb := G.1.2.1
  have hl : lv_has ls 3 [(0, .ref (oP ω 0)), (1, .int (iv x1)), (2, .int (iv x2))] := hl
  generalize s.drawn = d0 at G ⊢
  have hr_x1 : -2147483648 ≤ x1 ∧ x1 ≤ 2147483647 := hx1
  have hr_x2 : -2147483648 ≤ x2 ∧ x2 ≤ 2147483647 := hx2
  refine lv_aload_n hx hb dX11_letter_0 rfl (lv_at hl 0 rfl) ?_
  refine xa_getr G fd_X11 (a := 0) (x := 2) 3 rfl (by decide) rfl (wm 2 199 rfl rfl) ⟨rfl, rfl, rfl⟩ dX11_letter_1 rfl (G.sk 1 rfl) (by decide) rfl ?_
  refine lv_iload_n hx hb dX11_letter_4 rfl (lv_at hl 1 rfl) ?_
  refine lv_iload_n hx hb dX11_letter_5 rfl (lv_at hl 2 rfl) ?_
  refine xc_iV G (b := 2) (rest := []) (As := [.int (iv x1), .int (iv x2)]) (c_X5_letterOf ω l μ x1 x2 (by unfold ir; omega) (by unfold ir; omega) hI) (wm 4 229 rfl rfl) (wm 4 230 rfl rfl) (wm 4 231 rfl rfl) rfl rfl (by decide) rfl (wm 1 2 rfl rfl) (wm 4 232 rfl rfl) (by decide) hR (by decide) (n := 2) rfl rfl (Nat.le_of_ble_eq_true rfl) hl.1 dX11_letter_6 (fun r_2 μ1 ρ d0 H locs hr_r_2 hp G => ?_)
  have hr_r_2 : -2147483648 ≤ r_2 ∧ r_2 ≤ 2147483647 := hr_r_2
  have hsm_3 := hp
  have hsm_3 := Eq.symm hsm_3
  subst hsm_3
  exact xr_i G (x := r_2) hret hlk (by unfold ir; omega) rfl dX11_letter_9 rfl

set_option maxHeartbeats 4000000 in
set_option maxRecDepth 100000 in
theorem c_X11_rule (ω : Om) (l : Launch) (μ : M3) (x1 : Int) (x2 : Int) (x3 : Int) (hx1 : ir x1) (hx2 : ir x2) (hx3 : ir x3) (hI : IC μ) : CtI ω l yX11_rule cX11_rule 4 .boolean 2 44 [.ref (oP ω 0), .int (iv x1), .int (iv x2), .int (iv x3)] μ (fun (r : Int) (μ' : M3) => (Fr [7] μ μ') ∧ (IC μ') ∧ ((r = 1 ∧ 0 ≤ x1 ∧ x1 ≤ 3 ∧ 0 ≤ x2 ∧ x2 ≤ 3 ∧ x1 ≠ x2 ∧ 0 ≤ x3 ∧ x3 ≤ 2) ∨ (r = 0 ∧ ¬ (0 ≤ x1 ∧ x1 ≤ 3 ∧ 0 ≤ x2 ∧ x2 ≤ 3 ∧ x1 ≠ x2 ∧ 0 ≤ x3 ∧ x3 ≤ 2)))) := by
  refine CtI.go (by decide) (Nat.le_of_ble_eq_true rfl) (fun ρ p e s m below meth c R ls G hR hret hlk hl => ?_)
  have hx := G.1.1
  have hb := G.1.2.1
  have hl : lv_has ls 4 [(0, .ref (oP ω 0)), (1, .int (iv x1)), (2, .int (iv x2)), (3, .int (iv x3))] := hl
  generalize s.drawn = d0 at G ⊢
  have hr_x1 : -2147483648 ≤ x1 ∧ x1 ≤ 2147483647 := hx1
  have hr_x2 : -2147483648 ≤ x2 ∧ x2 ≤ 2147483647 := hx2
  have hr_x3 : -2147483648 ≤ x3 ∧ x3 ≤ 2147483647 := hx3
  refine lv_iload_n hx hb dX11_rule_0 rfl (lv_at hl 1 rfl) ?_
  refine xc_iS G (rest := []) (As := [.int (iv x1)]) (c_X11_isTongue ω l μ x1 (by unfold ir; omega)) (wm 2 236 rfl rfl) (wm 2 237 rfl rfl) (wm 1 1 rfl rfl) (wm 2 238 rfl rfl) (by decide) hR (by decide) (n := 1) rfl rfl (Nat.le_of_ble_eq_true rfl) hl.1 dX11_rule_1 (fun r_2 μ1 ρ d0 H locs hr_r_2 hp G => ?_)
  have hr_r_2 : -2147483648 ≤ r_2 ∧ r_2 ≤ 2147483647 := hr_r_2
  obtain ⟨hsm_3, hp_4⟩ := hp
  have hsm_3 := Eq.symm hsm_3
  subst hsm_3
  refine xb_if_eq (tgt := 28) hx hb (by unfold ir; omega) dX11_rule_4 (by decide) (fun c_4 => ?_) (fun c_4 => ?_)
  · refine lv_iconst (v := iv 0) hx hb dX11_rule_28 rfl ?_
    exact xr_i G (x := 0) hret hlk (by unfold ir; omega) (zr (by omega)) dX11_rule_29 ⟨Fr.rf, hI, (by omega)⟩
  · refine lv_iload_n hx hb dX11_rule_7 rfl (lv_at hl 2 rfl) ?_
    refine xc_iS G (rest := []) (As := [.int (iv x2)]) (c_X11_isTongue ω l μ x2 (by unfold ir; omega)) (wm 2 236 rfl rfl) (wm 2 237 rfl rfl) (wm 1 1 rfl rfl) (wm 2 238 rfl rfl) (by decide) hR (by decide) (n := 1) rfl rfl (Nat.le_of_ble_eq_true rfl) hl.1 dX11_rule_8 (fun r_6 μ5 ρ d0 H locs hr_r_6 hp G => ?_)
    have hr_r_6 : -2147483648 ≤ r_6 ∧ r_6 ≤ 2147483647 := hr_r_6
    obtain ⟨hsm_7, hp_8⟩ := hp
    have hsm_7 := Eq.symm hsm_7
    subst hsm_7
    refine xb_if_eq (tgt := 28) hx hb (by unfold ir; omega) dX11_rule_11 (by decide) (fun c_11 => ?_) (fun c_11 => ?_)
    · refine lv_iconst (v := iv 0) hx hb dX11_rule_28 rfl ?_
      exact xr_i G (x := 0) hret hlk (by unfold ir; omega) (zr (by omega)) dX11_rule_29 ⟨Fr.rf, hI, (by omega)⟩
    · refine lv_iload_n hx hb dX11_rule_14 rfl (lv_at hl 1 rfl) ?_
      refine lv_iload_n hx hb dX11_rule_15 rfl (lv_at hl 2 rfl) ?_
      refine xb_icmp_eq (tgt := 28) hx hb (by unfold ir; omega) (by unfold ir; omega) dX11_rule_16 (by decide) (fun c_16 => ?_) (fun c_16 => ?_)
      · refine lv_iconst (v := iv 0) hx hb dX11_rule_28 rfl ?_
        exact xr_i G (x := 0) hret hlk (by unfold ir; omega) (zr (by omega)) dX11_rule_29 ⟨Fr.rf, hI, (by omega)⟩
      · refine lv_iload_n hx hb dX11_rule_19 rfl (lv_at hl 3 rfl) ?_
        refine xb_if_lt (tgt := 28) hx hb (by unfold ir; omega) dX11_rule_20 (by decide) (fun c_20 => ?_) (fun c_20 => ?_)
        · refine lv_iconst (v := iv 0) hx hb dX11_rule_28 rfl ?_
          exact xr_i G (x := 0) hret hlk (by unfold ir; omega) (zr (by omega)) dX11_rule_29 ⟨Fr.rf, hI, (by omega)⟩
        · refine lv_iload_n hx hb dX11_rule_23 rfl (lv_at hl 3 rfl) ?_
          refine lv_iconst (v := iv 2) hx hb dX11_rule_24 rfl ?_
          refine xb_icmp_le (tgt := 30) hx hb (by unfold ir; omega) (by unfold ir; omega) dX11_rule_25 (by decide) (fun c_25 => ?_) (fun c_25 => ?_)
          · refine lv_aload_n hx hb dX11_rule_30 rfl (lv_at hl 0 rfl) ?_
            refine xa_getr G fd_X11 (a := 0) (x := 6) 4 rfl (by decide) rfl (wm 2 200 rfl rfl) ⟨rfl, rfl, rfl⟩ dX11_rule_31 rfl (G.sk 2 rfl) (by decide) rfl ?_
            refine lv_iload_n hx hb dX11_rule_34 rfl (lv_at hl 1 rfl) ?_
            refine lv_iload_n hx hb dX11_rule_35 rfl (lv_at hl 2 rfl) ?_
            refine lv_iload_n hx hb dX11_rule_36 rfl (lv_at hl 3 rfl) ?_
            refine xc_vV G (b := 6) (rest := []) (As := [.int (iv x1), .int (iv x2), .int (iv x3)]) (c_X0_setRule ω l μ x1 x2 x3 (by unfold ir; omega) (by unfold ir; omega) (by unfold ir; omega) hI) (wm 4 238 rfl rfl) (wm 4 239 rfl rfl) (wm 5 0 rfl rfl) rfl rfl (by decide) rfl (wm 1 7 rfl rfl) (wm 5 1 rfl rfl) (by decide) hR (by decide) (n := 3) rfl rfl (Nat.le_of_ble_eq_true rfl) hl.1 dX11_rule_37 (fun μ9 ρ d0 H locs hp G => ?_)
            obtain ⟨F_10, hI_11⟩ := hp
            refine lv_iconst (v := iv 1) hx hb dX11_rule_40 rfl ?_
            exact xr_i G (x := 1) hret hlk (by unfold ir; omega) (zr (by omega)) dX11_rule_41 ⟨(Fr.tr Fr.rf F_10 (by decide)), hI_11, (by omega)⟩
          · refine lv_iconst (v := iv 0) hx hb dX11_rule_28 rfl ?_
            exact xr_i G (x := 0) hret hlk (by unfold ir; omega) (zr (by omega)) dX11_rule_29 ⟨Fr.rf, hI, (by omega)⟩

set_option maxHeartbeats 4000000 in
set_option maxRecDepth 100000 in
theorem c_X11_entry (ω : Om) (l : Launch) (μ : M3) (x1 : Int) (x2 : Int) (x3 : Int) (x4 : Int) (hx1 : ir x1) (hx2 : ir x2) (hx3 : ir x3) (hx4 : ir x4) (hI : IC μ) : CtI ω l yX11_entry cX11_entry 5 .boolean 3 71 [.ref (oP ω 0), .int (iv x1), .int (iv x2), .int (iv x3), .int (iv x4)] μ (fun (r : Int) (μ' : M3) => (Fr [9, 10, 11, 6, 8] μ μ') ∧ (IC μ') ∧ (r = 0 ∨ r = 1)) := by
  refine CtI.go (by decide) (Nat.le_of_ble_eq_true rfl) (fun ρ p e s m below meth c R ls G hR hret hlk hl => ?_)
  have hx := G.1.1
  have hb := G.1.2.1
  have hl : lv_has ls 5 [(0, .ref (oP ω 0)), (1, .int (iv x1)), (2, .int (iv x2)), (3, .int (iv x3)), (4, .int (iv x4))] := hl
  generalize s.drawn = d0 at G ⊢
  have hr_x1 : -2147483648 ≤ x1 ∧ x1 ≤ 2147483647 := hx1
  have hr_x2 : -2147483648 ≤ x2 ∧ x2 ≤ 2147483647 := hx2
  have hr_x3 : -2147483648 ≤ x3 ∧ x3 ≤ 2147483647 := hx3
  have hr_x4 : -2147483648 ≤ x4 ∧ x4 ≤ 2147483647 := hx4
  refine lv_iload_n hx hb dX11_entry_0 rfl (lv_at hl 1 rfl) ?_
  refine xc_iS G (rest := []) (As := [.int (iv x1)]) (c_X11_isTongue ω l μ x1 (by unfold ir; omega)) (wm 2 236 rfl rfl) (wm 2 237 rfl rfl) (wm 1 1 rfl rfl) (wm 2 238 rfl rfl) (by decide) hR (by decide) (n := 1) rfl rfl (Nat.le_of_ble_eq_true rfl) hl.1 dX11_entry_1 (fun r_2 μ1 ρ d0 H locs hr_r_2 hp G => ?_)
  have hr_r_2 : -2147483648 ≤ r_2 ∧ r_2 ≤ 2147483647 := hr_r_2
  obtain ⟨hsm_3, hp_4⟩ := hp
  have hsm_3 := Eq.symm hsm_3
  subst hsm_3
  refine xb_if_eq (tgt := 19) hx hb (by unfold ir; omega) dX11_entry_4 (by decide) (fun c_4 => ?_) (fun c_4 => ?_)
  · refine lv_iconst (v := iv 0) hx hb dX11_entry_19 rfl ?_
    exact xr_i G (x := 0) hret hlk (by unfold ir; omega) (zr (by omega)) dX11_entry_20 ⟨Fr.rf, hI, (by omega)⟩
  · refine lv_iload_n hx hb dX11_entry_7 rfl (lv_at hl 2 rfl) ?_
    refine xc_iS G (rest := []) (As := [.int (iv x2)]) (c_X11_isTongue ω l μ x2 (by unfold ir; omega)) (wm 2 236 rfl rfl) (wm 2 237 rfl rfl) (wm 1 1 rfl rfl) (wm 2 238 rfl rfl) (by decide) hR (by decide) (n := 1) rfl rfl (Nat.le_of_ble_eq_true rfl) hl.1 dX11_entry_8 (fun r_6 μ5 ρ d0 H locs hr_r_6 hp G => ?_)
    have hr_r_6 : -2147483648 ≤ r_6 ∧ r_6 ≤ 2147483647 := hr_r_6
    obtain ⟨hsm_7, hp_8⟩ := hp
    have hsm_7 := Eq.symm hsm_7
    subst hsm_7
    refine xb_if_eq (tgt := 19) hx hb (by unfold ir; omega) dX11_entry_11 (by decide) (fun c_11 => ?_) (fun c_11 => ?_)
    · refine lv_iconst (v := iv 0) hx hb dX11_entry_19 rfl ?_
      exact xr_i G (x := 0) hret hlk (by unfold ir; omega) (zr (by omega)) dX11_entry_20 ⟨Fr.rf, hI, (by omega)⟩
    · refine lv_iload_n hx hb dX11_entry_14 rfl (lv_at hl 1 rfl) ?_
      refine lv_iload_n hx hb dX11_entry_15 rfl (lv_at hl 2 rfl) ?_
      refine xb_icmp_ne (tgt := 21) hx hb (by unfold ir; omega) (by unfold ir; omega) dX11_entry_16 (by decide) (fun c_16 => ?_) (fun c_16 => ?_)
      · refine lv_aload_n hx hb dX11_entry_21 rfl (lv_at hl 0 rfl) ?_
        refine lv_iload_n hx hb dX11_entry_22 rfl (lv_at hl 2 rfl) ?_
        refine lv_iload hx hb dX11_entry_23 (lv_at hl 4 rfl) ?_
        refine xc_iV G (b := 0) (rest := []) (As := [.int (iv x2), .int (iv x4)]) (c_X11_canFail ω l μ x2 x4 (by unfold ir; omega) (by unfold ir; omega) hI) (wm 5 9 rfl rfl) (wm 5 11 rfl rfl) (wm 0 60 rfl rfl) rfl rfl (by decide) rfl (wm 1 1 rfl rfl) (wm 5 12 rfl rfl) (by decide) hR (by decide) (n := 2) rfl rfl (Nat.le_of_ble_eq_true rfl) hl.1 dX11_entry_25 (fun r_10 μ9 ρ d0 H locs hr_r_10 hp G => ?_)
        have hr_r_10 : -2147483648 ≤ r_10 ∧ r_10 ≤ 2147483647 := hr_r_10
        obtain ⟨hsm_11, hp_12⟩ := hp
        have hsm_11 := Eq.symm hsm_11
        subst hsm_11
        refine xb_if_ne (tgt := 33) hx hb (by unfold ir; omega) dX11_entry_28 (by decide) (fun c_28 => ?_) (fun c_28 => ?_)
        · refine lv_iload_n hx hb dX11_entry_33 rfl (lv_at hl 3 rfl) ?_
          refine xb_if_ne (tgt := 50) hx hb (by unfold ir; omega) dX11_entry_34 (by decide) (fun c_34 => ?_) (fun c_34 => ?_)
          · refine lv_aload_n hx hb dX11_entry_50 rfl (lv_at hl 0 rfl) ?_
            refine lv_iload_n hx hb dX11_entry_51 rfl (lv_at hl 1 rfl) ?_
            refine lv_iload_n hx hb dX11_entry_52 rfl (lv_at hl 3 rfl) ?_
            refine xc_iV G (b := 0) (rest := []) (As := [.int (iv x1), .int (iv x3)]) (c_X11_canFail ω l μ x1 x3 (by unfold ir; omega) (by unfold ir; omega) hI) (wm 5 9 rfl rfl) (wm 5 11 rfl rfl) (wm 0 60 rfl rfl) rfl rfl (by decide) rfl (wm 1 1 rfl rfl) (wm 5 12 rfl rfl) (by decide) hR (by decide) (n := 2) rfl rfl (Nat.le_of_ble_eq_true rfl) hl.1 dX11_entry_53 (fun r_14 μ13 ρ d0 H locs hr_r_14 hp G => ?_)
            have hr_r_14 : -2147483648 ≤ r_14 ∧ r_14 ≤ 2147483647 := hr_r_14
            obtain ⟨hsm_15, hp_16⟩ := hp
            have hsm_15 := Eq.symm hsm_15
            subst hsm_15
            refine xb_if_eq (tgt := 78) hx hb (by unfold ir; omega) dX11_entry_56 (by decide) (fun c_56 => ?_) (fun c_56 => ?_)
            · refine lv_iconst (v := iv 0) hx hb dX11_entry_78 rfl ?_
              exact xr_i G (x := 0) hret hlk (by unfold ir; omega) (zr (by omega)) dX11_entry_79 ⟨Fr.rf, hI, (by omega)⟩
            · refine lv_aload_n hx hb dX11_entry_59 rfl (lv_at hl 0 rfl) ?_
              refine xa_getr G fd_X11 (a := 0) (x := 6) 4 rfl (by decide) rfl (wm 2 200 rfl rfl) ⟨rfl, rfl, rfl⟩ dX11_entry_60 rfl (G.sk 2 rfl) (by decide) rfl ?_
              refine lv_iload_n hx hb dX11_entry_63 rfl (lv_at hl 1 rfl) ?_
              refine lv_iload_n hx hb dX11_entry_64 rfl (lv_at hl 2 rfl) ?_
              refine lv_iload_n hx hb dX11_entry_65 rfl (lv_at hl 3 rfl) ?_
              refine lv_iload hx hb dX11_entry_66 (lv_at hl 4 rfl) ?_
              refine xc_iV G (b := 6) (rest := []) (As := [.int (iv x1), .int (iv x2), .int (iv x3), .int (iv x4)]) (c_X0_setEntry ω l μ x1 x2 x3 x4 (by unfold ir; omega) (by unfold ir; omega) (by unfold ir; omega) (by unfold ir; omega) hI) (wm 5 21 rfl rfl) (wm 5 22 rfl rfl) (wm 5 23 rfl rfl) rfl rfl (by decide) rfl (wm 1 7 rfl rfl) (wm 5 24 rfl rfl) (by decide) hR (by decide) (n := 4) rfl rfl (Nat.le_of_ble_eq_true rfl) hl.1 dX11_entry_68 (fun r_18 μ17 ρ d0 H locs hr_r_18 hp G => ?_)
              have hr_r_18 : -2147483648 ≤ r_18 ∧ r_18 ≤ 2147483647 := hr_r_18
              obtain ⟨F_19, hI_20, hp_21⟩ := hp
              refine xb_if_eq (tgt := 78) hx hb (by unfold ir; omega) dX11_entry_71 (by decide) (fun c_71 => ?_) (fun c_71 => ?_)
              · refine lv_iconst (v := iv 0) hx hb dX11_entry_78 rfl ?_
                exact xr_i G (x := 0) hret hlk (by unfold ir; omega) (zr (by omega)) dX11_entry_79 ⟨(Fr.tr Fr.rf F_19 (by decide)), hI_20, (by omega)⟩
              · refine lv_iconst (v := iv 1) hx hb dX11_entry_74 rfl ?_
                refine lv_goto (tgt := 79) hx hb dX11_entry_75 (by decide) ?_
                exact xr_i G (x := 1) hret hlk (by unfold ir; omega) (zr (by omega)) dX11_entry_79 ⟨(Fr.tr Fr.rf F_19 (by decide)), hI_20, (by omega)⟩
          · refine lv_aload_n hx hb dX11_entry_37 rfl (lv_at hl 0 rfl) ?_
            refine xa_getr G fd_X11 (a := 0) (x := 6) 4 rfl (by decide) rfl (wm 2 200 rfl rfl) ⟨rfl, rfl, rfl⟩ dX11_entry_38 rfl (G.sk 2 rfl) (by decide) rfl ?_
            refine lv_iload_n hx hb dX11_entry_41 rfl (lv_at hl 1 rfl) ?_
            refine lv_iload_n hx hb dX11_entry_42 rfl (lv_at hl 2 rfl) ?_
            refine lv_iload hx hb dX11_entry_43 (lv_at hl 4 rfl) ?_
            refine xc_vV G (b := 6) (rest := []) (As := [.int (iv x1), .int (iv x2), .int (iv x4)]) (c_X0_setDefault ω l μ x1 x2 x4 (by unfold ir; omega) (by unfold ir; omega) (by unfold ir; omega) hI) (wm 5 17 rfl rfl) (wm 5 18 rfl rfl) (wm 5 19 rfl rfl) rfl rfl (by decide) rfl (wm 1 7 rfl rfl) (wm 5 20 rfl rfl) (by decide) hR (by decide) (n := 3) rfl rfl (Nat.le_of_ble_eq_true rfl) hl.1 dX11_entry_45 (fun μ22 ρ d0 H locs hp G => ?_)
            obtain ⟨F_23, hI_24⟩ := hp
            refine lv_iconst (v := iv 1) hx hb dX11_entry_48 rfl ?_
            exact xr_i G (x := 1) hret hlk (by unfold ir; omega) (zr (by omega)) dX11_entry_49 ⟨(Fr.tr Fr.rf F_23 (by decide)), hI_24, (by omega)⟩
        · refine lv_iconst (v := iv 0) hx hb dX11_entry_31 rfl ?_
          exact xr_i G (x := 0) hret hlk (by unfold ir; omega) (zr (by omega)) dX11_entry_32 ⟨Fr.rf, hI, (by omega)⟩
      · refine lv_iconst (v := iv 0) hx hb dX11_entry_19 rfl ?_
        exact xr_i G (x := 0) hret hlk (by unfold ir; omega) (zr (by omega)) dX11_entry_20 ⟨Fr.rf, hI, (by omega)⟩

set_option maxHeartbeats 4000000 in
set_option maxRecDepth 100000 in
theorem c_X11_look (ω : Om) (l : Launch) (μ : M3) (x1 : Int) (hx1 : ir x1) (hI : IC μ) : CtI ω l yX11_look cX11_look 2 .int 1 21 [.ref (oP ω 0), .int (iv x1)] μ (fun (r : Int) (μ' : M3) => (μ' = μ)) := by
  refine CtI.go (by decide) (Nat.le_of_ble_eq_true rfl) (fun ρ p e s m below meth c R ls G hR hret hlk hl => ?_)
  have hx := G.1.1
  have hb := G.1.2.1
  have hl : lv_has ls 2 [(0, .ref (oP ω 0)), (1, .int (iv x1))] := hl
  generalize s.drawn = d0 at G ⊢
  have hr_x1 : -2147483648 ≤ x1 ∧ x1 ≤ 2147483647 := hx1
  refine lv_iload_n hx hb dX11_look_0 rfl (lv_at hl 1 rfl) ?_
  refine lv_bipush (v := iv 10) hx hb dX11_look_1 rfl ?_
  refine xb_icmp_ne (tgt := 14) hx hb (by unfold ir; omega) (by unfold ir; omega) dX11_look_3 (by decide) (fun c_3 => ?_) (fun c_3 => ?_)
  · refine lv_aload_n hx hb dX11_look_14 rfl (lv_at hl 0 rfl) ?_
    refine xa_getr G fd_X11 (a := 0) (x := 32) 8 rfl (by decide) rfl (wm 2 204 rfl rfl) ⟨rfl, rfl, rfl⟩ dX11_look_15 rfl (G.sk 5 rfl) (by decide) rfl ?_
    refine lv_iload_n hx hb dX11_look_18 rfl (lv_at hl 1 rfl) ?_
    refine xc_iV G (b := 32) (rest := []) (As := [.int (iv x1)]) (c_X4_told ω l μ x1 (by unfold ir; omega) hI) (wm 7 82 rfl rfl) (wm 7 83 rfl rfl) (wm 7 84 rfl rfl) rfl rfl (by decide) rfl (wm 1 14 rfl rfl) (wm 7 85 rfl rfl) (by decide) hR (by decide) (n := 1) rfl rfl (Nat.le_of_ble_eq_true rfl) hl.1 dX11_look_19 (fun r_2 μ1 ρ d0 H locs hr_r_2 hp G => ?_)
    have hr_r_2 : -2147483648 ≤ r_2 ∧ r_2 ≤ 2147483647 := hr_r_2
    have hsm_3 := hp
    have hsm_3 := Eq.symm hsm_3
    subst hsm_3
    exact xr_i G (x := r_2) hret hlk (by unfold ir; omega) rfl dX11_look_22 rfl
  · refine lv_aload_n hx hb dX11_look_6 rfl (lv_at hl 0 rfl) ?_
    refine xa_getr G fd_X11 (a := 0) (x := 2) 3 rfl (by decide) rfl (wm 2 199 rfl rfl) ⟨rfl, rfl, rfl⟩ dX11_look_7 rfl (G.sk 1 rfl) (by decide) rfl ?_
    have hn_4 : 0 ≤ μ.1 2 3 ∧ μ.1 2 3 ≤ 51 := hI.nm.2.1
    refine xc_iV G (b := 2) (rest := []) (As := []) (c_X5_inAll ω l μ  hI) (wm 5 13 rfl rfl) (wm 5 14 rfl rfl) (wm 5 15 rfl rfl) rfl rfl (by decide) rfl (wm 1 2 rfl rfl) (wm 5 16 rfl rfl) (by decide) hR (by decide) (n := 0) rfl rfl (Nat.le_of_ble_eq_true rfl) hl.1 dX11_look_10 (fun r_6 μ5 ρ d0 H locs hr_r_6 hp G => ?_)
    have hr_r_6 : -2147483648 ≤ r_6 ∧ r_6 ≤ 2147483647 := hr_r_6
    obtain ⟨hsm_7, hp_8⟩ := hp
    have hsm_7 := Eq.symm hsm_7
    subst hsm_7
    exact xr_i G (x := r_6) hret hlk (by unfold ir; omega) rfl dX11_look_13 rfl

set_option maxHeartbeats 4000000 in
set_option maxRecDepth 100000 in
theorem c_X11_answer (ω : Om) (l : Launch) (μ : M3) (hI : IC μ) : CtL ω l yX11_answer cX11_answer 1 1 20 [.ref (oP ω 0)] μ (fun (r : Int) (μ' : M3) => (μ' = μ)) := by
  refine CtL.go (by decide) (Nat.le_of_ble_eq_true rfl) (fun ρ p e s m below meth c R ls G hR hret hlk hl => ?_)
  have hx := G.1.1
  have hb := G.1.2.1
  have hl : lv_has ls 1 [(0, .ref (oP ω 0))] := hl
  generalize s.drawn = d0 at G ⊢
  refine lv_aload_n hx hb dX11_answer_0 rfl (lv_at hl 0 rfl) ?_
  refine xa_getr G fd_X11 (a := 0) (x := 32) 8 rfl (by decide) rfl (wm 2 204 rfl rfl) ⟨rfl, rfl, rfl⟩ dX11_answer_1 rfl (G.sk 5 rfl) (by decide) rfl ?_
  refine xc_lV G (b := 32) (rest := []) (As := []) (c_X4_answered ω l μ  hI) (wm 7 90 rfl rfl) (wm 7 91 rfl rfl) (wm 7 92 rfl rfl) rfl rfl (by decide) rfl (wm 1 14 rfl rfl) (wm 7 93 rfl rfl) (by decide) hR (by decide) (n := 0) rfl rfl (Nat.le_of_ble_eq_true rfl) hl.1 dX11_answer_4 (fun r_2 μ1 ρ d0 H locs hr_r_2 hp G => ?_)
  have hsm_3 := hp
  have hsm_3 := Eq.symm hsm_3
  subst hsm_3
  exact xr_l G (x := r_2) hret hlk hr_r_2 dX11_answer_7 rfl

set_option maxHeartbeats 4000000 in
set_option maxRecDepth 100000 in
theorem c_X11_mark (ω : Om) (l : Launch) (μ : M3) (x1 : Int) (hx1 : ir x1) (hI : IC μ) : CtL ω l yX11_mark cX11_mark 2 2 49 [.ref (oP ω 0), .int (iv x1)] μ (fun (r : Int) (μ' : M3) => (μ' = μ)) := by
  refine CtL.go (by decide) (Nat.le_of_ble_eq_true rfl) (fun ρ p e s m below meth c R ls G hR hret hlk hl => ?_)
  have hx := G.1.1
  have hb := G.1.2.1
  have hl : lv_has ls 2 [(0, .ref (oP ω 0)), (1, .int (iv x1))] := hl
  generalize s.drawn = d0 at G ⊢
  have hr_x1 : -2147483648 ≤ x1 ∧ x1 ≤ 2147483647 := hx1
  refine lv_aload_n hx hb dX11_mark_0 rfl (lv_at hl 0 rfl) ?_
  refine xa_getr G fd_X11 (a := 0) (x := 32) 8 rfl (by decide) rfl (wm 2 204 rfl rfl) ⟨rfl, rfl, rfl⟩ dX11_mark_1 rfl (G.sk 5 rfl) (by decide) rfl ?_
  refine lv_iload_n hx hb dX11_mark_4 rfl (lv_at hl 1 rfl) ?_
  refine xc_lV G (b := 32) (rest := []) (As := [.int (iv x1)]) (c_X4_markOf ω l μ x1 (by unfold ir; omega) hI) (wm 7 98 rfl rfl) (wm 7 99 rfl rfl) (wm 7 100 rfl rfl) rfl rfl (by decide) rfl (wm 1 14 rfl rfl) (wm 7 101 rfl rfl) (by decide) hR (by decide) (n := 1) rfl rfl (Nat.le_of_ble_eq_true rfl) hl.1 dX11_mark_5 (fun r_2 μ1 ρ d0 H locs hr_r_2 hp G => ?_)
  have hsm_3 := hp
  have hsm_3 := Eq.symm hsm_3
  subst hsm_3
  exact xr_l G (x := r_2) hret hlk hr_r_2 dX11_mark_8 rfl

set_option maxHeartbeats 4000000 in
set_option maxRecDepth 100000 in
theorem c_X11_markTongue (ω : Om) (l : Launch) (μ : M3) (x1 : Int) (hx1 : ir x1) (hI : IC μ) : CtI ω l yX11_markTongue cX11_markTongue 2 .int 2 42 [.ref (oP ω 0), .int (iv x1)] μ (fun (r : Int) (μ' : M3) => (μ' = μ)) := by
  refine CtI.go (by decide) (Nat.le_of_ble_eq_true rfl) (fun ρ p e s m below meth c R ls G hR hret hlk hl => ?_)
  have hx := G.1.1
  have hb := G.1.2.1
  have hl : lv_has ls 2 [(0, .ref (oP ω 0)), (1, .int (iv x1))] := hl
  generalize s.drawn = d0 at G ⊢
  have hr_x1 : -2147483648 ≤ x1 ∧ x1 ≤ 2147483647 := hx1
  refine lv_aload_n hx hb dX11_markTongue_0 rfl (lv_at hl 0 rfl) ?_
  refine xa_getr G fd_X11 (a := 0) (x := 32) 8 rfl (by decide) rfl (wm 2 204 rfl rfl) ⟨rfl, rfl, rfl⟩ dX11_markTongue_1 rfl (G.sk 5 rfl) (by decide) rfl ?_
  refine lv_iload_n hx hb dX11_markTongue_4 rfl (lv_at hl 1 rfl) ?_
  refine xc_iV G (b := 32) (rest := []) (As := [.int (iv x1)]) (c_X4_tongueOfMark ω l μ x1 (by unfold ir; omega) hI) (wm 7 106 rfl rfl) (wm 7 107 rfl rfl) (wm 7 108 rfl rfl) rfl rfl (by decide) rfl (wm 1 14 rfl rfl) (wm 7 109 rfl rfl) (by decide) hR (by decide) (n := 1) rfl rfl (Nat.le_of_ble_eq_true rfl) hl.1 dX11_markTongue_5 (fun r_2 μ1 ρ d0 H locs hr_r_2 hp G => ?_)
  have hr_r_2 : -2147483648 ≤ r_2 ∧ r_2 ≤ 2147483647 := hr_r_2
  have hsm_3 := hp
  have hsm_3 := Eq.symm hsm_3
  subst hsm_3
  exact xr_i G (x := r_2) hret hlk (by unfold ir; omega) rfl dX11_markTongue_8 rfl

set_option maxHeartbeats 4000000 in
set_option maxRecDepth 100000 in
theorem c_X11_failure (ω : Om) (l : Launch) (μ : M3) (x1 : Int) (x2 : Int) (hx1 : ir x1) (hx2 : ir x2) (hI : IC μ) : CtI ω l yX11_failure cX11_failure 3 .int 4 89 [.ref (oP ω 0), .int (iv x1), .int (iv x2)] μ (fun (r : Int) (μ' : M3) => (μ' = μ)) := by
  refine CtI.go (by decide) (Nat.le_of_ble_eq_true rfl) (fun ρ p e s m below meth c R ls G hR hret hlk hl => ?_)
  have hx := G.1.1
  have hb := G.1.2.1
  have hl : lv_has ls 3 [(0, .ref (oP ω 0)), (1, .int (iv x1)), (2, .int (iv x2))] := hl
  generalize s.drawn = d0 at G ⊢
  have hr_x1 : -2147483648 ≤ x1 ∧ x1 ≤ 2147483647 := hx1
  have hr_x2 : -2147483648 ≤ x2 ∧ x2 ≤ 2147483647 := hx2
  refine lv_aload_n hx hb dX11_failure_0 rfl (lv_at hl 0 rfl) ?_
  refine xa_getr G fd_X11 (a := 0) (x := 32) 8 rfl (by decide) rfl (wm 2 204 rfl rfl) ⟨rfl, rfl, rfl⟩ dX11_failure_1 rfl (G.sk 5 rfl) (by decide) rfl ?_
  refine lv_iload_n hx hb dX11_failure_4 rfl (lv_at hl 1 rfl) ?_
  refine lv_iload_n hx hb dX11_failure_5 rfl (lv_at hl 2 rfl) ?_
  refine xc_iV G (b := 32) (rest := []) (As := [.int (iv x1), .int (iv x2)]) (c_X4_factOf ω l μ x1 x2 (by unfold ir; omega) (by unfold ir; omega) hI) (wm 7 114 rfl rfl) (wm 7 115 rfl rfl) (wm 7 116 rfl rfl) rfl rfl (by decide) rfl (wm 1 14 rfl rfl) (wm 7 117 rfl rfl) (by decide) hR (by decide) (n := 2) rfl rfl (Nat.le_of_ble_eq_true rfl) hl.1 dX11_failure_6 (fun r_2 μ1 ρ d0 H locs hr_r_2 hp G => ?_)
  have hr_r_2 : -2147483648 ≤ r_2 ∧ r_2 ≤ 2147483647 := hr_r_2
  have hsm_3 := hp
  have hsm_3 := Eq.symm hsm_3
  subst hsm_3
  exact xr_i G (x := r_2) hret hlk (by unfold ir; omega) rfl dX11_failure_9 rfl

set_option maxHeartbeats 4000000 in
set_option maxRecDepth 100000 in
theorem c_X11_under (ω : Om) (l : Launch) (μ : M3) (x1 : Int) (x2 : Int) (x3 : Int) (hx1 : ir x1) (hx2 : ir x2) (hx3 : ir x3) (hI : IC μ) : CtI ω l yX11_under cX11_under 4 .int 4 91 [.ref (oP ω 0), .int (iv x1), .int (iv x2), .int (iv x3)] μ (fun (r : Int) (μ' : M3) => (μ' = μ)) := by
  refine CtI.go (by decide) (Nat.le_of_ble_eq_true rfl) (fun ρ p e s m below meth c R ls G hR hret hlk hl => ?_)
  have hx := G.1.1
  have hb := G.1.2.1
  have hl : lv_has ls 4 [(0, .ref (oP ω 0)), (1, .int (iv x1)), (2, .int (iv x2)), (3, .int (iv x3))] := hl
  generalize s.drawn = d0 at G ⊢
  have hr_x1 : -2147483648 ≤ x1 ∧ x1 ≤ 2147483647 := hx1
  have hr_x2 : -2147483648 ≤ x2 ∧ x2 ≤ 2147483647 := hx2
  have hr_x3 : -2147483648 ≤ x3 ∧ x3 ≤ 2147483647 := hx3
  refine lv_aload_n hx hb dX11_under_0 rfl (lv_at hl 0 rfl) ?_
  refine xa_getr G fd_X11 (a := 0) (x := 32) 8 rfl (by decide) rfl (wm 2 204 rfl rfl) ⟨rfl, rfl, rfl⟩ dX11_under_1 rfl (G.sk 5 rfl) (by decide) rfl ?_
  refine lv_iload_n hx hb dX11_under_4 rfl (lv_at hl 1 rfl) ?_
  refine lv_iload_n hx hb dX11_under_5 rfl (lv_at hl 2 rfl) ?_
  refine lv_iload_n hx hb dX11_under_6 rfl (lv_at hl 3 rfl) ?_
  refine xc_iV G (b := 32) (rest := []) (As := [.int (iv x1), .int (iv x2), .int (iv x3)]) (c_X4_factUnder ω l μ x1 x2 x3 (by unfold ir; omega) (by unfold ir; omega) (by unfold ir; omega) hI) (wm 7 127 rfl rfl) (wm 7 128 rfl rfl) (wm 7 129 rfl rfl) rfl rfl (by decide) rfl (wm 1 14 rfl rfl) (wm 7 130 rfl rfl) (by decide) hR (by decide) (n := 3) rfl rfl (Nat.le_of_ble_eq_true rfl) hl.1 dX11_under_7 (fun r_2 μ1 ρ d0 H locs hr_r_2 hp G => ?_)
  have hr_r_2 : -2147483648 ≤ r_2 ∧ r_2 ≤ 2147483647 := hr_r_2
  have hsm_3 := hp
  have hsm_3 := Eq.symm hsm_3
  subst hsm_3
  exact xr_i G (x := r_2) hret hlk (by unfold ir; omega) rfl dX11_under_10 rfl

set_option maxHeartbeats 4000000 in
set_option maxRecDepth 100000 in
theorem c_X10_isLetter (ω : Om) (l : Launch) (μ : M3) (x1 : Int) (hx1 : ir x1) : CtI ω l yX10_isLetter cX10_isLetter 1 .boolean 0 0 [.int (iv x1)] μ (fun (r : Int) (μ' : M3) => (μ' = μ) ∧ ((r = 1 ∧ 97 ≤ x1 ∧ x1 ≤ 122) ∨ (r = 0 ∧ (x1 < 97 ∨ 122 < x1)))) := by
  refine CtI.go (by decide) (Nat.le_of_ble_eq_true rfl) (fun ρ p e s m below meth c R ls G hR hret hlk hl => ?_)
  have hx := G.1.1
  have hb := G.1.2.1
  have hl : lv_has ls 1 [(0, .int (iv x1))] := hl
  generalize s.drawn = d0 at G ⊢
  have hr_x1 : -2147483648 ≤ x1 ∧ x1 ≤ 2147483647 := hx1
  refine lv_iload_n hx hb dX10_isLetter_0 rfl (lv_at hl 0 rfl) ?_
  refine lv_bipush (v := iv 97) hx hb dX10_isLetter_1 rfl ?_
  refine xb_icmp_lt (tgt := 16) hx hb (by unfold ir; omega) (by unfold ir; omega) dX10_isLetter_3 (by decide) (fun c_3 => ?_) (fun c_3 => ?_)
  · refine lv_iconst (v := iv 0) hx hb dX10_isLetter_16 rfl ?_
    exact xr_i G (x := 0) hret hlk (by unfold ir; omega) (zr (by omega)) dX10_isLetter_17 ⟨rfl, (by omega)⟩
  · refine lv_iload_n hx hb dX10_isLetter_6 rfl (lv_at hl 0 rfl) ?_
    refine lv_bipush (v := iv 122) hx hb dX10_isLetter_7 rfl ?_
    refine xb_icmp_gt (tgt := 16) hx hb (by unfold ir; omega) (by unfold ir; omega) dX10_isLetter_9 (by decide) (fun c_9 => ?_) (fun c_9 => ?_)
    · refine lv_iconst (v := iv 0) hx hb dX10_isLetter_16 rfl ?_
      exact xr_i G (x := 0) hret hlk (by unfold ir; omega) (zr (by omega)) dX10_isLetter_17 ⟨rfl, (by omega)⟩
    · refine lv_iconst (v := iv 1) hx hb dX10_isLetter_12 rfl ?_
      refine lv_goto (tgt := 17) hx hb dX10_isLetter_13 (by decide) ?_
      exact xr_i G (x := 1) hret hlk (by unfold ir; omega) (zr (by omega)) dX10_isLetter_17 ⟨rfl, (by omega)⟩

set_option maxHeartbeats 4000000 in
set_option maxRecDepth 100000 in
theorem c_X10_isDigit (ω : Om) (l : Launch) (μ : M3) (x1 : Int) (hx1 : ir x1) : CtI ω l yX10_isDigit cX10_isDigit 1 .boolean 0 0 [.int (iv x1)] μ (fun (r : Int) (μ' : M3) => (μ' = μ) ∧ ((r = 1 ∧ 48 ≤ x1 ∧ x1 ≤ 57) ∨ (r = 0 ∧ (x1 < 48 ∨ 57 < x1)))) := by
  refine CtI.go (by decide) (Nat.le_of_ble_eq_true rfl) (fun ρ p e s m below meth c R ls G hR hret hlk hl => ?_)
  have hx := G.1.1
  have hb := G.1.2.1
  have hl : lv_has ls 1 [(0, .int (iv x1))] := hl
  generalize s.drawn = d0 at G ⊢
  have hr_x1 : -2147483648 ≤ x1 ∧ x1 ≤ 2147483647 := hx1
  refine lv_iload_n hx hb dX10_isDigit_0 rfl (lv_at hl 0 rfl) ?_
  refine lv_bipush (v := iv 48) hx hb dX10_isDigit_1 rfl ?_
  refine xb_icmp_lt (tgt := 16) hx hb (by unfold ir; omega) (by unfold ir; omega) dX10_isDigit_3 (by decide) (fun c_3 => ?_) (fun c_3 => ?_)
  · refine lv_iconst (v := iv 0) hx hb dX10_isDigit_16 rfl ?_
    exact xr_i G (x := 0) hret hlk (by unfold ir; omega) (zr (by omega)) dX10_isDigit_17 ⟨rfl, (by omega)⟩
  · refine lv_iload_n hx hb dX10_isDigit_6 rfl (lv_at hl 0 rfl) ?_
    refine lv_bipush (v := iv 57) hx hb dX10_isDigit_7 rfl ?_
    refine xb_icmp_gt (tgt := 16) hx hb (by unfold ir; omega) (by unfold ir; omega) dX10_isDigit_9 (by decide) (fun c_9 => ?_) (fun c_9 => ?_)
    · refine lv_iconst (v := iv 0) hx hb dX10_isDigit_16 rfl ?_
      exact xr_i G (x := 0) hret hlk (by unfold ir; omega) (zr (by omega)) dX10_isDigit_17 ⟨rfl, (by omega)⟩
    · refine lv_iconst (v := iv 1) hx hb dX10_isDigit_12 rfl ?_
      refine lv_goto (tgt := 17) hx hb dX10_isDigit_13 (by decide) ?_
      exact xr_i G (x := 1) hret hlk (by unfold ir; omega) (zr (by omega)) dX10_isDigit_17 ⟨rfl, (by omega)⟩

set_option maxHeartbeats 4000000 in
set_option maxRecDepth 100000 in
theorem c_X10_stop (ω : Om) (l : Launch) (μ : M3) (hI : IC μ) : CtV ω l yX10_stop cX10_stop 1 0 0 [.ref (oP ω 26)] μ (fun (μ' : M3) => (Fr [26] μ μ') ∧ (IC μ') ∧ (μ'.1 26 12 = 3) ∧ (μ'.1 26 11 = 1) ∧ (μ'.1 26 6 = μ.1 26 6) ∧ (μ'.1 26 7 = μ.1 26 7) ∧ (μ'.1 26 8 = μ.1 26 8) ∧ (μ'.1 26 9 = μ.1 26 9) ∧ (μ'.1 26 10 = μ.1 26 10) ∧ (μ'.1 26 13 = μ.1 26 13) ∧ (μ'.1 26 14 = μ.1 26 14)) := by
  refine CtV.go (by decide) (Nat.le_of_ble_eq_true rfl) (fun ρ p e s m below meth c R ls G hR hret hlk hl => ?_)
  have hx := G.1.1
  have hb := G.1.2.1
  have hl : lv_has ls 1 [(0, .ref (oP ω 26))] := hl
  generalize s.drawn = d0 at G ⊢
  refine lv_aload_n hx hb dX10_stop_0 rfl (lv_at hl 0 rfl) ?_
  refine lv_iconst (v := iv 1) hx hb dX10_stop_1 rfl ?_
  refine xa_putz G fd_X10 (a := 26) (x := 1) 11 (kz := 11) rfl rfl (by decide) rfl (by omega) (wm 1 215 rfl rfl) ⟨rfl, rfl, rfl, rfl⟩ rfl dX10_stop_2 rfl (fun H locs G => ?_)
  refine lv_aload_n hx hb dX10_stop_5 rfl (lv_at hl 0 rfl) ?_
  refine lv_iconst (v := iv 3) hx hb dX10_stop_6 rfl ?_
  refine xa_puti G fd_X10 (a := 26) (x := 3) 12 (kz := 12) rfl rfl (by decide) rfl (by unfold ir; omega) (wm 1 216 rfl rfl) ⟨rfl, rfl, rfl, rfl⟩ rfl dX10_stop_7 rfl (fun H locs G => ?_)
  have hI_1 : IC (sv (sv μ 26 11 1) 26 12 3) := (IC.put (IC.put hI (by decide +kernel)) (by decide +kernel))
  have e_2 : (sv (sv μ 26 11 1) 26 12 3).1 26 12 = 3 := (sv_s _ _ _ _)
  have e_3 : (sv (sv μ 26 11 1) 26 12 3).1 26 11 = 1 := ((sv_n _ (by decide)).trans (sv_s _ _ _ _))
  have e_4 : (sv (sv μ 26 11 1) 26 12 3).1 26 6 = μ.1 26 6 := ((sv_n _ (by decide)).trans (sv_n _ (by decide)))
  have e_5 : (sv (sv μ 26 11 1) 26 12 3).1 26 7 = μ.1 26 7 := ((sv_n _ (by decide)).trans (sv_n _ (by decide)))
  have e_6 : (sv (sv μ 26 11 1) 26 12 3).1 26 8 = μ.1 26 8 := ((sv_n _ (by decide)).trans (sv_n _ (by decide)))
  have e_7 : (sv (sv μ 26 11 1) 26 12 3).1 26 9 = μ.1 26 9 := ((sv_n _ (by decide)).trans (sv_n _ (by decide)))
  have e_8 : (sv (sv μ 26 11 1) 26 12 3).1 26 10 = μ.1 26 10 := ((sv_n _ (by decide)).trans (sv_n _ (by decide)))
  have e_9 : (sv (sv μ 26 11 1) 26 12 3).1 26 13 = μ.1 26 13 := ((sv_n _ (by decide)).trans (sv_n _ (by decide)))
  have e_10 : (sv (sv μ 26 11 1) 26 12 3).1 26 14 = μ.1 26 14 := ((sv_n _ (by decide)).trans (sv_n _ (by decide)))
  exact xr_v G hret hlk dX10_stop_10 ⟨(Fr.put (Fr.put Fr.rf (by decide)) (by decide)), hI_1, (by omega), (by omega), (by omega), (by omega), (by omega), (by omega), (by omega), (by omega), (by omega)⟩

set_option maxHeartbeats 4000000 in
set_option maxRecDepth 100000 in
theorem c_X10_wordOrName (ω : Om) (l : Launch) (μ : M3) (hI : IC μ) : CtI ω l yX10_wordOrName cX10_wordOrName 2 .int 0 0 [.ref (oP ω 26)] μ (fun (r : Int) (μ' : M3) => (μ' = μ) ∧ (r = 1 ∨ (200 ≤ r ∧ r ≤ 232))) := by
  refine CtI.go (by decide) (Nat.le_of_ble_eq_true rfl) (fun ρ p e s m below meth c R ls G hR hret hlk hl => ?_)
  have hx := G.1.1
  have hb := G.1.2.1
  have hl : lv_has ls 2 [(0, .ref (oP ω 26))] := hl
  generalize s.drawn = d0 at G ⊢
  refine lv_iconst (v := iv 0) hx hb dX10_wordOrName_0 rfl ?_
  refine lv_istore_n (lv' := [(1, .int (iv 0)), (0, .ref (oP ω 26))]) hx hb dX10_wordOrName_1 rfl hl (by decide) rfl (fun ls hl => ?_)
  refine xl (fun n_9 μ' ls => ∃ (i9 : Int), (μ' = μ) ∧ (-2147483648 ≤ i9 ∧ i9 ≤ 2147483647) ∧ (0 ≤ i9) ∧ (i9 ≤ 33) ∧ n_9 = Int.toNat (60 - i9) ∧ lv_has ls 2 [(1, .int (iv i9)), (0, .ref (oP ω 26))]) (fun n_9 ρ μL1 d0 H locs ls hI_l G ih => ?_) _ _ _ _ _ _ _ ⟨0, rfl, (by omega), (by omega), (by omega), rfl, lv_sub hl [0, 1] rfl⟩ G
  obtain ⟨i9, FL2, hi_4, hi_5, hi_6, hn3, hl⟩ := hI_l
  have FL2 := Eq.symm FL2
  subst FL2
  refine lv_iload_n hx hb dX10_wordOrName_2 rfl (lv_at hl 0 rfl) ?_
  refine lv_bipush (v := iv 33) hx hb dX10_wordOrName_3 rfl ?_
  refine xb_icmp_ge (tgt := 34) hx hb (by unfold ir; omega) (by unfold ir; omega) dX10_wordOrName_5 (by decide) (fun c_5 => ?_) (fun c_5 => ?_)
  · refine lv_iconst (v := iv 1) hx hb dX10_wordOrName_34 rfl ?_
    exact xr_i G (x := 1) hret hlk (by unfold ir; omega) rfl dX10_wordOrName_35 ⟨rfl, (by omega)⟩
  · refine lv_aload_n hx hb dX10_wordOrName_8 rfl (lv_at hl 1 rfl) ?_
    refine xa_getr G fd_X10 (a := 26) (x := 27) 1 rfl (by decide) rfl (wm 1 205 rfl rfl) ⟨rfl, rfl, rfl⟩ dX10_wordOrName_9 rfl (G.sk 28 rfl) (by decide) rfl ?_
    refine lv_iload_n hx hb dX10_wordOrName_12 rfl (lv_at hl 0 rfl) ?_
    refine xa_lald G (a := 27) (i := i9) rfl (by have h9 := G.lc (a := 27) (n := 33) 16 rfl; omega) dX10_wordOrName_13 rfl ?_
    have hj_7 : jr (μ.1 27 i9) := (by have h9 := G.hj (a := 27) (k := i9) rfl; exact h9)
    refine lv_aload_n hx hb dX10_wordOrName_14 rfl (lv_at hl 1 rfl) ?_
    refine xa_getl G fd_X10 (a := 26) (x := μ.1 26 14) 14 rfl (by decide) rfl (wm 1 220 rfl rfl) ⟨rfl, rfl, rfl⟩ dX10_wordOrName_15 rfl rfl ?_
    have hj_8 : jr (μ.1 26 14) := by have h9 := G.hj (a := 26) (k := 14) rfl; exact h9
    refine xb_lcmp hx hb hj_7 hj_8 dX10_wordOrName_18 ?_
    have hr_9 : -2147483648 ≤ lcm (μ.1 27 i9) (μ.1 26 14) ∧ lcm (μ.1 27 i9) (μ.1 26 14) ≤ 2147483647 := lcm_ir _ _
    refine xb_if_ne (tgt := 28) hx hb (by unfold ir; omega) dX10_wordOrName_19 (by decide) (fun c_19 => ?_) (fun c_19 => ?_)
    · refine lv_iinc (v := iv (i9 + 1)) (lv' := [(1, .int (iv (i9 + 1))), (0, .ref (oP ω 26))]) hx hb dX10_wordOrName_28 hl (k := 0) rfl (by rw [show Int32.ofInt 1 = iv 1 from rfl, iv_add]) (by decide) rfl (fun ls hl => ?_)
      refine lv_goto (tgt := 2) hx hb dX10_wordOrName_31 (by decide) ?_
      exact ih _ _ _ _ _ _ _ (by omega) ⟨i9 + 1, rfl, (by omega), (by omega), (by omega), rfl, lv_sub hl [0, 1] rfl⟩ G
    · refine lv_sipush (v := iv 200) hx hb dX10_wordOrName_22 rfl ?_
      refine lv_iload_n hx hb dX10_wordOrName_25 rfl (lv_at hl 0 rfl) ?_
      refine xb_iadd hx hb dX10_wordOrName_26 ?_
      exact xr_i G (x := 200 + i9) hret hlk (by unfold ir; omega) rfl dX10_wordOrName_27 ⟨rfl, (by omega)⟩
