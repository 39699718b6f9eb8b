abbrev cX12_letter : ByteArray := prog_14_method_5_code
def yX12_letter : MethodName := ⟨RX12, "letter", "(II)I"⟩
abbrev cX12_fault : ByteArray := prog_14_method_78_code
def yX12_fault : MethodName := ⟨RX12, "fault", "()I"⟩
abbrev cX12_rule : ByteArray := prog_14_method_84_code
def yX12_rule : MethodName := ⟨RX12, "rule", "(III)Z"⟩
abbrev cX12_canFail : ByteArray := prog_14_method_86_code
def yX12_canFail : MethodName := ⟨RX12, "canFail", "(II)Z"⟩
abbrev cX12_entryOf : ByteArray := prog_14_method_87_code
def yX12_entryOf : MethodName := ⟨RX12, "entryOf", "(II)I"⟩
abbrev cX12_entry : ByteArray := prog_14_method_88_code
def yX12_entry : MethodName := ⟨RX12, "entry", "(IIII)Z"⟩
abbrev cX12_call_ : ByteArray := prog_14_method_133_code
def yX12_call_ : MethodName := ⟨RX12, "call", "(IIJ)I"⟩
abbrev cX12_look : ByteArray := prog_14_method_134_code
def yX12_look : MethodName := ⟨RX12, "look", "(I)I"⟩
abbrev cX12_answer : ByteArray := prog_14_method_135_code
def yX12_answer : MethodName := ⟨RX12, "answer", "()J"⟩
abbrev cX12_mark : ByteArray := prog_14_method_136_code
def yX12_mark : MethodName := ⟨RX12, "mark", "(I)J"⟩
abbrev cX12_markTongue : ByteArray := prog_14_method_137_code
def yX12_markTongue : MethodName := ⟨RX12, "markTongue", "(I)I"⟩
abbrev cX12_told : ByteArray := prog_14_method_139_code
def yX12_told : MethodName := ⟨RX12, "told", "(II)I"⟩
abbrev cX12_failureAt : ByteArray := prog_14_method_140_code
def yX12_failureAt : MethodName := ⟨RX12, "failureAt", "(I)I"⟩
abbrev cX12_failure : ByteArray := prog_14_method_141_code
def yX12_failure : MethodName := ⟨RX12, "failure", "(II)I"⟩
abbrev cX12_under : ByteArray := prog_14_method_142_code
def yX12_under : MethodName := ⟨RX12, "under", "(III)I"⟩
theorem dX12_letter_0 : decode cX12_letter 0 = .ok (.aload_n 0, 1) := by decide +kernel
theorem dX12_letter_1 : decode cX12_letter 1 = .ok (.iconst 0, 1) := by decide +kernel
theorem dX12_letter_2 : decode cX12_letter 2 = .ok (.putfield 200, 3) := by decide +kernel
theorem dX12_letter_5 : decode cX12_letter 5 = .ok (.iload_n 1, 1) := by decide +kernel
theorem dX12_letter_6 : decode cX12_letter 6 = .ok (.iconst 1, 1) := by decide +kernel
theorem dX12_letter_7 : decode cX12_letter 7 = .ok (.if_icmp .lt 15, 3) := by decide +kernel
theorem dX12_letter_10 : decode cX12_letter 10 = .ok (.iload_n 1, 1) := by decide +kernel
theorem dX12_letter_11 : decode cX12_letter 11 = .ok (.aload_n 0, 1) := by decide +kernel
theorem dX12_letter_12 : decode cX12_letter 12 = .ok (.getfield 178, 3) := by decide +kernel
theorem dX12_letter_15 : decode cX12_letter 15 = .ok (.if_icmp .ge 7, 3) := by decide +kernel
theorem dX12_letter_18 : decode cX12_letter 18 = .ok (.iload_n 2, 1) := by decide +kernel
theorem dX12_letter_19 : decode cX12_letter 19 = .ok (.ifCond .ge 5, 3) := by decide +kernel
theorem dX12_letter_22 : decode cX12_letter 22 = .ok (.iconst (-1), 1) := by decide +kernel
theorem dX12_letter_23 : decode cX12_letter 23 = .ok (.ireturn, 1) := by decide +kernel
theorem dX12_letter_24 : decode cX12_letter 24 = .ok (.aload_n 0, 1) := by decide +kernel
theorem dX12_letter_25 : decode cX12_letter 25 = .ok (.getfield 13, 3) := by decide +kernel
theorem dX12_letter_28 : decode cX12_letter 28 = .ok (.iload_n 1, 1) := by decide +kernel
theorem dX12_letter_29 : decode cX12_letter 29 = .ok (.laload, 1) := by decide +kernel
theorem dX12_letter_30 : decode cX12_letter 30 = .ok (.lstore_n 3, 1) := by decide +kernel
theorem dX12_letter_31 : decode cX12_letter 31 = .ok (.iconst 0, 1) := by decide +kernel
theorem dX12_letter_32 : decode cX12_letter 32 = .ok (.istore 5, 2) := by decide +kernel
theorem dX12_letter_34 : decode cX12_letter 34 = .ok (.lload_n 3, 1) := by decide +kernel
theorem dX12_letter_35 : decode cX12_letter 35 = .ok (.lstore 6, 2) := by decide +kernel
theorem dX12_letter_37 : decode cX12_letter 37 = .ok (.lload 6, 2) := by decide +kernel
theorem dX12_letter_39 : decode cX12_letter 39 = .ok (.lconst 0, 1) := by decide +kernel
theorem dX12_letter_40 : decode cX12_letter 40 = .ok (.lcmp, 1) := by decide +kernel
theorem dX12_letter_41 : decode cX12_letter 41 = .ok (.ifCond .le 17, 3) := by decide +kernel
theorem dX12_letter_44 : decode cX12_letter 44 = .ok (.iinc 5 1, 3) := by decide +kernel
theorem dX12_letter_47 : decode cX12_letter 47 = .ok (.lload 6, 2) := by decide +kernel
theorem dX12_letter_49 : decode cX12_letter 49 = .ok (.ldc2_w 194, 3) := by decide +kernel
theorem dX12_letter_52 : decode cX12_letter 52 = .ok (.ldiv, 1) := by decide +kernel
theorem dX12_letter_53 : decode cX12_letter 53 = .ok (.lstore 6, 2) := by decide +kernel
theorem dX12_letter_55 : decode cX12_letter 55 = .ok (.goto (-18), 3) := by decide +kernel
theorem dX12_letter_58 : decode cX12_letter 58 = .ok (.iload_n 2, 1) := by decide +kernel
theorem dX12_letter_59 : decode cX12_letter 59 = .ok (.iload 5, 2) := by decide +kernel
theorem dX12_letter_61 : decode cX12_letter 61 = .ok (.if_icmp .lt 5, 3) := by decide +kernel
theorem dX12_letter_64 : decode cX12_letter 64 = .ok (.iconst (-1), 1) := by decide +kernel
theorem dX12_letter_65 : decode cX12_letter 65 = .ok (.ireturn, 1) := by decide +kernel
theorem dX12_letter_66 : decode cX12_letter 66 = .ok (.iload 5, 2) := by decide +kernel
theorem dX12_letter_68 : decode cX12_letter 68 = .ok (.iconst 1, 1) := by decide +kernel
theorem dX12_letter_69 : decode cX12_letter 69 = .ok (.isub, 1) := by decide +kernel
theorem dX12_letter_70 : decode cX12_letter 70 = .ok (.istore 6, 2) := by decide +kernel
theorem dX12_letter_72 : decode cX12_letter 72 = .ok (.iload 6, 2) := by decide +kernel
theorem dX12_letter_74 : decode cX12_letter 74 = .ok (.iload_n 2, 1) := by decide +kernel
theorem dX12_letter_75 : decode cX12_letter 75 = .ok (.if_icmp .le 15, 3) := by decide +kernel
theorem dX12_letter_78 : decode cX12_letter 78 = .ok (.lload_n 3, 1) := by decide +kernel
theorem dX12_letter_79 : decode cX12_letter 79 = .ok (.ldc2_w 194, 3) := by decide +kernel
theorem dX12_letter_82 : decode cX12_letter 82 = .ok (.ldiv, 1) := by decide +kernel
theorem dX12_letter_83 : decode cX12_letter 83 = .ok (.lstore_n 3, 1) := by decide +kernel
theorem dX12_letter_84 : decode cX12_letter 84 = .ok (.iinc 6 (-1), 3) := by decide +kernel
theorem dX12_letter_87 : decode cX12_letter 87 = .ok (.goto (-15), 3) := by decide +kernel
theorem dX12_letter_90 : decode cX12_letter 90 = .ok (.lload_n 3, 1) := by decide +kernel
theorem dX12_letter_91 : decode cX12_letter 91 = .ok (.ldc2_w 194, 3) := by decide +kernel
theorem dX12_letter_94 : decode cX12_letter 94 = .ok (.lrem, 1) := by decide +kernel
theorem dX12_letter_95 : decode cX12_letter 95 = .ok (.l2i, 1) := by decide +kernel
theorem dX12_letter_96 : decode cX12_letter 96 = .ok (.istore 6, 2) := by decide +kernel
theorem dX12_letter_98 : decode cX12_letter 98 = .ok (.iload 6, 2) := by decide +kernel
theorem dX12_letter_100 : decode cX12_letter 100 = .ok (.bipush 27, 2) := by decide +kernel
theorem dX12_letter_102 : decode cX12_letter 102 = .ok (.if_icmp .ge 13, 3) := by decide +kernel
theorem dX12_letter_105 : decode cX12_letter 105 = .ok (.bipush 97, 2) := by decide +kernel
theorem dX12_letter_107 : decode cX12_letter 107 = .ok (.iload 6, 2) := by decide +kernel
theorem dX12_letter_109 : decode cX12_letter 109 = .ok (.iadd, 1) := by decide +kernel
theorem dX12_letter_110 : decode cX12_letter 110 = .ok (.iconst 1, 1) := by decide +kernel
theorem dX12_letter_111 : decode cX12_letter 111 = .ok (.isub, 1) := by decide +kernel
theorem dX12_letter_112 : decode cX12_letter 112 = .ok (.goto 11, 3) := by decide +kernel
theorem dX12_letter_123 : decode cX12_letter 123 = .ok (.ireturn, 1) := by decide +kernel
theorem dX12_fault_0 : decode cX12_fault 0 = .ok (.aload_n 0, 1) := by decide +kernel
theorem dX12_fault_1 : decode cX12_fault 1 = .ok (.iconst 0, 1) := by decide +kernel
theorem dX12_fault_2 : decode cX12_fault 2 = .ok (.putfield 200, 3) := by decide +kernel
theorem dX12_fault_5 : decode cX12_fault 5 = .ok (.aload_n 0, 1) := by decide +kernel
theorem dX12_fault_6 : decode cX12_fault 6 = .ok (.getfield 521, 3) := by decide +kernel
theorem dX12_fault_9 : decode cX12_fault 9 = .ok (.ireturn, 1) := by decide +kernel
theorem dX12_rule_0 : decode cX12_rule 0 = .ok (.aload_n 0, 1) := by decide +kernel
theorem dX12_rule_1 : decode cX12_rule 1 = .ok (.iconst 0, 1) := by decide +kernel
theorem dX12_rule_2 : decode cX12_rule 2 = .ok (.putfield 200, 3) := by decide +kernel
theorem dX12_rule_5 : decode cX12_rule 5 = .ok (.iload_n 1, 1) := by decide +kernel
theorem dX12_rule_6 : decode cX12_rule 6 = .ok (.ifCond .lt 31, 3) := by decide +kernel
theorem dX12_rule_9 : decode cX12_rule 9 = .ok (.iload_n 1, 1) := by decide +kernel
theorem dX12_rule_10 : decode cX12_rule 10 = .ok (.iconst 3, 1) := by decide +kernel
theorem dX12_rule_11 : decode cX12_rule 11 = .ok (.if_icmp .gt 26, 3) := by decide +kernel
theorem dX12_rule_14 : decode cX12_rule 14 = .ok (.iload_n 2, 1) := by decide +kernel
theorem dX12_rule_15 : decode cX12_rule 15 = .ok (.ifCond .lt 22, 3) := by decide +kernel
theorem dX12_rule_18 : decode cX12_rule 18 = .ok (.iload_n 2, 1) := by decide +kernel
theorem dX12_rule_19 : decode cX12_rule 19 = .ok (.iconst 3, 1) := by decide +kernel
theorem dX12_rule_20 : decode cX12_rule 20 = .ok (.if_icmp .gt 17, 3) := by decide +kernel
theorem dX12_rule_23 : decode cX12_rule 23 = .ok (.iload_n 1, 1) := by decide +kernel
theorem dX12_rule_24 : decode cX12_rule 24 = .ok (.iload_n 2, 1) := by decide +kernel
theorem dX12_rule_25 : decode cX12_rule 25 = .ok (.if_icmp .eq 12, 3) := by decide +kernel
theorem dX12_rule_28 : decode cX12_rule 28 = .ok (.iload_n 3, 1) := by decide +kernel
theorem dX12_rule_29 : decode cX12_rule 29 = .ok (.ifCond .lt 8, 3) := by decide +kernel
theorem dX12_rule_32 : decode cX12_rule 32 = .ok (.iload_n 3, 1) := by decide +kernel
theorem dX12_rule_33 : decode cX12_rule 33 = .ok (.iconst 2, 1) := by decide +kernel
theorem dX12_rule_34 : decode cX12_rule 34 = .ok (.if_icmp .le 5, 3) := by decide +kernel
theorem dX12_rule_37 : decode cX12_rule 37 = .ok (.iconst 0, 1) := by decide +kernel
theorem dX12_rule_38 : decode cX12_rule 38 = .ok (.ireturn, 1) := by decide +kernel
theorem dX12_rule_39 : decode cX12_rule 39 = .ok (.aload_n 0, 1) := by decide +kernel
theorem dX12_rule_40 : decode cX12_rule 40 = .ok (.getfield 163, 3) := by decide +kernel
theorem dX12_rule_43 : decode cX12_rule 43 = .ok (.iconst 4, 1) := by decide +kernel
theorem dX12_rule_44 : decode cX12_rule 44 = .ok (.iload_n 1, 1) := by decide +kernel
theorem dX12_rule_45 : decode cX12_rule 45 = .ok (.imul, 1) := by decide +kernel
theorem dX12_rule_46 : decode cX12_rule 46 = .ok (.iload_n 2, 1) := by decide +kernel
theorem dX12_rule_47 : decode cX12_rule 47 = .ok (.iadd, 1) := by decide +kernel
theorem dX12_rule_48 : decode cX12_rule 48 = .ok (.iload_n 3, 1) := by decide +kernel
theorem dX12_rule_49 : decode cX12_rule 49 = .ok (.iastore, 1) := by decide +kernel
theorem dX12_rule_50 : decode cX12_rule 50 = .ok (.iconst 1, 1) := by decide +kernel
theorem dX12_rule_51 : decode cX12_rule 51 = .ok (.ireturn, 1) := by decide +kernel
theorem dX12_canFail_0 : decode cX12_canFail 0 = .ok (.iload_n 1, 1) := by decide +kernel
theorem dX12_canFail_1 : decode cX12_canFail 1 = .ok (.iconst 1, 1) := by decide +kernel
theorem dX12_canFail_2 : decode cX12_canFail 2 = .ok (.if_icmp .ne 15, 3) := by decide +kernel
theorem dX12_canFail_5 : decode cX12_canFail 5 = .ok (.iload_n 2, 1) := by decide +kernel
theorem dX12_canFail_6 : decode cX12_canFail 6 = .ok (.ifCond .eq 7, 3) := by decide +kernel
theorem dX12_canFail_9 : decode cX12_canFail 9 = .ok (.iconst 1, 1) := by decide +kernel
theorem dX12_canFail_10 : decode cX12_canFail 10 = .ok (.goto 25, 3) := by decide +kernel
theorem dX12_canFail_13 : decode cX12_canFail 13 = .ok (.iconst 0, 1) := by decide +kernel
theorem dX12_canFail_14 : decode cX12_canFail 14 = .ok (.goto 21, 3) := by decide +kernel
theorem dX12_canFail_17 : decode cX12_canFail 17 = .ok (.iload_n 2, 1) := by decide +kernel
theorem dX12_canFail_18 : decode cX12_canFail 18 = .ok (.iconst 1, 1) := by decide +kernel
theorem dX12_canFail_19 : decode cX12_canFail 19 = .ok (.if_icmp .lt 15, 3) := by decide +kernel
theorem dX12_canFail_22 : decode cX12_canFail 22 = .ok (.iload_n 2, 1) := by decide +kernel
theorem dX12_canFail_23 : decode cX12_canFail 23 = .ok (.aload_n 0, 1) := by decide +kernel
theorem dX12_canFail_24 : decode cX12_canFail 24 = .ok (.getfield 178, 3) := by decide +kernel
theorem dX12_canFail_27 : decode cX12_canFail 27 = .ok (.if_icmp .ge 7, 3) := by decide +kernel
theorem dX12_canFail_30 : decode cX12_canFail 30 = .ok (.iconst 1, 1) := by decide +kernel
theorem dX12_canFail_31 : decode cX12_canFail 31 = .ok (.goto 4, 3) := by decide +kernel
theorem dX12_canFail_34 : decode cX12_canFail 34 = .ok (.iconst 0, 1) := by decide +kernel
theorem dX12_canFail_35 : decode cX12_canFail 35 = .ok (.ireturn, 1) := by decide +kernel
theorem dX12_entryOf_0 : decode cX12_entryOf 0 = .ok (.iconst 0, 1) := by decide +kernel
theorem dX12_entryOf_1 : decode cX12_entryOf 1 = .ok (.istore_n 3, 1) := by decide +kernel
theorem dX12_entryOf_2 : decode cX12_entryOf 2 = .ok (.iload_n 3, 1) := by decide +kernel
theorem dX12_entryOf_3 : decode cX12_entryOf 3 = .ok (.aload_n 0, 1) := by decide +kernel
theorem dX12_entryOf_4 : decode cX12_entryOf 4 = .ok (.getfield 564, 3) := by decide +kernel
theorem dX12_entryOf_7 : decode cX12_entryOf 7 = .ok (.if_icmp .ge 31, 3) := by decide +kernel
theorem dX12_entryOf_38 : decode cX12_entryOf 38 = .ok (.iconst (-1), 1) := by decide +kernel
theorem dX12_entryOf_39 : decode cX12_entryOf 39 = .ok (.ireturn, 1) := by decide +kernel
theorem dX12_entry_0 : decode cX12_entry 0 = .ok (.aload_n 0, 1) := by decide +kernel
theorem dX12_entry_1 : decode cX12_entry 1 = .ok (.iconst 0, 1) := by decide +kernel
theorem dX12_entry_2 : decode cX12_entry 2 = .ok (.putfield 200, 3) := by decide +kernel
theorem dX12_entry_5 : decode cX12_entry 5 = .ok (.iload_n 1, 1) := by decide +kernel
theorem dX12_entry_6 : decode cX12_entry 6 = .ok (.ifCond .lt 32, 3) := by decide +kernel
theorem dX12_entry_9 : decode cX12_entry 9 = .ok (.iload_n 1, 1) := by decide +kernel
theorem dX12_entry_10 : decode cX12_entry 10 = .ok (.iconst 3, 1) := by decide +kernel
theorem dX12_entry_11 : decode cX12_entry 11 = .ok (.if_icmp .gt 27, 3) := by decide +kernel
theorem dX12_entry_14 : decode cX12_entry 14 = .ok (.iload_n 2, 1) := by decide +kernel
theorem dX12_entry_15 : decode cX12_entry 15 = .ok (.ifCond .lt 23, 3) := by decide +kernel
theorem dX12_entry_18 : decode cX12_entry 18 = .ok (.iload_n 2, 1) := by decide +kernel
theorem dX12_entry_19 : decode cX12_entry 19 = .ok (.iconst 3, 1) := by decide +kernel
theorem dX12_entry_20 : decode cX12_entry 20 = .ok (.if_icmp .gt 18, 3) := by decide +kernel
theorem dX12_entry_23 : decode cX12_entry 23 = .ok (.iload_n 1, 1) := by decide +kernel
theorem dX12_entry_24 : decode cX12_entry 24 = .ok (.iload_n 2, 1) := by decide +kernel
theorem dX12_entry_25 : decode cX12_entry 25 = .ok (.if_icmp .eq 13, 3) := by decide +kernel
theorem dX12_entry_28 : decode cX12_entry 28 = .ok (.aload_n 0, 1) := by decide +kernel
theorem dX12_entry_29 : decode cX12_entry 29 = .ok (.iload_n 2, 1) := by decide +kernel
theorem dX12_entry_30 : decode cX12_entry 30 = .ok (.iload 4, 2) := by decide +kernel
theorem dX12_entry_32 : decode cX12_entry 32 = .ok (.invokevirtual 567, 3) := by decide +kernel
theorem dX12_entry_35 : decode cX12_entry 35 = .ok (.ifCond .ne 5, 3) := by decide +kernel
theorem dX12_entry_38 : decode cX12_entry 38 = .ok (.iconst 0, 1) := by decide +kernel
theorem dX12_entry_39 : decode cX12_entry 39 = .ok (.ireturn, 1) := by decide +kernel
theorem dX12_entry_40 : decode cX12_entry 40 = .ok (.iconst 4, 1) := by decide +kernel
theorem dX12_entry_41 : decode cX12_entry 41 = .ok (.iload_n 1, 1) := by decide +kernel
theorem dX12_entry_42 : decode cX12_entry 42 = .ok (.imul, 1) := by decide +kernel
theorem dX12_entry_43 : decode cX12_entry 43 = .ok (.iload_n 2, 1) := by decide +kernel
theorem dX12_entry_44 : decode cX12_entry 44 = .ok (.iadd, 1) := by decide +kernel
theorem dX12_entry_45 : decode cX12_entry 45 = .ok (.istore 5, 2) := by decide +kernel
theorem dX12_entry_47 : decode cX12_entry 47 = .ok (.iload_n 3, 1) := by decide +kernel
theorem dX12_entry_48 : decode cX12_entry 48 = .ok (.ifCond .ne 14, 3) := by decide +kernel
theorem dX12_entry_51 : decode cX12_entry 51 = .ok (.aload_n 0, 1) := by decide +kernel
theorem dX12_entry_52 : decode cX12_entry 52 = .ok (.getfield 175, 3) := by decide +kernel
theorem dX12_entry_55 : decode cX12_entry 55 = .ok (.iload 5, 2) := by decide +kernel
theorem dX12_entry_57 : decode cX12_entry 57 = .ok (.iload 4, 2) := by decide +kernel
theorem dX12_entry_59 : decode cX12_entry 59 = .ok (.iastore, 1) := by decide +kernel
theorem dX12_entry_60 : decode cX12_entry 60 = .ok (.iconst 1, 1) := by decide +kernel
theorem dX12_entry_61 : decode cX12_entry 61 = .ok (.ireturn, 1) := by decide +kernel
theorem dX12_entry_62 : decode cX12_entry 62 = .ok (.aload_n 0, 1) := by decide +kernel
theorem dX12_entry_63 : decode cX12_entry 63 = .ok (.iload_n 1, 1) := by decide +kernel
theorem dX12_entry_64 : decode cX12_entry 64 = .ok (.iload_n 3, 1) := by decide +kernel
theorem dX12_entry_65 : decode cX12_entry 65 = .ok (.invokevirtual 567, 3) := by decide +kernel
theorem dX12_entry_68 : decode cX12_entry 68 = .ok (.ifCond .ne 5, 3) := by decide +kernel
theorem dX12_entry_71 : decode cX12_entry 71 = .ok (.iconst 0, 1) := by decide +kernel
theorem dX12_entry_72 : decode cX12_entry 72 = .ok (.ireturn, 1) := by decide +kernel
theorem dX12_entry_73 : decode cX12_entry 73 = .ok (.aload_n 0, 1) := by decide +kernel
theorem dX12_entry_74 : decode cX12_entry 74 = .ok (.iload 5, 2) := by decide +kernel
theorem dX12_entry_76 : decode cX12_entry 76 = .ok (.iload_n 3, 1) := by decide +kernel
theorem dX12_entry_77 : decode cX12_entry 77 = .ok (.invokevirtual 570, 3) := by decide +kernel
theorem dX12_entry_80 : decode cX12_entry 80 = .ok (.istore 6, 2) := by decide +kernel
theorem dX12_entry_82 : decode cX12_entry 82 = .ok (.iload 6, 2) := by decide +kernel
theorem dX12_entry_84 : decode cX12_entry 84 = .ok (.iconst (-1), 1) := by decide +kernel
theorem dX12_entry_85 : decode cX12_entry 85 = .ok (.if_icmp .ne 47, 3) := by decide +kernel
theorem dX12_entry_88 : decode cX12_entry 88 = .ok (.aload_n 0, 1) := by decide +kernel
theorem dX12_entry_89 : decode cX12_entry 89 = .ok (.getfield 564, 3) := by decide +kernel
theorem dX12_entry_92 : decode cX12_entry 92 = .ok (.bipush 100, 2) := by decide +kernel
theorem dX12_entry_94 : decode cX12_entry 94 = .ok (.if_icmp .ne 5, 3) := by decide +kernel
theorem dX12_entry_99 : decode cX12_entry 99 = .ok (.aload_n 0, 1) := by decide +kernel
theorem dX12_entry_100 : decode cX12_entry 100 = .ok (.getfield 564, 3) := by decide +kernel
theorem dX12_entry_103 : decode cX12_entry 103 = .ok (.istore 6, 2) := by decide +kernel
theorem dX12_entry_105 : decode cX12_entry 105 = .ok (.aload_n 0, 1) := by decide +kernel
theorem dX12_entry_106 : decode cX12_entry 106 = .ok (.dup, 1) := by decide +kernel
theorem dX12_entry_107 : decode cX12_entry 107 = .ok (.getfield 564, 3) := by decide +kernel
theorem dX12_entry_110 : decode cX12_entry 110 = .ok (.iconst 1, 1) := by decide +kernel
theorem dX12_entry_111 : decode cX12_entry 111 = .ok (.iadd, 1) := by decide +kernel
theorem dX12_entry_112 : decode cX12_entry 112 = .ok (.putfield 564, 3) := by decide +kernel
theorem dX12_entry_115 : decode cX12_entry 115 = .ok (.aload_n 0, 1) := by decide +kernel
theorem dX12_entry_116 : decode cX12_entry 116 = .ok (.getfield 166, 3) := by decide +kernel
theorem dX12_entry_119 : decode cX12_entry 119 = .ok (.iload 6, 2) := by decide +kernel
theorem dX12_entry_121 : decode cX12_entry 121 = .ok (.iload 5, 2) := by decide +kernel
theorem dX12_entry_123 : decode cX12_entry 123 = .ok (.iastore, 1) := by decide +kernel
theorem dX12_entry_124 : decode cX12_entry 124 = .ok (.aload_n 0, 1) := by decide +kernel
theorem dX12_entry_125 : decode cX12_entry 125 = .ok (.getfield 169, 3) := by decide +kernel
theorem dX12_entry_128 : decode cX12_entry 128 = .ok (.iload 6, 2) := by decide +kernel
theorem dX12_entry_130 : decode cX12_entry 130 = .ok (.iload_n 3, 1) := by decide +kernel
theorem dX12_entry_131 : decode cX12_entry 131 = .ok (.iastore, 1) := by decide +kernel
theorem dX12_entry_132 : decode cX12_entry 132 = .ok (.aload_n 0, 1) := by decide +kernel
theorem dX12_entry_133 : decode cX12_entry 133 = .ok (.getfield 172, 3) := by decide +kernel
theorem dX12_entry_136 : decode cX12_entry 136 = .ok (.iload 6, 2) := by decide +kernel
theorem dX12_entry_138 : decode cX12_entry 138 = .ok (.iload 4, 2) := by decide +kernel
theorem dX12_entry_140 : decode cX12_entry 140 = .ok (.iastore, 1) := by decide +kernel
theorem dX12_entry_141 : decode cX12_entry 141 = .ok (.iconst 1, 1) := by decide +kernel
theorem dX12_entry_142 : decode cX12_entry 142 = .ok (.ireturn, 1) := by decide +kernel
theorem dX12_call__0 : decode cX12_call_ 0 = .ok (.aload_n 0, 1) := by decide +kernel
theorem dX12_call__1 : decode cX12_call_ 1 = .ok (.iconst 0, 1) := by decide +kernel
theorem dX12_call__2 : decode cX12_call_ 2 = .ok (.putfield 200, 3) := by decide +kernel
theorem dX12_call__5 : decode cX12_call_ 5 = .ok (.iload_n 1, 1) := by decide +kernel
theorem dX12_call__6 : decode cX12_call_ 6 = .ok (.ifCond .lt 22, 3) := by decide +kernel
theorem dX12_call__9 : decode cX12_call_ 9 = .ok (.iload_n 1, 1) := by decide +kernel
theorem dX12_call__10 : decode cX12_call_ 10 = .ok (.iconst 3, 1) := by decide +kernel
theorem dX12_call__11 : decode cX12_call_ 11 = .ok (.if_icmp .gt 17, 3) := by decide +kernel
theorem dX12_call__14 : decode cX12_call_ 14 = .ok (.iload_n 2, 1) := by decide +kernel
theorem dX12_call__15 : decode cX12_call_ 15 = .ok (.ifCond .lt 13, 3) := by decide +kernel
theorem dX12_call__18 : decode cX12_call_ 18 = .ok (.iload_n 2, 1) := by decide +kernel
theorem dX12_call__19 : decode cX12_call_ 19 = .ok (.aload_n 0, 1) := by decide +kernel
theorem dX12_call__20 : decode cX12_call_ 20 = .ok (.getfield 42, 3) := by decide +kernel
theorem dX12_call__23 : decode cX12_call_ 23 = .ok (.iload_n 1, 1) := by decide +kernel
theorem dX12_call__24 : decode cX12_call_ 24 = .ok (.iaload, 1) := by decide +kernel
theorem dX12_call__25 : decode cX12_call_ 25 = .ok (.if_icmp .lt 5, 3) := by decide +kernel
theorem dX12_call__28 : decode cX12_call_ 28 = .ok (.iconst 3, 1) := by decide +kernel
theorem dX12_call__29 : decode cX12_call_ 29 = .ok (.ireturn, 1) := by decide +kernel
theorem dX12_look_0 : decode cX12_look 0 = .ok (.aload_n 0, 1) := by decide +kernel
theorem dX12_look_1 : decode cX12_look 1 = .ok (.iconst 0, 1) := by decide +kernel
theorem dX12_look_2 : decode cX12_look 2 = .ok (.putfield 200, 3) := by decide +kernel
theorem dX12_look_5 : decode cX12_look 5 = .ok (.iload_n 1, 1) := by decide +kernel
theorem dX12_look_6 : decode cX12_look 6 = .ok (.ifCond .lt 18, 3) := by decide +kernel
theorem dX12_look_9 : decode cX12_look 9 = .ok (.iload_n 1, 1) := by decide +kernel
theorem dX12_look_10 : decode cX12_look 10 = .ok (.bipush 8, 2) := by decide +kernel
theorem dX12_look_12 : decode cX12_look 12 = .ok (.if_icmp .ge 12, 3) := by decide +kernel
theorem dX12_look_15 : decode cX12_look 15 = .ok (.aload_n 0, 1) := by decide +kernel
theorem dX12_look_16 : decode cX12_look 16 = .ok (.getfield 786, 3) := by decide +kernel
theorem dX12_look_19 : decode cX12_look 19 = .ok (.ifCond .ne 5, 3) := by decide +kernel
theorem dX12_look_22 : decode cX12_look 22 = .ok (.iconst 0, 1) := by decide +kernel
theorem dX12_look_23 : decode cX12_look 23 = .ok (.ireturn, 1) := by decide +kernel
theorem dX12_look_24 : decode cX12_look 24 = .ok (.iload_n 1, 1) := by decide +kernel
theorem dX12_look_25 : decode cX12_look 25 = .ok (.tableswitch 116 0 10 #[59, 64, 69, 74, 79, 84, 89, 94, 99, 104, 109], 59) := by decide +kernel
theorem dX12_look_124 : decode cX12_look 124 = .ok (.aload_n 0, 1) := by decide +kernel
theorem dX12_look_125 : decode cX12_look 125 = .ok (.getfield 586, 3) := by decide +kernel
theorem dX12_look_128 : decode cX12_look 128 = .ok (.ireturn, 1) := by decide +kernel
theorem dX12_look_129 : decode cX12_look 129 = .ok (.aload_n 0, 1) := by decide +kernel
theorem dX12_look_130 : decode cX12_look 130 = .ok (.getfield 626, 3) := by decide +kernel
theorem dX12_look_133 : decode cX12_look 133 = .ok (.ireturn, 1) := by decide +kernel
theorem dX12_look_134 : decode cX12_look 134 = .ok (.aload_n 0, 1) := by decide +kernel
theorem dX12_look_135 : decode cX12_look 135 = .ok (.getfield 178, 3) := by decide +kernel
theorem dX12_look_138 : decode cX12_look 138 = .ok (.iconst 1, 1) := by decide +kernel
theorem dX12_look_139 : decode cX12_look 139 = .ok (.isub, 1) := by decide +kernel
theorem dX12_look_140 : decode cX12_look 140 = .ok (.ireturn, 1) := by decide +kernel
theorem dX12_look_141 : decode cX12_look 141 = .ok (.iconst (-1), 1) := by decide +kernel
theorem dX12_look_142 : decode cX12_look 142 = .ok (.ireturn, 1) := by decide +kernel
theorem dX12_answer_0 : decode cX12_answer 0 = .ok (.aload_n 0, 1) := by decide +kernel
theorem dX12_answer_1 : decode cX12_answer 1 = .ok (.iconst 0, 1) := by decide +kernel
theorem dX12_answer_2 : decode cX12_answer 2 = .ok (.putfield 200, 3) := by decide +kernel
theorem dX12_answer_5 : decode cX12_answer 5 = .ok (.aload_n 0, 1) := by decide +kernel
theorem dX12_answer_6 : decode cX12_answer 6 = .ok (.getfield 657, 3) := by decide +kernel
theorem dX12_answer_9 : decode cX12_answer 9 = .ok (.iconst 2, 1) := by decide +kernel
theorem dX12_answer_10 : decode cX12_answer 10 = .ok (.if_icmp .ne 17, 3) := by decide +kernel
theorem dX12_answer_27 : decode cX12_answer 27 = .ok (.aload_n 0, 1) := by decide +kernel
theorem dX12_answer_28 : decode cX12_answer 28 = .ok (.getfield 657, 3) := by decide +kernel
theorem dX12_answer_31 : decode cX12_answer 31 = .ok (.ifCond .ne 7, 3) := by decide +kernel
theorem dX12_answer_34 : decode cX12_answer 34 = .ok (.lconst 0, 1) := by decide +kernel
theorem dX12_answer_35 : decode cX12_answer 35 = .ok (.goto 7, 3) := by decide +kernel
theorem dX12_answer_42 : decode cX12_answer 42 = .ok (.lreturn, 1) := by decide +kernel
theorem dX12_mark_0 : decode cX12_mark 0 = .ok (.aload_n 0, 1) := by decide +kernel
theorem dX12_mark_1 : decode cX12_mark 1 = .ok (.iconst 0, 1) := by decide +kernel
theorem dX12_mark_2 : decode cX12_mark 2 = .ok (.putfield 200, 3) := by decide +kernel
theorem dX12_mark_5 : decode cX12_mark 5 = .ok (.iload_n 1, 1) := by decide +kernel
theorem dX12_mark_6 : decode cX12_mark 6 = .ok (.ifCond .lt 18, 3) := by decide +kernel
theorem dX12_mark_9 : decode cX12_mark 9 = .ok (.iload_n 1, 1) := by decide +kernel
theorem dX12_mark_10 : decode cX12_mark 10 = .ok (.aload_n 0, 1) := by decide +kernel
theorem dX12_mark_11 : decode cX12_mark 11 = .ok (.getfield 708, 3) := by decide +kernel
theorem dX12_mark_14 : decode cX12_mark 14 = .ok (.if_icmp .ge 10, 3) := by decide +kernel
theorem dX12_mark_24 : decode cX12_mark 24 = .ok (.lconst 0, 1) := by decide +kernel
theorem dX12_mark_25 : decode cX12_mark 25 = .ok (.goto 9, 3) := by decide +kernel
theorem dX12_mark_34 : decode cX12_mark 34 = .ok (.lreturn, 1) := by decide +kernel
theorem dX12_markTongue_0 : decode cX12_markTongue 0 = .ok (.aload_n 0, 1) := by decide +kernel
theorem dX12_markTongue_1 : decode cX12_markTongue 1 = .ok (.iconst 0, 1) := by decide +kernel
theorem dX12_markTongue_2 : decode cX12_markTongue 2 = .ok (.putfield 200, 3) := by decide +kernel
theorem dX12_markTongue_5 : decode cX12_markTongue 5 = .ok (.iload_n 1, 1) := by decide +kernel
theorem dX12_markTongue_6 : decode cX12_markTongue 6 = .ok (.ifCond .lt 18, 3) := by decide +kernel
theorem dX12_markTongue_9 : decode cX12_markTongue 9 = .ok (.iload_n 1, 1) := by decide +kernel
theorem dX12_markTongue_10 : decode cX12_markTongue 10 = .ok (.aload_n 0, 1) := by decide +kernel
theorem dX12_markTongue_11 : decode cX12_markTongue 11 = .ok (.getfield 708, 3) := by decide +kernel
theorem dX12_markTongue_14 : decode cX12_markTongue 14 = .ok (.if_icmp .ge 10, 3) := by decide +kernel
theorem dX12_markTongue_24 : decode cX12_markTongue 24 = .ok (.iconst (-1), 1) := by decide +kernel
theorem dX12_markTongue_25 : decode cX12_markTongue 25 = .ok (.goto 9, 3) := by decide +kernel
theorem dX12_markTongue_34 : decode cX12_markTongue 34 = .ok (.ireturn, 1) := by decide +kernel
theorem dX12_told_0 : decode cX12_told 0 = .ok (.iload_n 1, 1) := by decide +kernel
theorem dX12_told_1 : decode cX12_told 1 = .ok (.iconst (-1), 1) := by decide +kernel
theorem dX12_told_2 : decode cX12_told 2 = .ok (.if_icmp .ne 5, 3) := by decide +kernel
theorem dX12_told_5 : decode cX12_told 5 = .ok (.iconst (-1), 1) := by decide +kernel
theorem dX12_told_6 : decode cX12_told 6 = .ok (.ireturn, 1) := by decide +kernel
theorem dX12_failureAt_0 : decode cX12_failureAt 0 = .ok (.aload_n 0, 1) := by decide +kernel
theorem dX12_failureAt_1 : decode cX12_failureAt 1 = .ok (.getfield 786, 3) := by decide +kernel
theorem dX12_failureAt_4 : decode cX12_failureAt 4 = .ok (.ifCond .eq 7, 3) := by decide +kernel
theorem dX12_failureAt_11 : decode cX12_failureAt 11 = .ok (.iconst (-1), 1) := by decide +kernel
theorem dX12_failureAt_12 : decode cX12_failureAt 12 = .ok (.ireturn, 1) := by decide +kernel
theorem dX12_failure_0 : decode cX12_failure 0 = .ok (.aload_n 0, 1) := by decide +kernel
theorem dX12_failure_1 : decode cX12_failure 1 = .ok (.iconst 0, 1) := by decide +kernel
theorem dX12_failure_2 : decode cX12_failure 2 = .ok (.putfield 200, 3) := by decide +kernel
theorem dX12_failure_5 : decode cX12_failure 5 = .ok (.aload_n 0, 1) := by decide +kernel
theorem dX12_failure_6 : decode cX12_failure 6 = .ok (.aload_n 0, 1) := by decide +kernel
theorem dX12_failure_7 : decode cX12_failure 7 = .ok (.iload_n 1, 1) := by decide +kernel
theorem dX12_failure_8 : decode cX12_failure 8 = .ok (.invokevirtual 795, 3) := by decide +kernel
theorem dX12_failure_11 : decode cX12_failure 11 = .ok (.iload_n 2, 1) := by decide +kernel
theorem dX12_failure_12 : decode cX12_failure 12 = .ok (.invokevirtual 798, 3) := by decide +kernel
theorem dX12_failure_15 : decode cX12_failure 15 = .ok (.ireturn, 1) := by decide +kernel
theorem dX12_under_0 : decode cX12_under 0 = .ok (.aload_n 0, 1) := by decide +kernel
theorem dX12_under_1 : decode cX12_under 1 = .ok (.iconst 0, 1) := by decide +kernel
theorem dX12_under_2 : decode cX12_under 2 = .ok (.putfield 200, 3) := by decide +kernel
theorem dX12_under_5 : decode cX12_under 5 = .ok (.aload_n 0, 1) := by decide +kernel
theorem dX12_under_6 : decode cX12_under 6 = .ok (.iload_n 1, 1) := by decide +kernel
theorem dX12_under_7 : decode cX12_under 7 = .ok (.invokevirtual 795, 3) := by decide +kernel
theorem dX12_under_10 : decode cX12_under 10 = .ok (.istore 4, 2) := by decide +kernel
theorem dX12_under_12 : decode cX12_under 12 = .ok (.iload 4, 2) := by decide +kernel
theorem dX12_under_14 : decode cX12_under 14 = .ok (.iconst (-1), 1) := by decide +kernel
theorem dX12_under_15 : decode cX12_under 15 = .ok (.if_icmp .eq 7, 3) := by decide +kernel
theorem dX12_under_22 : decode cX12_under 22 = .ok (.iconst (-1), 1) := by decide +kernel
theorem dX12_under_23 : decode cX12_under 23 = .ok (.ireturn, 1) := by decide +kernel
theorem lt_hi {n x m : Int32} (h0 : ¬ x < 0) (h : ¬ x < m) (hd : ∀ j : Nat, j < 8 → ¬ nI j < m → -1 = ltF n (nI j)) : -1 = ltF n x := by
  by_cases h7 : x ≤ 7
  · obtain ⟨j, hj, rfl⟩ := nI_of h0
    have h3 : j ≤ 7 := Nat.le_of_not_lt (fun q => nI_ge (b := j) (a := 7) q hj h7)
    exact hd j (by omega) h
  · exact ltF_out (Or.inr (Or.inr (Or.inr h7)))
def wqX12_fault : List Cond := .code yX12_fault cX12_fault 1 (some .int) :: (([.fieldLink RX12 200 "FourTonguesModel" "thrown" "I", .fieldLink RX12 521 "FourTonguesModel" "latestFault" "I"] : List Cond) ++ wsX120)
theorem in_wqX12_fault_RX12 : ∀ w ∈ u_ws RX12 TX12 106, w ∈ wqX12_fault := fun w h => (List.mem_cons_of_mem _ (List.mem_append_right _ h))
set_option maxHeartbeats 4000000 in
set_option maxRecDepth 100000 in
theorem c_X12_fault (l : Launch) (dC : Nat → ClassId) (dI : Nat → Nat → Nat) (sz : Nat) (h0 : Nat) (z_tape : Nat) (z_names : Nat) (z_parents : Nat) (z_ops : Nat) (z_args : Nat) (z_seconds : Nat) (z_functionNames : Nat) (z_functionAt : Nat) (z_functionParams : Nat) (z_functionSlots : Nat) (z_functions : Nat) (z_newParents : Nat) (z_slots : Nat) (z_overs : Nat) (z_waiting : Nat) (z_fTongue : Nat) (z_fFunction : Nat) (z_fPc : Nat) (z_fPlace : Nat) (z_fStack : Nat) (z_fBlocks : Nat) (z_varKinds : Nat) (z_varBits : Nat) (z_kinds : Nat) (z_bits : Nat) (z_bKind : Nat) (z_bTo : Nat) (z_bWhat : Nat) (z_bMany : Nat) (z_bPending : Nat) (z_bPendingKind : Nat) (z_bPendingBits : Nat) (z_arrayFrom : Nat) (z_arraySize : Nat) (z_arrayTongue : Nat) (z_cellKinds : Nat) (z_cellBits : Nat) (z_gTongue : Nat) (z_gWhat : Nat) (z_gKind : Nat) (z_gBits : Nat) (z_gPlace : Nat) (z_gFunction : Nat) (z_gHow : Nat) (z_gFrom : Nat) (z_gUnder : Nat) (z_lyingOnes : Nat) (z_lyingNext : Nat) (z_markBits : Nat) (z_markTongues : Nat) (z_rules : Nat) (z_entryBorder : Nat) (z_entryWhat : Nat) (z_entryAs : Nat) (z_defaults : Nat) : Met l yX12_fault wqX12_fault ({ frames := 0, cells := 0, slots := 0, locals := 0 }) (va_Pc [.ref h0] (fun U => xM (dC, dI) sz [(h0, .inr (11, [.int 0, .ref z_tape, .int 0, .ref z_names, .int 12, .ref z_parents, .int 0, .int 0, .int 0, .int 0, .long 0, .int 0, .long 0, .int 0, .int 0, .int 0, .int 0, .int 0, .int 0, .ref z_ops, .ref z_args, .ref z_seconds, .int 0, .ref z_functionNames, .ref z_functionAt, .ref z_functionParams, .ref z_functionSlots, .ref z_functions, .ref z_newParents, .int 0, .ref z_slots, .int 0, .int 0, .ref z_overs, .int 0, .int 0, .long 0, .int 0, .ref z_waiting, .int 0, .int 0, .ref z_fTongue, .ref z_fFunction, .ref z_fPc, .ref z_fPlace, .ref z_fStack, .ref z_fBlocks, .int 0, .int 0, .ref z_varKinds, .ref z_varBits, .ref z_kinds, .ref z_bits, .int 0, .ref z_bKind, .ref z_bTo, .ref z_bWhat, .ref z_bMany, .ref z_bPending, .ref z_bPendingKind, .ref z_bPendingBits, .int 0, .ref z_arrayFrom, .ref z_arraySize, .ref z_arrayTongue, .int 0, .ref z_cellKinds, .ref z_cellBits, .int 0, .int 0, .ref z_gTongue, .ref z_gWhat, .ref z_gKind, .ref z_gBits, .ref z_gPlace, .ref z_gFunction, .ref z_gHow, .ref z_gFrom, .ref z_gUnder, .ref z_lyingOnes, .ref z_lyingNext, .int 0, .int 0, .int 0, .int 0, .int 0, .ref z_markBits, .ref z_markTongues, .int 0, .int 0, .int 0, .int 0, .int 0, .int 0, .int 0, .int 0, .long 0, .int 0, .int 0, .long 0, .ref z_rules, .ref z_entryBorder, .ref z_entryWhat, .ref z_entryAs, .int 0, .ref z_defaults]))] [] U)) (va_Qi (fun (r : Int32) (_ : Unit) => r = 0) (fun (_ : Unit) _ => True) (va_A [(h0, .inr (11, [.int 0, .ref z_tape, .int 0, .ref z_names, .int 12, .ref z_parents, .int 0, .int 0, .int 0, .int 0, .long 0, .int 0, .long 0, .int 0, .int 0, .int 0, .int 0, .int 0, .int 0, .ref z_ops, .ref z_args, .ref z_seconds, .int 0, .ref z_functionNames, .ref z_functionAt, .ref z_functionParams, .ref z_functionSlots, .ref z_functions, .ref z_newParents, .int 0, .ref z_slots, .int 0, .int 0, .ref z_overs, .int 0, .int 0, .long 0, .int 0, .ref z_waiting, .int 0, .int 0, .ref z_fTongue, .ref z_fFunction, .ref z_fPc, .ref z_fPlace, .ref z_fStack, .ref z_fBlocks, .int 0, .int 0, .ref z_varKinds, .ref z_varBits, .ref z_kinds, .ref z_bits, .int 0, .ref z_bKind, .ref z_bTo, .ref z_bWhat, .ref z_bMany, .ref z_bPending, .ref z_bPendingKind, .ref z_bPendingBits, .int 0, .ref z_arrayFrom, .ref z_arraySize, .ref z_arrayTongue, .int 0, .ref z_cellKinds, .ref z_cellBits, .int 0, .int 0, .ref z_gTongue, .ref z_gWhat, .ref z_gKind, .ref z_gBits, .ref z_gPlace, .ref z_gFunction, .ref z_gHow, .ref z_gFrom, .ref z_gUnder, .ref z_lyingOnes, .ref z_lyingNext, .int 0, .int 0, .int 0, .int 0, .int 0, .ref z_markBits, .ref z_markTongues, .int 0, .int 0, .int 0, .int 0, .int 0, .int 0, .int 0, .int 0, .long 0, .int 0, .int 0, .long 0, .ref z_rules, .ref z_entryBorder, .ref z_entryWhat, .ref z_entryAs, .int 0, .ref z_defaults]))] sz)) 0 0 (va_A [(h0, .inr (11, [.int 0, .ref z_tape, .int 0, .ref z_names, .int 12, .ref z_parents, .int 0, .int 0, .int 0, .int 0, .long 0, .int 0, .long 0, .int 0, .int 0, .int 0, .int 0, .int 0, .int 0, .ref z_ops, .ref z_args, .ref z_seconds, .int 0, .ref z_functionNames, .ref z_functionAt, .ref z_functionParams, .ref z_functionSlots, .ref z_functions, .ref z_newParents, .int 0, .ref z_slots, .int 0, .int 0, .ref z_overs, .int 0, .int 0, .long 0, .int 0, .ref z_waiting, .int 0, .int 0, .ref z_fTongue, .ref z_fFunction, .ref z_fPc, .ref z_fPlace, .ref z_fStack, .ref z_fBlocks, .int 0, .int 0, .ref z_varKinds, .ref z_varBits, .ref z_kinds, .ref z_bits, .int 0, .ref z_bKind, .ref z_bTo, .ref z_bWhat, .ref z_bMany, .ref z_bPending, .ref z_bPendingKind, .ref z_bPendingBits, .int 0, .ref z_arrayFrom, .ref z_arraySize, .ref z_arrayTongue, .int 0, .ref z_cellKinds, .ref z_cellBits, .int 0, .int 0, .ref z_gTongue, .ref z_gWhat, .ref z_gKind, .ref z_gBits, .ref z_gPlace, .ref z_gFunction, .ref z_gHow, .ref z_gFrom, .ref z_gUnder, .ref z_lyingOnes, .ref z_lyingNext, .int 0, .int 0, .int 0, .int 0, .int 0, .ref z_markBits, .ref z_markTongues, .int 0, .int 0, .int 0, .int 0, .int 0, .int 0, .int 0, .int 0, .long 0, .int 0, .int 0, .long 0, .ref z_rules, .ref z_entryBorder, .ref z_entryWhat, .ref z_entryAs, .int 0, .ref z_defaults]))] sz) := by
  refine Met.ofW (cc := cX12_fault) (maxL := 1) (ret := (some .int)) (by decide) rfl ?_
  intro p e s m args below meth c s₁ B hml hv
  obtain ⟨rfl, hsz, hP, hK, hD0⟩ := hv
  have hx := B.exec
  have hb := B.bytes
  have hr := B.returns
  have hts := atoms_spec (ws := wqX12_fault) B.pre
  have hown : s.vm.findClass RX12 = some m.cls := findClass_of_methodNamed B.named
  have hlocks := B.notSynchronized
  subst hsz
  have hD := hD0.self (sz := s.heap.size)
  generalize hAe : va_A [(h0, .inr (11, [.int 0, .ref z_tape, .int 0, .ref z_names, .int 12, .ref z_parents, .int 0, .int 0, .int 0, .int 0, .long 0, .int 0, .long 0, .int 0, .int 0, .int 0, .int 0, .int 0, .int 0, .ref z_ops, .ref z_args, .ref z_seconds, .int 0, .ref z_functionNames, .ref z_functionAt, .ref z_functionParams, .ref z_functionSlots, .ref z_functions, .ref z_newParents, .int 0, .ref z_slots, .int 0, .int 0, .ref z_overs, .int 0, .int 0, .long 0, .int 0, .ref z_waiting, .int 0, .int 0, .ref z_fTongue, .ref z_fFunction, .ref z_fPc, .ref z_fPlace, .ref z_fStack, .ref z_fBlocks, .int 0, .int 0, .ref z_varKinds, .ref z_varBits, .ref z_kinds, .ref z_bits, .int 0, .ref z_bKind, .ref z_bTo, .ref z_bWhat, .ref z_bMany, .ref z_bPending, .ref z_bPendingKind, .ref z_bPendingBits, .int 0, .ref z_arrayFrom, .ref z_arraySize, .ref z_arrayTongue, .int 0, .ref z_cellKinds, .ref z_cellBits, .int 0, .int 0, .ref z_gTongue, .ref z_gWhat, .ref z_gKind, .ref z_gBits, .ref z_gPlace, .ref z_gFunction, .ref z_gHow, .ref z_gFrom, .ref z_gUnder, .ref z_lyingOnes, .ref z_lyingNext, .int 0, .int 0, .int 0, .int 0, .int 0, .ref z_markBits, .ref z_markTongues, .int 0, .int 0, .int 0, .int 0, .int 0, .int 0, .int 0, .int 0, .long 0, .int 0, .int 0, .long 0, .ref z_rules, .ref z_entryBorder, .ref z_entryWhat, .ref z_entryAs, .int 0, .ref z_defaults]))] s.heap.size = A at hD ⊢
  have hA : ∀ q : Nat, s.heap.size ≤ q → A q := fun q h => by rw [← hAe]; exact Or.inr h
  have hS : va_S A s.heap s.heap [] := va_S.rf
  have hl := lv_entry ([.ref h0]) (n := 1) (Nat.le_of_ble_eq_true rfl)
  rw [lg_entry_eq]
  generalize (lg_sl ([.ref h0]) ++ List.replicate (1 - (lg_sl ([.ref h0])).length) Slot.unset).toArray = ls at hl ⊢
  have hl : lv_has ls 1 [(0, .ref h0)] := hl
  refine lv_aload_n hx hb dX12_fault_0 rfl (lv_at hl 0 rfl) ?_
  refine lv_iconst (v := 0) hx hb dX12_fault_1 (by decide) ?_
  refine va_put (D := (dC, dI)) (ci := 11) (v := .int 0) (ty := .int) (C := RX12) (T := TX12) (N := 106) hx hb hts in_wqX12_fault_RX12 tyX12 tyX12_ok nmX12 hown hK hP hD hS 0 rfl rfl 0 (by decide) (hts (.fieldLink RX12 200 "FourTonguesModel" "thrown" "I") (by decide +kernel)) (fun _ h9 => h9) rfl (by decide +kernel) rfl rfl (Nat.le_of_ble_eq_true rfl) dX12_fault_2 (fun H locs hP hD hS => ?_)
  have hP : va_P (dC, dI) vwCl [(h0, .inr (11, [.int 0, .ref z_tape, .int 0, .ref z_names, .int 12, .ref z_parents, .int 0, .int 0, .int 0, .int 0, .long 0, .int 0, .long 0, .int 0, .int 0, .int 0, .int 0, .int 0, .int 0, .ref z_ops, .ref z_args, .ref z_seconds, .int 0, .ref z_functionNames, .ref z_functionAt, .ref z_functionParams, .ref z_functionSlots, .ref z_functions, .ref z_newParents, .int 0, .ref z_slots, .int 0, .int 0, .ref z_overs, .int 0, .int 0, .long 0, .int 0, .ref z_waiting, .int 0, .int 0, .ref z_fTongue, .ref z_fFunction, .ref z_fPc, .ref z_fPlace, .ref z_fStack, .ref z_fBlocks, .int 0, .int 0, .ref z_varKinds, .ref z_varBits, .ref z_kinds, .ref z_bits, .int 0, .ref z_bKind, .ref z_bTo, .ref z_bWhat, .ref z_bMany, .ref z_bPending, .ref z_bPendingKind, .ref z_bPendingBits, .int 0, .ref z_arrayFrom, .ref z_arraySize, .ref z_arrayTongue, .int 0, .ref z_cellKinds, .ref z_cellBits, .int 0, .int 0, .ref z_gTongue, .ref z_gWhat, .ref z_gKind, .ref z_gBits, .ref z_gPlace, .ref z_gFunction, .ref z_gHow, .ref z_gFrom, .ref z_gUnder, .ref z_lyingOnes, .ref z_lyingNext, .int 0, .int 0, .int 0, .int 0, .int 0, .ref z_markBits, .ref z_markTongues, .int 0, .int 0, .int 0, .int 0, .int 0, .int 0, .int 0, .int 0, .long 0, .int 0, .int 0, .long 0, .ref z_rules, .ref z_entryBorder, .ref z_entryWhat, .ref z_entryAs, .int 0, .ref z_defaults]))] _ := hP
  have hD : va_D A [(h0, .inr (11, [.int 0, .ref z_tape, .int 0, .ref z_names, .int 12, .ref z_parents, .int 0, .int 0, .int 0, .int 0, .long 0, .int 0, .long 0, .int 0, .int 0, .int 0, .int 0, .int 0, .int 0, .ref z_ops, .ref z_args, .ref z_seconds, .int 0, .ref z_functionNames, .ref z_functionAt, .ref z_functionParams, .ref z_functionSlots, .ref z_functions, .ref z_newParents, .int 0, .ref z_slots, .int 0, .int 0, .ref z_overs, .int 0, .int 0, .long 0, .int 0, .ref z_waiting, .int 0, .int 0, .ref z_fTongue, .ref z_fFunction, .ref z_fPc, .ref z_fPlace, .ref z_fStack, .ref z_fBlocks, .int 0, .int 0, .ref z_varKinds, .ref z_varBits, .ref z_kinds, .ref z_bits, .int 0, .ref z_bKind, .ref z_bTo, .ref z_bWhat, .ref z_bMany, .ref z_bPending, .ref z_bPendingKind, .ref z_bPendingBits, .int 0, .ref z_arrayFrom, .ref z_arraySize, .ref z_arrayTongue, .int 0, .ref z_cellKinds, .ref z_cellBits, .int 0, .int 0, .ref z_gTongue, .ref z_gWhat, .ref z_gKind, .ref z_gBits, .ref z_gPlace, .ref z_gFunction, .ref z_gHow, .ref z_gFrom, .ref z_gUnder, .ref z_lyingOnes, .ref z_lyingNext, .int 0, .int 0, .int 0, .int 0, .int 0, .ref z_markBits, .ref z_markTongues, .int 0, .int 0, .int 0, .int 0, .int 0, .int 0, .int 0, .int 0, .long 0, .int 0, .int 0, .long 0, .ref z_rules, .ref z_entryBorder, .ref z_entryWhat, .ref z_entryAs, .int 0, .ref z_defaults]))] := hD
  refine lv_aload_n hx hb dX12_fault_5 rfl (lv_at hl 0 rfl) ?_
  refine va_get (D := (dC, dI)) (ci := 11) (v := .int 0) (C := RX12) (T := TX12) (N := 106) hx hb hts in_wqX12_fault_RX12 hown hK hP 0 rfl rfl 40 (by decide) (hts (.fieldLink RX12 521 "FourTonguesModel" "latestFault" "I") (by decide +kernel)) (fun _ h9 => h9) rfl dX12_fault_6 ?_
  exact W.iret (v := 0) hx hb hr (fun t ht hW => ⟨⟨0, (), rfl, rfl, trivial⟩, hS.F ht⟩) hS.2.2 dX12_fault_9

def wqX12_answer : List Cond := .code yX12_answer cX12_answer 1 (some .long) :: (([.fieldLink RX12 200 "FourTonguesModel" "thrown" "I", .fieldLink RX12 657 "FourTonguesModel" "answerKind" "I"] : List Cond) ++ wsX120)
theorem in_wqX12_answer_RX12 : ∀ w ∈ u_ws RX12 TX12 106, w ∈ wqX12_answer := fun w h => (List.mem_cons_of_mem _ (List.mem_append_right _ h))
set_option maxHeartbeats 4000000 in
set_option maxRecDepth 100000 in
theorem c_X12_answer (l : Launch) (dC : Nat → ClassId) (dI : Nat → Nat → Nat) (sz : Nat) (h0 : Nat) (z_tape : Nat) (z_names : Nat) (z_parents : Nat) (z_ops : Nat) (z_args : Nat) (z_seconds : Nat) (z_functionNames : Nat) (z_functionAt : Nat) (z_functionParams : Nat) (z_functionSlots : Nat) (z_functions : Nat) (z_newParents : Nat) (z_slots : Nat) (z_overs : Nat) (z_waiting : Nat) (z_fTongue : Nat) (z_fFunction : Nat) (z_fPc : Nat) (z_fPlace : Nat) (z_fStack : Nat) (z_fBlocks : Nat) (z_varKinds : Nat) (z_varBits : Nat) (z_kinds : Nat) (z_bits : Nat) (z_bKind : Nat) (z_bTo : Nat) (z_bWhat : Nat) (z_bMany : Nat) (z_bPending : Nat) (z_bPendingKind : Nat) (z_bPendingBits : Nat) (z_arrayFrom : Nat) (z_arraySize : Nat) (z_arrayTongue : Nat) (z_cellKinds : Nat) (z_cellBits : Nat) (z_gTongue : Nat) (z_gWhat : Nat) (z_gKind : Nat) (z_gBits : Nat) (z_gPlace : Nat) (z_gFunction : Nat) (z_gHow : Nat) (z_gFrom : Nat) (z_gUnder : Nat) (z_lyingOnes : Nat) (z_lyingNext : Nat) (z_markBits : Nat) (z_markTongues : Nat) (z_rules : Nat) (z_entryBorder : Nat) (z_entryWhat : Nat) (z_entryAs : Nat) (z_defaults : Nat) : Met l yX12_answer wqX12_answer ({ frames := 0, cells := 0, slots := 0, locals := 0 }) (va_Pc [.ref h0] (fun U => xM (dC, dI) sz [(h0, .inr (11, [.int 0, .ref z_tape, .int 0, .ref z_names, .int 12, .ref z_parents, .int 0, .int 0, .int 0, .int 0, .long 0, .int 0, .long 0, .int 0, .int 0, .int 0, .int 0, .int 0, .int 0, .ref z_ops, .ref z_args, .ref z_seconds, .int 0, .ref z_functionNames, .ref z_functionAt, .ref z_functionParams, .ref z_functionSlots, .ref z_functions, .ref z_newParents, .int 0, .ref z_slots, .int 0, .int 0, .ref z_overs, .int 0, .int 0, .long 0, .int 0, .ref z_waiting, .int 0, .int 0, .ref z_fTongue, .ref z_fFunction, .ref z_fPc, .ref z_fPlace, .ref z_fStack, .ref z_fBlocks, .int 0, .int 0, .ref z_varKinds, .ref z_varBits, .ref z_kinds, .ref z_bits, .int 0, .ref z_bKind, .ref z_bTo, .ref z_bWhat, .ref z_bMany, .ref z_bPending, .ref z_bPendingKind, .ref z_bPendingBits, .int 0, .ref z_arrayFrom, .ref z_arraySize, .ref z_arrayTongue, .int 0, .ref z_cellKinds, .ref z_cellBits, .int 0, .int 0, .ref z_gTongue, .ref z_gWhat, .ref z_gKind, .ref z_gBits, .ref z_gPlace, .ref z_gFunction, .ref z_gHow, .ref z_gFrom, .ref z_gUnder, .ref z_lyingOnes, .ref z_lyingNext, .int 0, .int 0, .int 0, .int 0, .int 0, .ref z_markBits, .ref z_markTongues, .int 0, .int 0, .int 0, .int 0, .int 0, .int 0, .int 0, .int 0, .long 0, .int 0, .int 0, .long 0, .ref z_rules, .ref z_entryBorder, .ref z_entryWhat, .ref z_entryAs, .int 0, .ref z_defaults]))] [] U)) (va_Ql (fun (r : Int64) (_ : Unit) => r = 0) (fun (_ : Unit) _ => True) (va_A [(h0, .inr (11, [.int 0, .ref z_tape, .int 0, .ref z_names, .int 12, .ref z_parents, .int 0, .int 0, .int 0, .int 0, .long 0, .int 0, .long 0, .int 0, .int 0, .int 0, .int 0, .int 0, .int 0, .ref z_ops, .ref z_args, .ref z_seconds, .int 0, .ref z_functionNames, .ref z_functionAt, .ref z_functionParams, .ref z_functionSlots, .ref z_functions, .ref z_newParents, .int 0, .ref z_slots, .int 0, .int 0, .ref z_overs, .int 0, .int 0, .long 0, .int 0, .ref z_waiting, .int 0, .int 0, .ref z_fTongue, .ref z_fFunction, .ref z_fPc, .ref z_fPlace, .ref z_fStack, .ref z_fBlocks, .int 0, .int 0, .ref z_varKinds, .ref z_varBits, .ref z_kinds, .ref z_bits, .int 0, .ref z_bKind, .ref z_bTo, .ref z_bWhat, .ref z_bMany, .ref z_bPending, .ref z_bPendingKind, .ref z_bPendingBits, .int 0, .ref z_arrayFrom, .ref z_arraySize, .ref z_arrayTongue, .int 0, .ref z_cellKinds, .ref z_cellBits, .int 0, .int 0, .ref z_gTongue, .ref z_gWhat, .ref z_gKind, .ref z_gBits, .ref z_gPlace, .ref z_gFunction, .ref z_gHow, .ref z_gFrom, .ref z_gUnder, .ref z_lyingOnes, .ref z_lyingNext, .int 0, .int 0, .int 0, .int 0, .int 0, .ref z_markBits, .ref z_markTongues, .int 0, .int 0, .int 0, .int 0, .int 0, .int 0, .int 0, .int 0, .long 0, .int 0, .int 0, .long 0, .ref z_rules, .ref z_entryBorder, .ref z_entryWhat, .ref z_entryAs, .int 0, .ref z_defaults]))] sz)) 0 0 (va_A [(h0, .inr (11, [.int 0, .ref z_tape, .int 0, .ref z_names, .int 12, .ref z_parents, .int 0, .int 0, .int 0, .int 0, .long 0, .int 0, .long 0, .int 0, .int 0, .int 0, .int 0, .int 0, .int 0, .ref z_ops, .ref z_args, .ref z_seconds, .int 0, .ref z_functionNames, .ref z_functionAt, .ref z_functionParams, .ref z_functionSlots, .ref z_functions, .ref z_newParents, .int 0, .ref z_slots, .int 0, .int 0, .ref z_overs, .int 0, .int 0, .long 0, .int 0, .ref z_waiting, .int 0, .int 0, .ref z_fTongue, .ref z_fFunction, .ref z_fPc, .ref z_fPlace, .ref z_fStack, .ref z_fBlocks, .int 0, .int 0, .ref z_varKinds, .ref z_varBits, .ref z_kinds, .ref z_bits, .int 0, .ref z_bKind, .ref z_bTo, .ref z_bWhat, .ref z_bMany, .ref z_bPending, .ref z_bPendingKind, .ref z_bPendingBits, .int 0, .ref z_arrayFrom, .ref z_arraySize, .ref z_arrayTongue, .int 0, .ref z_cellKinds, .ref z_cellBits, .int 0, .int 0, .ref z_gTongue, .ref z_gWhat, .ref z_gKind, .ref z_gBits, .ref z_gPlace, .ref z_gFunction, .ref z_gHow, .ref z_gFrom, .ref z_gUnder, .ref z_lyingOnes, .ref z_lyingNext, .int 0, .int 0, .int 0, .int 0, .int 0, .ref z_markBits, .ref z_markTongues, .int 0, .int 0, .int 0, .int 0, .int 0, .int 0, .int 0, .int 0, .long 0, .int 0, .int 0, .long 0, .ref z_rules, .ref z_entryBorder, .ref z_entryWhat, .ref z_entryAs, .int 0, .ref z_defaults]))] sz) := by
  refine Met.ofW (cc := cX12_answer) (maxL := 1) (ret := (some .long)) (by decide) rfl ?_
  intro p e s m args below meth c s₁ B hml hv
  obtain ⟨rfl, hsz, hP, hK, hD0⟩ := hv
  have hx := B.exec
  have hb := B.bytes
  have hr := B.returns
  have hts := atoms_spec (ws := wqX12_answer) B.pre
  have hown : s.vm.findClass RX12 = some m.cls := findClass_of_methodNamed B.named
  have hlocks := B.notSynchronized
  subst hsz
  have hD := hD0.self (sz := s.heap.size)
  generalize hAe : va_A [(h0, .inr (11, [.int 0, .ref z_tape, .int 0, .ref z_names, .int 12, .ref z_parents, .int 0, .int 0, .int 0, .int 0, .long 0, .int 0, .long 0, .int 0, .int 0, .int 0, .int 0, .int 0, .int 0, .ref z_ops, .ref z_args, .ref z_seconds, .int 0, .ref z_functionNames, .ref z_functionAt, .ref z_functionParams, .ref z_functionSlots, .ref z_functions, .ref z_newParents, .int 0, .ref z_slots, .int 0, .int 0, .ref z_overs, .int 0, .int 0, .long 0, .int 0, .ref z_waiting, .int 0, .int 0, .ref z_fTongue, .ref z_fFunction, .ref z_fPc, .ref z_fPlace, .ref z_fStack, .ref z_fBlocks, .int 0, .int 0, .ref z_varKinds, .ref z_varBits, .ref z_kinds, .ref z_bits, .int 0, .ref z_bKind, .ref z_bTo, .ref z_bWhat, .ref z_bMany, .ref z_bPending, .ref z_bPendingKind, .ref z_bPendingBits, .int 0, .ref z_arrayFrom, .ref z_arraySize, .ref z_arrayTongue, .int 0, .ref z_cellKinds, .ref z_cellBits, .int 0, .int 0, .ref z_gTongue, .ref z_gWhat, .ref z_gKind, .ref z_gBits, .ref z_gPlace, .ref z_gFunction, .ref z_gHow, .ref z_gFrom, .ref z_gUnder, .ref z_lyingOnes, .ref z_lyingNext, .int 0, .int 0, .int 0, .int 0, .int 0, .ref z_markBits, .ref z_markTongues, .int 0, .int 0, .int 0, .int 0, .int 0, .int 0, .int 0, .int 0, .long 0, .int 0, .int 0, .long 0, .ref z_rules, .ref z_entryBorder, .ref z_entryWhat, .ref z_entryAs, .int 0, .ref z_defaults]))] s.heap.size = A at hD ⊢
  have hA : ∀ q : Nat, s.heap.size ≤ q → A q := fun q h => by rw [← hAe]; exact Or.inr h
  have hS : va_S A s.heap s.heap [] := va_S.rf
  have hl := lv_entry ([.ref h0]) (n := 1) (Nat.le_of_ble_eq_true rfl)
  rw [lg_entry_eq]
  generalize (lg_sl ([.ref h0]) ++ List.replicate (1 - (lg_sl ([.ref h0])).length) Slot.unset).toArray = ls at hl ⊢
  have hl : lv_has ls 1 [(0, .ref h0)] := hl
  refine lv_aload_n hx hb dX12_answer_0 rfl (lv_at hl 0 rfl) ?_
  refine lv_iconst (v := 0) hx hb dX12_answer_1 (by decide) ?_
  refine va_put (D := (dC, dI)) (ci := 11) (v := .int 0) (ty := .int) (C := RX12) (T := TX12) (N := 106) hx hb hts in_wqX12_answer_RX12 tyX12 tyX12_ok nmX12 hown hK hP hD hS 0 rfl rfl 0 (by decide) (hts (.fieldLink RX12 200 "FourTonguesModel" "thrown" "I") (by decide +kernel)) (fun _ h9 => h9) rfl (by decide +kernel) rfl rfl (Nat.le_of_ble_eq_true rfl) dX12_answer_2 (fun H locs hP hD hS => ?_)
  have hP : va_P (dC, dI) vwCl [(h0, .inr (11, [.int 0, .ref z_tape, .int 0, .ref z_names, .int 12, .ref z_parents, .int 0, .int 0, .int 0, .int 0, .long 0, .int 0, .long 0, .int 0, .int 0, .int 0, .int 0, .int 0, .int 0, .ref z_ops, .ref z_args, .ref z_seconds, .int 0, .ref z_functionNames, .ref z_functionAt, .ref z_functionParams, .ref z_functionSlots, .ref z_functions, .ref z_newParents, .int 0, .ref z_slots, .int 0, .int 0, .ref z_overs, .int 0, .int 0, .long 0, .int 0, .ref z_waiting, .int 0, .int 0, .ref z_fTongue, .ref z_fFunction, .ref z_fPc, .ref z_fPlace, .ref z_fStack, .ref z_fBlocks, .int 0, .int 0, .ref z_varKinds, .ref z_varBits, .ref z_kinds, .ref z_bits, .int 0, .ref z_bKind, .ref z_bTo, .ref z_bWhat, .ref z_bMany, .ref z_bPending, .ref z_bPendingKind, .ref z_bPendingBits, .int 0, .ref z_arrayFrom, .ref z_arraySize, .ref z_arrayTongue, .int 0, .ref z_cellKinds, .ref z_cellBits, .int 0, .int 0, .ref z_gTongue, .ref z_gWhat, .ref z_gKind, .ref z_gBits, .ref z_gPlace, .ref z_gFunction, .ref z_gHow, .ref z_gFrom, .ref z_gUnder, .ref z_lyingOnes, .ref z_lyingNext, .int 0, .int 0, .int 0, .int 0, .int 0, .ref z_markBits, .ref z_markTongues, .int 0, .int 0, .int 0, .int 0, .int 0, .int 0, .int 0, .int 0, .long 0, .int 0, .int 0, .long 0, .ref z_rules, .ref z_entryBorder, .ref z_entryWhat, .ref z_entryAs, .int 0, .ref z_defaults]))] _ := hP
  have hD : va_D A [(h0, .inr (11, [.int 0, .ref z_tape, .int 0, .ref z_names, .int 12, .ref z_parents, .int 0, .int 0, .int 0, .int 0, .long 0, .int 0, .long 0, .int 0, .int 0, .int 0, .int 0, .int 0, .int 0, .ref z_ops, .ref z_args, .ref z_seconds, .int 0, .ref z_functionNames, .ref z_functionAt, .ref z_functionParams, .ref z_functionSlots, .ref z_functions, .ref z_newParents, .int 0, .ref z_slots, .int 0, .int 0, .ref z_overs, .int 0, .int 0, .long 0, .int 0, .ref z_waiting, .int 0, .int 0, .ref z_fTongue, .ref z_fFunction, .ref z_fPc, .ref z_fPlace, .ref z_fStack, .ref z_fBlocks, .int 0, .int 0, .ref z_varKinds, .ref z_varBits, .ref z_kinds, .ref z_bits, .int 0, .ref z_bKind, .ref z_bTo, .ref z_bWhat, .ref z_bMany, .ref z_bPending, .ref z_bPendingKind, .ref z_bPendingBits, .int 0, .ref z_arrayFrom, .ref z_arraySize, .ref z_arrayTongue, .int 0, .ref z_cellKinds, .ref z_cellBits, .int 0, .int 0, .ref z_gTongue, .ref z_gWhat, .ref z_gKind, .ref z_gBits, .ref z_gPlace, .ref z_gFunction, .ref z_gHow, .ref z_gFrom, .ref z_gUnder, .ref z_lyingOnes, .ref z_lyingNext, .int 0, .int 0, .int 0, .int 0, .int 0, .ref z_markBits, .ref z_markTongues, .int 0, .int 0, .int 0, .int 0, .int 0, .int 0, .int 0, .int 0, .long 0, .int 0, .int 0, .long 0, .ref z_rules, .ref z_entryBorder, .ref z_entryWhat, .ref z_entryAs, .int 0, .ref z_defaults]))] := hD
  refine lv_aload_n hx hb dX12_answer_5 rfl (lv_at hl 0 rfl) ?_
  refine va_get (D := (dC, dI)) (ci := 11) (v := .int 0) (C := RX12) (T := TX12) (N := 106) hx hb hts in_wqX12_answer_RX12 hown hK hP 0 rfl rfl 95 (by decide) (hts (.fieldLink RX12 657 "FourTonguesModel" "answerKind" "I") (by decide +kernel)) (fun _ h9 => h9) rfl dX12_answer_6 ?_
  refine lv_iconst (v := 2) hx hb dX12_answer_9 (by decide) ?_
  refine lv_icmp_ne (tgt := 27) hx hb dX12_answer_10 (by decide) (fun c_10 => ?_) (fun c_10 => absurd c_10 (by decide))
  refine lv_aload_n hx hb dX12_answer_27 rfl (lv_at hl 0 rfl) ?_
  refine va_get (D := (dC, dI)) (ci := 11) (v := .int 0) (C := RX12) (T := TX12) (N := 106) hx hb hts in_wqX12_answer_RX12 hown hK hP 0 rfl rfl 95 (by decide) (hts (.fieldLink RX12 657 "FourTonguesModel" "answerKind" "I") (by decide +kernel)) (fun _ h9 => h9) rfl dX12_answer_28 ?_
  refine lv_if_ne (tgt := 38) hx hb dX12_answer_31 (by decide) (fun c_31 => absurd c_31 (by decide)) (fun c_31 => ?_)
  refine lv_lconst (v := 0) hx hb dX12_answer_34 (by decide) ?_
  refine lv_goto (tgt := 42) hx hb dX12_answer_35 (by decide) ?_
  exact W.lret (v := 0) hx hb hr (fun t ht hW => ⟨⟨0, (), rfl, rfl, trivial⟩, hS.F ht⟩) hS.2.2 dX12_answer_42

def wqX12_mark : List Cond := .code yX12_mark cX12_mark 2 (some .long) :: (([.fieldLink RX12 200 "FourTonguesModel" "thrown" "I", .fieldLink RX12 708 "FourTonguesModel" "marks" "I"] : List Cond) ++ wsX120)
theorem in_wqX12_mark_RX12 : ∀ w ∈ u_ws RX12 TX12 106, w ∈ wqX12_mark := fun w h => (List.mem_cons_of_mem _ (List.mem_append_right _ h))
set_option maxHeartbeats 4000000 in
set_option maxRecDepth 100000 in
theorem c_X12_mark (l : Launch) (dC : Nat → ClassId) (dI : Nat → Nat → Nat) (sz : Nat) (h0 : Nat) (z_tape : Nat) (z_names : Nat) (z_parents : Nat) (z_ops : Nat) (z_args : Nat) (z_seconds : Nat) (z_functionNames : Nat) (z_functionAt : Nat) (z_functionParams : Nat) (z_functionSlots : Nat) (z_functions : Nat) (z_newParents : Nat) (z_slots : Nat) (z_overs : Nat) (z_waiting : Nat) (z_fTongue : Nat) (z_fFunction : Nat) (z_fPc : Nat) (z_fPlace : Nat) (z_fStack : Nat) (z_fBlocks : Nat) (z_varKinds : Nat) (z_varBits : Nat) (z_kinds : Nat) (z_bits : Nat) (z_bKind : Nat) (z_bTo : Nat) (z_bWhat : Nat) (z_bMany : Nat) (z_bPending : Nat) (z_bPendingKind : Nat) (z_bPendingBits : Nat) (z_arrayFrom : Nat) (z_arraySize : Nat) (z_arrayTongue : Nat) (z_cellKinds : Nat) (z_cellBits : Nat) (z_gTongue : Nat) (z_gWhat : Nat) (z_gKind : Nat) (z_gBits : Nat) (z_gPlace : Nat) (z_gFunction : Nat) (z_gHow : Nat) (z_gFrom : Nat) (z_gUnder : Nat) (z_lyingOnes : Nat) (z_lyingNext : Nat) (z_markBits : Nat) (z_markTongues : Nat) (z_rules : Nat) (z_entryBorder : Nat) (z_entryWhat : Nat) (z_entryAs : Nat) (z_defaults : Nat) (x1 : Int32) : Met l yX12_mark wqX12_mark ({ frames := 0, cells := 0, slots := 0, locals := 0 }) (va_Pc [.ref h0, .int x1] (fun U => xM (dC, dI) sz [(h0, .inr (11, [.int 0, .ref z_tape, .int 0, .ref z_names, .int 12, .ref z_parents, .int 0, .int 0, .int 0, .int 0, .long 0, .int 0, .long 0, .int 0, .int 0, .int 0, .int 0, .int 0, .int 0, .ref z_ops, .ref z_args, .ref z_seconds, .int 0, .ref z_functionNames, .ref z_functionAt, .ref z_functionParams, .ref z_functionSlots, .ref z_functions, .ref z_newParents, .int 0, .ref z_slots, .int 0, .int 0, .ref z_overs, .int 0, .int 0, .long 0, .int 0, .ref z_waiting, .int 0, .int 0, .ref z_fTongue, .ref z_fFunction, .ref z_fPc, .ref z_fPlace, .ref z_fStack, .ref z_fBlocks, .int 0, .int 0, .ref z_varKinds, .ref z_varBits, .ref z_kinds, .ref z_bits, .int 0, .ref z_bKind, .ref z_bTo, .ref z_bWhat, .ref z_bMany, .ref z_bPending, .ref z_bPendingKind, .ref z_bPendingBits, .int 0, .ref z_arrayFrom, .ref z_arraySize, .ref z_arrayTongue, .int 0, .ref z_cellKinds, .ref z_cellBits, .int 0, .int 0, .ref z_gTongue, .ref z_gWhat, .ref z_gKind, .ref z_gBits, .ref z_gPlace, .ref z_gFunction, .ref z_gHow, .ref z_gFrom, .ref z_gUnder, .ref z_lyingOnes, .ref z_lyingNext, .int 0, .int 0, .int 0, .int 0, .int 0, .ref z_markBits, .ref z_markTongues, .int 0, .int 0, .int 0, .int 0, .int 0, .int 0, .int 0, .int 0, .long 0, .int 0, .int 0, .long 0, .ref z_rules, .ref z_entryBorder, .ref z_entryWhat, .ref z_entryAs, .int 0, .ref z_defaults]))] [] U)) (va_Ql (fun (r : Int64) (_ : Unit) => r = 0) (fun (_ : Unit) _ => True) (va_A [(h0, .inr (11, [.int 0, .ref z_tape, .int 0, .ref z_names, .int 12, .ref z_parents, .int 0, .int 0, .int 0, .int 0, .long 0, .int 0, .long 0, .int 0, .int 0, .int 0, .int 0, .int 0, .int 0, .ref z_ops, .ref z_args, .ref z_seconds, .int 0, .ref z_functionNames, .ref z_functionAt, .ref z_functionParams, .ref z_functionSlots, .ref z_functions, .ref z_newParents, .int 0, .ref z_slots, .int 0, .int 0, .ref z_overs, .int 0, .int 0, .long 0, .int 0, .ref z_waiting, .int 0, .int 0, .ref z_fTongue, .ref z_fFunction, .ref z_fPc, .ref z_fPlace, .ref z_fStack, .ref z_fBlocks, .int 0, .int 0, .ref z_varKinds, .ref z_varBits, .ref z_kinds, .ref z_bits, .int 0, .ref z_bKind, .ref z_bTo, .ref z_bWhat, .ref z_bMany, .ref z_bPending, .ref z_bPendingKind, .ref z_bPendingBits, .int 0, .ref z_arrayFrom, .ref z_arraySize, .ref z_arrayTongue, .int 0, .ref z_cellKinds, .ref z_cellBits, .int 0, .int 0, .ref z_gTongue, .ref z_gWhat, .ref z_gKind, .ref z_gBits, .ref z_gPlace, .ref z_gFunction, .ref z_gHow, .ref z_gFrom, .ref z_gUnder, .ref z_lyingOnes, .ref z_lyingNext, .int 0, .int 0, .int 0, .int 0, .int 0, .ref z_markBits, .ref z_markTongues, .int 0, .int 0, .int 0, .int 0, .int 0, .int 0, .int 0, .int 0, .long 0, .int 0, .int 0, .long 0, .ref z_rules, .ref z_entryBorder, .ref z_entryWhat, .ref z_entryAs, .int 0, .ref z_defaults]))] sz)) 0 0 (va_A [(h0, .inr (11, [.int 0, .ref z_tape, .int 0, .ref z_names, .int 12, .ref z_parents, .int 0, .int 0, .int 0, .int 0, .long 0, .int 0, .long 0, .int 0, .int 0, .int 0, .int 0, .int 0, .int 0, .ref z_ops, .ref z_args, .ref z_seconds, .int 0, .ref z_functionNames, .ref z_functionAt, .ref z_functionParams, .ref z_functionSlots, .ref z_functions, .ref z_newParents, .int 0, .ref z_slots, .int 0, .int 0, .ref z_overs, .int 0, .int 0, .long 0, .int 0, .ref z_waiting, .int 0, .int 0, .ref z_fTongue, .ref z_fFunction, .ref z_fPc, .ref z_fPlace, .ref z_fStack, .ref z_fBlocks, .int 0, .int 0, .ref z_varKinds, .ref z_varBits, .ref z_kinds, .ref z_bits, .int 0, .ref z_bKind, .ref z_bTo, .ref z_bWhat, .ref z_bMany, .ref z_bPending, .ref z_bPendingKind, .ref z_bPendingBits, .int 0, .ref z_arrayFrom, .ref z_arraySize, .ref z_arrayTongue, .int 0, .ref z_cellKinds, .ref z_cellBits, .int 0, .int 0, .ref z_gTongue, .ref z_gWhat, .ref z_gKind, .ref z_gBits, .ref z_gPlace, .ref z_gFunction, .ref z_gHow, .ref z_gFrom, .ref z_gUnder, .ref z_lyingOnes, .ref z_lyingNext, .int 0, .int 0, .int 0, .int 0, .int 0, .ref z_markBits, .ref z_markTongues, .int 0, .int 0, .int 0, .int 0, .int 0, .int 0, .int 0, .int 0, .long 0, .int 0, .int 0, .long 0, .ref z_rules, .ref z_entryBorder, .ref z_entryWhat, .ref z_entryAs, .int 0, .ref z_defaults]))] sz) := by
  refine Met.ofW (cc := cX12_mark) (maxL := 2) (ret := (some .long)) (by decide) rfl ?_
  intro p e s m args below meth c s₁ B hml hv
  obtain ⟨rfl, hsz, hP, hK, hD0⟩ := hv
  have hx := B.exec
  have hb := B.bytes
  have hr := B.returns
  have hts := atoms_spec (ws := wqX12_mark) B.pre
  have hown : s.vm.findClass RX12 = some m.cls := findClass_of_methodNamed B.named
  have hlocks := B.notSynchronized
  subst hsz
  have hD := hD0.self (sz := s.heap.size)
  generalize hAe : va_A [(h0, .inr (11, [.int 0, .ref z_tape, .int 0, .ref z_names, .int 12, .ref z_parents, .int 0, .int 0, .int 0, .int 0, .long 0, .int 0, .long 0, .int 0, .int 0, .int 0, .int 0, .int 0, .int 0, .ref z_ops, .ref z_args, .ref z_seconds, .int 0, .ref z_functionNames, .ref z_functionAt, .ref z_functionParams, .ref z_functionSlots, .ref z_functions, .ref z_newParents, .int 0, .ref z_slots, .int 0, .int 0, .ref z_overs, .int 0, .int 0, .long 0, .int 0, .ref z_waiting, .int 0, .int 0, .ref z_fTongue, .ref z_fFunction, .ref z_fPc, .ref z_fPlace, .ref z_fStack, .ref z_fBlocks, .int 0, .int 0, .ref z_varKinds, .ref z_varBits, .ref z_kinds, .ref z_bits, .int 0, .ref z_bKind, .ref z_bTo, .ref z_bWhat, .ref z_bMany, .ref z_bPending, .ref z_bPendingKind, .ref z_bPendingBits, .int 0, .ref z_arrayFrom, .ref z_arraySize, .ref z_arrayTongue, .int 0, .ref z_cellKinds, .ref z_cellBits, .int 0, .int 0, .ref z_gTongue, .ref z_gWhat, .ref z_gKind, .ref z_gBits, .ref z_gPlace, .ref z_gFunction, .ref z_gHow, .ref z_gFrom, .ref z_gUnder, .ref z_lyingOnes, .ref z_lyingNext, .int 0, .int 0, .int 0, .int 0, .int 0, .ref z_markBits, .ref z_markTongues, .int 0, .int 0, .int 0, .int 0, .int 0, .int 0, .int 0, .int 0, .long 0, .int 0, .int 0, .long 0, .ref z_rules, .ref z_entryBorder, .ref z_entryWhat, .ref z_entryAs, .int 0, .ref z_defaults]))] s.heap.size = A at hD ⊢
  have hA : ∀ q : Nat, s.heap.size ≤ q → A q := fun q h => by rw [← hAe]; exact Or.inr h
  have hS : va_S A s.heap s.heap [] := va_S.rf
  have hl := lv_entry ([.ref h0, .int x1]) (n := 2) (Nat.le_of_ble_eq_true rfl)
  rw [lg_entry_eq]
  generalize (lg_sl ([.ref h0, .int x1]) ++ List.replicate (2 - (lg_sl ([.ref h0, .int x1])).length) Slot.unset).toArray = ls at hl ⊢
  have hl : lv_has ls 2 [(0, .ref h0), (1, .int x1)] := hl
  refine lv_aload_n hx hb dX12_mark_0 rfl (lv_at hl 0 rfl) ?_
  refine lv_iconst (v := 0) hx hb dX12_mark_1 (by decide) ?_
  refine va_put (D := (dC, dI)) (ci := 11) (v := .int 0) (ty := .int) (C := RX12) (T := TX12) (N := 106) hx hb hts in_wqX12_mark_RX12 tyX12 tyX12_ok nmX12 hown hK hP hD hS 0 rfl rfl 0 (by decide) (hts (.fieldLink RX12 200 "FourTonguesModel" "thrown" "I") (by decide +kernel)) (fun _ h9 => h9) rfl (by decide +kernel) rfl rfl (Nat.le_of_ble_eq_true rfl) dX12_mark_2 (fun H locs hP hD hS => ?_)
  have hP : va_P (dC, dI) vwCl [(h0, .inr (11, [.int 0, .ref z_tape, .int 0, .ref z_names, .int 12, .ref z_parents, .int 0, .int 0, .int 0, .int 0, .long 0, .int 0, .long 0, .int 0, .int 0, .int 0, .int 0, .int 0, .int 0, .ref z_ops, .ref z_args, .ref z_seconds, .int 0, .ref z_functionNames, .ref z_functionAt, .ref z_functionParams, .ref z_functionSlots, .ref z_functions, .ref z_newParents, .int 0, .ref z_slots, .int 0, .int 0, .ref z_overs, .int 0, .int 0, .long 0, .int 0, .ref z_waiting, .int 0, .int 0, .ref z_fTongue, .ref z_fFunction, .ref z_fPc, .ref z_fPlace, .ref z_fStack, .ref z_fBlocks, .int 0, .int 0, .ref z_varKinds, .ref z_varBits, .ref z_kinds, .ref z_bits, .int 0, .ref z_bKind, .ref z_bTo, .ref z_bWhat, .ref z_bMany, .ref z_bPending, .ref z_bPendingKind, .ref z_bPendingBits, .int 0, .ref z_arrayFrom, .ref z_arraySize, .ref z_arrayTongue, .int 0, .ref z_cellKinds, .ref z_cellBits, .int 0, .int 0, .ref z_gTongue, .ref z_gWhat, .ref z_gKind, .ref z_gBits, .ref z_gPlace, .ref z_gFunction, .ref z_gHow, .ref z_gFrom, .ref z_gUnder, .ref z_lyingOnes, .ref z_lyingNext, .int 0, .int 0, .int 0, .int 0, .int 0, .ref z_markBits, .ref z_markTongues, .int 0, .int 0, .int 0, .int 0, .int 0, .int 0, .int 0, .int 0, .long 0, .int 0, .int 0, .long 0, .ref z_rules, .ref z_entryBorder, .ref z_entryWhat, .ref z_entryAs, .int 0, .ref z_defaults]))] _ := hP
  have hD : va_D A [(h0, .inr (11, [.int 0, .ref z_tape, .int 0, .ref z_names, .int 12, .ref z_parents, .int 0, .int 0, .int 0, .int 0, .long 0, .int 0, .long 0, .int 0, .int 0, .int 0, .int 0, .int 0, .int 0, .ref z_ops, .ref z_args, .ref z_seconds, .int 0, .ref z_functionNames, .ref z_functionAt, .ref z_functionParams, .ref z_functionSlots, .ref z_functions, .ref z_newParents, .int 0, .ref z_slots, .int 0, .int 0, .ref z_overs, .int 0, .int 0, .long 0, .int 0, .ref z_waiting, .int 0, .int 0, .ref z_fTongue, .ref z_fFunction, .ref z_fPc, .ref z_fPlace, .ref z_fStack, .ref z_fBlocks, .int 0, .int 0, .ref z_varKinds, .ref z_varBits, .ref z_kinds, .ref z_bits, .int 0, .ref z_bKind, .ref z_bTo, .ref z_bWhat, .ref z_bMany, .ref z_bPending, .ref z_bPendingKind, .ref z_bPendingBits, .int 0, .ref z_arrayFrom, .ref z_arraySize, .ref z_arrayTongue, .int 0, .ref z_cellKinds, .ref z_cellBits, .int 0, .int 0, .ref z_gTongue, .ref z_gWhat, .ref z_gKind, .ref z_gBits, .ref z_gPlace, .ref z_gFunction, .ref z_gHow, .ref z_gFrom, .ref z_gUnder, .ref z_lyingOnes, .ref z_lyingNext, .int 0, .int 0, .int 0, .int 0, .int 0, .ref z_markBits, .ref z_markTongues, .int 0, .int 0, .int 0, .int 0, .int 0, .int 0, .int 0, .int 0, .long 0, .int 0, .int 0, .long 0, .ref z_rules, .ref z_entryBorder, .ref z_entryWhat, .ref z_entryAs, .int 0, .ref z_defaults]))] := hD
  refine lv_iload_n hx hb dX12_mark_5 rfl (lv_at hl 1 rfl) ?_
  refine lv_if_lt (tgt := 24) hx hb dX12_mark_6 (by decide) (fun c_6 => ?_) (fun c_6 => ?_)
  · refine lv_lconst (v := 0) hx hb dX12_mark_24 (by decide) ?_
    refine lv_goto (tgt := 34) hx hb dX12_mark_25 (by decide) ?_
    exact W.lret (v := 0) hx hb hr (fun t ht hW => ⟨⟨0, (), rfl, rfl, trivial⟩, hS.F ht⟩) hS.2.2 dX12_mark_34
  · refine lv_iload_n hx hb dX12_mark_9 rfl (lv_at hl 1 rfl) ?_
    refine lv_aload_n hx hb dX12_mark_10 rfl (lv_at hl 0 rfl) ?_
    refine va_get (D := (dC, dI)) (ci := 11) (v := .int 0) (C := RX12) (T := TX12) (N := 106) hx hb hts in_wqX12_mark_RX12 hown hK hP 0 rfl rfl 85 (by decide) (hts (.fieldLink RX12 708 "FourTonguesModel" "marks" "I") (by decide +kernel)) (fun _ h9 => h9) rfl dX12_mark_11 ?_
    refine lv_icmp_ge (tgt := 24) hx hb dX12_mark_14 (by decide) (fun c_14 => ?_) (fun c_14 => absurd (Int32.not_lt.mp c_6) c_14)
    refine lv_lconst (v := 0) hx hb dX12_mark_24 (by decide) ?_
    refine lv_goto (tgt := 34) hx hb dX12_mark_25 (by decide) ?_
    exact W.lret (v := 0) hx hb hr (fun t ht hW => ⟨⟨0, (), rfl, rfl, trivial⟩, hS.F ht⟩) hS.2.2 dX12_mark_34

def wqX12_markTongue : List Cond := .code yX12_markTongue cX12_markTongue 2 (some .int) :: (([.fieldLink RX12 200 "FourTonguesModel" "thrown" "I", .fieldLink RX12 708 "FourTonguesModel" "marks" "I"] : List Cond) ++ wsX120)
theorem in_wqX12_markTongue_RX12 : ∀ w ∈ u_ws RX12 TX12 106, w ∈ wqX12_markTongue := fun w h => (List.mem_cons_of_mem _ (List.mem_append_right _ h))
set_option maxHeartbeats 4000000 in
set_option maxRecDepth 100000 in
theorem c_X12_markTongue (l : Launch) (dC : Nat → ClassId) (dI : Nat → Nat → Nat) (sz : Nat) (h0 : Nat) (z_tape : Nat) (z_names : Nat) (z_parents : Nat) (z_ops : Nat) (z_args : Nat) (z_seconds : Nat) (z_functionNames : Nat) (z_functionAt : Nat) (z_functionParams : Nat) (z_functionSlots : Nat) (z_functions : Nat) (z_newParents : Nat) (z_slots : Nat) (z_overs : Nat) (z_waiting : Nat) (z_fTongue : Nat) (z_fFunction : Nat) (z_fPc : Nat) (z_fPlace : Nat) (z_fStack : Nat) (z_fBlocks : Nat) (z_varKinds : Nat) (z_varBits : Nat) (z_kinds : Nat) (z_bits : Nat) (z_bKind : Nat) (z_bTo : Nat) (z_bWhat : Nat) (z_bMany : Nat) (z_bPending : Nat) (z_bPendingKind : Nat) (z_bPendingBits : Nat) (z_arrayFrom : Nat) (z_arraySize : Nat) (z_arrayTongue : Nat) (z_cellKinds : Nat) (z_cellBits : Nat) (z_gTongue : Nat) (z_gWhat : Nat) (z_gKind : Nat) (z_gBits : Nat) (z_gPlace : Nat) (z_gFunction : Nat) (z_gHow : Nat) (z_gFrom : Nat) (z_gUnder : Nat) (z_lyingOnes : Nat) (z_lyingNext : Nat) (z_markBits : Nat) (z_markTongues : Nat) (z_rules : Nat) (z_entryBorder : Nat) (z_entryWhat : Nat) (z_entryAs : Nat) (z_defaults : Nat) (x1 : Int32) : Met l yX12_markTongue wqX12_markTongue ({ frames := 0, cells := 0, slots := 0, locals := 0 }) (va_Pc [.ref h0, .int x1] (fun U => xM (dC, dI) sz [(h0, .inr (11, [.int 0, .ref z_tape, .int 0, .ref z_names, .int 12, .ref z_parents, .int 0, .int 0, .int 0, .int 0, .long 0, .int 0, .long 0, .int 0, .int 0, .int 0, .int 0, .int 0, .int 0, .ref z_ops, .ref z_args, .ref z_seconds, .int 0, .ref z_functionNames, .ref z_functionAt, .ref z_functionParams, .ref z_functionSlots, .ref z_functions, .ref z_newParents, .int 0, .ref z_slots, .int 0, .int 0, .ref z_overs, .int 0, .int 0, .long 0, .int 0, .ref z_waiting, .int 0, .int 0, .ref z_fTongue, .ref z_fFunction, .ref z_fPc, .ref z_fPlace, .ref z_fStack, .ref z_fBlocks, .int 0, .int 0, .ref z_varKinds, .ref z_varBits, .ref z_kinds, .ref z_bits, .int 0, .ref z_bKind, .ref z_bTo, .ref z_bWhat, .ref z_bMany, .ref z_bPending, .ref z_bPendingKind, .ref z_bPendingBits, .int 0, .ref z_arrayFrom, .ref z_arraySize, .ref z_arrayTongue, .int 0, .ref z_cellKinds, .ref z_cellBits, .int 0, .int 0, .ref z_gTongue, .ref z_gWhat, .ref z_gKind, .ref z_gBits, .ref z_gPlace, .ref z_gFunction, .ref z_gHow, .ref z_gFrom, .ref z_gUnder, .ref z_lyingOnes, .ref z_lyingNext, .int 0, .int 0, .int 0, .int 0, .int 0, .ref z_markBits, .ref z_markTongues, .int 0, .int 0, .int 0, .int 0, .int 0, .int 0, .int 0, .int 0, .long 0, .int 0, .int 0, .long 0, .ref z_rules, .ref z_entryBorder, .ref z_entryWhat, .ref z_entryAs, .int 0, .ref z_defaults]))] [] U)) (va_Qi (fun (r : Int32) (_ : Unit) => r = -1) (fun (_ : Unit) _ => True) (va_A [(h0, .inr (11, [.int 0, .ref z_tape, .int 0, .ref z_names, .int 12, .ref z_parents, .int 0, .int 0, .int 0, .int 0, .long 0, .int 0, .long 0, .int 0, .int 0, .int 0, .int 0, .int 0, .int 0, .ref z_ops, .ref z_args, .ref z_seconds, .int 0, .ref z_functionNames, .ref z_functionAt, .ref z_functionParams, .ref z_functionSlots, .ref z_functions, .ref z_newParents, .int 0, .ref z_slots, .int 0, .int 0, .ref z_overs, .int 0, .int 0, .long 0, .int 0, .ref z_waiting, .int 0, .int 0, .ref z_fTongue, .ref z_fFunction, .ref z_fPc, .ref z_fPlace, .ref z_fStack, .ref z_fBlocks, .int 0, .int 0, .ref z_varKinds, .ref z_varBits, .ref z_kinds, .ref z_bits, .int 0, .ref z_bKind, .ref z_bTo, .ref z_bWhat, .ref z_bMany, .ref z_bPending, .ref z_bPendingKind, .ref z_bPendingBits, .int 0, .ref z_arrayFrom, .ref z_arraySize, .ref z_arrayTongue, .int 0, .ref z_cellKinds, .ref z_cellBits, .int 0, .int 0, .ref z_gTongue, .ref z_gWhat, .ref z_gKind, .ref z_gBits, .ref z_gPlace, .ref z_gFunction, .ref z_gHow, .ref z_gFrom, .ref z_gUnder, .ref z_lyingOnes, .ref z_lyingNext, .int 0, .int 0, .int 0, .int 0, .int 0, .ref z_markBits, .ref z_markTongues, .int 0, .int 0, .int 0, .int 0, .int 0, .int 0, .int 0, .int 0, .long 0, .int 0, .int 0, .long 0, .ref z_rules, .ref z_entryBorder, .ref z_entryWhat, .ref z_entryAs, .int 0, .ref z_defaults]))] sz)) 0 0 (va_A [(h0, .inr (11, [.int 0, .ref z_tape, .int 0, .ref z_names, .int 12, .ref z_parents, .int 0, .int 0, .int 0, .int 0, .long 0, .int 0, .long 0, .int 0, .int 0, .int 0, .int 0, .int 0, .int 0, .ref z_ops, .ref z_args, .ref z_seconds, .int 0, .ref z_functionNames, .ref z_functionAt, .ref z_functionParams, .ref z_functionSlots, .ref z_functions, .ref z_newParents, .int 0, .ref z_slots, .int 0, .int 0, .ref z_overs, .int 0, .int 0, .long 0, .int 0, .ref z_waiting, .int 0, .int 0, .ref z_fTongue, .ref z_fFunction, .ref z_fPc, .ref z_fPlace, .ref z_fStack, .ref z_fBlocks, .int 0, .int 0, .ref z_varKinds, .ref z_varBits, .ref z_kinds, .ref z_bits, .int 0, .ref z_bKind, .ref z_bTo, .ref z_bWhat, .ref z_bMany, .ref z_bPending, .ref z_bPendingKind, .ref z_bPendingBits, .int 0, .ref z_arrayFrom, .ref z_arraySize, .ref z_arrayTongue, .int 0, .ref z_cellKinds, .ref z_cellBits, .int 0, .int 0, .ref z_gTongue, .ref z_gWhat, .ref z_gKind, .ref z_gBits, .ref z_gPlace, .ref z_gFunction, .ref z_gHow, .ref z_gFrom, .ref z_gUnder, .ref z_lyingOnes, .ref z_lyingNext, .int 0, .int 0, .int 0, .int 0, .int 0, .ref z_markBits, .ref z_markTongues, .int 0, .int 0, .int 0, .int 0, .int 0, .int 0, .int 0, .int 0, .long 0, .int 0, .int 0, .long 0, .ref z_rules, .ref z_entryBorder, .ref z_entryWhat, .ref z_entryAs, .int 0, .ref z_defaults]))] sz) := by
  refine Met.ofW (cc := cX12_markTongue) (maxL := 2) (ret := (some .int)) (by decide) rfl ?_
  intro p e s m args below meth c s₁ B hml hv
  obtain ⟨rfl, hsz, hP, hK, hD0⟩ := hv
  have hx := B.exec
  have hb := B.bytes
  have hr := B.returns
  have hts := atoms_spec (ws := wqX12_markTongue) B.pre
  have hown : s.vm.findClass RX12 = some m.cls := findClass_of_methodNamed B.named
  have hlocks := B.notSynchronized
  subst hsz
  have hD := hD0.self (sz := s.heap.size)
  generalize hAe : va_A [(h0, .inr (11, [.int 0, .ref z_tape, .int 0, .ref z_names, .int 12, .ref z_parents, .int 0, .int 0, .int 0, .int 0, .long 0, .int 0, .long 0, .int 0, .int 0, .int 0, .int 0, .int 0, .int 0, .ref z_ops, .ref z_args, .ref z_seconds, .int 0, .ref z_functionNames, .ref z_functionAt, .ref z_functionParams, .ref z_functionSlots, .ref z_functions, .ref z_newParents, .int 0, .ref z_slots, .int 0, .int 0, .ref z_overs, .int 0, .int 0, .long 0, .int 0, .ref z_waiting, .int 0, .int 0, .ref z_fTongue, .ref z_fFunction, .ref z_fPc, .ref z_fPlace, .ref z_fStack, .ref z_fBlocks, .int 0, .int 0, .ref z_varKinds, .ref z_varBits, .ref z_kinds, .ref z_bits, .int 0, .ref z_bKind, .ref z_bTo, .ref z_bWhat, .ref z_bMany, .ref z_bPending, .ref z_bPendingKind, .ref z_bPendingBits, .int 0, .ref z_arrayFrom, .ref z_arraySize, .ref z_arrayTongue, .int 0, .ref z_cellKinds, .ref z_cellBits, .int 0, .int 0, .ref z_gTongue, .ref z_gWhat, .ref z_gKind, .ref z_gBits, .ref z_gPlace, .ref z_gFunction, .ref z_gHow, .ref z_gFrom, .ref z_gUnder, .ref z_lyingOnes, .ref z_lyingNext, .int 0, .int 0, .int 0, .int 0, .int 0, .ref z_markBits, .ref z_markTongues, .int 0, .int 0, .int 0, .int 0, .int 0, .int 0, .int 0, .int 0, .long 0, .int 0, .int 0, .long 0, .ref z_rules, .ref z_entryBorder, .ref z_entryWhat, .ref z_entryAs, .int 0, .ref z_defaults]))] s.heap.size = A at hD ⊢
  have hA : ∀ q : Nat, s.heap.size ≤ q → A q := fun q h => by rw [← hAe]; exact Or.inr h
  have hS : va_S A s.heap s.heap [] := va_S.rf
  have hl := lv_entry ([.ref h0, .int x1]) (n := 2) (Nat.le_of_ble_eq_true rfl)
  rw [lg_entry_eq]
  generalize (lg_sl ([.ref h0, .int x1]) ++ List.replicate (2 - (lg_sl ([.ref h0, .int x1])).length) Slot.unset).toArray = ls at hl ⊢
  have hl : lv_has ls 2 [(0, .ref h0), (1, .int x1)] := hl
  refine lv_aload_n hx hb dX12_markTongue_0 rfl (lv_at hl 0 rfl) ?_
  refine lv_iconst (v := 0) hx hb dX12_markTongue_1 (by decide) ?_
  refine va_put (D := (dC, dI)) (ci := 11) (v := .int 0) (ty := .int) (C := RX12) (T := TX12) (N := 106) hx hb hts in_wqX12_markTongue_RX12 tyX12 tyX12_ok nmX12 hown hK hP hD hS 0 rfl rfl 0 (by decide) (hts (.fieldLink RX12 200 "FourTonguesModel" "thrown" "I") (by decide +kernel)) (fun _ h9 => h9) rfl (by decide +kernel) rfl rfl (Nat.le_of_ble_eq_true rfl) dX12_markTongue_2 (fun H locs hP hD hS => ?_)
  have hP : va_P (dC, dI) vwCl [(h0, .inr (11, [.int 0, .ref z_tape, .int 0, .ref z_names, .int 12, .ref z_parents, .int 0, .int 0, .int 0, .int 0, .long 0, .int 0, .long 0, .int 0, .int 0, .int 0, .int 0, .int 0, .int 0, .ref z_ops, .ref z_args, .ref z_seconds, .int 0, .ref z_functionNames, .ref z_functionAt, .ref z_functionParams, .ref z_functionSlots, .ref z_functions, .ref z_newParents, .int 0, .ref z_slots, .int 0, .int 0, .ref z_overs, .int 0, .int 0, .long 0, .int 0, .ref z_waiting, .int 0, .int 0, .ref z_fTongue, .ref z_fFunction, .ref z_fPc, .ref z_fPlace, .ref z_fStack, .ref z_fBlocks, .int 0, .int 0, .ref z_varKinds, .ref z_varBits, .ref z_kinds, .ref z_bits, .int 0, .ref z_bKind, .ref z_bTo, .ref z_bWhat, .ref z_bMany, .ref z_bPending, .ref z_bPendingKind, .ref z_bPendingBits, .int 0, .ref z_arrayFrom, .ref z_arraySize, .ref z_arrayTongue, .int 0, .ref z_cellKinds, .ref z_cellBits, .int 0, .int 0, .ref z_gTongue, .ref z_gWhat, .ref z_gKind, .ref z_gBits, .ref z_gPlace, .ref z_gFunction, .ref z_gHow, .ref z_gFrom, .ref z_gUnder, .ref z_lyingOnes, .ref z_lyingNext, .int 0, .int 0, .int 0, .int 0, .int 0, .ref z_markBits, .ref z_markTongues, .int 0, .int 0, .int 0, .int 0, .int 0, .int 0, .int 0, .int 0, .long 0, .int 0, .int 0, .long 0, .ref z_rules, .ref z_entryBorder, .ref z_entryWhat, .ref z_entryAs, .int 0, .ref z_defaults]))] _ := hP
  have hD : va_D A [(h0, .inr (11, [.int 0, .ref z_tape, .int 0, .ref z_names, .int 12, .ref z_parents, .int 0, .int 0, .int 0, .int 0, .long 0, .int 0, .long 0, .int 0, .int 0, .int 0, .int 0, .int 0, .int 0, .ref z_ops, .ref z_args, .ref z_seconds, .int 0, .ref z_functionNames, .ref z_functionAt, .ref z_functionParams, .ref z_functionSlots, .ref z_functions, .ref z_newParents, .int 0, .ref z_slots, .int 0, .int 0, .ref z_overs, .int 0, .int 0, .long 0, .int 0, .ref z_waiting, .int 0, .int 0, .ref z_fTongue, .ref z_fFunction, .ref z_fPc, .ref z_fPlace, .ref z_fStack, .ref z_fBlocks, .int 0, .int 0, .ref z_varKinds, .ref z_varBits, .ref z_kinds, .ref z_bits, .int 0, .ref z_bKind, .ref z_bTo, .ref z_bWhat, .ref z_bMany, .ref z_bPending, .ref z_bPendingKind, .ref z_bPendingBits, .int 0, .ref z_arrayFrom, .ref z_arraySize, .ref z_arrayTongue, .int 0, .ref z_cellKinds, .ref z_cellBits, .int 0, .int 0, .ref z_gTongue, .ref z_gWhat, .ref z_gKind, .ref z_gBits, .ref z_gPlace, .ref z_gFunction, .ref z_gHow, .ref z_gFrom, .ref z_gUnder, .ref z_lyingOnes, .ref z_lyingNext, .int 0, .int 0, .int 0, .int 0, .int 0, .ref z_markBits, .ref z_markTongues, .int 0, .int 0, .int 0, .int 0, .int 0, .int 0, .int 0, .int 0, .long 0, .int 0, .int 0, .long 0, .ref z_rules, .ref z_entryBorder, .ref z_entryWhat, .ref z_entryAs, .int 0, .ref z_defaults]))] := hD
  refine lv_iload_n hx hb dX12_markTongue_5 rfl (lv_at hl 1 rfl) ?_
  refine lv_if_lt (tgt := 24) hx hb dX12_markTongue_6 (by decide) (fun c_6 => ?_) (fun c_6 => ?_)
  · refine lv_iconst (v := (-1)) hx hb dX12_markTongue_24 (by decide) ?_
    refine lv_goto (tgt := 34) hx hb dX12_markTongue_25 (by decide) ?_
    exact W.iret (v := (-1)) hx hb hr (fun t ht hW => ⟨⟨(-1), (), rfl, rfl, trivial⟩, hS.F ht⟩) hS.2.2 dX12_markTongue_34
  · refine lv_iload_n hx hb dX12_markTongue_9 rfl (lv_at hl 1 rfl) ?_
    refine lv_aload_n hx hb dX12_markTongue_10 rfl (lv_at hl 0 rfl) ?_
    refine va_get (D := (dC, dI)) (ci := 11) (v := .int 0) (C := RX12) (T := TX12) (N := 106) hx hb hts in_wqX12_markTongue_RX12 hown hK hP 0 rfl rfl 85 (by decide) (hts (.fieldLink RX12 708 "FourTonguesModel" "marks" "I") (by decide +kernel)) (fun _ h9 => h9) rfl dX12_markTongue_11 ?_
    refine lv_icmp_ge (tgt := 24) hx hb dX12_markTongue_14 (by decide) (fun c_14 => ?_) (fun c_14 => absurd (Int32.not_lt.mp c_6) c_14)
    refine lv_iconst (v := (-1)) hx hb dX12_markTongue_24 (by decide) ?_
    refine lv_goto (tgt := 34) hx hb dX12_markTongue_25 (by decide) ?_
    exact W.iret (v := (-1)) hx hb hr (fun t ht hW => ⟨⟨(-1), (), rfl, rfl, trivial⟩, hS.F ht⟩) hS.2.2 dX12_markTongue_34

def wqX12_failureAt : List Cond := .code yX12_failureAt cX12_failureAt 4 (some .int) :: (([.fieldLink RX12 786 "FourTonguesModel" "hasRun" "Z"] : List Cond) ++ wsX120)
theorem in_wqX12_failureAt_RX12 : ∀ w ∈ u_ws RX12 TX12 106, w ∈ wqX12_failureAt := fun w h => (List.mem_cons_of_mem _ (List.mem_append_right _ h))
set_option maxHeartbeats 4000000 in
set_option maxRecDepth 100000 in
theorem c_X12_failureAt (l : Launch) (dC : Nat → ClassId) (dI : Nat → Nat → Nat) (h0 : Nat) (z_tape : Nat) (z_names : Nat) (z_parents : Nat) (z_ops : Nat) (z_args : Nat) (z_seconds : Nat) (z_functionNames : Nat) (z_functionAt : Nat) (z_functionParams : Nat) (z_functionSlots : Nat) (z_functions : Nat) (z_newParents : Nat) (z_slots : Nat) (z_overs : Nat) (z_waiting : Nat) (z_fTongue : Nat) (z_fFunction : Nat) (z_fPc : Nat) (z_fPlace : Nat) (z_fStack : Nat) (z_fBlocks : Nat) (z_varKinds : Nat) (z_varBits : Nat) (z_kinds : Nat) (z_bits : Nat) (z_bKind : Nat) (z_bTo : Nat) (z_bWhat : Nat) (z_bMany : Nat) (z_bPending : Nat) (z_bPendingKind : Nat) (z_bPendingBits : Nat) (z_arrayFrom : Nat) (z_arraySize : Nat) (z_arrayTongue : Nat) (z_cellKinds : Nat) (z_cellBits : Nat) (z_gTongue : Nat) (z_gWhat : Nat) (z_gKind : Nat) (z_gBits : Nat) (z_gPlace : Nat) (z_gFunction : Nat) (z_gHow : Nat) (z_gFrom : Nat) (z_gUnder : Nat) (z_lyingOnes : Nat) (z_lyingNext : Nat) (z_markBits : Nat) (z_markTongues : Nat) (z_rules : Nat) (z_entryBorder : Nat) (z_entryWhat : Nat) (z_entryAs : Nat) (z_defaults : Nat) (x1 : Int32) : Met l yX12_failureAt wqX12_failureAt ({ frames := 0, cells := 0, slots := 0, locals := 0 }) (va_Pc [.ref h0, .int x1] (fun U => xR (dC, dI) [(h0, .inr (11, [.int 0, .ref z_tape, .int 0, .ref z_names, .int 12, .ref z_parents, .int 0, .int 0, .int 0, .int 0, .long 0, .int 0, .long 0, .int 0, .int 0, .int 0, .int 0, .int 0, .int 0, .ref z_ops, .ref z_args, .ref z_seconds, .int 0, .ref z_functionNames, .ref z_functionAt, .ref z_functionParams, .ref z_functionSlots, .ref z_functions, .ref z_newParents, .int 0, .ref z_slots, .int 0, .int 0, .ref z_overs, .int 0, .int 0, .long 0, .int 0, .ref z_waiting, .int 0, .int 0, .ref z_fTongue, .ref z_fFunction, .ref z_fPc, .ref z_fPlace, .ref z_fStack, .ref z_fBlocks, .int 0, .int 0, .ref z_varKinds, .ref z_varBits, .ref z_kinds, .ref z_bits, .int 0, .ref z_bKind, .ref z_bTo, .ref z_bWhat, .ref z_bMany, .ref z_bPending, .ref z_bPendingKind, .ref z_bPendingBits, .int 0, .ref z_arrayFrom, .ref z_arraySize, .ref z_arrayTongue, .int 0, .ref z_cellKinds, .ref z_cellBits, .int 0, .int 0, .ref z_gTongue, .ref z_gWhat, .ref z_gKind, .ref z_gBits, .ref z_gPlace, .ref z_gFunction, .ref z_gHow, .ref z_gFrom, .ref z_gUnder, .ref z_lyingOnes, .ref z_lyingNext, .int 0, .int 0, .int 0, .int 0, .int 0, .ref z_markBits, .ref z_markTongues, .int 0, .int 0, .int 0, .int 0, .int 0, .int 0, .int 0, .int 0, .long 0, .int 0, .int 0, .long 0, .ref z_rules, .ref z_entryBorder, .ref z_entryWhat, .ref z_entryAs, .int 0, .ref z_defaults]))] [] U)) (va_Qi (fun (r : Int32) (_ : Unit) => r = -1) (fun (_ : Unit) _ => True) (fun _ => False)) 0 0 (fun _ => False) := by
  refine Met.ofW (cc := cX12_failureAt) (maxL := 4) (ret := (some .int)) (by decide) rfl ?_
  intro p e s m args below meth c s₁ B hml hv
  obtain ⟨rfl, hP, hK⟩ := hv
  have hx := B.exec
  have hb := B.bytes
  have hr := B.returns
  have hts := atoms_spec (ws := wqX12_failureAt) B.pre
  have hown : s.vm.findClass RX12 = some m.cls := findClass_of_methodNamed B.named
  have hlocks := B.notSynchronized
  have hS : va_S (fun _ => False) s.heap s.heap [] := va_S.rf
  have hl := lv_entry ([.ref h0, .int x1]) (n := 4) (Nat.le_of_ble_eq_true rfl)
  rw [lg_entry_eq]
  generalize (lg_sl ([.ref h0, .int x1]) ++ List.replicate (4 - (lg_sl ([.ref h0, .int x1])).length) Slot.unset).toArray = ls at hl ⊢
  have hl : lv_has ls 4 [(0, .ref h0), (1, .int x1)] := hl
  refine lv_aload_n hx hb dX12_failureAt_0 rfl (lv_at hl 0 rfl) ?_
  refine va_get (D := (dC, dI)) (ci := 11) (v := .int 0) (C := RX12) (T := TX12) (N := 106) hx hb hts in_wqX12_failureAt_RX12 hown hK hP 0 rfl rfl 92 (by decide) (hts (.fieldLink RX12 786 "FourTonguesModel" "hasRun" "Z") (by decide +kernel)) (fun _ h9 => h9) rfl dX12_failureAt_1 ?_
  refine lv_if_eq (tgt := 11) hx hb dX12_failureAt_4 (by decide) (fun c_4 => ?_) (fun c_4 => absurd c_4 (by decide))
  refine lv_iconst (v := (-1)) hx hb dX12_failureAt_11 (by decide) ?_
  exact W.iret (v := (-1)) hx hb hr (fun t ht hW => ⟨⟨(-1), (), rfl, rfl, trivial⟩, hS.F ht⟩) hS.2.2 dX12_failureAt_12

def wqX12_told : List Cond := .code yX12_told cX12_told 3 (some .int) :: (([] : List Cond))
set_option maxHeartbeats 4000000 in
set_option maxRecDepth 100000 in
theorem c_X12_told (l : Launch) (dC : Nat → ClassId) (dI : Nat → Nat → Nat) (h0 : Nat) (z_tape : Nat) (z_names : Nat) (z_parents : Nat) (z_ops : Nat) (z_args : Nat) (z_seconds : Nat) (z_functionNames : Nat) (z_functionAt : Nat) (z_functionParams : Nat) (z_functionSlots : Nat) (z_functions : Nat) (z_newParents : Nat) (z_slots : Nat) (z_overs : Nat) (z_waiting : Nat) (z_fTongue : Nat) (z_fFunction : Nat) (z_fPc : Nat) (z_fPlace : Nat) (z_fStack : Nat) (z_fBlocks : Nat) (z_varKinds : Nat) (z_varBits : Nat) (z_kinds : Nat) (z_bits : Nat) (z_bKind : Nat) (z_bTo : Nat) (z_bWhat : Nat) (z_bMany : Nat) (z_bPending : Nat) (z_bPendingKind : Nat) (z_bPendingBits : Nat) (z_arrayFrom : Nat) (z_arraySize : Nat) (z_arrayTongue : Nat) (z_cellKinds : Nat) (z_cellBits : Nat) (z_gTongue : Nat) (z_gWhat : Nat) (z_gKind : Nat) (z_gBits : Nat) (z_gPlace : Nat) (z_gFunction : Nat) (z_gHow : Nat) (z_gFrom : Nat) (z_gUnder : Nat) (z_lyingOnes : Nat) (z_lyingNext : Nat) (z_markBits : Nat) (z_markTongues : Nat) (z_rules : Nat) (z_entryBorder : Nat) (z_entryWhat : Nat) (z_entryAs : Nat) (z_defaults : Nat) (x2 : Int32) : Met l yX12_told wqX12_told ({ frames := 0, cells := 0, slots := 0, locals := 0 }) (va_Pc [.ref h0, .int (-1), .int x2] (fun U => xR (dC, dI) [(h0, .inr (11, [.int 0, .ref z_tape, .int 0, .ref z_names, .int 12, .ref z_parents, .int 0, .int 0, .int 0, .int 0, .long 0, .int 0, .long 0, .int 0, .int 0, .int 0, .int 0, .int 0, .int 0, .ref z_ops, .ref z_args, .ref z_seconds, .int 0, .ref z_functionNames, .ref z_functionAt, .ref z_functionParams, .ref z_functionSlots, .ref z_functions, .ref z_newParents, .int 0, .ref z_slots, .int 0, .int 0, .ref z_overs, .int 0, .int 0, .long 0, .int 0, .ref z_waiting, .int 0, .int 0, .ref z_fTongue, .ref z_fFunction, .ref z_fPc, .ref z_fPlace, .ref z_fStack, .ref z_fBlocks, .int 0, .int 0, .ref z_varKinds, .ref z_varBits, .ref z_kinds, .ref z_bits, .int 0, .ref z_bKind, .ref z_bTo, .ref z_bWhat, .ref z_bMany, .ref z_bPending, .ref z_bPendingKind, .ref z_bPendingBits, .int 0, .ref z_arrayFrom, .ref z_arraySize, .ref z_arrayTongue, .int 0, .ref z_cellKinds, .ref z_cellBits, .int 0, .int 0, .ref z_gTongue, .ref z_gWhat, .ref z_gKind, .ref z_gBits, .ref z_gPlace, .ref z_gFunction, .ref z_gHow, .ref z_gFrom, .ref z_gUnder, .ref z_lyingOnes, .ref z_lyingNext, .int 0, .int 0, .int 0, .int 0, .int 0, .ref z_markBits, .ref z_markTongues, .int 0, .int 0, .int 0, .int 0, .int 0, .int 0, .int 0, .int 0, .long 0, .int 0, .int 0, .long 0, .ref z_rules, .ref z_entryBorder, .ref z_entryWhat, .ref z_entryAs, .int 0, .ref z_defaults]))] [] U)) (va_Qi (fun (r : Int32) (_ : Unit) => r = -1) (fun (_ : Unit) _ => True) (fun _ => False)) 0 0 (fun _ => False) := by
  refine Met.ofW (cc := cX12_told) (maxL := 3) (ret := (some .int)) (by decide) rfl ?_
  intro p e s m args below meth c s₁ B hml hv
  obtain ⟨rfl, hP, hK⟩ := hv
  have hx := B.exec
  have hb := B.bytes
  have hr := B.returns
  have hts := atoms_spec (ws := wqX12_told) B.pre
  have hown : s.vm.findClass RX12 = some m.cls := findClass_of_methodNamed B.named
  have hlocks := B.notSynchronized
  have hS : va_S (fun _ => False) s.heap s.heap [] := va_S.rf
  have hl := lv_entry ([.ref h0, .int (-1), .int x2]) (n := 3) (Nat.le_of_ble_eq_true rfl)
  rw [lg_entry_eq]
  generalize (lg_sl ([.ref h0, .int (-1), .int x2]) ++ List.replicate (3 - (lg_sl ([.ref h0, .int (-1), .int x2])).length) Slot.unset).toArray = ls at hl ⊢
  have hl : lv_has ls 3 [(0, .ref h0), (1, .int (-1)), (2, .int x2)] := hl
  refine lv_iload_n hx hb dX12_told_0 rfl (lv_at hl 1 rfl) ?_
  refine lv_iconst (v := (-1)) hx hb dX12_told_1 (by decide) ?_
  refine lv_icmp_ne (tgt := 7) hx hb dX12_told_2 (by decide) (fun c_2 => absurd c_2 (by decide)) (fun c_2 => ?_)
  refine lv_iconst (v := (-1)) hx hb dX12_told_5 (by decide) ?_
  exact W.iret (v := (-1)) hx hb hr (fun t ht hW => ⟨⟨(-1), (), rfl, rfl, trivial⟩, hS.F ht⟩) hS.2.2 dX12_told_6

def wqX12_failure : List Cond := .code yX12_failure cX12_failure 3 (some .int) :: (([.fieldLink RX12 200 "FourTonguesModel" "thrown" "I", .methodLink RX12 795 yX12_failureAt, .instanceMethod yX12_failureAt, .selects RX12 yX12_failureAt yX12_failureAt, .initialized RX12, .methodLink RX12 798 yX12_told, .instanceMethod yX12_told, .selects RX12 yX12_told yX12_told] : List Cond) ++ (wsX120 ++ (wqX12_failureAt ++ wqX12_told)))
theorem in_wqX12_failure_RX12 : ∀ w ∈ u_ws RX12 TX12 106, w ∈ wqX12_failure := fun w h => (List.mem_cons_of_mem _ (List.mem_append_right _ (List.mem_append_left _ h)))
set_option maxRecDepth 100000 in
theorem ggq_wqX12_failure_wqX12_failureAt : GoodIn wqX12_failure wqX12_failureAt := goodIn_sub (fun w h => (List.mem_cons_of_mem _ (List.mem_append_right _ (List.mem_append_right _ (List.mem_append_left _ h))))) (by decide +kernel)
set_option maxRecDepth 100000 in
theorem gq_wqX12_failure_wqX12_failureAt_795 : GoodIn wqX12_failure (wsV RX12 795 RX12 yX12_failureAt wqX12_failureAt) := goodIn_app (goodIn_of _ (by decide +kernel)) ggq_wqX12_failure_wqX12_failureAt
set_option maxRecDepth 100000 in
theorem ggq_wqX12_failure_wqX12_told : GoodIn wqX12_failure wqX12_told := goodIn_sub (fun w h => (List.mem_cons_of_mem _ (List.mem_append_right _ (List.mem_append_right _ (List.mem_append_right _ h))))) (by decide +kernel)
set_option maxRecDepth 100000 in
theorem gq_wqX12_failure_wqX12_told_798 : GoodIn wqX12_failure (wsV RX12 798 RX12 yX12_told wqX12_told) := goodIn_app (goodIn_of _ (by decide +kernel)) ggq_wqX12_failure_wqX12_told
set_option maxHeartbeats 4000000 in
set_option maxRecDepth 100000 in
theorem c_X12_failure (l : Launch) (dC : Nat → ClassId) (dI : Nat → Nat → Nat) (sz : Nat) (h0 : Nat) (z_tape : Nat) (z_names : Nat) (z_parents : Nat) (z_ops : Nat) (z_args : Nat) (z_seconds : Nat) (z_functionNames : Nat) (z_functionAt : Nat) (z_functionParams : Nat) (z_functionSlots : Nat) (z_functions : Nat) (z_newParents : Nat) (z_slots : Nat) (z_overs : Nat) (z_waiting : Nat) (z_fTongue : Nat) (z_fFunction : Nat) (z_fPc : Nat) (z_fPlace : Nat) (z_fStack : Nat) (z_fBlocks : Nat) (z_varKinds : Nat) (z_varBits : Nat) (z_kinds : Nat) (z_bits : Nat) (z_bKind : Nat) (z_bTo : Nat) (z_bWhat : Nat) (z_bMany : Nat) (z_bPending : Nat) (z_bPendingKind : Nat) (z_bPendingBits : Nat) (z_arrayFrom : Nat) (z_arraySize : Nat) (z_arrayTongue : Nat) (z_cellKinds : Nat) (z_cellBits : Nat) (z_gTongue : Nat) (z_gWhat : Nat) (z_gKind : Nat) (z_gBits : Nat) (z_gPlace : Nat) (z_gFunction : Nat) (z_gHow : Nat) (z_gFrom : Nat) (z_gUnder : Nat) (z_lyingOnes : Nat) (z_lyingNext : Nat) (z_markBits : Nat) (z_markTongues : Nat) (z_rules : Nat) (z_entryBorder : Nat) (z_entryWhat : Nat) (z_entryAs : Nat) (z_defaults : Nat) (x1 : Int32) (x2 : Int32) : Met l yX12_failure wqX12_failure ({ frames := 1, cells := 0, slots := 0, locals := 23 }) (va_Pc [.ref h0, .int x1, .int x2] (fun U => xM (dC, dI) sz [(h0, .inr (11, [.int 0, .ref z_tape, .int 0, .ref z_names, .int 12, .ref z_parents, .int 0, .int 0, .int 0, .int 0, .long 0, .int 0, .long 0, .int 0, .int 0, .int 0, .int 0, .int 0, .int 0, .ref z_ops, .ref z_args, .ref z_seconds, .int 0, .ref z_functionNames, .ref z_functionAt, .ref z_functionParams, .ref z_functionSlots, .ref z_functions, .ref z_newParents, .int 0, .ref z_slots, .int 0, .int 0, .ref z_overs, .int 0, .int 0, .long 0, .int 0, .ref z_waiting, .int 0, .int 0, .ref z_fTongue, .ref z_fFunction, .ref z_fPc, .ref z_fPlace, .ref z_fStack, .ref z_fBlocks, .int 0, .int 0, .ref z_varKinds, .ref z_varBits, .ref z_kinds, .ref z_bits, .int 0, .ref z_bKind, .ref z_bTo, .ref z_bWhat, .ref z_bMany, .ref z_bPending, .ref z_bPendingKind, .ref z_bPendingBits, .int 0, .ref z_arrayFrom, .ref z_arraySize, .ref z_arrayTongue, .int 0, .ref z_cellKinds, .ref z_cellBits, .int 0, .int 0, .ref z_gTongue, .ref z_gWhat, .ref z_gKind, .ref z_gBits, .ref z_gPlace, .ref z_gFunction, .ref z_gHow, .ref z_gFrom, .ref z_gUnder, .ref z_lyingOnes, .ref z_lyingNext, .int 0, .int 0, .int 0, .int 0, .int 0, .ref z_markBits, .ref z_markTongues, .int 0, .int 0, .int 0, .int 0, .int 0, .int 0, .int 0, .int 0, .long 0, .int 0, .int 0, .long 0, .ref z_rules, .ref z_entryBorder, .ref z_entryWhat, .ref z_entryAs, .int 0, .ref z_defaults]))] [] U)) (va_Qi (fun (r : Int32) (_ : Unit) => r = -1) (fun (_ : Unit) _ => True) (va_A [(h0, .inr (11, [.int 0, .ref z_tape, .int 0, .ref z_names, .int 12, .ref z_parents, .int 0, .int 0, .int 0, .int 0, .long 0, .int 0, .long 0, .int 0, .int 0, .int 0, .int 0, .int 0, .int 0, .ref z_ops, .ref z_args, .ref z_seconds, .int 0, .ref z_functionNames, .ref z_functionAt, .ref z_functionParams, .ref z_functionSlots, .ref z_functions, .ref z_newParents, .int 0, .ref z_slots, .int 0, .int 0, .ref z_overs, .int 0, .int 0, .long 0, .int 0, .ref z_waiting, .int 0, .int 0, .ref z_fTongue, .ref z_fFunction, .ref z_fPc, .ref z_fPlace, .ref z_fStack, .ref z_fBlocks, .int 0, .int 0, .ref z_varKinds, .ref z_varBits, .ref z_kinds, .ref z_bits, .int 0, .ref z_bKind, .ref z_bTo, .ref z_bWhat, .ref z_bMany, .ref z_bPending, .ref z_bPendingKind, .ref z_bPendingBits, .int 0, .ref z_arrayFrom, .ref z_arraySize, .ref z_arrayTongue, .int 0, .ref z_cellKinds, .ref z_cellBits, .int 0, .int 0, .ref z_gTongue, .ref z_gWhat, .ref z_gKind, .ref z_gBits, .ref z_gPlace, .ref z_gFunction, .ref z_gHow, .ref z_gFrom, .ref z_gUnder, .ref z_lyingOnes, .ref z_lyingNext, .int 0, .int 0, .int 0, .int 0, .int 0, .ref z_markBits, .ref z_markTongues, .int 0, .int 0, .int 0, .int 0, .int 0, .int 0, .int 0, .int 0, .long 0, .int 0, .int 0, .long 0, .ref z_rules, .ref z_entryBorder, .ref z_entryWhat, .ref z_entryAs, .int 0, .ref z_defaults]))] sz)) 0 0 (va_A [(h0, .inr (11, [.int 0, .ref z_tape, .int 0, .ref z_names, .int 12, .ref z_parents, .int 0, .int 0, .int 0, .int 0, .long 0, .int 0, .long 0, .int 0, .int 0, .int 0, .int 0, .int 0, .int 0, .ref z_ops, .ref z_args, .ref z_seconds, .int 0, .ref z_functionNames, .ref z_functionAt, .ref z_functionParams, .ref z_functionSlots, .ref z_functions, .ref z_newParents, .int 0, .ref z_slots, .int 0, .int 0, .ref z_overs, .int 0, .int 0, .long 0, .int 0, .ref z_waiting, .int 0, .int 0, .ref z_fTongue, .ref z_fFunction, .ref z_fPc, .ref z_fPlace, .ref z_fStack, .ref z_fBlocks, .int 0, .int 0, .ref z_varKinds, .ref z_varBits, .ref z_kinds, .ref z_bits, .int 0, .ref z_bKind, .ref z_bTo, .ref z_bWhat, .ref z_bMany, .ref z_bPending, .ref z_bPendingKind, .ref z_bPendingBits, .int 0, .ref z_arrayFrom, .ref z_arraySize, .ref z_arrayTongue, .int 0, .ref z_cellKinds, .ref z_cellBits, .int 0, .int 0, .ref z_gTongue, .ref z_gWhat, .ref z_gKind, .ref z_gBits, .ref z_gPlace, .ref z_gFunction, .ref z_gHow, .ref z_gFrom, .ref z_gUnder, .ref z_lyingOnes, .ref z_lyingNext, .int 0, .int 0, .int 0, .int 0, .int 0, .ref z_markBits, .ref z_markTongues, .int 0, .int 0, .int 0, .int 0, .int 0, .int 0, .int 0, .int 0, .long 0, .int 0, .int 0, .long 0, .ref z_rules, .ref z_entryBorder, .ref z_entryWhat, .ref z_entryAs, .int 0, .ref z_defaults]))] sz) := by
  refine Met.ofW (cc := cX12_failure) (maxL := 3) (ret := (some .int)) (by decide) rfl ?_
  intro p e s m args below meth c s₁ B hml hv
  obtain ⟨rfl, hsz, hP, hK, hD0⟩ := hv
  have hx := B.exec
  have hb := B.bytes
  have hr := B.returns
  have hts := atoms_spec (ws := wqX12_failure) B.pre
  have hown : s.vm.findClass RX12 = some m.cls := findClass_of_methodNamed B.named
  have hlocks := B.notSynchronized
  subst hsz
  have hD := hD0.self (sz := s.heap.size)
  generalize hAe : va_A [(h0, .inr (11, [.int 0, .ref z_tape, .int 0, .ref z_names, .int 12, .ref z_parents, .int 0, .int 0, .int 0, .int 0, .long 0, .int 0, .long 0, .int 0, .int 0, .int 0, .int 0, .int 0, .int 0, .ref z_ops, .ref z_args, .ref z_seconds, .int 0, .ref z_functionNames, .ref z_functionAt, .ref z_functionParams, .ref z_functionSlots, .ref z_functions, .ref z_newParents, .int 0, .ref z_slots, .int 0, .int 0, .ref z_overs, .int 0, .int 0, .long 0, .int 0, .ref z_waiting, .int 0, .int 0, .ref z_fTongue, .ref z_fFunction, .ref z_fPc, .ref z_fPlace, .ref z_fStack, .ref z_fBlocks, .int 0, .int 0, .ref z_varKinds, .ref z_varBits, .ref z_kinds, .ref z_bits, .int 0, .ref z_bKind, .ref z_bTo, .ref z_bWhat, .ref z_bMany, .ref z_bPending, .ref z_bPendingKind, .ref z_bPendingBits, .int 0, .ref z_arrayFrom, .ref z_arraySize, .ref z_arrayTongue, .int 0, .ref z_cellKinds, .ref z_cellBits, .int 0, .int 0, .ref z_gTongue, .ref z_gWhat, .ref z_gKind, .ref z_gBits, .ref z_gPlace, .ref z_gFunction, .ref z_gHow, .ref z_gFrom, .ref z_gUnder, .ref z_lyingOnes, .ref z_lyingNext, .int 0, .int 0, .int 0, .int 0, .int 0, .ref z_markBits, .ref z_markTongues, .int 0, .int 0, .int 0, .int 0, .int 0, .int 0, .int 0, .int 0, .long 0, .int 0, .int 0, .long 0, .ref z_rules, .ref z_entryBorder, .ref z_entryWhat, .ref z_entryAs, .int 0, .ref z_defaults]))] s.heap.size = A at hD ⊢
  have hA : ∀ q : Nat, s.heap.size ≤ q → A q := fun q h => by rw [← hAe]; exact Or.inr h
  have hS : va_S A s.heap s.heap [] := va_S.rf
  have hl := lv_entry ([.ref h0, .int x1, .int x2]) (n := 3) (Nat.le_of_ble_eq_true rfl)
  rw [lg_entry_eq]
  generalize (lg_sl ([.ref h0, .int x1, .int x2]) ++ List.replicate (3 - (lg_sl ([.ref h0, .int x1, .int x2])).length) Slot.unset).toArray = ls at hl ⊢
  have hl : lv_has ls 3 [(0, .ref h0), (1, .int x1), (2, .int x2)] := hl
  refine lv_aload_n hx hb dX12_failure_0 rfl (lv_at hl 0 rfl) ?_
  refine lv_iconst (v := 0) hx hb dX12_failure_1 (by decide) ?_
  refine va_put (D := (dC, dI)) (ci := 11) (v := .int 0) (ty := .int) (C := RX12) (T := TX12) (N := 106) hx hb hts in_wqX12_failure_RX12 tyX12 tyX12_ok nmX12 hown hK hP hD hS 0 rfl rfl 0 (by decide) (hts (.fieldLink RX12 200 "FourTonguesModel" "thrown" "I") (by decide +kernel)) (fun _ h9 => h9) rfl (by decide +kernel) rfl rfl (Nat.le_of_ble_eq_true rfl) dX12_failure_2 (fun H locs hP hD hS => ?_)
  have hP : va_P (dC, dI) vwCl [(h0, .inr (11, [.int 0, .ref z_tape, .int 0, .ref z_names, .int 12, .ref z_parents, .int 0, .int 0, .int 0, .int 0, .long 0, .int 0, .long 0, .int 0, .int 0, .int 0, .int 0, .int 0, .int 0, .ref z_ops, .ref z_args, .ref z_seconds, .int 0, .ref z_functionNames, .ref z_functionAt, .ref z_functionParams, .ref z_functionSlots, .ref z_functions, .ref z_newParents, .int 0, .ref z_slots, .int 0, .int 0, .ref z_overs, .int 0, .int 0, .long 0, .int 0, .ref z_waiting, .int 0, .int 0, .ref z_fTongue, .ref z_fFunction, .ref z_fPc, .ref z_fPlace, .ref z_fStack, .ref z_fBlocks, .int 0, .int 0, .ref z_varKinds, .ref z_varBits, .ref z_kinds, .ref z_bits, .int 0, .ref z_bKind, .ref z_bTo, .ref z_bWhat, .ref z_bMany, .ref z_bPending, .ref z_bPendingKind, .ref z_bPendingBits, .int 0, .ref z_arrayFrom, .ref z_arraySize, .ref z_arrayTongue, .int 0, .ref z_cellKinds, .ref z_cellBits, .int 0, .int 0, .ref z_gTongue, .ref z_gWhat, .ref z_gKind, .ref z_gBits, .ref z_gPlace, .ref z_gFunction, .ref z_gHow, .ref z_gFrom, .ref z_gUnder, .ref z_lyingOnes, .ref z_lyingNext, .int 0, .int 0, .int 0, .int 0, .int 0, .ref z_markBits, .ref z_markTongues, .int 0, .int 0, .int 0, .int 0, .int 0, .int 0, .int 0, .int 0, .long 0, .int 0, .int 0, .long 0, .ref z_rules, .ref z_entryBorder, .ref z_entryWhat, .ref z_entryAs, .int 0, .ref z_defaults]))] _ := hP
  have hD : va_D A [(h0, .inr (11, [.int 0, .ref z_tape, .int 0, .ref z_names, .int 12, .ref z_parents, .int 0, .int 0, .int 0, .int 0, .long 0, .int 0, .long 0, .int 0, .int 0, .int 0, .int 0, .int 0, .int 0, .ref z_ops, .ref z_args, .ref z_seconds, .int 0, .ref z_functionNames, .ref z_functionAt, .ref z_functionParams, .ref z_functionSlots, .ref z_functions, .ref z_newParents, .int 0, .ref z_slots, .int 0, .int 0, .ref z_overs, .int 0, .int 0, .long 0, .int 0, .ref z_waiting, .int 0, .int 0, .ref z_fTongue, .ref z_fFunction, .ref z_fPc, .ref z_fPlace, .ref z_fStack, .ref z_fBlocks, .int 0, .int 0, .ref z_varKinds, .ref z_varBits, .ref z_kinds, .ref z_bits, .int 0, .ref z_bKind, .ref z_bTo, .ref z_bWhat, .ref z_bMany, .ref z_bPending, .ref z_bPendingKind, .ref z_bPendingBits, .int 0, .ref z_arrayFrom, .ref z_arraySize, .ref z_arrayTongue, .int 0, .ref z_cellKinds, .ref z_cellBits, .int 0, .int 0, .ref z_gTongue, .ref z_gWhat, .ref z_gKind, .ref z_gBits, .ref z_gPlace, .ref z_gFunction, .ref z_gHow, .ref z_gFrom, .ref z_gUnder, .ref z_lyingOnes, .ref z_lyingNext, .int 0, .int 0, .int 0, .int 0, .int 0, .ref z_markBits, .ref z_markTongues, .int 0, .int 0, .int 0, .int 0, .int 0, .int 0, .int 0, .int 0, .long 0, .int 0, .int 0, .long 0, .ref z_rules, .ref z_entryBorder, .ref z_entryWhat, .ref z_entryAs, .int 0, .ref z_defaults]))] := hD
  refine lv_aload_n hx hb dX12_failure_5 rfl (lv_at hl 0 rfl) ?_
  refine lv_aload_n hx hb dX12_failure_6 rfl (lv_at hl 0 rfl) ?_
  refine lv_iload_n hx hb dX12_failure_7 rfl (lv_at hl 1 rfl) ?_
  refine va_calli (va_runV (As := [.int x1]) (rest := [.ref h0]) ⟨hx, hb, hml, hown, hts⟩ (c_X12_failureAt l dC dI h0 z_tape z_names z_parents z_ops z_args z_seconds z_functionNames z_functionAt z_functionParams z_functionSlots z_functions z_newParents z_slots z_overs z_waiting z_fTongue z_fFunction z_fPc z_fPlace z_fStack z_fBlocks z_varKinds z_varBits z_kinds z_bits z_bKind z_bTo z_bWhat z_bMany z_bPending z_bPendingKind z_bPendingBits z_arrayFrom z_arraySize z_arrayTongue z_cellKinds z_cellBits z_gTongue z_gWhat z_gKind z_gBits z_gPlace z_gFunction z_gHow z_gFrom z_gUnder z_lyingOnes z_lyingNext z_markBits z_markTongues z_rules z_entryBorder z_entryWhat z_entryAs z_defaults x1 ) (cwV 1 hts gq_wqX12_failure_wqX12_failureAt_795 rfl rfl rfl (by decide +kernel) ⟨Nat.le_of_ble_eq_true rfl, Nat.le_of_ble_eq_true rfl⟩) ⟨fb_R, va_recv hK hP (ci := 11) (q0 := 0) rfl rfl, fun U hU hW => ⟨rfl, xR.at (hP.sub (ws' := [(h0, .inr (11, [.int 0, .ref z_tape, .int 0, .ref z_names, .int 12, .ref z_parents, .int 0, .int 0, .int 0, .int 0, .long 0, .int 0, .long 0, .int 0, .int 0, .int 0, .int 0, .int 0, .int 0, .ref z_ops, .ref z_args, .ref z_seconds, .int 0, .ref z_functionNames, .ref z_functionAt, .ref z_functionParams, .ref z_functionSlots, .ref z_functions, .ref z_newParents, .int 0, .ref z_slots, .int 0, .int 0, .ref z_overs, .int 0, .int 0, .long 0, .int 0, .ref z_waiting, .int 0, .int 0, .ref z_fTongue, .ref z_fFunction, .ref z_fPc, .ref z_fPlace, .ref z_fStack, .ref z_fBlocks, .int 0, .int 0, .ref z_varKinds, .ref z_varBits, .ref z_kinds, .ref z_bits, .int 0, .ref z_bKind, .ref z_bTo, .ref z_bWhat, .ref z_bMany, .ref z_bPending, .ref z_bPendingKind, .ref z_bPendingBits, .int 0, .ref z_arrayFrom, .ref z_arraySize, .ref z_arrayTongue, .int 0, .ref z_cellKinds, .ref z_cellBits, .int 0, .int 0, .ref z_gTongue, .ref z_gWhat, .ref z_gKind, .ref z_gBits, .ref z_gPlace, .ref z_gFunction, .ref z_gHow, .ref z_gFrom, .ref z_gUnder, .ref z_lyingOnes, .ref z_lyingNext, .int 0, .int 0, .int 0, .int 0, .int 0, .ref z_markBits, .ref z_markTongues, .int 0, .int 0, .int 0, .int 0, .int 0, .int 0, .int 0, .int 0, .long 0, .int 0, .int 0, .long 0, .ref z_rules, .ref z_entryBorder, .ref z_entryWhat, .ref z_entryAs, .int 0, .ref z_defaults]))]) [0] rfl) (hK.sub (tys' := []) [] rfl) hU hW⟩⟩ rfl rfl hl.1 rfl (lv_room (Nat.le_of_ble_eq_true rfl)) dX12_failure_8 ⟨Nat.le_of_ble_eq_true rfl, Nat.le_of_ble_eq_true rfl⟩) hS (fun q _ h => h.elim) (fun q h => h.elim) (fun r_1 u t H locs ht hvm hw hB hz1 hk1 hS => ?_)
  have hw_2 := hw
  have hP := xR.keep hP hk1
  subst hw_2
  refine lv_iload_n hx hb dX12_failure_11 rfl (lv_at hl 2 rfl) ?_
  refine va_calli (va_runV (As := [.int (-1), .int x2]) (rest := []) ⟨hx, hb, hml, hown, hts⟩ (c_X12_told l dC dI h0 z_tape z_names z_parents z_ops z_args z_seconds z_functionNames z_functionAt z_functionParams z_functionSlots z_functions z_newParents z_slots z_overs z_waiting z_fTongue z_fFunction z_fPc z_fPlace z_fStack z_fBlocks z_varKinds z_varBits z_kinds z_bits z_bKind z_bTo z_bWhat z_bMany z_bPending z_bPendingKind z_bPendingBits z_arrayFrom z_arraySize z_arrayTongue z_cellKinds z_cellBits z_gTongue z_gWhat z_gKind z_gBits z_gPlace z_gFunction z_gHow z_gFrom z_gUnder z_lyingOnes z_lyingNext z_markBits z_markTongues z_rules z_entryBorder z_entryWhat z_entryAs z_defaults x2 ) (cwV 2 hts gq_wqX12_failure_wqX12_told_798 rfl rfl rfl (by decide +kernel) ⟨Nat.le_of_ble_eq_true rfl, Nat.le_of_ble_eq_true rfl⟩) ⟨fb_R, va_recv hK hP (ci := 11) (q0 := 0) rfl rfl, fun U hU hW => ⟨rfl, xR.at (hP.sub (ws' := [(h0, .inr (11, [.int 0, .ref z_tape, .int 0, .ref z_names, .int 12, .ref z_parents, .int 0, .int 0, .int 0, .int 0, .long 0, .int 0, .long 0, .int 0, .int 0, .int 0, .int 0, .int 0, .int 0, .ref z_ops, .ref z_args, .ref z_seconds, .int 0, .ref z_functionNames, .ref z_functionAt, .ref z_functionParams, .ref z_functionSlots, .ref z_functions, .ref z_newParents, .int 0, .ref z_slots, .int 0, .int 0, .ref z_overs, .int 0, .int 0, .long 0, .int 0, .ref z_waiting, .int 0, .int 0, .ref z_fTongue, .ref z_fFunction, .ref z_fPc, .ref z_fPlace, .ref z_fStack, .ref z_fBlocks, .int 0, .int 0, .ref z_varKinds, .ref z_varBits, .ref z_kinds, .ref z_bits, .int 0, .ref z_bKind, .ref z_bTo, .ref z_bWhat, .ref z_bMany, .ref z_bPending, .ref z_bPendingKind, .ref z_bPendingBits, .int 0, .ref z_arrayFrom, .ref z_arraySize, .ref z_arrayTongue, .int 0, .ref z_cellKinds, .ref z_cellBits, .int 0, .int 0, .ref z_gTongue, .ref z_gWhat, .ref z_gKind, .ref z_gBits, .ref z_gPlace, .ref z_gFunction, .ref z_gHow, .ref z_gFrom, .ref z_gUnder, .ref z_lyingOnes, .ref z_lyingNext, .int 0, .int 0, .int 0, .int 0, .int 0, .ref z_markBits, .ref z_markTongues, .int 0, .int 0, .int 0, .int 0, .int 0, .int 0, .int 0, .int 0, .long 0, .int 0, .int 0, .long 0, .ref z_rules, .ref z_entryBorder, .ref z_entryWhat, .ref z_entryAs, .int 0, .ref z_defaults]))]) [0] rfl) (hK.sub (tys' := []) [] rfl) hU hW⟩⟩ rfl rfl hl.1 rfl (lv_room (Nat.le_of_ble_eq_true rfl)) dX12_failure_12 ⟨Nat.le_of_ble_eq_true rfl, Nat.le_of_ble_eq_true rfl⟩) hS (fun q _ h => h.elim) (fun q h => h.elim) (fun r_3 u t H locs ht hvm hw hB hz1 hk1 hS => ?_)
  have hw_4 := hw
  have hP := xR.keep hP hk1
  subst hw_4
  exact W.iret (v := (-1)) hx hb hr (fun t ht hW => ⟨⟨(-1), (), rfl, rfl, trivial⟩, hS.F ht⟩) hS.2.2 dX12_failure_15

def wqX12_under : List Cond := .code yX12_under cX12_under 7 (some .int) :: (([.fieldLink RX12 200 "FourTonguesModel" "thrown" "I", .methodLink RX12 795 yX12_failureAt, .instanceMethod yX12_failureAt, .selects RX12 yX12_failureAt yX12_failureAt, .initialized RX12] : List Cond) ++ (wsX120 ++ wqX12_failureAt))
theorem in_wqX12_under_RX12 : ∀ w ∈ u_ws RX12 TX12 106, w ∈ wqX12_under := fun w h => (List.mem_cons_of_mem _ (List.mem_append_right _ (List.mem_append_left _ h)))
set_option maxRecDepth 100000 in
theorem ggq_wqX12_under_wqX12_failureAt : GoodIn wqX12_under wqX12_failureAt := goodIn_sub (fun w h => (List.mem_cons_of_mem _ (List.mem_append_right _ (List.mem_append_right _ h)))) (by decide +kernel)
set_option maxRecDepth 100000 in
theorem gq_wqX12_under_wqX12_failureAt_795 : GoodIn wqX12_under (wsV RX12 795 RX12 yX12_failureAt wqX12_failureAt) := goodIn_app (goodIn_of _ (by decide +kernel)) ggq_wqX12_under_wqX12_failureAt
set_option maxHeartbeats 4000000 in
set_option maxRecDepth 100000 in
theorem c_X12_under (l : Launch) (dC : Nat → ClassId) (dI : Nat → Nat → Nat) (sz : Nat) (h0 : Nat) (z_tape : Nat) (z_names : Nat) (z_parents : Nat) (z_ops : Nat) (z_args : Nat) (z_seconds : Nat) (z_functionNames : Nat) (z_functionAt : Nat) (z_functionParams : Nat) (z_functionSlots : Nat) (z_functions : Nat) (z_newParents : Nat) (z_slots : Nat) (z_overs : Nat) (z_waiting : Nat) (z_fTongue : Nat) (z_fFunction : Nat) (z_fPc : Nat) (z_fPlace : Nat) (z_fStack : Nat) (z_fBlocks : Nat) (z_varKinds : Nat) (z_varBits : Nat) (z_kinds : Nat) (z_bits : Nat) (z_bKind : Nat) (z_bTo : Nat) (z_bWhat : Nat) (z_bMany : Nat) (z_bPending : Nat) (z_bPendingKind : Nat) (z_bPendingBits : Nat) (z_arrayFrom : Nat) (z_arraySize : Nat) (z_arrayTongue : Nat) (z_cellKinds : Nat) (z_cellBits : Nat) (z_gTongue : Nat) (z_gWhat : Nat) (z_gKind : Nat) (z_gBits : Nat) (z_gPlace : Nat) (z_gFunction : Nat) (z_gHow : Nat) (z_gFrom : Nat) (z_gUnder : Nat) (z_lyingOnes : Nat) (z_lyingNext : Nat) (z_markBits : Nat) (z_markTongues : Nat) (z_rules : Nat) (z_entryBorder : Nat) (z_entryWhat : Nat) (z_entryAs : Nat) (z_defaults : Nat) (x1 : Int32) (x2 : Int32) (x3 : Int32) : Met l yX12_under wqX12_under ({ frames := 1, cells := 0, slots := 0, locals := 23 }) (va_Pc [.ref h0, .int x1, .int x2, .int x3] (fun U => xM (dC, dI) sz [(h0, .inr (11, [.int 0, .ref z_tape, .int 0, .ref z_names, .int 12, .ref z_parents, .int 0, .int 0, .int 0, .int 0, .long 0, .int 0, .long 0, .int 0, .int 0, .int 0, .int 0, .int 0, .int 0, .ref z_ops, .ref z_args, .ref z_seconds, .int 0, .ref z_functionNames, .ref z_functionAt, .ref z_functionParams, .ref z_functionSlots, .ref z_functions, .ref z_newParents, .int 0, .ref z_slots, .int 0, .int 0, .ref z_overs, .int 0, .int 0, .long 0, .int 0, .ref z_waiting, .int 0, .int 0, .ref z_fTongue, .ref z_fFunction, .ref z_fPc, .ref z_fPlace, .ref z_fStack, .ref z_fBlocks, .int 0, .int 0, .ref z_varKinds, .ref z_varBits, .ref z_kinds, .ref z_bits, .int 0, .ref z_bKind, .ref z_bTo, .ref z_bWhat, .ref z_bMany, .ref z_bPending, .ref z_bPendingKind, .ref z_bPendingBits, .int 0, .ref z_arrayFrom, .ref z_arraySize, .ref z_arrayTongue, .int 0, .ref z_cellKinds, .ref z_cellBits, .int 0, .int 0, .ref z_gTongue, .ref z_gWhat, .ref z_gKind, .ref z_gBits, .ref z_gPlace, .ref z_gFunction, .ref z_gHow, .ref z_gFrom, .ref z_gUnder, .ref z_lyingOnes, .ref z_lyingNext, .int 0, .int 0, .int 0, .int 0, .int 0, .ref z_markBits, .ref z_markTongues, .int 0, .int 0, .int 0, .int 0, .int 0, .int 0, .int 0, .int 0, .long 0, .int 0, .int 0, .long 0, .ref z_rules, .ref z_entryBorder, .ref z_entryWhat, .ref z_entryAs, .int 0, .ref z_defaults]))] [] U)) (va_Qi (fun (r : Int32) (_ : Unit) => r = -1) (fun (_ : Unit) _ => True) (va_A [(h0, .inr (11, [.int 0, .ref z_tape, .int 0, .ref z_names, .int 12, .ref z_parents, .int 0, .int 0, .int 0, .int 0, .long 0, .int 0, .long 0, .int 0, .int 0, .int 0, .int 0, .int 0, .int 0, .ref z_ops, .ref z_args, .ref z_seconds, .int 0, .ref z_functionNames, .ref z_functionAt, .ref z_functionParams, .ref z_functionSlots, .ref z_functions, .ref z_newParents, .int 0, .ref z_slots, .int 0, .int 0, .ref z_overs, .int 0, .int 0, .long 0, .int 0, .ref z_waiting, .int 0, .int 0, .ref z_fTongue, .ref z_fFunction, .ref z_fPc, .ref z_fPlace, .ref z_fStack, .ref z_fBlocks, .int 0, .int 0, .ref z_varKinds, .ref z_varBits, .ref z_kinds, .ref z_bits, .int 0, .ref z_bKind, .ref z_bTo, .ref z_bWhat, .ref z_bMany, .ref z_bPending, .ref z_bPendingKind, .ref z_bPendingBits, .int 0, .ref z_arrayFrom, .ref z_arraySize, .ref z_arrayTongue, .int 0, .ref z_cellKinds, .ref z_cellBits, .int 0, .int 0, .ref z_gTongue, .ref z_gWhat, .ref z_gKind, .ref z_gBits, .ref z_gPlace, .ref z_gFunction, .ref z_gHow, .ref z_gFrom, .ref z_gUnder, .ref z_lyingOnes, .ref z_lyingNext, .int 0, .int 0, .int 0, .int 0, .int 0, .ref z_markBits, .ref z_markTongues, .int 0, .int 0, .int 0, .int 0, .int 0, .int 0, .int 0, .int 0, .long 0, .int 0, .int 0, .long 0, .ref z_rules, .ref z_entryBorder, .ref z_entryWhat, .ref z_entryAs, .int 0, .ref z_defaults]))] sz)) 0 0 (va_A [(h0, .inr (11, [.int 0, .ref z_tape, .int 0, .ref z_names, .int 12, .ref z_parents, .int 0, .int 0, .int 0, .int 0, .long 0, .int 0, .long 0, .int 0, .int 0, .int 0, .int 0, .int 0, .int 0, .ref z_ops, .ref z_args, .ref z_seconds, .int 0, .ref z_functionNames, .ref z_functionAt, .ref z_functionParams, .ref z_functionSlots, .ref z_functions, .ref z_newParents, .int 0, .ref z_slots, .int 0, .int 0, .ref z_overs, .int 0, .int 0, .long 0, .int 0, .ref z_waiting, .int 0, .int 0, .ref z_fTongue, .ref z_fFunction, .ref z_fPc, .ref z_fPlace, .ref z_fStack, .ref z_fBlocks, .int 0, .int 0, .ref z_varKinds, .ref z_varBits, .ref z_kinds, .ref z_bits, .int 0, .ref z_bKind, .ref z_bTo, .ref z_bWhat, .ref z_bMany, .ref z_bPending, .ref z_bPendingKind, .ref z_bPendingBits, .int 0, .ref z_arrayFrom, .ref z_arraySize, .ref z_arrayTongue, .int 0, .ref z_cellKinds, .ref z_cellBits, .int 0, .int 0, .ref z_gTongue, .ref z_gWhat, .ref z_gKind, .ref z_gBits, .ref z_gPlace, .ref z_gFunction, .ref z_gHow, .ref z_gFrom, .ref z_gUnder, .ref z_lyingOnes, .ref z_lyingNext, .int 0, .int 0, .int 0, .int 0, .int 0, .ref z_markBits, .ref z_markTongues, .int 0, .int 0, .int 0, .int 0, .int 0, .int 0, .int 0, .int 0, .long 0, .int 0, .int 0, .long 0, .ref z_rules, .ref z_entryBorder, .ref z_entryWhat, .ref z_entryAs, .int 0, .ref z_defaults]))] sz) := by
  refine Met.ofW (cc := cX12_under) (maxL := 7) (ret := (some .int)) (by decide) rfl ?_
  intro p e s m args below meth c s₁ B hml hv
  obtain ⟨rfl, hsz, hP, hK, hD0⟩ := hv
  have hx := B.exec
  have hb := B.bytes
  have hr := B.returns
  have hts := atoms_spec (ws := wqX12_under) B.pre
  have hown : s.vm.findClass RX12 = some m.cls := findClass_of_methodNamed B.named
  have hlocks := B.notSynchronized
  subst hsz
  have hD := hD0.self (sz := s.heap.size)
  generalize hAe : va_A [(h0, .inr (11, [.int 0, .ref z_tape, .int 0, .ref z_names, .int 12, .ref z_parents, .int 0, .int 0, .int 0, .int 0, .long 0, .int 0, .long 0, .int 0, .int 0, .int 0, .int 0, .int 0, .int 0, .ref z_ops, .ref z_args, .ref z_seconds, .int 0, .ref z_functionNames, .ref z_functionAt, .ref z_functionParams, .ref z_functionSlots, .ref z_functions, .ref z_newParents, .int 0, .ref z_slots, .int 0, .int 0, .ref z_overs, .int 0, .int 0, .long 0, .int 0, .ref z_waiting, .int 0, .int 0, .ref z_fTongue, .ref z_fFunction, .ref z_fPc, .ref z_fPlace, .ref z_fStack, .ref z_fBlocks, .int 0, .int 0, .ref z_varKinds, .ref z_varBits, .ref z_kinds, .ref z_bits, .int 0, .ref z_bKind, .ref z_bTo, .ref z_bWhat, .ref z_bMany, .ref z_bPending, .ref z_bPendingKind, .ref z_bPendingBits, .int 0, .ref z_arrayFrom, .ref z_arraySize, .ref z_arrayTongue, .int 0, .ref z_cellKinds, .ref z_cellBits, .int 0, .int 0, .ref z_gTongue, .ref z_gWhat, .ref z_gKind, .ref z_gBits, .ref z_gPlace, .ref z_gFunction, .ref z_gHow, .ref z_gFrom, .ref z_gUnder, .ref z_lyingOnes, .ref z_lyingNext, .int 0, .int 0, .int 0, .int 0, .int 0, .ref z_markBits, .ref z_markTongues, .int 0, .int 0, .int 0, .int 0, .int 0, .int 0, .int 0, .int 0, .long 0, .int 0, .int 0, .long 0, .ref z_rules, .ref z_entryBorder, .ref z_entryWhat, .ref z_entryAs, .int 0, .ref z_defaults]))] s.heap.size = A at hD ⊢
  have hA : ∀ q : Nat, s.heap.size ≤ q → A q := fun q h => by rw [← hAe]; exact Or.inr h
  have hS : va_S A s.heap s.heap [] := va_S.rf
  have hl := lv_entry ([.ref h0, .int x1, .int x2, .int x3]) (n := 7) (Nat.le_of_ble_eq_true rfl)
  rw [lg_entry_eq]
  generalize (lg_sl ([.ref h0, .int x1, .int x2, .int x3]) ++ List.replicate (7 - (lg_sl ([.ref h0, .int x1, .int x2, .int x3])).length) Slot.unset).toArray = ls at hl ⊢
  have hl : lv_has ls 7 [(0, .ref h0), (1, .int x1), (2, .int x2), (3, .int x3)] := hl
  refine lv_aload_n hx hb dX12_under_0 rfl (lv_at hl 0 rfl) ?_
  refine lv_iconst (v := 0) hx hb dX12_under_1 (by decide) ?_
  refine va_put (D := (dC, dI)) (ci := 11) (v := .int 0) (ty := .int) (C := RX12) (T := TX12) (N := 106) hx hb hts in_wqX12_under_RX12 tyX12 tyX12_ok nmX12 hown hK hP hD hS 0 rfl rfl 0 (by decide) (hts (.fieldLink RX12 200 "FourTonguesModel" "thrown" "I") (by decide +kernel)) (fun _ h9 => h9) rfl (by decide +kernel) rfl rfl (Nat.le_of_ble_eq_true rfl) dX12_under_2 (fun H locs hP hD hS => ?_)
  have hP : va_P (dC, dI) vwCl [(h0, .inr (11, [.int 0, .ref z_tape, .int 0, .ref z_names, .int 12, .ref z_parents, .int 0, .int 0, .int 0, .int 0, .long 0, .int 0, .long 0, .int 0, .int 0, .int 0, .int 0, .int 0, .int 0, .ref z_ops, .ref z_args, .ref z_seconds, .int 0, .ref z_functionNames, .ref z_functionAt, .ref z_functionParams, .ref z_functionSlots, .ref z_functions, .ref z_newParents, .int 0, .ref z_slots, .int 0, .int 0, .ref z_overs, .int 0, .int 0, .long 0, .int 0, .ref z_waiting, .int 0, .int 0, .ref z_fTongue, .ref z_fFunction, .ref z_fPc, .ref z_fPlace, .ref z_fStack, .ref z_fBlocks, .int 0, .int 0, .ref z_varKinds, .ref z_varBits, .ref z_kinds, .ref z_bits, .int 0, .ref z_bKind, .ref z_bTo, .ref z_bWhat, .ref z_bMany, .ref z_bPending, .ref z_bPendingKind, .ref z_bPendingBits, .int 0, .ref z_arrayFrom, .ref z_arraySize, .ref z_arrayTongue, .int 0, .ref z_cellKinds, .ref z_cellBits, .int 0, .int 0, .ref z_gTongue, .ref z_gWhat, .ref z_gKind, .ref z_gBits, .ref z_gPlace, .ref z_gFunction, .ref z_gHow, .ref z_gFrom, .ref z_gUnder, .ref z_lyingOnes, .ref z_lyingNext, .int 0, .int 0, .int 0, .int 0, .int 0, .ref z_markBits, .ref z_markTongues, .int 0, .int 0, .int 0, .int 0, .int 0, .int 0, .int 0, .int 0, .long 0, .int 0, .int 0, .long 0, .ref z_rules, .ref z_entryBorder, .ref z_entryWhat, .ref z_entryAs, .int 0, .ref z_defaults]))] _ := hP
  have hD : va_D A [(h0, .inr (11, [.int 0, .ref z_tape, .int 0, .ref z_names, .int 12, .ref z_parents, .int 0, .int 0, .int 0, .int 0, .long 0, .int 0, .long 0, .int 0, .int 0, .int 0, .int 0, .int 0, .int 0, .ref z_ops, .ref z_args, .ref z_seconds, .int 0, .ref z_functionNames, .ref z_functionAt, .ref z_functionParams, .ref z_functionSlots, .ref z_functions, .ref z_newParents, .int 0, .ref z_slots, .int 0, .int 0, .ref z_overs, .int 0, .int 0, .long 0, .int 0, .ref z_waiting, .int 0, .int 0, .ref z_fTongue, .ref z_fFunction, .ref z_fPc, .ref z_fPlace, .ref z_fStack, .ref z_fBlocks, .int 0, .int 0, .ref z_varKinds, .ref z_varBits, .ref z_kinds, .ref z_bits, .int 0, .ref z_bKind, .ref z_bTo, .ref z_bWhat, .ref z_bMany, .ref z_bPending, .ref z_bPendingKind, .ref z_bPendingBits, .int 0, .ref z_arrayFrom, .ref z_arraySize, .ref z_arrayTongue, .int 0, .ref z_cellKinds, .ref z_cellBits, .int 0, .int 0, .ref z_gTongue, .ref z_gWhat, .ref z_gKind, .ref z_gBits, .ref z_gPlace, .ref z_gFunction, .ref z_gHow, .ref z_gFrom, .ref z_gUnder, .ref z_lyingOnes, .ref z_lyingNext, .int 0, .int 0, .int 0, .int 0, .int 0, .ref z_markBits, .ref z_markTongues, .int 0, .int 0, .int 0, .int 0, .int 0, .int 0, .int 0, .int 0, .long 0, .int 0, .int 0, .long 0, .ref z_rules, .ref z_entryBorder, .ref z_entryWhat, .ref z_entryAs, .int 0, .ref z_defaults]))] := hD
  refine lv_aload_n hx hb dX12_under_5 rfl (lv_at hl 0 rfl) ?_
  refine lv_iload_n hx hb dX12_under_6 rfl (lv_at hl 1 rfl) ?_
  refine va_calli (va_runV (As := [.int x1]) (rest := []) ⟨hx, hb, hml, hown, hts⟩ (c_X12_failureAt l dC dI h0 z_tape z_names z_parents z_ops z_args z_seconds z_functionNames z_functionAt z_functionParams z_functionSlots z_functions z_newParents z_slots z_overs z_waiting z_fTongue z_fFunction z_fPc z_fPlace z_fStack z_fBlocks z_varKinds z_varBits z_kinds z_bits z_bKind z_bTo z_bWhat z_bMany z_bPending z_bPendingKind z_bPendingBits z_arrayFrom z_arraySize z_arrayTongue z_cellKinds z_cellBits z_gTongue z_gWhat z_gKind z_gBits z_gPlace z_gFunction z_gHow z_gFrom z_gUnder z_lyingOnes z_lyingNext z_markBits z_markTongues z_rules z_entryBorder z_entryWhat z_entryAs z_defaults x1 ) (cwV 1 hts gq_wqX12_under_wqX12_failureAt_795 rfl rfl rfl (by decide +kernel) ⟨Nat.le_of_ble_eq_true rfl, Nat.le_of_ble_eq_true rfl⟩) ⟨fb_R, va_recv hK hP (ci := 11) (q0 := 0) rfl rfl, fun U hU hW => ⟨rfl, xR.at (hP.sub (ws' := [(h0, .inr (11, [.int 0, .ref z_tape, .int 0, .ref z_names, .int 12, .ref z_parents, .int 0, .int 0, .int 0, .int 0, .long 0, .int 0, .long 0, .int 0, .int 0, .int 0, .int 0, .int 0, .int 0, .ref z_ops, .ref z_args, .ref z_seconds, .int 0, .ref z_functionNames, .ref z_functionAt, .ref z_functionParams, .ref z_functionSlots, .ref z_functions, .ref z_newParents, .int 0, .ref z_slots, .int 0, .int 0, .ref z_overs, .int 0, .int 0, .long 0, .int 0, .ref z_waiting, .int 0, .int 0, .ref z_fTongue, .ref z_fFunction, .ref z_fPc, .ref z_fPlace, .ref z_fStack, .ref z_fBlocks, .int 0, .int 0, .ref z_varKinds, .ref z_varBits, .ref z_kinds, .ref z_bits, .int 0, .ref z_bKind, .ref z_bTo, .ref z_bWhat, .ref z_bMany, .ref z_bPending, .ref z_bPendingKind, .ref z_bPendingBits, .int 0, .ref z_arrayFrom, .ref z_arraySize, .ref z_arrayTongue, .int 0, .ref z_cellKinds, .ref z_cellBits, .int 0, .int 0, .ref z_gTongue, .ref z_gWhat, .ref z_gKind, .ref z_gBits, .ref z_gPlace, .ref z_gFunction, .ref z_gHow, .ref z_gFrom, .ref z_gUnder, .ref z_lyingOnes, .ref z_lyingNext, .int 0, .int 0, .int 0, .int 0, .int 0, .ref z_markBits, .ref z_markTongues, .int 0, .int 0, .int 0, .int 0, .int 0, .int 0, .int 0, .int 0, .long 0, .int 0, .int 0, .long 0, .ref z_rules, .ref z_entryBorder, .ref z_entryWhat, .ref z_entryAs, .int 0, .ref z_defaults]))]) [0] rfl) (hK.sub (tys' := []) [] rfl) hU hW⟩⟩ rfl rfl hl.1 rfl (lv_room (Nat.le_of_ble_eq_true rfl)) dX12_under_7 ⟨Nat.le_of_ble_eq_true rfl, Nat.le_of_ble_eq_true rfl⟩) hS (fun q _ h => h.elim) (fun q h => h.elim) (fun r_1 u t H locs ht hvm hw hB hz1 hk1 hS => ?_)
  have hw_2 := hw
  have hP := xR.keep hP hk1
  subst hw_2
  refine lv_istore (lv' := [(4, .int (-1)), (0, .ref h0), (1, .int x1), (2, .int x2), (3, .int x3)]) hx hb dX12_under_10 hl (by decide) rfl (fun ls hl => ?_)
  refine lv_iload hx hb dX12_under_12 (lv_at hl 0 rfl) ?_
  refine lv_iconst (v := (-1)) hx hb dX12_under_14 (by decide) ?_
  refine lv_icmp_eq (tgt := 22) hx hb dX12_under_15 (by decide) (fun c_15 => ?_) (fun c_15 => absurd c_15 (by decide))
  refine lv_iconst (v := (-1)) hx hb dX12_under_22 (by decide) ?_
  exact W.iret (v := (-1)) hx hb hr (fun t ht hW => ⟨⟨(-1), (), rfl, rfl, trivial⟩, hS.F ht⟩) hS.2.2 dX12_under_23

def wqX12_rule : List Cond := .code yX12_rule cX12_rule 4 (some .boolean) :: (([.fieldLink RX12 200 "FourTonguesModel" "thrown" "I", .fieldLink RX12 163 "FourTonguesModel" "rules" "[I"] : List Cond) ++ wsX120)
theorem in_wqX12_rule_RX12 : ∀ w ∈ u_ws RX12 TX12 106, w ∈ wqX12_rule := fun w h => (List.mem_cons_of_mem _ (List.mem_append_right _ h))
set_option maxHeartbeats 4000000 in
set_option maxRecDepth 100000 in
theorem c_X12_rule (l : Launch) (dC : Nat → ClassId) (dI : Nat → Nat → Nat) (sz : Nat) (h0 : Nat) (z_tape : Nat) (z_names : Nat) (z_parents : Nat) (z_ops : Nat) (z_args : Nat) (z_seconds : Nat) (z_functionNames : Nat) (z_functionAt : Nat) (z_functionParams : Nat) (z_functionSlots : Nat) (z_functions : Nat) (z_newParents : Nat) (z_slots : Nat) (z_overs : Nat) (z_waiting : Nat) (z_fTongue : Nat) (z_fFunction : Nat) (z_fPc : Nat) (z_fPlace : Nat) (z_fStack : Nat) (z_fBlocks : Nat) (z_varKinds : Nat) (z_varBits : Nat) (z_kinds : Nat) (z_bits : Nat) (z_bKind : Nat) (z_bTo : Nat) (z_bWhat : Nat) (z_bMany : Nat) (z_bPending : Nat) (z_bPendingKind : Nat) (z_bPendingBits : Nat) (z_arrayFrom : Nat) (z_arraySize : Nat) (z_arrayTongue : Nat) (z_cellKinds : Nat) (z_cellBits : Nat) (z_gTongue : Nat) (z_gWhat : Nat) (z_gKind : Nat) (z_gBits : Nat) (z_gPlace : Nat) (z_gFunction : Nat) (z_gHow : Nat) (z_gFrom : Nat) (z_gUnder : Nat) (z_lyingOnes : Nat) (z_lyingNext : Nat) (z_markBits : Nat) (z_markTongues : Nat) (z_rules : Nat) (z_entryBorder : Nat) (z_entryWhat : Nat) (z_entryAs : Nat) (z_defaults : Nat) (c_z_rules : ClassId) (f_rules : Nat → Int32) (x1 : Int32) (x2 : Int32) (x3 : Int32) : Met l yX12_rule wqX12_rule ({ frames := 0, cells := 0, slots := 0, locals := 0 }) (va_Pc [.ref h0, .int x1, .int x2, .int x3] (fun U => xM (dC, dI) sz [(h0, .inr (11, [.int 0, .ref z_tape, .int 0, .ref z_names, .int 12, .ref z_parents, .int 0, .int 0, .int 0, .int 0, .long 0, .int 0, .long 0, .int 0, .int 0, .int 0, .int 0, .int 0, .int 0, .ref z_ops, .ref z_args, .ref z_seconds, .int 0, .ref z_functionNames, .ref z_functionAt, .ref z_functionParams, .ref z_functionSlots, .ref z_functions, .ref z_newParents, .int 0, .ref z_slots, .int 0, .int 0, .ref z_overs, .int 0, .int 0, .long 0, .int 0, .ref z_waiting, .int 0, .int 0, .ref z_fTongue, .ref z_fFunction, .ref z_fPc, .ref z_fPlace, .ref z_fStack, .ref z_fBlocks, .int 0, .int 0, .ref z_varKinds, .ref z_varBits, .ref z_kinds, .ref z_bits, .int 0, .ref z_bKind, .ref z_bTo, .ref z_bWhat, .ref z_bMany, .ref z_bPending, .ref z_bPendingKind, .ref z_bPendingBits, .int 0, .ref z_arrayFrom, .ref z_arraySize, .ref z_arrayTongue, .int 0, .ref z_cellKinds, .ref z_cellBits, .int 0, .int 0, .ref z_gTongue, .ref z_gWhat, .ref z_gKind, .ref z_gBits, .ref z_gPlace, .ref z_gFunction, .ref z_gHow, .ref z_gFrom, .ref z_gUnder, .ref z_lyingOnes, .ref z_lyingNext, .int 0, .int 0, .int 0, .int 0, .int 0, .ref z_markBits, .ref z_markTongues, .int 0, .int 0, .int 0, .int 0, .int 0, .int 0, .int 0, .int 0, .long 0, .int 0, .int 0, .long 0, .ref z_rules, .ref z_entryBorder, .ref z_entryWhat, .ref z_entryAs, .int 0, .ref z_defaults])), (z_rules, .inl (c_z_rules, 16, .inl f_rules))] [(c_z_rules, .int)] U)) (va_Qi (fun (r : Int32) (_ : Unit) => (rlC x1 x2 x3 ∧ r = 0) ∨ (¬ rlC x1 x2 x3 ∧ r = 1)) (fun (_ : Unit) _ => True) (va_A [(h0, .inr (11, [.int 0, .ref z_tape, .int 0, .ref z_names, .int 12, .ref z_parents, .int 0, .int 0, .int 0, .int 0, .long 0, .int 0, .long 0, .int 0, .int 0, .int 0, .int 0, .int 0, .int 0, .ref z_ops, .ref z_args, .ref z_seconds, .int 0, .ref z_functionNames, .ref z_functionAt, .ref z_functionParams, .ref z_functionSlots, .ref z_functions, .ref z_newParents, .int 0, .ref z_slots, .int 0, .int 0, .ref z_overs, .int 0, .int 0, .long 0, .int 0, .ref z_waiting, .int 0, .int 0, .ref z_fTongue, .ref z_fFunction, .ref z_fPc, .ref z_fPlace, .ref z_fStack, .ref z_fBlocks, .int 0, .int 0, .ref z_varKinds, .ref z_varBits, .ref z_kinds, .ref z_bits, .int 0, .ref z_bKind, .ref z_bTo, .ref z_bWhat, .ref z_bMany, .ref z_bPending, .ref z_bPendingKind, .ref z_bPendingBits, .int 0, .ref z_arrayFrom, .ref z_arraySize, .ref z_arrayTongue, .int 0, .ref z_cellKinds, .ref z_cellBits, .int 0, .int 0, .ref z_gTongue, .ref z_gWhat, .ref z_gKind, .ref z_gBits, .ref z_gPlace, .ref z_gFunction, .ref z_gHow, .ref z_gFrom, .ref z_gUnder, .ref z_lyingOnes, .ref z_lyingNext, .int 0, .int 0, .int 0, .int 0, .int 0, .ref z_markBits, .ref z_markTongues, .int 0, .int 0, .int 0, .int 0, .int 0, .int 0, .int 0, .int 0, .long 0, .int 0, .int 0, .long 0, .ref z_rules, .ref z_entryBorder, .ref z_entryWhat, .ref z_entryAs, .int 0, .ref z_defaults])), (z_rules, .inl (c_z_rules, 16, .inl f_rules))] sz)) 0 0 (va_A [(h0, .inr (11, [.int 0, .ref z_tape, .int 0, .ref z_names, .int 12, .ref z_parents, .int 0, .int 0, .int 0, .int 0, .long 0, .int 0, .long 0, .int 0, .int 0, .int 0, .int 0, .int 0, .int 0, .ref z_ops, .ref z_args, .ref z_seconds, .int 0, .ref z_functionNames, .ref z_functionAt, .ref z_functionParams, .ref z_functionSlots, .ref z_functions, .ref z_newParents, .int 0, .ref z_slots, .int 0, .int 0, .ref z_overs, .int 0, .int 0, .long 0, .int 0, .ref z_waiting, .int 0, .int 0, .ref z_fTongue, .ref z_fFunction, .ref z_fPc, .ref z_fPlace, .ref z_fStack, .ref z_fBlocks, .int 0, .int 0, .ref z_varKinds, .ref z_varBits, .ref z_kinds, .ref z_bits, .int 0, .ref z_bKind, .ref z_bTo, .ref z_bWhat, .ref z_bMany, .ref z_bPending, .ref z_bPendingKind, .ref z_bPendingBits, .int 0, .ref z_arrayFrom, .ref z_arraySize, .ref z_arrayTongue, .int 0, .ref z_cellKinds, .ref z_cellBits, .int 0, .int 0, .ref z_gTongue, .ref z_gWhat, .ref z_gKind, .ref z_gBits, .ref z_gPlace, .ref z_gFunction, .ref z_gHow, .ref z_gFrom, .ref z_gUnder, .ref z_lyingOnes, .ref z_lyingNext, .int 0, .int 0, .int 0, .int 0, .int 0, .ref z_markBits, .ref z_markTongues, .int 0, .int 0, .int 0, .int 0, .int 0, .int 0, .int 0, .int 0, .long 0, .int 0, .int 0, .long 0, .ref z_rules, .ref z_entryBorder, .ref z_entryWhat, .ref z_entryAs, .int 0, .ref z_defaults])), (z_rules, .inl (c_z_rules, 16, .inl f_rules))] sz) := by
  refine Met.ofW (cc := cX12_rule) (maxL := 4) (ret := (some .boolean)) (by decide) rfl ?_
  intro p e s m args below meth c s₁ B hml hv
  obtain ⟨rfl, hsz, hP, hK, hD0⟩ := hv
  have hx := B.exec
  have hb := B.bytes
  have hr := B.returns
  have hts := atoms_spec (ws := wqX12_rule) B.pre
  have hown : s.vm.findClass RX12 = some m.cls := findClass_of_methodNamed B.named
  have hlocks := B.notSynchronized
  subst hsz
  have hD := hD0.self (sz := s.heap.size)
  generalize hAe : va_A [(h0, .inr (11, [.int 0, .ref z_tape, .int 0, .ref z_names, .int 12, .ref z_parents, .int 0, .int 0, .int 0, .int 0, .long 0, .int 0, .long 0, .int 0, .int 0, .int 0, .int 0, .int 0, .int 0, .ref z_ops, .ref z_args, .ref z_seconds, .int 0, .ref z_functionNames, .ref z_functionAt, .ref z_functionParams, .ref z_functionSlots, .ref z_functions, .ref z_newParents, .int 0, .ref z_slots, .int 0, .int 0, .ref z_overs, .int 0, .int 0, .long 0, .int 0, .ref z_waiting, .int 0, .int 0, .ref z_fTongue, .ref z_fFunction, .ref z_fPc, .ref z_fPlace, .ref z_fStack, .ref z_fBlocks, .int 0, .int 0, .ref z_varKinds, .ref z_varBits, .ref z_kinds, .ref z_bits, .int 0, .ref z_bKind, .ref z_bTo, .ref z_bWhat, .ref z_bMany, .ref z_bPending, .ref z_bPendingKind, .ref z_bPendingBits, .int 0, .ref z_arrayFrom, .ref z_arraySize, .ref z_arrayTongue, .int 0, .ref z_cellKinds, .ref z_cellBits, .int 0, .int 0, .ref z_gTongue, .ref z_gWhat, .ref z_gKind, .ref z_gBits, .ref z_gPlace, .ref z_gFunction, .ref z_gHow, .ref z_gFrom, .ref z_gUnder, .ref z_lyingOnes, .ref z_lyingNext, .int 0, .int 0, .int 0, .int 0, .int 0, .ref z_markBits, .ref z_markTongues, .int 0, .int 0, .int 0, .int 0, .int 0, .int 0, .int 0, .int 0, .long 0, .int 0, .int 0, .long 0, .ref z_rules, .ref z_entryBorder, .ref z_entryWhat, .ref z_entryAs, .int 0, .ref z_defaults])), (z_rules, .inl (c_z_rules, 16, .inl f_rules))] s.heap.size = A at hD ⊢
  have hA : ∀ q : Nat, s.heap.size ≤ q → A q := fun q h => by rw [← hAe]; exact Or.inr h
  have hS : va_S A s.heap s.heap [] := va_S.rf
  have hl := lv_entry ([.ref h0, .int x1, .int x2, .int x3]) (n := 4) (Nat.le_of_ble_eq_true rfl)
  rw [lg_entry_eq]
  generalize (lg_sl ([.ref h0, .int x1, .int x2, .int x3]) ++ List.replicate (4 - (lg_sl ([.ref h0, .int x1, .int x2, .int x3])).length) Slot.unset).toArray = ls at hl ⊢
  have hl : lv_has ls 4 [(0, .ref h0), (1, .int x1), (2, .int x2), (3, .int x3)] := hl
  refine lv_aload_n hx hb dX12_rule_0 rfl (lv_at hl 0 rfl) ?_
  refine lv_iconst (v := 0) hx hb dX12_rule_1 (by decide) ?_
  refine va_put (D := (dC, dI)) (ci := 11) (v := .int 0) (ty := .int) (C := RX12) (T := TX12) (N := 106) hx hb hts in_wqX12_rule_RX12 tyX12 tyX12_ok nmX12 hown hK hP hD hS 0 rfl rfl 0 (by decide) (hts (.fieldLink RX12 200 "FourTonguesModel" "thrown" "I") (by decide +kernel)) (fun _ h9 => h9) rfl (by decide +kernel) rfl rfl (Nat.le_of_ble_eq_true rfl) dX12_rule_2 (fun H locs hP hD hS => ?_)
  have hP : va_P (dC, dI) vwCl [(h0, .inr (11, [.int 0, .ref z_tape, .int 0, .ref z_names, .int 12, .ref z_parents, .int 0, .int 0, .int 0, .int 0, .long 0, .int 0, .long 0, .int 0, .int 0, .int 0, .int 0, .int 0, .int 0, .ref z_ops, .ref z_args, .ref z_seconds, .int 0, .ref z_functionNames, .ref z_functionAt, .ref z_functionParams, .ref z_functionSlots, .ref z_functions, .ref z_newParents, .int 0, .ref z_slots, .int 0, .int 0, .ref z_overs, .int 0, .int 0, .long 0, .int 0, .ref z_waiting, .int 0, .int 0, .ref z_fTongue, .ref z_fFunction, .ref z_fPc, .ref z_fPlace, .ref z_fStack, .ref z_fBlocks, .int 0, .int 0, .ref z_varKinds, .ref z_varBits, .ref z_kinds, .ref z_bits, .int 0, .ref z_bKind, .ref z_bTo, .ref z_bWhat, .ref z_bMany, .ref z_bPending, .ref z_bPendingKind, .ref z_bPendingBits, .int 0, .ref z_arrayFrom, .ref z_arraySize, .ref z_arrayTongue, .int 0, .ref z_cellKinds, .ref z_cellBits, .int 0, .int 0, .ref z_gTongue, .ref z_gWhat, .ref z_gKind, .ref z_gBits, .ref z_gPlace, .ref z_gFunction, .ref z_gHow, .ref z_gFrom, .ref z_gUnder, .ref z_lyingOnes, .ref z_lyingNext, .int 0, .int 0, .int 0, .int 0, .int 0, .ref z_markBits, .ref z_markTongues, .int 0, .int 0, .int 0, .int 0, .int 0, .int 0, .int 0, .int 0, .long 0, .int 0, .int 0, .long 0, .ref z_rules, .ref z_entryBorder, .ref z_entryWhat, .ref z_entryAs, .int 0, .ref z_defaults])), (z_rules, .inl (c_z_rules, 16, .inl f_rules))] _ := hP
  have hD : va_D A [(h0, .inr (11, [.int 0, .ref z_tape, .int 0, .ref z_names, .int 12, .ref z_parents, .int 0, .int 0, .int 0, .int 0, .long 0, .int 0, .long 0, .int 0, .int 0, .int 0, .int 0, .int 0, .int 0, .ref z_ops, .ref z_args, .ref z_seconds, .int 0, .ref z_functionNames, .ref z_functionAt, .ref z_functionParams, .ref z_functionSlots, .ref z_functions, .ref z_newParents, .int 0, .ref z_slots, .int 0, .int 0, .ref z_overs, .int 0, .int 0, .long 0, .int 0, .ref z_waiting, .int 0, .int 0, .ref z_fTongue, .ref z_fFunction, .ref z_fPc, .ref z_fPlace, .ref z_fStack, .ref z_fBlocks, .int 0, .int 0, .ref z_varKinds, .ref z_varBits, .ref z_kinds, .ref z_bits, .int 0, .ref z_bKind, .ref z_bTo, .ref z_bWhat, .ref z_bMany, .ref z_bPending, .ref z_bPendingKind, .ref z_bPendingBits, .int 0, .ref z_arrayFrom, .ref z_arraySize, .ref z_arrayTongue, .int 0, .ref z_cellKinds, .ref z_cellBits, .int 0, .int 0, .ref z_gTongue, .ref z_gWhat, .ref z_gKind, .ref z_gBits, .ref z_gPlace, .ref z_gFunction, .ref z_gHow, .ref z_gFrom, .ref z_gUnder, .ref z_lyingOnes, .ref z_lyingNext, .int 0, .int 0, .int 0, .int 0, .int 0, .ref z_markBits, .ref z_markTongues, .int 0, .int 0, .int 0, .int 0, .int 0, .int 0, .int 0, .int 0, .long 0, .int 0, .int 0, .long 0, .ref z_rules, .ref z_entryBorder, .ref z_entryWhat, .ref z_entryAs, .int 0, .ref z_defaults])), (z_rules, .inl (c_z_rules, 16, .inl f_rules))] := hD
  refine lv_iload_n hx hb dX12_rule_5 rfl (lv_at hl 1 rfl) ?_
  refine lv_if_lt (tgt := 37) hx hb dX12_rule_6 (by decide) (fun c_6 => ?_) (fun c_6 => ?_)
  · refine lv_iconst (v := 0) hx hb dX12_rule_37 (by decide) ?_
    exact W.zret (v := 0) hx hb hr rfl (fun t ht hW => ⟨⟨0, (), rfl, Or.inl ⟨Or.inl (Or.inl c_6), rfl⟩, trivial⟩, hS.F ht⟩) hS.2.2 dX12_rule_38
  · refine lv_iload_n hx hb dX12_rule_9 rfl (lv_at hl 1 rfl) ?_
    refine lv_iconst (v := 3) hx hb dX12_rule_10 (by decide) ?_
    refine lv_icmp_gt (tgt := 37) hx hb dX12_rule_11 (by decide) (fun c_11 => ?_) (fun c_11 => ?_)
    · refine lv_iconst (v := 0) hx hb dX12_rule_37 (by decide) ?_
      exact W.zret (v := 0) hx hb hr rfl (fun t ht hW => ⟨⟨0, (), rfl, Or.inl ⟨Or.inl (ng_gt c_11), rfl⟩, trivial⟩, hS.F ht⟩) hS.2.2 dX12_rule_38
    · refine lv_iload_n hx hb dX12_rule_14 rfl (lv_at hl 2 rfl) ?_
      refine lv_if_lt (tgt := 37) hx hb dX12_rule_15 (by decide) (fun c_15 => ?_) (fun c_15 => ?_)
      · refine lv_iconst (v := 0) hx hb dX12_rule_37 (by decide) ?_
        exact W.zret (v := 0) hx hb hr rfl (fun t ht hW => ⟨⟨0, (), rfl, Or.inl ⟨Or.inr (Or.inl (Or.inl c_15)), rfl⟩, trivial⟩, hS.F ht⟩) hS.2.2 dX12_rule_38
      · refine lv_iload_n hx hb dX12_rule_18 rfl (lv_at hl 2 rfl) ?_
        refine lv_iconst (v := 3) hx hb dX12_rule_19 (by decide) ?_
        refine lv_icmp_gt (tgt := 37) hx hb dX12_rule_20 (by decide) (fun c_20 => ?_) (fun c_20 => ?_)
        · refine lv_iconst (v := 0) hx hb dX12_rule_37 (by decide) ?_
          exact W.zret (v := 0) hx hb hr rfl (fun t ht hW => ⟨⟨0, (), rfl, Or.inl ⟨Or.inr (Or.inl (ng_gt c_20)), rfl⟩, trivial⟩, hS.F ht⟩) hS.2.2 dX12_rule_38
        · refine lv_iload_n hx hb dX12_rule_23 rfl (lv_at hl 1 rfl) ?_
          refine lv_iload_n hx hb dX12_rule_24 rfl (lv_at hl 2 rfl) ?_
          refine lv_icmp_eq (tgt := 37) hx hb dX12_rule_25 (by decide) (fun c_25 => ?_) (fun c_25 => ?_)
          · refine lv_iconst (v := 0) hx hb dX12_rule_37 (by decide) ?_
            exact W.zret (v := 0) hx hb hr rfl (fun t ht hW => ⟨⟨0, (), rfl, Or.inl ⟨Or.inr (Or.inr (Or.inl c_25)), rfl⟩, trivial⟩, hS.F ht⟩) hS.2.2 dX12_rule_38
          · refine lv_iload_n hx hb dX12_rule_28 rfl (lv_at hl 3 rfl) ?_
            refine lv_if_lt (tgt := 37) hx hb dX12_rule_29 (by decide) (fun c_29 => ?_) (fun c_29 => ?_)
            · refine lv_iconst (v := 0) hx hb dX12_rule_37 (by decide) ?_
              exact W.zret (v := 0) hx hb hr rfl (fun t ht hW => ⟨⟨0, (), rfl, Or.inl ⟨Or.inr (Or.inr (Or.inr (Or.inl c_29))), rfl⟩, trivial⟩, hS.F ht⟩) hS.2.2 dX12_rule_38
            · refine lv_iload_n hx hb dX12_rule_32 rfl (lv_at hl 3 rfl) ?_
              refine lv_iconst (v := 2) hx hb dX12_rule_33 (by decide) ?_
              refine lv_icmp_le (tgt := 39) hx hb dX12_rule_34 (by decide) (fun c_34 => ?_) (fun c_34 => ?_)
              · refine lv_aload_n hx hb dX12_rule_39 rfl (lv_at hl 0 rfl) ?_
                refine va_get (D := (dC, dI)) (ci := 11) (v := .ref z_rules) (C := RX12) (T := TX12) (N := 106) hx hb hts in_wqX12_rule_RX12 hown hK hP 0 rfl rfl 100 (by decide) (hts (.fieldLink RX12 163 "FourTonguesModel" "rules" "[I") (by decide +kernel)) (fun _ h9 => h9) rfl dX12_rule_40 ?_
                refine lv_iconst (v := 4) hx hb dX12_rule_43 (by decide) ?_
                refine lv_iload_n hx hb dX12_rule_44 rfl (lv_at hl 1 rfl) ?_
                refine lv_imul hx hb dX12_rule_45 ?_
                refine lv_iload_n hx hb dX12_rule_46 rfl (lv_at hl 2 rfl) ?_
                refine lv_iadd hx hb dX12_rule_47 ?_
                refine lv_iload_n hx hb dX12_rule_48 rfl (lv_at hl 3 rfl) ?_
                refine va_iast hx hb hK hP hD hS 1 0 rfl rfl (br_in2 (ng_of c_6 c_11) (ng_of c_15 c_20)) dX12_rule_49 (fun H locs hP hD hS => ?_)
                obtain ⟨f_1, ef_1⟩ : ∃ y : Nat → Int32, y = upd f_rules (((4 * x1) + x2 : Int32).toNatClampNeg) x3 := ⟨_, rfl⟩
                rw [← ef_1] at hP hD
                have hP : va_P (dC, dI) vwCl [(h0, .inr (11, [.int 0, .ref z_tape, .int 0, .ref z_names, .int 12, .ref z_parents, .int 0, .int 0, .int 0, .int 0, .long 0, .int 0, .long 0, .int 0, .int 0, .int 0, .int 0, .int 0, .int 0, .ref z_ops, .ref z_args, .ref z_seconds, .int 0, .ref z_functionNames, .ref z_functionAt, .ref z_functionParams, .ref z_functionSlots, .ref z_functions, .ref z_newParents, .int 0, .ref z_slots, .int 0, .int 0, .ref z_overs, .int 0, .int 0, .long 0, .int 0, .ref z_waiting, .int 0, .int 0, .ref z_fTongue, .ref z_fFunction, .ref z_fPc, .ref z_fPlace, .ref z_fStack, .ref z_fBlocks, .int 0, .int 0, .ref z_varKinds, .ref z_varBits, .ref z_kinds, .ref z_bits, .int 0, .ref z_bKind, .ref z_bTo, .ref z_bWhat, .ref z_bMany, .ref z_bPending, .ref z_bPendingKind, .ref z_bPendingBits, .int 0, .ref z_arrayFrom, .ref z_arraySize, .ref z_arrayTongue, .int 0, .ref z_cellKinds, .ref z_cellBits, .int 0, .int 0, .ref z_gTongue, .ref z_gWhat, .ref z_gKind, .ref z_gBits, .ref z_gPlace, .ref z_gFunction, .ref z_gHow, .ref z_gFrom, .ref z_gUnder, .ref z_lyingOnes, .ref z_lyingNext, .int 0, .int 0, .int 0, .int 0, .int 0, .ref z_markBits, .ref z_markTongues, .int 0, .int 0, .int 0, .int 0, .int 0, .int 0, .int 0, .int 0, .long 0, .int 0, .int 0, .long 0, .ref z_rules, .ref z_entryBorder, .ref z_entryWhat, .ref z_entryAs, .int 0, .ref z_defaults])), (z_rules, .inl (c_z_rules, 16, .inl f_1))] _ := hP
                have hD : va_D A [(h0, .inr (11, [.int 0, .ref z_tape, .int 0, .ref z_names, .int 12, .ref z_parents, .int 0, .int 0, .int 0, .int 0, .long 0, .int 0, .long 0, .int 0, .int 0, .int 0, .int 0, .int 0, .int 0, .ref z_ops, .ref z_args, .ref z_seconds, .int 0, .ref z_functionNames, .ref z_functionAt, .ref z_functionParams, .ref z_functionSlots, .ref z_functions, .ref z_newParents, .int 0, .ref z_slots, .int 0, .int 0, .ref z_overs, .int 0, .int 0, .long 0, .int 0, .ref z_waiting, .int 0, .int 0, .ref z_fTongue, .ref z_fFunction, .ref z_fPc, .ref z_fPlace, .ref z_fStack, .ref z_fBlocks, .int 0, .int 0, .ref z_varKinds, .ref z_varBits, .ref z_kinds, .ref z_bits, .int 0, .ref z_bKind, .ref z_bTo, .ref z_bWhat, .ref z_bMany, .ref z_bPending, .ref z_bPendingKind, .ref z_bPendingBits, .int 0, .ref z_arrayFrom, .ref z_arraySize, .ref z_arrayTongue, .int 0, .ref z_cellKinds, .ref z_cellBits, .int 0, .int 0, .ref z_gTongue, .ref z_gWhat, .ref z_gKind, .ref z_gBits, .ref z_gPlace, .ref z_gFunction, .ref z_gHow, .ref z_gFrom, .ref z_gUnder, .ref z_lyingOnes, .ref z_lyingNext, .int 0, .int 0, .int 0, .int 0, .int 0, .ref z_markBits, .ref z_markTongues, .int 0, .int 0, .int 0, .int 0, .int 0, .int 0, .int 0, .int 0, .long 0, .int 0, .int 0, .long 0, .ref z_rules, .ref z_entryBorder, .ref z_entryWhat, .ref z_entryAs, .int 0, .ref z_defaults])), (z_rules, .inl (c_z_rules, 16, .inl f_1))] := hD
                refine lv_iconst (v := 1) hx hb dX12_rule_50 (by decide) ?_
                exact W.zret (v := 1) hx hb hr rfl (fun t ht hW => ⟨⟨1, (), rfl, Or.inr ⟨fun q => q.elim (ng_of c_6 c_11) (fun q => q.elim (ng_of c_15 c_20) (fun q => q.elim c_25 (fun q => q.elim c_29 (fun q => q c_34)))), rfl⟩, trivial⟩, hS.F ht⟩) hS.2.2 dX12_rule_51
              · refine lv_iconst (v := 0) hx hb dX12_rule_37 (by decide) ?_
                exact W.zret (v := 0) hx hb hr rfl (fun t ht hW => ⟨⟨0, (), rfl, Or.inl ⟨Or.inr (Or.inr (Or.inr (Or.inr c_34))), rfl⟩, trivial⟩, hS.F ht⟩) hS.2.2 dX12_rule_38

def wqX12_canFail : List Cond := .code yX12_canFail cX12_canFail 3 (some .boolean) :: (([.fieldLink RX12 178 "FourTonguesModel" "namesMany" "I"] : List Cond) ++ wsX120)
theorem in_wqX12_canFail_RX12 : ∀ w ∈ u_ws RX12 TX12 106, w ∈ wqX12_canFail := fun w h => (List.mem_cons_of_mem _ (List.mem_append_right _ h))
set_option maxHeartbeats 4000000 in
set_option maxRecDepth 100000 in
theorem c_X12_canFail (l : Launch) (dC : Nat → ClassId) (dI : Nat → Nat → Nat) (h0 : Nat) (z_tape : Nat) (z_names : Nat) (z_parents : Nat) (z_ops : Nat) (z_args : Nat) (z_seconds : Nat) (z_functionNames : Nat) (z_functionAt : Nat) (z_functionParams : Nat) (z_functionSlots : Nat) (z_functions : Nat) (z_newParents : Nat) (z_slots : Nat) (z_overs : Nat) (z_waiting : Nat) (z_fTongue : Nat) (z_fFunction : Nat) (z_fPc : Nat) (z_fPlace : Nat) (z_fStack : Nat) (z_fBlocks : Nat) (z_varKinds : Nat) (z_varBits : Nat) (z_kinds : Nat) (z_bits : Nat) (z_bKind : Nat) (z_bTo : Nat) (z_bWhat : Nat) (z_bMany : Nat) (z_bPending : Nat) (z_bPendingKind : Nat) (z_bPendingBits : Nat) (z_arrayFrom : Nat) (z_arraySize : Nat) (z_arrayTongue : Nat) (z_cellKinds : Nat) (z_cellBits : Nat) (z_gTongue : Nat) (z_gWhat : Nat) (z_gKind : Nat) (z_gBits : Nat) (z_gPlace : Nat) (z_gFunction : Nat) (z_gHow : Nat) (z_gFrom : Nat) (z_gUnder : Nat) (z_lyingOnes : Nat) (z_lyingNext : Nat) (z_markBits : Nat) (z_markTongues : Nat) (z_rules : Nat) (z_entryBorder : Nat) (z_entryWhat : Nat) (z_entryAs : Nat) (z_defaults : Nat) (x1 : Int32) (x2 : Int32) : Met l yX12_canFail wqX12_canFail ({ frames := 0, cells := 0, slots := 0, locals := 0 }) (va_Pc [.ref h0, .int x1, .int x2] (fun U => xR (dC, dI) [(h0, .inr (11, [.int 0, .ref z_tape, .int 0, .ref z_names, .int 12, .ref z_parents, .int 0, .int 0, .int 0, .int 0, .long 0, .int 0, .long 0, .int 0, .int 0, .int 0, .int 0, .int 0, .int 0, .ref z_ops, .ref z_args, .ref z_seconds, .int 0, .ref z_functionNames, .ref z_functionAt, .ref z_functionParams, .ref z_functionSlots, .ref z_functions, .ref z_newParents, .int 0, .ref z_slots, .int 0, .int 0, .ref z_overs, .int 0, .int 0, .long 0, .int 0, .ref z_waiting, .int 0, .int 0, .ref z_fTongue, .ref z_fFunction, .ref z_fPc, .ref z_fPlace, .ref z_fStack, .ref z_fBlocks, .int 0, .int 0, .ref z_varKinds, .ref z_varBits, .ref z_kinds, .ref z_bits, .int 0, .ref z_bKind, .ref z_bTo, .ref z_bWhat, .ref z_bMany, .ref z_bPending, .ref z_bPendingKind, .ref z_bPendingBits, .int 0, .ref z_arrayFrom, .ref z_arraySize, .ref z_arrayTongue, .int 0, .ref z_cellKinds, .ref z_cellBits, .int 0, .int 0, .ref z_gTongue, .ref z_gWhat, .ref z_gKind, .ref z_gBits, .ref z_gPlace, .ref z_gFunction, .ref z_gHow, .ref z_gFrom, .ref z_gUnder, .ref z_lyingOnes, .ref z_lyingNext, .int 0, .int 0, .int 0, .int 0, .int 0, .ref z_markBits, .ref z_markTongues, .int 0, .int 0, .int 0, .int 0, .int 0, .int 0, .int 0, .int 0, .long 0, .int 0, .int 0, .long 0, .ref z_rules, .ref z_entryBorder, .ref z_entryWhat, .ref z_entryAs, .int 0, .ref z_defaults]))] [] U)) (va_Qi (fun (r : Int32) (_ : Unit) => (¬ cf x1 x2 ∧ r = 0) ∨ (cf x1 x2 ∧ r = 1)) (fun (_ : Unit) _ => True) (fun _ => False)) 0 0 (fun _ => False) := by
  refine Met.ofW (cc := cX12_canFail) (maxL := 3) (ret := (some .boolean)) (by decide) rfl ?_
  intro p e s m args below meth c s₁ B hml hv
  obtain ⟨rfl, hP, hK⟩ := hv
  have hx := B.exec
  have hb := B.bytes
  have hr := B.returns
  have hts := atoms_spec (ws := wqX12_canFail) B.pre
  have hown : s.vm.findClass RX12 = some m.cls := findClass_of_methodNamed B.named
  have hlocks := B.notSynchronized
  have hS : va_S (fun _ => False) s.heap s.heap [] := va_S.rf
  have hl := lv_entry ([.ref h0, .int x1, .int x2]) (n := 3) (Nat.le_of_ble_eq_true rfl)
  rw [lg_entry_eq]
  generalize (lg_sl ([.ref h0, .int x1, .int x2]) ++ List.replicate (3 - (lg_sl ([.ref h0, .int x1, .int x2])).length) Slot.unset).toArray = ls at hl ⊢
  have hl : lv_has ls 3 [(0, .ref h0), (1, .int x1), (2, .int x2)] := hl
  refine lv_iload_n hx hb dX12_canFail_0 rfl (lv_at hl 1 rfl) ?_
  refine lv_iconst (v := 1) hx hb dX12_canFail_1 (by decide) ?_
  refine lv_icmp_ne (tgt := 17) hx hb dX12_canFail_2 (by decide) (fun c_2 => ?_) (fun c_2 => ?_)
  · refine lv_iload_n hx hb dX12_canFail_17 rfl (lv_at hl 2 rfl) ?_
    refine lv_iconst (v := 1) hx hb dX12_canFail_18 (by decide) ?_
    refine lv_icmp_lt (tgt := 34) hx hb dX12_canFail_19 (by decide) (fun c_19 => ?_) (fun c_19 => ?_)
    · refine lv_iconst (v := 0) hx hb dX12_canFail_34 (by decide) ?_
      exact W.zret (v := 0) hx hb hr rfl (fun t ht hW => ⟨⟨0, (), rfl, Or.inl ⟨fun q => q.elim (fun z => c_2 z.1) (fun z => z.2.1 c_19), rfl⟩, trivial⟩, hS.F ht⟩) hS.2.2 dX12_canFail_35
    · refine lv_iload_n hx hb dX12_canFail_22 rfl (lv_at hl 2 rfl) ?_
      refine lv_aload_n hx hb dX12_canFail_23 rfl (lv_at hl 0 rfl) ?_
      refine va_get (D := (dC, dI)) (ci := 11) (v := .int 12) (C := RX12) (T := TX12) (N := 106) hx hb hts in_wqX12_canFail_RX12 hown hK hP 0 rfl rfl 4 (by decide) (hts (.fieldLink RX12 178 "FourTonguesModel" "namesMany" "I") (by decide +kernel)) (fun _ h9 => h9) rfl dX12_canFail_24 ?_
      refine lv_icmp_ge (tgt := 34) hx hb dX12_canFail_27 (by decide) (fun c_27 => ?_) (fun c_27 => ?_)
      · refine lv_iconst (v := 0) hx hb dX12_canFail_34 (by decide) ?_
        exact W.zret (v := 0) hx hb hr rfl (fun t ht hW => ⟨⟨0, (), rfl, Or.inl ⟨fun q => q.elim (fun z => c_2 z.1) (fun z => z.2.2 ((succ_le (by decide)).mpr c_27)), rfl⟩, trivial⟩, hS.F ht⟩) hS.2.2 dX12_canFail_35
      · refine lv_iconst (v := 1) hx hb dX12_canFail_30 (by decide) ?_
        refine lv_goto (tgt := 35) hx hb dX12_canFail_31 (by decide) ?_
        exact W.zret (v := 1) hx hb hr rfl (fun t ht hW => ⟨⟨1, (), rfl, Or.inr ⟨Or.inr ⟨c_2, c_19, fun z => c_27 ((succ_le (by decide)).mp z)⟩, rfl⟩, trivial⟩, hS.F ht⟩) hS.2.2 dX12_canFail_35
  · refine lv_iload_n hx hb dX12_canFail_5 rfl (lv_at hl 2 rfl) ?_
    refine lv_if_eq (tgt := 13) hx hb dX12_canFail_6 (by decide) (fun c_6 => ?_) (fun c_6 => ?_)
    · refine lv_iconst (v := 0) hx hb dX12_canFail_13 (by decide) ?_
      refine lv_goto (tgt := 35) hx hb dX12_canFail_14 (by decide) ?_
      exact W.zret (v := 0) hx hb hr rfl (fun t ht hW => ⟨⟨0, (), rfl, Or.inl ⟨fun q => q.elim (fun z => z.2 c_6) (fun z => z.1 c_2), rfl⟩, trivial⟩, hS.F ht⟩) hS.2.2 dX12_canFail_35
    · refine lv_iconst (v := 1) hx hb dX12_canFail_9 (by decide) ?_
      refine lv_goto (tgt := 35) hx hb dX12_canFail_10 (by decide) ?_
      exact W.zret (v := 1) hx hb hr rfl (fun t ht hW => ⟨⟨1, (), rfl, Or.inr ⟨Or.inl ⟨c_2, c_6⟩, rfl⟩, trivial⟩, hS.F ht⟩) hS.2.2 dX12_canFail_35

def wqX12_entryOf : List Cond := .code yX12_entryOf cX12_entryOf 4 (some .int) :: (([.fieldLink RX12 564 "FourTonguesModel" "entries" "I"] : List Cond) ++ wsX120)
theorem in_wqX12_entryOf_RX12 : ∀ w ∈ u_ws RX12 TX12 106, w ∈ wqX12_entryOf := fun w h => (List.mem_cons_of_mem _ (List.mem_append_right _ h))
set_option maxHeartbeats 4000000 in
set_option maxRecDepth 100000 in
theorem c_X12_entryOf (l : Launch) (dC : Nat → ClassId) (dI : Nat → Nat → Nat) (h0 : Nat) (z_tape : Nat) (z_names : Nat) (z_parents : Nat) (z_ops : Nat) (z_args : Nat) (z_seconds : Nat) (z_functionNames : Nat) (z_functionAt : Nat) (z_functionParams : Nat) (z_functionSlots : Nat) (z_functions : Nat) (z_newParents : Nat) (z_slots : Nat) (z_overs : Nat) (z_waiting : Nat) (z_fTongue : Nat) (z_fFunction : Nat) (z_fPc : Nat) (z_fPlace : Nat) (z_fStack : Nat) (z_fBlocks : Nat) (z_varKinds : Nat) (z_varBits : Nat) (z_kinds : Nat) (z_bits : Nat) (z_bKind : Nat) (z_bTo : Nat) (z_bWhat : Nat) (z_bMany : Nat) (z_bPending : Nat) (z_bPendingKind : Nat) (z_bPendingBits : Nat) (z_arrayFrom : Nat) (z_arraySize : Nat) (z_arrayTongue : Nat) (z_cellKinds : Nat) (z_cellBits : Nat) (z_gTongue : Nat) (z_gWhat : Nat) (z_gKind : Nat) (z_gBits : Nat) (z_gPlace : Nat) (z_gFunction : Nat) (z_gHow : Nat) (z_gFrom : Nat) (z_gUnder : Nat) (z_lyingOnes : Nat) (z_lyingNext : Nat) (z_markBits : Nat) (z_markTongues : Nat) (z_rules : Nat) (z_entryBorder : Nat) (z_entryWhat : Nat) (z_entryAs : Nat) (z_defaults : Nat) (x1 : Int32) (x2 : Int32) : Met l yX12_entryOf wqX12_entryOf ({ frames := 0, cells := 0, slots := 0, locals := 0 }) (va_Pc [.ref h0, .int x1, .int x2] (fun U => xR (dC, dI) [(h0, .inr (11, [.int 0, .ref z_tape, .int 0, .ref z_names, .int 12, .ref z_parents, .int 0, .int 0, .int 0, .int 0, .long 0, .int 0, .long 0, .int 0, .int 0, .int 0, .int 0, .int 0, .int 0, .ref z_ops, .ref z_args, .ref z_seconds, .int 0, .ref z_functionNames, .ref z_functionAt, .ref z_functionParams, .ref z_functionSlots, .ref z_functions, .ref z_newParents, .int 0, .ref z_slots, .int 0, .int 0, .ref z_overs, .int 0, .int 0, .long 0, .int 0, .ref z_waiting, .int 0, .int 0, .ref z_fTongue, .ref z_fFunction, .ref z_fPc, .ref z_fPlace, .ref z_fStack, .ref z_fBlocks, .int 0, .int 0, .ref z_varKinds, .ref z_varBits, .ref z_kinds, .ref z_bits, .int 0, .ref z_bKind, .ref z_bTo, .ref z_bWhat, .ref z_bMany, .ref z_bPending, .ref z_bPendingKind, .ref z_bPendingBits, .int 0, .ref z_arrayFrom, .ref z_arraySize, .ref z_arrayTongue, .int 0, .ref z_cellKinds, .ref z_cellBits, .int 0, .int 0, .ref z_gTongue, .ref z_gWhat, .ref z_gKind, .ref z_gBits, .ref z_gPlace, .ref z_gFunction, .ref z_gHow, .ref z_gFrom, .ref z_gUnder, .ref z_lyingOnes, .ref z_lyingNext, .int 0, .int 0, .int 0, .int 0, .int 0, .ref z_markBits, .ref z_markTongues, .int 0, .int 0, .int 0, .int 0, .int 0, .int 0, .int 0, .int 0, .long 0, .int 0, .int 0, .long 0, .ref z_rules, .ref z_entryBorder, .ref z_entryWhat, .ref z_entryAs, .int 0, .ref z_defaults]))] [] U)) (va_Qi (fun (r : Int32) (_ : Unit) => r = -1) (fun (_ : Unit) _ => True) (fun _ => False)) 0 0 (fun _ => False) := by
  refine Met.ofW (cc := cX12_entryOf) (maxL := 4) (ret := (some .int)) (by decide) rfl ?_
  intro p e s m args below meth c s₁ B hml hv
  obtain ⟨rfl, hP, hK⟩ := hv
  have hx := B.exec
  have hb := B.bytes
  have hr := B.returns
  have hts := atoms_spec (ws := wqX12_entryOf) B.pre
  have hown : s.vm.findClass RX12 = some m.cls := findClass_of_methodNamed B.named
  have hlocks := B.notSynchronized
  have hS : va_S (fun _ => False) s.heap s.heap [] := va_S.rf
  have hl := lv_entry ([.ref h0, .int x1, .int x2]) (n := 4) (Nat.le_of_ble_eq_true rfl)
  rw [lg_entry_eq]
  generalize (lg_sl ([.ref h0, .int x1, .int x2]) ++ List.replicate (4 - (lg_sl ([.ref h0, .int x1, .int x2])).length) Slot.unset).toArray = ls at hl ⊢
  have hl : lv_has ls 4 [(0, .ref h0), (1, .int x1), (2, .int x2)] := hl
  refine lv_iconst (v := 0) hx hb dX12_entryOf_0 (by decide) ?_
  refine lv_istore_n (lv' := [(3, .int 0), (0, .ref h0), (1, .int x1), (2, .int x2)]) hx hb dX12_entryOf_1 rfl hl (by decide) rfl (fun ls hl => ?_)
  refine lv_iload_n hx hb dX12_entryOf_2 rfl (lv_at hl 0 rfl) ?_
  refine lv_aload_n hx hb dX12_entryOf_3 rfl (lv_at hl 1 rfl) ?_
  refine va_get (D := (dC, dI)) (ci := 11) (v := .int 0) (C := RX12) (T := TX12) (N := 106) hx hb hts in_wqX12_entryOf_RX12 hown hK hP 0 rfl rfl 104 (by decide) (hts (.fieldLink RX12 564 "FourTonguesModel" "entries" "I") (by decide +kernel)) (fun _ h9 => h9) rfl dX12_entryOf_4 ?_
  refine lv_icmp_ge (tgt := 38) hx hb dX12_entryOf_7 (by decide) (fun c_7 => ?_) (fun c_7 => absurd c_7 (by decide))
  refine lv_iconst (v := (-1)) hx hb dX12_entryOf_38 (by decide) ?_
  exact W.iret (v := (-1)) hx hb hr (fun t ht hW => ⟨⟨(-1), (), rfl, rfl, trivial⟩, hS.F ht⟩) hS.2.2 dX12_entryOf_39

def wqX12_entry : List Cond := .code yX12_entry cX12_entry 7 (some .boolean) :: (([.fieldLink RX12 200 "FourTonguesModel" "thrown" "I", .methodLink RX12 567 yX12_canFail, .instanceMethod yX12_canFail, .selects RX12 yX12_canFail yX12_canFail, .initialized RX12, .methodLink RX12 570 yX12_entryOf, .instanceMethod yX12_entryOf, .selects RX12 yX12_entryOf yX12_entryOf, .fieldLink RX12 564 "FourTonguesModel" "entries" "I", .fieldLink RX12 166 "FourTonguesModel" "entryBorder" "[I", .fieldLink RX12 169 "FourTonguesModel" "entryWhat" "[I", .fieldLink RX12 172 "FourTonguesModel" "entryAs" "[I", .fieldLink RX12 175 "FourTonguesModel" "defaults" "[I"] : List Cond) ++ (wsX120 ++ (wqX12_canFail ++ wqX12_entryOf)))
theorem in_wqX12_entry_RX12 : ∀ w ∈ u_ws RX12 TX12 106, w ∈ wqX12_entry := fun w h => (List.mem_cons_of_mem _ (List.mem_append_right _ (List.mem_append_left _ h)))
set_option maxRecDepth 100000 in
theorem ggq_wqX12_entry_wqX12_canFail : GoodIn wqX12_entry wqX12_canFail := goodIn_sub (fun w h => (List.mem_cons_of_mem _ (List.mem_append_right _ (List.mem_append_right _ (List.mem_append_left _ h))))) (by decide +kernel)
set_option maxRecDepth 100000 in
theorem gq_wqX12_entry_wqX12_canFail_567 : GoodIn wqX12_entry (wsV RX12 567 RX12 yX12_canFail wqX12_canFail) := goodIn_app (goodIn_of _ (by decide +kernel)) ggq_wqX12_entry_wqX12_canFail
set_option maxRecDepth 100000 in
theorem ggq_wqX12_entry_wqX12_entryOf : GoodIn wqX12_entry wqX12_entryOf := goodIn_sub (fun w h => (List.mem_cons_of_mem _ (List.mem_append_right _ (List.mem_append_right _ (List.mem_append_right _ h))))) (by decide +kernel)
set_option maxRecDepth 100000 in
theorem gq_wqX12_entry_wqX12_entryOf_570 : GoodIn wqX12_entry (wsV RX12 570 RX12 yX12_entryOf wqX12_entryOf) := goodIn_app (goodIn_of _ (by decide +kernel)) ggq_wqX12_entry_wqX12_entryOf
set_option maxHeartbeats 4000000 in
set_option maxRecDepth 100000 in
theorem c_X12_entry (l : Launch) (dC : Nat → ClassId) (dI : Nat → Nat → Nat) (sz : Nat) (h0 : Nat) (z_tape : Nat) (z_names : Nat) (z_parents : Nat) (z_ops : Nat) (z_args : Nat) (z_seconds : Nat) (z_functionNames : Nat) (z_functionAt : Nat) (z_functionParams : Nat) (z_functionSlots : Nat) (z_functions : Nat) (z_newParents : Nat) (z_slots : Nat) (z_overs : Nat) (z_waiting : Nat) (z_fTongue : Nat) (z_fFunction : Nat) (z_fPc : Nat) (z_fPlace : Nat) (z_fStack : Nat) (z_fBlocks : Nat) (z_varKinds : Nat) (z_varBits : Nat) (z_kinds : Nat) (z_bits : Nat) (z_bKind : Nat) (z_bTo : Nat) (z_bWhat : Nat) (z_bMany : Nat) (z_bPending : Nat) (z_bPendingKind : Nat) (z_bPendingBits : Nat) (z_arrayFrom : Nat) (z_arraySize : Nat) (z_arrayTongue : Nat) (z_cellKinds : Nat) (z_cellBits : Nat) (z_gTongue : Nat) (z_gWhat : Nat) (z_gKind : Nat) (z_gBits : Nat) (z_gPlace : Nat) (z_gFunction : Nat) (z_gHow : Nat) (z_gFrom : Nat) (z_gUnder : Nat) (z_lyingOnes : Nat) (z_lyingNext : Nat) (z_markBits : Nat) (z_markTongues : Nat) (z_rules : Nat) (z_entryBorder : Nat) (z_entryWhat : Nat) (z_entryAs : Nat) (z_defaults : Nat) (c_z_defaults : ClassId) (f_defaults : Nat → Int32) (c_z_entryBorder : ClassId) (f_entryBorder : Nat → Int32) (c_z_entryWhat : ClassId) (f_entryWhat : Nat → Int32) (c_z_entryAs : ClassId) (f_entryAs : Nat → Int32) (x1 : Int32) (x2 : Int32) (x3 : Int32) (x4 : Int32) : Met l yX12_entry wqX12_entry ({ frames := 1, cells := 0, slots := 0, locals := 23 }) (va_Pc [.ref h0, .int x1, .int x2, .int x3, .int x4] (fun U => xM (dC, dI) sz [(h0, .inr (11, [.int 0, .ref z_tape, .int 0, .ref z_names, .int 12, .ref z_parents, .int 0, .int 0, .int 0, .int 0, .long 0, .int 0, .long 0, .int 0, .int 0, .int 0, .int 0, .int 0, .int 0, .ref z_ops, .ref z_args, .ref z_seconds, .int 0, .ref z_functionNames, .ref z_functionAt, .ref z_functionParams, .ref z_functionSlots, .ref z_functions, .ref z_newParents, .int 0, .ref z_slots, .int 0, .int 0, .ref z_overs, .int 0, .int 0, .long 0, .int 0, .ref z_waiting, .int 0, .int 0, .ref z_fTongue, .ref z_fFunction, .ref z_fPc, .ref z_fPlace, .ref z_fStack, .ref z_fBlocks, .int 0, .int 0, .ref z_varKinds, .ref z_varBits, .ref z_kinds, .ref z_bits, .int 0, .ref z_bKind, .ref z_bTo, .ref z_bWhat, .ref z_bMany, .ref z_bPending, .ref z_bPendingKind, .ref z_bPendingBits, .int 0, .ref z_arrayFrom, .ref z_arraySize, .ref z_arrayTongue, .int 0, .ref z_cellKinds, .ref z_cellBits, .int 0, .int 0, .ref z_gTongue, .ref z_gWhat, .ref z_gKind, .ref z_gBits, .ref z_gPlace, .ref z_gFunction, .ref z_gHow, .ref z_gFrom, .ref z_gUnder, .ref z_lyingOnes, .ref z_lyingNext, .int 0, .int 0, .int 0, .int 0, .int 0, .ref z_markBits, .ref z_markTongues, .int 0, .int 0, .int 0, .int 0, .int 0, .int 0, .int 0, .int 0, .long 0, .int 0, .int 0, .long 0, .ref z_rules, .ref z_entryBorder, .ref z_entryWhat, .ref z_entryAs, .int 0, .ref z_defaults])), (z_defaults, .inl (c_z_defaults, 16, .inl f_defaults)), (z_entryBorder, .inl (c_z_entryBorder, 100, .inl f_entryBorder)), (z_entryWhat, .inl (c_z_entryWhat, 100, .inl f_entryWhat)), (z_entryAs, .inl (c_z_entryAs, 100, .inl f_entryAs))] [(c_z_defaults, .int), (c_z_entryBorder, .int), (c_z_entryWhat, .int), (c_z_entryAs, .int)] U)) (va_Qi (fun (r : Int32) (_ : Unit) => (enC x1 x2 x3 x4 ∧ r = 0) ∨ (¬ enC x1 x2 x3 x4 ∧ r = 1)) (fun (_ : Unit) _ => True) (va_A [(h0, .inr (11, [.int 0, .ref z_tape, .int 0, .ref z_names, .int 12, .ref z_parents, .int 0, .int 0, .int 0, .int 0, .long 0, .int 0, .long 0, .int 0, .int 0, .int 0, .int 0, .int 0, .int 0, .ref z_ops, .ref z_args, .ref z_seconds, .int 0, .ref z_functionNames, .ref z_functionAt, .ref z_functionParams, .ref z_functionSlots, .ref z_functions, .ref z_newParents, .int 0, .ref z_slots, .int 0, .int 0, .ref z_overs, .int 0, .int 0, .long 0, .int 0, .ref z_waiting, .int 0, .int 0, .ref z_fTongue, .ref z_fFunction, .ref z_fPc, .ref z_fPlace, .ref z_fStack, .ref z_fBlocks, .int 0, .int 0, .ref z_varKinds, .ref z_varBits, .ref z_kinds, .ref z_bits, .int 0, .ref z_bKind, .ref z_bTo, .ref z_bWhat, .ref z_bMany, .ref z_bPending, .ref z_bPendingKind, .ref z_bPendingBits, .int 0, .ref z_arrayFrom, .ref z_arraySize, .ref z_arrayTongue, .int 0, .ref z_cellKinds, .ref z_cellBits, .int 0, .int 0, .ref z_gTongue, .ref z_gWhat, .ref z_gKind, .ref z_gBits, .ref z_gPlace, .ref z_gFunction, .ref z_gHow, .ref z_gFrom, .ref z_gUnder, .ref z_lyingOnes, .ref z_lyingNext, .int 0, .int 0, .int 0, .int 0, .int 0, .ref z_markBits, .ref z_markTongues, .int 0, .int 0, .int 0, .int 0, .int 0, .int 0, .int 0, .int 0, .long 0, .int 0, .int 0, .long 0, .ref z_rules, .ref z_entryBorder, .ref z_entryWhat, .ref z_entryAs, .int 0, .ref z_defaults])), (z_defaults, .inl (c_z_defaults, 16, .inl f_defaults)), (z_entryBorder, .inl (c_z_entryBorder, 100, .inl f_entryBorder)), (z_entryWhat, .inl (c_z_entryWhat, 100, .inl f_entryWhat)), (z_entryAs, .inl (c_z_entryAs, 100, .inl f_entryAs))] sz)) 0 0 (va_A [(h0, .inr (11, [.int 0, .ref z_tape, .int 0, .ref z_names, .int 12, .ref z_parents, .int 0, .int 0, .int 0, .int 0, .long 0, .int 0, .long 0, .int 0, .int 0, .int 0, .int 0, .int 0, .int 0, .ref z_ops, .ref z_args, .ref z_seconds, .int 0, .ref z_functionNames, .ref z_functionAt, .ref z_functionParams, .ref z_functionSlots, .ref z_functions, .ref z_newParents, .int 0, .ref z_slots, .int 0, .int 0, .ref z_overs, .int 0, .int 0, .long 0, .int 0, .ref z_waiting, .int 0, .int 0, .ref z_fTongue, .ref z_fFunction, .ref z_fPc, .ref z_fPlace, .ref z_fStack, .ref z_fBlocks, .int 0, .int 0, .ref z_varKinds, .ref z_varBits, .ref z_kinds, .ref z_bits, .int 0, .ref z_bKind, .ref z_bTo, .ref z_bWhat, .ref z_bMany, .ref z_bPending, .ref z_bPendingKind, .ref z_bPendingBits, .int 0, .ref z_arrayFrom, .ref z_arraySize, .ref z_arrayTongue, .int 0, .ref z_cellKinds, .ref z_cellBits, .int 0, .int 0, .ref z_gTongue, .ref z_gWhat, .ref z_gKind, .ref z_gBits, .ref z_gPlace, .ref z_gFunction, .ref z_gHow, .ref z_gFrom, .ref z_gUnder, .ref z_lyingOnes, .ref z_lyingNext, .int 0, .int 0, .int 0, .int 0, .int 0, .ref z_markBits, .ref z_markTongues, .int 0, .int 0, .int 0, .int 0, .int 0, .int 0, .int 0, .int 0, .long 0, .int 0, .int 0, .long 0, .ref z_rules, .ref z_entryBorder, .ref z_entryWhat, .ref z_entryAs, .int 0, .ref z_defaults])), (z_defaults, .inl (c_z_defaults, 16, .inl f_defaults)), (z_entryBorder, .inl (c_z_entryBorder, 100, .inl f_entryBorder)), (z_entryWhat, .inl (c_z_entryWhat, 100, .inl f_entryWhat)), (z_entryAs, .inl (c_z_entryAs, 100, .inl f_entryAs))] sz) := by
  refine Met.ofW (cc := cX12_entry) (maxL := 7) (ret := (some .boolean)) (by decide) rfl ?_
  intro p e s m args below meth c s₁ B hml hv
  obtain ⟨rfl, hsz, hP, hK, hD0⟩ := hv
  have hx := B.exec
  have hb := B.bytes
  have hr := B.returns
  have hts := atoms_spec (ws := wqX12_entry) B.pre
  have hown : s.vm.findClass RX12 = some m.cls := findClass_of_methodNamed B.named
  have hlocks := B.notSynchronized
  subst hsz
  have hD := hD0.self (sz := s.heap.size)
  generalize hAe : va_A [(h0, .inr (11, [.int 0, .ref z_tape, .int 0, .ref z_names, .int 12, .ref z_parents, .int 0, .int 0, .int 0, .int 0, .long 0, .int 0, .long 0, .int 0, .int 0, .int 0, .int 0, .int 0, .int 0, .ref z_ops, .ref z_args, .ref z_seconds, .int 0, .ref z_functionNames, .ref z_functionAt, .ref z_functionParams, .ref z_functionSlots, .ref z_functions, .ref z_newParents, .int 0, .ref z_slots, .int 0, .int 0, .ref z_overs, .int 0, .int 0, .long 0, .int 0, .ref z_waiting, .int 0, .int 0, .ref z_fTongue, .ref z_fFunction, .ref z_fPc, .ref z_fPlace, .ref z_fStack, .ref z_fBlocks, .int 0, .int 0, .ref z_varKinds, .ref z_varBits, .ref z_kinds, .ref z_bits, .int 0, .ref z_bKind, .ref z_bTo, .ref z_bWhat, .ref z_bMany, .ref z_bPending, .ref z_bPendingKind, .ref z_bPendingBits, .int 0, .ref z_arrayFrom, .ref z_arraySize, .ref z_arrayTongue, .int 0, .ref z_cellKinds, .ref z_cellBits, .int 0, .int 0, .ref z_gTongue, .ref z_gWhat, .ref z_gKind, .ref z_gBits, .ref z_gPlace, .ref z_gFunction, .ref z_gHow, .ref z_gFrom, .ref z_gUnder, .ref z_lyingOnes, .ref z_lyingNext, .int 0, .int 0, .int 0, .int 0, .int 0, .ref z_markBits, .ref z_markTongues, .int 0, .int 0, .int 0, .int 0, .int 0, .int 0, .int 0, .int 0, .long 0, .int 0, .int 0, .long 0, .ref z_rules, .ref z_entryBorder, .ref z_entryWhat, .ref z_entryAs, .int 0, .ref z_defaults])), (z_defaults, .inl (c_z_defaults, 16, .inl f_defaults)), (z_entryBorder, .inl (c_z_entryBorder, 100, .inl f_entryBorder)), (z_entryWhat, .inl (c_z_entryWhat, 100, .inl f_entryWhat)), (z_entryAs, .inl (c_z_entryAs, 100, .inl f_entryAs))] s.heap.size = A at hD ⊢
  have hA : ∀ q : Nat, s.heap.size ≤ q → A q := fun q h => by rw [← hAe]; exact Or.inr h
  have hS : va_S A s.heap s.heap [] := va_S.rf
  have hl := lv_entry ([.ref h0, .int x1, .int x2, .int x3, .int x4]) (n := 7) (Nat.le_of_ble_eq_true rfl)
  rw [lg_entry_eq]
  generalize (lg_sl ([.ref h0, .int x1, .int x2, .int x3, .int x4]) ++ List.replicate (7 - (lg_sl ([.ref h0, .int x1, .int x2, .int x3, .int x4])).length) Slot.unset).toArray = ls at hl ⊢
  have hl : lv_has ls 7 [(0, .ref h0), (1, .int x1), (2, .int x2), (3, .int x3), (4, .int x4)] := hl
  refine lv_aload_n hx hb dX12_entry_0 rfl (lv_at hl 0 rfl) ?_
  refine lv_iconst (v := 0) hx hb dX12_entry_1 (by decide) ?_
  refine va_put (D := (dC, dI)) (ci := 11) (v := .int 0) (ty := .int) (C := RX12) (T := TX12) (N := 106) hx hb hts in_wqX12_entry_RX12 tyX12 tyX12_ok nmX12 hown hK hP hD hS 0 rfl rfl 0 (by decide) (hts (.fieldLink RX12 200 "FourTonguesModel" "thrown" "I") (by decide +kernel)) (fun _ h9 => h9) rfl (by decide +kernel) rfl rfl (Nat.le_of_ble_eq_true rfl) dX12_entry_2 (fun H locs hP hD hS => ?_)
  have hP : va_P (dC, dI) vwCl [(h0, .inr (11, [.int 0, .ref z_tape, .int 0, .ref z_names, .int 12, .ref z_parents, .int 0, .int 0, .int 0, .int 0, .long 0, .int 0, .long 0, .int 0, .int 0, .int 0, .int 0, .int 0, .int 0, .ref z_ops, .ref z_args, .ref z_seconds, .int 0, .ref z_functionNames, .ref z_functionAt, .ref z_functionParams, .ref z_functionSlots, .ref z_functions, .ref z_newParents, .int 0, .ref z_slots, .int 0, .int 0, .ref z_overs, .int 0, .int 0, .long 0, .int 0, .ref z_waiting, .int 0, .int 0, .ref z_fTongue, .ref z_fFunction, .ref z_fPc, .ref z_fPlace, .ref z_fStack, .ref z_fBlocks, .int 0, .int 0, .ref z_varKinds, .ref z_varBits, .ref z_kinds, .ref z_bits, .int 0, .ref z_bKind, .ref z_bTo, .ref z_bWhat, .ref z_bMany, .ref z_bPending, .ref z_bPendingKind, .ref z_bPendingBits, .int 0, .ref z_arrayFrom, .ref z_arraySize, .ref z_arrayTongue, .int 0, .ref z_cellKinds, .ref z_cellBits, .int 0, .int 0, .ref z_gTongue, .ref z_gWhat, .ref z_gKind, .ref z_gBits, .ref z_gPlace, .ref z_gFunction, .ref z_gHow, .ref z_gFrom, .ref z_gUnder, .ref z_lyingOnes, .ref z_lyingNext, .int 0, .int 0, .int 0, .int 0, .int 0, .ref z_markBits, .ref z_markTongues, .int 0, .int 0, .int 0, .int 0, .int 0, .int 0, .int 0, .int 0, .long 0, .int 0, .int 0, .long 0, .ref z_rules, .ref z_entryBorder, .ref z_entryWhat, .ref z_entryAs, .int 0, .ref z_defaults])), (z_defaults, .inl (c_z_defaults, 16, .inl f_defaults)), (z_entryBorder, .inl (c_z_entryBorder, 100, .inl f_entryBorder)), (z_entryWhat, .inl (c_z_entryWhat, 100, .inl f_entryWhat)), (z_entryAs, .inl (c_z_entryAs, 100, .inl f_entryAs))] _ := hP
  have hD : va_D A [(h0, .inr (11, [.int 0, .ref z_tape, .int 0, .ref z_names, .int 12, .ref z_parents, .int 0, .int 0, .int 0, .int 0, .long 0, .int 0, .long 0, .int 0, .int 0, .int 0, .int 0, .int 0, .int 0, .ref z_ops, .ref z_args, .ref z_seconds, .int 0, .ref z_functionNames, .ref z_functionAt, .ref z_functionParams, .ref z_functionSlots, .ref z_functions, .ref z_newParents, .int 0, .ref z_slots, .int 0, .int 0, .ref z_overs, .int 0, .int 0, .long 0, .int 0, .ref z_waiting, .int 0, .int 0, .ref z_fTongue, .ref z_fFunction, .ref z_fPc, .ref z_fPlace, .ref z_fStack, .ref z_fBlocks, .int 0, .int 0, .ref z_varKinds, .ref z_varBits, .ref z_kinds, .ref z_bits, .int 0, .ref z_bKind, .ref z_bTo, .ref z_bWhat, .ref z_bMany, .ref z_bPending, .ref z_bPendingKind, .ref z_bPendingBits, .int 0, .ref z_arrayFrom, .ref z_arraySize, .ref z_arrayTongue, .int 0, .ref z_cellKinds, .ref z_cellBits, .int 0, .int 0, .ref z_gTongue, .ref z_gWhat, .ref z_gKind, .ref z_gBits, .ref z_gPlace, .ref z_gFunction, .ref z_gHow, .ref z_gFrom, .ref z_gUnder, .ref z_lyingOnes, .ref z_lyingNext, .int 0, .int 0, .int 0, .int 0, .int 0, .ref z_markBits, .ref z_markTongues, .int 0, .int 0, .int 0, .int 0, .int 0, .int 0, .int 0, .int 0, .long 0, .int 0, .int 0, .long 0, .ref z_rules, .ref z_entryBorder, .ref z_entryWhat, .ref z_entryAs, .int 0, .ref z_defaults])), (z_defaults, .inl (c_z_defaults, 16, .inl f_defaults)), (z_entryBorder, .inl (c_z_entryBorder, 100, .inl f_entryBorder)), (z_entryWhat, .inl (c_z_entryWhat, 100, .inl f_entryWhat)), (z_entryAs, .inl (c_z_entryAs, 100, .inl f_entryAs))] := hD
  refine lv_iload_n hx hb dX12_entry_5 rfl (lv_at hl 1 rfl) ?_
  refine lv_if_lt (tgt := 38) hx hb dX12_entry_6 (by decide) (fun c_6 => ?_) (fun c_6 => ?_)
  · refine lv_iconst (v := 0) hx hb dX12_entry_38 (by decide) ?_
    exact W.zret (v := 0) hx hb hr rfl (fun t ht hW => ⟨⟨0, (), rfl, Or.inl ⟨Or.inl (Or.inl c_6), rfl⟩, trivial⟩, hS.F ht⟩) hS.2.2 dX12_entry_39
  · refine lv_iload_n hx hb dX12_entry_9 rfl (lv_at hl 1 rfl) ?_
    refine lv_iconst (v := 3) hx hb dX12_entry_10 (by decide) ?_
    refine lv_icmp_gt (tgt := 38) hx hb dX12_entry_11 (by decide) (fun c_11 => ?_) (fun c_11 => ?_)
    · refine lv_iconst (v := 0) hx hb dX12_entry_38 (by decide) ?_
      exact W.zret (v := 0) hx hb hr rfl (fun t ht hW => ⟨⟨0, (), rfl, Or.inl ⟨Or.inl (ng_gt c_11), rfl⟩, trivial⟩, hS.F ht⟩) hS.2.2 dX12_entry_39
    · refine lv_iload_n hx hb dX12_entry_14 rfl (lv_at hl 2 rfl) ?_
      refine lv_if_lt (tgt := 38) hx hb dX12_entry_15 (by decide) (fun c_15 => ?_) (fun c_15 => ?_)
      · refine lv_iconst (v := 0) hx hb dX12_entry_38 (by decide) ?_
        exact W.zret (v := 0) hx hb hr rfl (fun t ht hW => ⟨⟨0, (), rfl, Or.inl ⟨Or.inr (Or.inl (Or.inl c_15)), rfl⟩, trivial⟩, hS.F ht⟩) hS.2.2 dX12_entry_39
      · refine lv_iload_n hx hb dX12_entry_18 rfl (lv_at hl 2 rfl) ?_
        refine lv_iconst (v := 3) hx hb dX12_entry_19 (by decide) ?_
        refine lv_icmp_gt (tgt := 38) hx hb dX12_entry_20 (by decide) (fun c_20 => ?_) (fun c_20 => ?_)
        · refine lv_iconst (v := 0) hx hb dX12_entry_38 (by decide) ?_
          exact W.zret (v := 0) hx hb hr rfl (fun t ht hW => ⟨⟨0, (), rfl, Or.inl ⟨Or.inr (Or.inl (ng_gt c_20)), rfl⟩, trivial⟩, hS.F ht⟩) hS.2.2 dX12_entry_39
        · refine lv_iload_n hx hb dX12_entry_23 rfl (lv_at hl 1 rfl) ?_
          refine lv_iload_n hx hb dX12_entry_24 rfl (lv_at hl 2 rfl) ?_
          refine lv_icmp_eq (tgt := 38) hx hb dX12_entry_25 (by decide) (fun c_25 => ?_) (fun c_25 => ?_)
          · refine lv_iconst (v := 0) hx hb dX12_entry_38 (by decide) ?_
            exact W.zret (v := 0) hx hb hr rfl (fun t ht hW => ⟨⟨0, (), rfl, Or.inl ⟨Or.inr (Or.inr (Or.inl c_25)), rfl⟩, trivial⟩, hS.F ht⟩) hS.2.2 dX12_entry_39
          · refine lv_aload_n hx hb dX12_entry_28 rfl (lv_at hl 0 rfl) ?_
            refine lv_iload_n hx hb dX12_entry_29 rfl (lv_at hl 2 rfl) ?_
            refine lv_iload hx hb dX12_entry_30 (lv_at hl 4 rfl) ?_
            refine va_calli (va_runV (As := [.int x2, .int x4]) (rest := []) ⟨hx, hb, hml, hown, hts⟩ (c_X12_canFail l dC dI h0 z_tape z_names z_parents z_ops z_args z_seconds z_functionNames z_functionAt z_functionParams z_functionSlots z_functions z_newParents z_slots z_overs z_waiting z_fTongue z_fFunction z_fPc z_fPlace z_fStack z_fBlocks z_varKinds z_varBits z_kinds z_bits z_bKind z_bTo z_bWhat z_bMany z_bPending z_bPendingKind z_bPendingBits z_arrayFrom z_arraySize z_arrayTongue z_cellKinds z_cellBits z_gTongue z_gWhat z_gKind z_gBits z_gPlace z_gFunction z_gHow z_gFrom z_gUnder z_lyingOnes z_lyingNext z_markBits z_markTongues z_rules z_entryBorder z_entryWhat z_entryAs z_defaults x2 x4 ) (cwV 2 hts gq_wqX12_entry_wqX12_canFail_567 rfl rfl rfl (by decide +kernel) ⟨Nat.le_of_ble_eq_true rfl, Nat.le_of_ble_eq_true rfl⟩) ⟨fb_R, va_recv hK hP (ci := 11) (q0 := 0) rfl rfl, fun U hU hW => ⟨rfl, xR.at (hP.sub (ws' := [(h0, .inr (11, [.int 0, .ref z_tape, .int 0, .ref z_names, .int 12, .ref z_parents, .int 0, .int 0, .int 0, .int 0, .long 0, .int 0, .long 0, .int 0, .int 0, .int 0, .int 0, .int 0, .int 0, .ref z_ops, .ref z_args, .ref z_seconds, .int 0, .ref z_functionNames, .ref z_functionAt, .ref z_functionParams, .ref z_functionSlots, .ref z_functions, .ref z_newParents, .int 0, .ref z_slots, .int 0, .int 0, .ref z_overs, .int 0, .int 0, .long 0, .int 0, .ref z_waiting, .int 0, .int 0, .ref z_fTongue, .ref z_fFunction, .ref z_fPc, .ref z_fPlace, .ref z_fStack, .ref z_fBlocks, .int 0, .int 0, .ref z_varKinds, .ref z_varBits, .ref z_kinds, .ref z_bits, .int 0, .ref z_bKind, .ref z_bTo, .ref z_bWhat, .ref z_bMany, .ref z_bPending, .ref z_bPendingKind, .ref z_bPendingBits, .int 0, .ref z_arrayFrom, .ref z_arraySize, .ref z_arrayTongue, .int 0, .ref z_cellKinds, .ref z_cellBits, .int 0, .int 0, .ref z_gTongue, .ref z_gWhat, .ref z_gKind, .ref z_gBits, .ref z_gPlace, .ref z_gFunction, .ref z_gHow, .ref z_gFrom, .ref z_gUnder, .ref z_lyingOnes, .ref z_lyingNext, .int 0, .int 0, .int 0, .int 0, .int 0, .ref z_markBits, .ref z_markTongues, .int 0, .int 0, .int 0, .int 0, .int 0, .int 0, .int 0, .int 0, .long 0, .int 0, .int 0, .long 0, .ref z_rules, .ref z_entryBorder, .ref z_entryWhat, .ref z_entryAs, .int 0, .ref z_defaults]))]) [0] rfl) (hK.sub (tys' := []) [] rfl) hU hW⟩⟩ rfl rfl hl.1 rfl (lv_room (Nat.le_of_ble_eq_true rfl)) dX12_entry_32 ⟨Nat.le_of_ble_eq_true rfl, Nat.le_of_ble_eq_true rfl⟩) hS (fun q _ h => h.elim) (fun q h => h.elim) (fun r_1 u t H locs ht hvm hw hB hz1 hk1 hS => ?_)
            have hw_2 := hw
            have hP := xR.keep hP hk1
            rcases hw_2 with ⟨hc1, rfl⟩ | ⟨hc1, rfl⟩
            · have _ := hc1
              refine lv_if_ne (tgt := 40) hx hb dX12_entry_35 (by decide) (fun c_35 => absurd c_35 (by decide)) (fun c_35 => ?_)
              refine lv_iconst (v := 0) hx hb dX12_entry_38 (by decide) ?_
              exact W.zret (v := 0) hx hb hr rfl (fun t ht hW => ⟨⟨0, (), rfl, Or.inl ⟨Or.inr (Or.inr (Or.inr (Or.inl hc1))), rfl⟩, trivial⟩, hS.F ht⟩) hS.2.2 dX12_entry_39
            · have _ := hc1
              refine lv_if_ne (tgt := 40) hx hb dX12_entry_35 (by decide) (fun c_35 => ?_) (fun c_35 => absurd c_35 (by decide))
              refine lv_iconst (v := 4) hx hb dX12_entry_40 (by decide) ?_
              refine lv_iload_n hx hb dX12_entry_41 rfl (lv_at hl 1 rfl) ?_
              refine lv_imul hx hb dX12_entry_42 ?_
              refine lv_iload_n hx hb dX12_entry_43 rfl (lv_at hl 2 rfl) ?_
              refine lv_iadd hx hb dX12_entry_44 ?_
              refine lv_istore (lv' := [(5, .int ((4 * x1) + x2)), (0, .ref h0), (1, .int x1), (2, .int x2), (3, .int x3), (4, .int x4)]) hx hb dX12_entry_45 hl (by decide) rfl (fun ls hl => ?_)
              refine lv_iload_n hx hb dX12_entry_47 rfl (lv_at hl 4 rfl) ?_
              refine lv_if_ne (tgt := 62) hx hb dX12_entry_48 (by decide) (fun c_48 => ?_) (fun c_48 => ?_)
              · refine lv_aload_n hx hb dX12_entry_62 rfl (lv_at hl 1 rfl) ?_
                refine lv_iload_n hx hb dX12_entry_63 rfl (lv_at hl 2 rfl) ?_
                refine lv_iload_n hx hb dX12_entry_64 rfl (lv_at hl 4 rfl) ?_
                refine va_calli (va_runV (As := [.int x1, .int x3]) (rest := []) ⟨hx, hb, hml, hown, hts⟩ (c_X12_canFail l dC dI h0 z_tape z_names z_parents z_ops z_args z_seconds z_functionNames z_functionAt z_functionParams z_functionSlots z_functions z_newParents z_slots z_overs z_waiting z_fTongue z_fFunction z_fPc z_fPlace z_fStack z_fBlocks z_varKinds z_varBits z_kinds z_bits z_bKind z_bTo z_bWhat z_bMany z_bPending z_bPendingKind z_bPendingBits z_arrayFrom z_arraySize z_arrayTongue z_cellKinds z_cellBits z_gTongue z_gWhat z_gKind z_gBits z_gPlace z_gFunction z_gHow z_gFrom z_gUnder z_lyingOnes z_lyingNext z_markBits z_markTongues z_rules z_entryBorder z_entryWhat z_entryAs z_defaults x1 x3 ) (cwV 2 hts gq_wqX12_entry_wqX12_canFail_567 rfl rfl rfl (by decide +kernel) ⟨Nat.le_of_ble_eq_true rfl, Nat.le_of_ble_eq_true rfl⟩) ⟨fb_R, va_recv hK hP (ci := 11) (q0 := 0) rfl rfl, fun U hU hW => ⟨rfl, xR.at (hP.sub (ws' := [(h0, .inr (11, [.int 0, .ref z_tape, .int 0, .ref z_names, .int 12, .ref z_parents, .int 0, .int 0, .int 0, .int 0, .long 0, .int 0, .long 0, .int 0, .int 0, .int 0, .int 0, .int 0, .int 0, .ref z_ops, .ref z_args, .ref z_seconds, .int 0, .ref z_functionNames, .ref z_functionAt, .ref z_functionParams, .ref z_functionSlots, .ref z_functions, .ref z_newParents, .int 0, .ref z_slots, .int 0, .int 0, .ref z_overs, .int 0, .int 0, .long 0, .int 0, .ref z_waiting, .int 0, .int 0, .ref z_fTongue, .ref z_fFunction, .ref z_fPc, .ref z_fPlace, .ref z_fStack, .ref z_fBlocks, .int 0, .int 0, .ref z_varKinds, .ref z_varBits, .ref z_kinds, .ref z_bits, .int 0, .ref z_bKind, .ref z_bTo, .ref z_bWhat, .ref z_bMany, .ref z_bPending, .ref z_bPendingKind, .ref z_bPendingBits, .int 0, .ref z_arrayFrom, .ref z_arraySize, .ref z_arrayTongue, .int 0, .ref z_cellKinds, .ref z_cellBits, .int 0, .int 0, .ref z_gTongue, .ref z_gWhat, .ref z_gKind, .ref z_gBits, .ref z_gPlace, .ref z_gFunction, .ref z_gHow, .ref z_gFrom, .ref z_gUnder, .ref z_lyingOnes, .ref z_lyingNext, .int 0, .int 0, .int 0, .int 0, .int 0, .ref z_markBits, .ref z_markTongues, .int 0, .int 0, .int 0, .int 0, .int 0, .int 0, .int 0, .int 0, .long 0, .int 0, .int 0, .long 0, .ref z_rules, .ref z_entryBorder, .ref z_entryWhat, .ref z_entryAs, .int 0, .ref z_defaults]))]) [0] rfl) (hK.sub (tys' := []) [] rfl) hU hW⟩⟩ rfl rfl hl.1 rfl (lv_room (Nat.le_of_ble_eq_true rfl)) dX12_entry_65 ⟨Nat.le_of_ble_eq_true rfl, Nat.le_of_ble_eq_true rfl⟩) hS (fun q _ h => h.elim) (fun q h => h.elim) (fun r_3 u t H locs ht hvm hw hB hz1 hk1 hS => ?_)
                have hw_4 := hw
                have hP := xR.keep hP hk1
                rcases hw_4 with ⟨hc2, rfl⟩ | ⟨hc2, rfl⟩
                · have _ := hc2
                  refine lv_if_ne (tgt := 73) hx hb dX12_entry_68 (by decide) (fun c_68 => absurd c_68 (by decide)) (fun c_68 => ?_)
                  refine lv_iconst (v := 0) hx hb dX12_entry_71 (by decide) ?_
                  exact W.zret (v := 0) hx hb hr rfl (fun t ht hW => ⟨⟨0, (), rfl, Or.inl ⟨Or.inr (Or.inr (Or.inr (Or.inr ⟨c_48, hc2⟩))), rfl⟩, trivial⟩, hS.F ht⟩) hS.2.2 dX12_entry_72
                · have _ := hc2
                  refine lv_if_ne (tgt := 73) hx hb dX12_entry_68 (by decide) (fun c_68 => ?_) (fun c_68 => absurd c_68 (by decide))
                  refine lv_aload_n hx hb dX12_entry_73 rfl (lv_at hl 1 rfl) ?_
                  refine lv_iload hx hb dX12_entry_74 (lv_at hl 0 rfl) ?_
                  refine lv_iload_n hx hb dX12_entry_76 rfl (lv_at hl 4 rfl) ?_
                  refine va_calli (va_runV (As := [.int ((4 * x1) + x2), .int x3]) (rest := []) ⟨hx, hb, hml, hown, hts⟩ (c_X12_entryOf l dC dI h0 z_tape z_names z_parents z_ops z_args z_seconds z_functionNames z_functionAt z_functionParams z_functionSlots z_functions z_newParents z_slots z_overs z_waiting z_fTongue z_fFunction z_fPc z_fPlace z_fStack z_fBlocks z_varKinds z_varBits z_kinds z_bits z_bKind z_bTo z_bWhat z_bMany z_bPending z_bPendingKind z_bPendingBits z_arrayFrom z_arraySize z_arrayTongue z_cellKinds z_cellBits z_gTongue z_gWhat z_gKind z_gBits z_gPlace z_gFunction z_gHow z_gFrom z_gUnder z_lyingOnes z_lyingNext z_markBits z_markTongues z_rules z_entryBorder z_entryWhat z_entryAs z_defaults ((4 * x1) + x2) x3 ) (cwV 2 hts gq_wqX12_entry_wqX12_entryOf_570 rfl rfl rfl (by decide +kernel) ⟨Nat.le_of_ble_eq_true rfl, Nat.le_of_ble_eq_true rfl⟩) ⟨fb_R, va_recv hK hP (ci := 11) (q0 := 0) rfl rfl, fun U hU hW => ⟨rfl, xR.at (hP.sub (ws' := [(h0, .inr (11, [.int 0, .ref z_tape, .int 0, .ref z_names, .int 12, .ref z_parents, .int 0, .int 0, .int 0, .int 0, .long 0, .int 0, .long 0, .int 0, .int 0, .int 0, .int 0, .int 0, .int 0, .ref z_ops, .ref z_args, .ref z_seconds, .int 0, .ref z_functionNames, .ref z_functionAt, .ref z_functionParams, .ref z_functionSlots, .ref z_functions, .ref z_newParents, .int 0, .ref z_slots, .int 0, .int 0, .ref z_overs, .int 0, .int 0, .long 0, .int 0, .ref z_waiting, .int 0, .int 0, .ref z_fTongue, .ref z_fFunction, .ref z_fPc, .ref z_fPlace, .ref z_fStack, .ref z_fBlocks, .int 0, .int 0, .ref z_varKinds, .ref z_varBits, .ref z_kinds, .ref z_bits, .int 0, .ref z_bKind, .ref z_bTo, .ref z_bWhat, .ref z_bMany, .ref z_bPending, .ref z_bPendingKind, .ref z_bPendingBits, .int 0, .ref z_arrayFrom, .ref z_arraySize, .ref z_arrayTongue, .int 0, .ref z_cellKinds, .ref z_cellBits, .int 0, .int 0, .ref z_gTongue, .ref z_gWhat, .ref z_gKind, .ref z_gBits, .ref z_gPlace, .ref z_gFunction, .ref z_gHow, .ref z_gFrom, .ref z_gUnder, .ref z_lyingOnes, .ref z_lyingNext, .int 0, .int 0, .int 0, .int 0, .int 0, .ref z_markBits, .ref z_markTongues, .int 0, .int 0, .int 0, .int 0, .int 0, .int 0, .int 0, .int 0, .long 0, .int 0, .int 0, .long 0, .ref z_rules, .ref z_entryBorder, .ref z_entryWhat, .ref z_entryAs, .int 0, .ref z_defaults]))]) [0] rfl) (hK.sub (tys' := []) [] rfl) hU hW⟩⟩ rfl rfl hl.1 rfl (lv_room (Nat.le_of_ble_eq_true rfl)) dX12_entry_77 ⟨Nat.le_of_ble_eq_true rfl, Nat.le_of_ble_eq_true rfl⟩) hS (fun q _ h => h.elim) (fun q h => h.elim) (fun r_5 u t H locs ht hvm hw hB hz1 hk1 hS => ?_)
                  have hw_6 := hw
                  have hP := xR.keep hP hk1
                  subst hw_6
                  refine lv_istore (lv' := [(6, .int (-1)), (5, .int ((4 * x1) + x2)), (0, .ref h0), (1, .int x1), (2, .int x2), (3, .int x3), (4, .int x4)]) hx hb dX12_entry_80 hl (by decide) rfl (fun ls hl => ?_)
                  refine lv_iload hx hb dX12_entry_82 (lv_at hl 0 rfl) ?_
                  refine lv_iconst (v := (-1)) hx hb dX12_entry_84 (by decide) ?_
                  refine lv_icmp_ne (tgt := 132) hx hb dX12_entry_85 (by decide) (fun c_85 => absurd c_85 (by decide)) (fun c_85 => ?_)
                  refine lv_aload_n hx hb dX12_entry_88 rfl (lv_at hl 2 rfl) ?_
                  refine va_get (D := (dC, dI)) (ci := 11) (v := .int 0) (C := RX12) (T := TX12) (N := 106) hx hb hts in_wqX12_entry_RX12 hown hK hP 0 rfl rfl 104 (by decide) (hts (.fieldLink RX12 564 "FourTonguesModel" "entries" "I") (by decide +kernel)) (fun _ h9 => h9) rfl dX12_entry_89 ?_
                  refine lv_bipush (v := 100) hx hb dX12_entry_92 (by decide) ?_
                  refine lv_icmp_ne (tgt := 99) hx hb dX12_entry_94 (by decide) (fun c_94 => ?_) (fun c_94 => absurd c_94 (by decide))
                  refine lv_aload_n hx hb dX12_entry_99 rfl (lv_at hl 2 rfl) ?_
                  refine va_get (D := (dC, dI)) (ci := 11) (v := .int 0) (C := RX12) (T := TX12) (N := 106) hx hb hts in_wqX12_entry_RX12 hown hK hP 0 rfl rfl 104 (by decide) (hts (.fieldLink RX12 564 "FourTonguesModel" "entries" "I") (by decide +kernel)) (fun _ h9 => h9) rfl dX12_entry_100 ?_
                  refine lv_istore (lv' := [(6, .int 0), (5, .int ((4 * x1) + x2)), (0, .ref h0), (1, .int x1), (2, .int x2), (3, .int x3), (4, .int x4)]) hx hb dX12_entry_103 hl (by decide) rfl (fun ls hl => ?_)
                  refine lv_aload_n hx hb dX12_entry_105 rfl (lv_at hl 2 rfl) ?_
                  refine lv_dup hx hb dX12_entry_106 rfl ?_
                  refine va_get (D := (dC, dI)) (ci := 11) (v := .int 0) (C := RX12) (T := TX12) (N := 106) hx hb hts in_wqX12_entry_RX12 hown hK hP 0 rfl rfl 104 (by decide) (hts (.fieldLink RX12 564 "FourTonguesModel" "entries" "I") (by decide +kernel)) (fun _ h9 => h9) rfl dX12_entry_107 ?_
                  refine lv_iconst (v := 1) hx hb dX12_entry_110 (by decide) ?_
                  refine lv_iadd hx hb dX12_entry_111 ?_
                  refine my_ti (v := 1) (by decide) ?_
                  refine va_put (D := (dC, dI)) (ci := 11) (v := .int 1) (ty := .int) (C := RX12) (T := TX12) (N := 106) hx hb hts in_wqX12_entry_RX12 tyX12 tyX12_ok nmX12 hown hK hP hD hS 0 rfl rfl 104 (by decide) (hts (.fieldLink RX12 564 "FourTonguesModel" "entries" "I") (by decide +kernel)) (fun _ h9 => h9) rfl (by decide +kernel) rfl rfl (Nat.le_of_ble_eq_true rfl) dX12_entry_112 (fun H locs hP hD hS => ?_)
                  have hP : va_P (dC, dI) vwCl [(h0, .inr (11, [.int 0, .ref z_tape, .int 0, .ref z_names, .int 12, .ref z_parents, .int 0, .int 0, .int 0, .int 0, .long 0, .int 0, .long 0, .int 0, .int 0, .int 0, .int 0, .int 0, .int 0, .ref z_ops, .ref z_args, .ref z_seconds, .int 0, .ref z_functionNames, .ref z_functionAt, .ref z_functionParams, .ref z_functionSlots, .ref z_functions, .ref z_newParents, .int 0, .ref z_slots, .int 0, .int 0, .ref z_overs, .int 0, .int 0, .long 0, .int 0, .ref z_waiting, .int 0, .int 0, .ref z_fTongue, .ref z_fFunction, .ref z_fPc, .ref z_fPlace, .ref z_fStack, .ref z_fBlocks, .int 0, .int 0, .ref z_varKinds, .ref z_varBits, .ref z_kinds, .ref z_bits, .int 0, .ref z_bKind, .ref z_bTo, .ref z_bWhat, .ref z_bMany, .ref z_bPending, .ref z_bPendingKind, .ref z_bPendingBits, .int 0, .ref z_arrayFrom, .ref z_arraySize, .ref z_arrayTongue, .int 0, .ref z_cellKinds, .ref z_cellBits, .int 0, .int 0, .ref z_gTongue, .ref z_gWhat, .ref z_gKind, .ref z_gBits, .ref z_gPlace, .ref z_gFunction, .ref z_gHow, .ref z_gFrom, .ref z_gUnder, .ref z_lyingOnes, .ref z_lyingNext, .int 0, .int 0, .int 0, .int 0, .int 0, .ref z_markBits, .ref z_markTongues, .int 0, .int 0, .int 0, .int 0, .int 0, .int 0, .int 0, .int 0, .long 0, .int 0, .int 0, .long 0, .ref z_rules, .ref z_entryBorder, .ref z_entryWhat, .ref z_entryAs, .int 1, .ref z_defaults])), (z_defaults, .inl (c_z_defaults, 16, .inl f_defaults)), (z_entryBorder, .inl (c_z_entryBorder, 100, .inl f_entryBorder)), (z_entryWhat, .inl (c_z_entryWhat, 100, .inl f_entryWhat)), (z_entryAs, .inl (c_z_entryAs, 100, .inl f_entryAs))] _ := hP
                  have hD : va_D A [(h0, .inr (11, [.int 0, .ref z_tape, .int 0, .ref z_names, .int 12, .ref z_parents, .int 0, .int 0, .int 0, .int 0, .long 0, .int 0, .long 0, .int 0, .int 0, .int 0, .int 0, .int 0, .int 0, .ref z_ops, .ref z_args, .ref z_seconds, .int 0, .ref z_functionNames, .ref z_functionAt, .ref z_functionParams, .ref z_functionSlots, .ref z_functions, .ref z_newParents, .int 0, .ref z_slots, .int 0, .int 0, .ref z_overs, .int 0, .int 0, .long 0, .int 0, .ref z_waiting, .int 0, .int 0, .ref z_fTongue, .ref z_fFunction, .ref z_fPc, .ref z_fPlace, .ref z_fStack, .ref z_fBlocks, .int 0, .int 0, .ref z_varKinds, .ref z_varBits, .ref z_kinds, .ref z_bits, .int 0, .ref z_bKind, .ref z_bTo, .ref z_bWhat, .ref z_bMany, .ref z_bPending, .ref z_bPendingKind, .ref z_bPendingBits, .int 0, .ref z_arrayFrom, .ref z_arraySize, .ref z_arrayTongue, .int 0, .ref z_cellKinds, .ref z_cellBits, .int 0, .int 0, .ref z_gTongue, .ref z_gWhat, .ref z_gKind, .ref z_gBits, .ref z_gPlace, .ref z_gFunction, .ref z_gHow, .ref z_gFrom, .ref z_gUnder, .ref z_lyingOnes, .ref z_lyingNext, .int 0, .int 0, .int 0, .int 0, .int 0, .ref z_markBits, .ref z_markTongues, .int 0, .int 0, .int 0, .int 0, .int 0, .int 0, .int 0, .int 0, .long 0, .int 0, .int 0, .long 0, .ref z_rules, .ref z_entryBorder, .ref z_entryWhat, .ref z_entryAs, .int 1, .ref z_defaults])), (z_defaults, .inl (c_z_defaults, 16, .inl f_defaults)), (z_entryBorder, .inl (c_z_entryBorder, 100, .inl f_entryBorder)), (z_entryWhat, .inl (c_z_entryWhat, 100, .inl f_entryWhat)), (z_entryAs, .inl (c_z_entryAs, 100, .inl f_entryAs))] := hD
                  refine lv_aload_n hx hb dX12_entry_115 rfl (lv_at hl 2 rfl) ?_
                  refine va_get (D := (dC, dI)) (ci := 11) (v := .ref z_entryBorder) (C := RX12) (T := TX12) (N := 106) hx hb hts in_wqX12_entry_RX12 hown hK hP 0 rfl rfl 101 (by decide) (hts (.fieldLink RX12 166 "FourTonguesModel" "entryBorder" "[I") (by decide +kernel)) (fun _ h9 => h9) rfl dX12_entry_116 ?_
                  refine lv_iload hx hb dX12_entry_119 (lv_at hl 0 rfl) ?_
                  refine lv_iload hx hb dX12_entry_121 (lv_at hl 1 rfl) ?_
                  refine va_iast hx hb hK hP hD hS 2 1 rfl rfl (by unfold vp_in; decide) dX12_entry_123 (fun H locs hP hD hS => ?_)
                  obtain ⟨f_7, ef_7⟩ : ∃ y : Nat → Int32, y = upd f_entryBorder ((0 : Int32).toNatClampNeg) ((4 * x1) + x2) := ⟨_, rfl⟩
                  rw [← ef_7] at hP hD
                  have hP : va_P (dC, dI) vwCl [(h0, .inr (11, [.int 0, .ref z_tape, .int 0, .ref z_names, .int 12, .ref z_parents, .int 0, .int 0, .int 0, .int 0, .long 0, .int 0, .long 0, .int 0, .int 0, .int 0, .int 0, .int 0, .int 0, .ref z_ops, .ref z_args, .ref z_seconds, .int 0, .ref z_functionNames, .ref z_functionAt, .ref z_functionParams, .ref z_functionSlots, .ref z_functions, .ref z_newParents, .int 0, .ref z_slots, .int 0, .int 0, .ref z_overs, .int 0, .int 0, .long 0, .int 0, .ref z_waiting, .int 0, .int 0, .ref z_fTongue, .ref z_fFunction, .ref z_fPc, .ref z_fPlace, .ref z_fStack, .ref z_fBlocks, .int 0, .int 0, .ref z_varKinds, .ref z_varBits, .ref z_kinds, .ref z_bits, .int 0, .ref z_bKind, .ref z_bTo, .ref z_bWhat, .ref z_bMany, .ref z_bPending, .ref z_bPendingKind, .ref z_bPendingBits, .int 0, .ref z_arrayFrom, .ref z_arraySize, .ref z_arrayTongue, .int 0, .ref z_cellKinds, .ref z_cellBits, .int 0, .int 0, .ref z_gTongue, .ref z_gWhat, .ref z_gKind, .ref z_gBits, .ref z_gPlace, .ref z_gFunction, .ref z_gHow, .ref z_gFrom, .ref z_gUnder, .ref z_lyingOnes, .ref z_lyingNext, .int 0, .int 0, .int 0, .int 0, .int 0, .ref z_markBits, .ref z_markTongues, .int 0, .int 0, .int 0, .int 0, .int 0, .int 0, .int 0, .int 0, .long 0, .int 0, .int 0, .long 0, .ref z_rules, .ref z_entryBorder, .ref z_entryWhat, .ref z_entryAs, .int 1, .ref z_defaults])), (z_defaults, .inl (c_z_defaults, 16, .inl f_defaults)), (z_entryBorder, .inl (c_z_entryBorder, 100, .inl f_7)), (z_entryWhat, .inl (c_z_entryWhat, 100, .inl f_entryWhat)), (z_entryAs, .inl (c_z_entryAs, 100, .inl f_entryAs))] _ := hP
                  have hD : va_D A [(h0, .inr (11, [.int 0, .ref z_tape, .int 0, .ref z_names, .int 12, .ref z_parents, .int 0, .int 0, .int 0, .int 0, .long 0, .int 0, .long 0, .int 0, .int 0, .int 0, .int 0, .int 0, .int 0, .ref z_ops, .ref z_args, .ref z_seconds, .int 0, .ref z_functionNames, .ref z_functionAt, .ref z_functionParams, .ref z_functionSlots, .ref z_functions, .ref z_newParents, .int 0, .ref z_slots, .int 0, .int 0, .ref z_overs, .int 0, .int 0, .long 0, .int 0, .ref z_waiting, .int 0, .int 0, .ref z_fTongue, .ref z_fFunction, .ref z_fPc, .ref z_fPlace, .ref z_fStack, .ref z_fBlocks, .int 0, .int 0, .ref z_varKinds, .ref z_varBits, .ref z_kinds, .ref z_bits, .int 0, .ref z_bKind, .ref z_bTo, .ref z_bWhat, .ref z_bMany, .ref z_bPending, .ref z_bPendingKind, .ref z_bPendingBits, .int 0, .ref z_arrayFrom, .ref z_arraySize, .ref z_arrayTongue, .int 0, .ref z_cellKinds, .ref z_cellBits, .int 0, .int 0, .ref z_gTongue, .ref z_gWhat, .ref z_gKind, .ref z_gBits, .ref z_gPlace, .ref z_gFunction, .ref z_gHow, .ref z_gFrom, .ref z_gUnder, .ref z_lyingOnes, .ref z_lyingNext, .int 0, .int 0, .int 0, .int 0, .int 0, .ref z_markBits, .ref z_markTongues, .int 0, .int 0, .int 0, .int 0, .int 0, .int 0, .int 0, .int 0, .long 0, .int 0, .int 0, .long 0, .ref z_rules, .ref z_entryBorder, .ref z_entryWhat, .ref z_entryAs, .int 1, .ref z_defaults])), (z_defaults, .inl (c_z_defaults, 16, .inl f_defaults)), (z_entryBorder, .inl (c_z_entryBorder, 100, .inl f_7)), (z_entryWhat, .inl (c_z_entryWhat, 100, .inl f_entryWhat)), (z_entryAs, .inl (c_z_entryAs, 100, .inl f_entryAs))] := hD
                  refine lv_aload_n hx hb dX12_entry_124 rfl (lv_at hl 2 rfl) ?_
                  refine va_get (D := (dC, dI)) (ci := 11) (v := .ref z_entryWhat) (C := RX12) (T := TX12) (N := 106) hx hb hts in_wqX12_entry_RX12 hown hK hP 0 rfl rfl 102 (by decide) (hts (.fieldLink RX12 169 "FourTonguesModel" "entryWhat" "[I") (by decide +kernel)) (fun _ h9 => h9) rfl dX12_entry_125 ?_
                  refine lv_iload hx hb dX12_entry_128 (lv_at hl 0 rfl) ?_
                  refine lv_iload_n hx hb dX12_entry_130 rfl (lv_at hl 5 rfl) ?_
                  refine va_iast hx hb hK hP hD hS 3 2 rfl rfl (by unfold vp_in; decide) dX12_entry_131 (fun H locs hP hD hS => ?_)
                  obtain ⟨f_8, ef_8⟩ : ∃ y : Nat → Int32, y = upd f_entryWhat ((0 : Int32).toNatClampNeg) x3 := ⟨_, rfl⟩
                  rw [← ef_8] at hP hD
                  have hP : va_P (dC, dI) vwCl [(h0, .inr (11, [.int 0, .ref z_tape, .int 0, .ref z_names, .int 12, .ref z_parents, .int 0, .int 0, .int 0, .int 0, .long 0, .int 0, .long 0, .int 0, .int 0, .int 0, .int 0, .int 0, .int 0, .ref z_ops, .ref z_args, .ref z_seconds, .int 0, .ref z_functionNames, .ref z_functionAt, .ref z_functionParams, .ref z_functionSlots, .ref z_functions, .ref z_newParents, .int 0, .ref z_slots, .int 0, .int 0, .ref z_overs, .int 0, .int 0, .long 0, .int 0, .ref z_waiting, .int 0, .int 0, .ref z_fTongue, .ref z_fFunction, .ref z_fPc, .ref z_fPlace, .ref z_fStack, .ref z_fBlocks, .int 0, .int 0, .ref z_varKinds, .ref z_varBits, .ref z_kinds, .ref z_bits, .int 0, .ref z_bKind, .ref z_bTo, .ref z_bWhat, .ref z_bMany, .ref z_bPending, .ref z_bPendingKind, .ref z_bPendingBits, .int 0, .ref z_arrayFrom, .ref z_arraySize, .ref z_arrayTongue, .int 0, .ref z_cellKinds, .ref z_cellBits, .int 0, .int 0, .ref z_gTongue, .ref z_gWhat, .ref z_gKind, .ref z_gBits, .ref z_gPlace, .ref z_gFunction, .ref z_gHow, .ref z_gFrom, .ref z_gUnder, .ref z_lyingOnes, .ref z_lyingNext, .int 0, .int 0, .int 0, .int 0, .int 0, .ref z_markBits, .ref z_markTongues, .int 0, .int 0, .int 0, .int 0, .int 0, .int 0, .int 0, .int 0, .long 0, .int 0, .int 0, .long 0, .ref z_rules, .ref z_entryBorder, .ref z_entryWhat, .ref z_entryAs, .int 1, .ref z_defaults])), (z_defaults, .inl (c_z_defaults, 16, .inl f_defaults)), (z_entryBorder, .inl (c_z_entryBorder, 100, .inl f_7)), (z_entryWhat, .inl (c_z_entryWhat, 100, .inl f_8)), (z_entryAs, .inl (c_z_entryAs, 100, .inl f_entryAs))] _ := hP
                  have hD : va_D A [(h0, .inr (11, [.int 0, .ref z_tape, .int 0, .ref z_names, .int 12, .ref z_parents, .int 0, .int 0, .int 0, .int 0, .long 0, .int 0, .long 0, .int 0, .int 0, .int 0, .int 0, .int 0, .int 0, .ref z_ops, .ref z_args, .ref z_seconds, .int 0, .ref z_functionNames, .ref z_functionAt, .ref z_functionParams, .ref z_functionSlots, .ref z_functions, .ref z_newParents, .int 0, .ref z_slots, .int 0, .int 0, .ref z_overs, .int 0, .int 0, .long 0, .int 0, .ref z_waiting, .int 0, .int 0, .ref z_fTongue, .ref z_fFunction, .ref z_fPc, .ref z_fPlace, .ref z_fStack, .ref z_fBlocks, .int 0, .int 0, .ref z_varKinds, .ref z_varBits, .ref z_kinds, .ref z_bits, .int 0, .ref z_bKind, .ref z_bTo, .ref z_bWhat, .ref z_bMany, .ref z_bPending, .ref z_bPendingKind, .ref z_bPendingBits, .int 0, .ref z_arrayFrom, .ref z_arraySize, .ref z_arrayTongue, .int 0, .ref z_cellKinds, .ref z_cellBits, .int 0, .int 0, .ref z_gTongue, .ref z_gWhat, .ref z_gKind, .ref z_gBits, .ref z_gPlace, .ref z_gFunction, .ref z_gHow, .ref z_gFrom, .ref z_gUnder, .ref z_lyingOnes, .ref z_lyingNext, .int 0, .int 0, .int 0, .int 0, .int 0, .ref z_markBits, .ref z_markTongues, .int 0, .int 0, .int 0, .int 0, .int 0, .int 0, .int 0, .int 0, .long 0, .int 0, .int 0, .long 0, .ref z_rules, .ref z_entryBorder, .ref z_entryWhat, .ref z_entryAs, .int 1, .ref z_defaults])), (z_defaults, .inl (c_z_defaults, 16, .inl f_defaults)), (z_entryBorder, .inl (c_z_entryBorder, 100, .inl f_7)), (z_entryWhat, .inl (c_z_entryWhat, 100, .inl f_8)), (z_entryAs, .inl (c_z_entryAs, 100, .inl f_entryAs))] := hD
                  refine lv_aload_n hx hb dX12_entry_132 rfl (lv_at hl 2 rfl) ?_
                  refine va_get (D := (dC, dI)) (ci := 11) (v := .ref z_entryAs) (C := RX12) (T := TX12) (N := 106) hx hb hts in_wqX12_entry_RX12 hown hK hP 0 rfl rfl 103 (by decide) (hts (.fieldLink RX12 172 "FourTonguesModel" "entryAs" "[I") (by decide +kernel)) (fun _ h9 => h9) rfl dX12_entry_133 ?_
                  refine lv_iload hx hb dX12_entry_136 (lv_at hl 0 rfl) ?_
                  refine lv_iload hx hb dX12_entry_138 (lv_at hl 6 rfl) ?_
                  refine va_iast hx hb hK hP hD hS 4 3 rfl rfl (by unfold vp_in; decide) dX12_entry_140 (fun H locs hP hD hS => ?_)
                  obtain ⟨f_9, ef_9⟩ : ∃ y : Nat → Int32, y = upd f_entryAs ((0 : Int32).toNatClampNeg) x4 := ⟨_, rfl⟩
                  rw [← ef_9] at hP hD
                  have hP : va_P (dC, dI) vwCl [(h0, .inr (11, [.int 0, .ref z_tape, .int 0, .ref z_names, .int 12, .ref z_parents, .int 0, .int 0, .int 0, .int 0, .long 0, .int 0, .long 0, .int 0, .int 0, .int 0, .int 0, .int 0, .int 0, .ref z_ops, .ref z_args, .ref z_seconds, .int 0, .ref z_functionNames, .ref z_functionAt, .ref z_functionParams, .ref z_functionSlots, .ref z_functions, .ref z_newParents, .int 0, .ref z_slots, .int 0, .int 0, .ref z_overs, .int 0, .int 0, .long 0, .int 0, .ref z_waiting, .int 0, .int 0, .ref z_fTongue, .ref z_fFunction, .ref z_fPc, .ref z_fPlace, .ref z_fStack, .ref z_fBlocks, .int 0, .int 0, .ref z_varKinds, .ref z_varBits, .ref z_kinds, .ref z_bits, .int 0, .ref z_bKind, .ref z_bTo, .ref z_bWhat, .ref z_bMany, .ref z_bPending, .ref z_bPendingKind, .ref z_bPendingBits, .int 0, .ref z_arrayFrom, .ref z_arraySize, .ref z_arrayTongue, .int 0, .ref z_cellKinds, .ref z_cellBits, .int 0, .int 0, .ref z_gTongue, .ref z_gWhat, .ref z_gKind, .ref z_gBits, .ref z_gPlace, .ref z_gFunction, .ref z_gHow, .ref z_gFrom, .ref z_gUnder, .ref z_lyingOnes, .ref z_lyingNext, .int 0, .int 0, .int 0, .int 0, .int 0, .ref z_markBits, .ref z_markTongues, .int 0, .int 0, .int 0, .int 0, .int 0, .int 0, .int 0, .int 0, .long 0, .int 0, .int 0, .long 0, .ref z_rules, .ref z_entryBorder, .ref z_entryWhat, .ref z_entryAs, .int 1, .ref z_defaults])), (z_defaults, .inl (c_z_defaults, 16, .inl f_defaults)), (z_entryBorder, .inl (c_z_entryBorder, 100, .inl f_7)), (z_entryWhat, .inl (c_z_entryWhat, 100, .inl f_8)), (z_entryAs, .inl (c_z_entryAs, 100, .inl f_9))] _ := hP
                  have hD : va_D A [(h0, .inr (11, [.int 0, .ref z_tape, .int 0, .ref z_names, .int 12, .ref z_parents, .int 0, .int 0, .int 0, .int 0, .long 0, .int 0, .long 0, .int 0, .int 0, .int 0, .int 0, .int 0, .int 0, .ref z_ops, .ref z_args, .ref z_seconds, .int 0, .ref z_functionNames, .ref z_functionAt, .ref z_functionParams, .ref z_functionSlots, .ref z_functions, .ref z_newParents, .int 0, .ref z_slots, .int 0, .int 0, .ref z_overs, .int 0, .int 0, .long 0, .int 0, .ref z_waiting, .int 0, .int 0, .ref z_fTongue, .ref z_fFunction, .ref z_fPc, .ref z_fPlace, .ref z_fStack, .ref z_fBlocks, .int 0, .int 0, .ref z_varKinds, .ref z_varBits, .ref z_kinds, .ref z_bits, .int 0, .ref z_bKind, .ref z_bTo, .ref z_bWhat, .ref z_bMany, .ref z_bPending, .ref z_bPendingKind, .ref z_bPendingBits, .int 0, .ref z_arrayFrom, .ref z_arraySize, .ref z_arrayTongue, .int 0, .ref z_cellKinds, .ref z_cellBits, .int 0, .int 0, .ref z_gTongue, .ref z_gWhat, .ref z_gKind, .ref z_gBits, .ref z_gPlace, .ref z_gFunction, .ref z_gHow, .ref z_gFrom, .ref z_gUnder, .ref z_lyingOnes, .ref z_lyingNext, .int 0, .int 0, .int 0, .int 0, .int 0, .ref z_markBits, .ref z_markTongues, .int 0, .int 0, .int 0, .int 0, .int 0, .int 0, .int 0, .int 0, .long 0, .int 0, .int 0, .long 0, .ref z_rules, .ref z_entryBorder, .ref z_entryWhat, .ref z_entryAs, .int 1, .ref z_defaults])), (z_defaults, .inl (c_z_defaults, 16, .inl f_defaults)), (z_entryBorder, .inl (c_z_entryBorder, 100, .inl f_7)), (z_entryWhat, .inl (c_z_entryWhat, 100, .inl f_8)), (z_entryAs, .inl (c_z_entryAs, 100, .inl f_9))] := hD
                  refine lv_iconst (v := 1) hx hb dX12_entry_141 (by decide) ?_
                  exact W.zret (v := 1) hx hb hr rfl (fun t ht hW => ⟨⟨1, (), rfl, Or.inr ⟨fun q => q.elim (ng_of c_6 c_11) (fun q => q.elim (ng_of c_15 c_20) (fun q => q.elim c_25 (fun q => q.elim (fun z => z hc1) (fun z => z.2 hc2)))), rfl⟩, trivial⟩, hS.F ht⟩) hS.2.2 dX12_entry_142
              · refine lv_aload_n hx hb dX12_entry_51 rfl (lv_at hl 1 rfl) ?_
                refine va_get (D := (dC, dI)) (ci := 11) (v := .ref z_defaults) (C := RX12) (T := TX12) (N := 106) hx hb hts in_wqX12_entry_RX12 hown hK hP 0 rfl rfl 105 (by decide) (hts (.fieldLink RX12 175 "FourTonguesModel" "defaults" "[I") (by decide +kernel)) (fun _ h9 => h9) rfl dX12_entry_52 ?_
                refine lv_iload hx hb dX12_entry_55 (lv_at hl 0 rfl) ?_
                refine lv_iload hx hb dX12_entry_57 (lv_at hl 5 rfl) ?_
                refine va_iast hx hb hK hP hD hS 1 0 rfl rfl (br_in2 (ng_of c_6 c_11) (ng_of c_15 c_20)) dX12_entry_59 (fun H locs hP hD hS => ?_)
                obtain ⟨f_10, ef_10⟩ : ∃ y : Nat → Int32, y = upd f_defaults (((4 * x1) + x2 : Int32).toNatClampNeg) x4 := ⟨_, rfl⟩
                rw [← ef_10] at hP hD
                have hP : va_P (dC, dI) vwCl [(h0, .inr (11, [.int 0, .ref z_tape, .int 0, .ref z_names, .int 12, .ref z_parents, .int 0, .int 0, .int 0, .int 0, .long 0, .int 0, .long 0, .int 0, .int 0, .int 0, .int 0, .int 0, .int 0, .ref z_ops, .ref z_args, .ref z_seconds, .int 0, .ref z_functionNames, .ref z_functionAt, .ref z_functionParams, .ref z_functionSlots, .ref z_functions, .ref z_newParents, .int 0, .ref z_slots, .int 0, .int 0, .ref z_overs, .int 0, .int 0, .long 0, .int 0, .ref z_waiting, .int 0, .int 0, .ref z_fTongue, .ref z_fFunction, .ref z_fPc, .ref z_fPlace, .ref z_fStack, .ref z_fBlocks, .int 0, .int 0, .ref z_varKinds, .ref z_varBits, .ref z_kinds, .ref z_bits, .int 0, .ref z_bKind, .ref z_bTo, .ref z_bWhat, .ref z_bMany, .ref z_bPending, .ref z_bPendingKind, .ref z_bPendingBits, .int 0, .ref z_arrayFrom, .ref z_arraySize, .ref z_arrayTongue, .int 0, .ref z_cellKinds, .ref z_cellBits, .int 0, .int 0, .ref z_gTongue, .ref z_gWhat, .ref z_gKind, .ref z_gBits, .ref z_gPlace, .ref z_gFunction, .ref z_gHow, .ref z_gFrom, .ref z_gUnder, .ref z_lyingOnes, .ref z_lyingNext, .int 0, .int 0, .int 0, .int 0, .int 0, .ref z_markBits, .ref z_markTongues, .int 0, .int 0, .int 0, .int 0, .int 0, .int 0, .int 0, .int 0, .long 0, .int 0, .int 0, .long 0, .ref z_rules, .ref z_entryBorder, .ref z_entryWhat, .ref z_entryAs, .int 0, .ref z_defaults])), (z_defaults, .inl (c_z_defaults, 16, .inl f_10)), (z_entryBorder, .inl (c_z_entryBorder, 100, .inl f_entryBorder)), (z_entryWhat, .inl (c_z_entryWhat, 100, .inl f_entryWhat)), (z_entryAs, .inl (c_z_entryAs, 100, .inl f_entryAs))] _ := hP
                have hD : va_D A [(h0, .inr (11, [.int 0, .ref z_tape, .int 0, .ref z_names, .int 12, .ref z_parents, .int 0, .int 0, .int 0, .int 0, .long 0, .int 0, .long 0, .int 0, .int 0, .int 0, .int 0, .int 0, .int 0, .ref z_ops, .ref z_args, .ref z_seconds, .int 0, .ref z_functionNames, .ref z_functionAt, .ref z_functionParams, .ref z_functionSlots, .ref z_functions, .ref z_newParents, .int 0, .ref z_slots, .int 0, .int 0, .ref z_overs, .int 0, .int 0, .long 0, .int 0, .ref z_waiting, .int 0, .int 0, .ref z_fTongue, .ref z_fFunction, .ref z_fPc, .ref z_fPlace, .ref z_fStack, .ref z_fBlocks, .int 0, .int 0, .ref z_varKinds, .ref z_varBits, .ref z_kinds, .ref z_bits, .int 0, .ref z_bKind, .ref z_bTo, .ref z_bWhat, .ref z_bMany, .ref z_bPending, .ref z_bPendingKind, .ref z_bPendingBits, .int 0, .ref z_arrayFrom, .ref z_arraySize, .ref z_arrayTongue, .int 0, .ref z_cellKinds, .ref z_cellBits, .int 0, .int 0, .ref z_gTongue, .ref z_gWhat, .ref z_gKind, .ref z_gBits, .ref z_gPlace, .ref z_gFunction, .ref z_gHow, .ref z_gFrom, .ref z_gUnder, .ref z_lyingOnes, .ref z_lyingNext, .int 0, .int 0, .int 0, .int 0, .int 0, .ref z_markBits, .ref z_markTongues, .int 0, .int 0, .int 0, .int 0, .int 0, .int 0, .int 0, .int 0, .long 0, .int 0, .int 0, .long 0, .ref z_rules, .ref z_entryBorder, .ref z_entryWhat, .ref z_entryAs, .int 0, .ref z_defaults])), (z_defaults, .inl (c_z_defaults, 16, .inl f_10)), (z_entryBorder, .inl (c_z_entryBorder, 100, .inl f_entryBorder)), (z_entryWhat, .inl (c_z_entryWhat, 100, .inl f_entryWhat)), (z_entryAs, .inl (c_z_entryAs, 100, .inl f_entryAs))] := hD
                refine lv_iconst (v := 1) hx hb dX12_entry_60 (by decide) ?_
                exact W.zret (v := 1) hx hb hr rfl (fun t ht hW => ⟨⟨1, (), rfl, Or.inr ⟨fun q => q.elim (ng_of c_6 c_11) (fun q => q.elim (ng_of c_15 c_20) (fun q => q.elim c_25 (fun q => q.elim (fun z => z hc1) (fun z => z.1 c_48)))), rfl⟩, trivial⟩, hS.F ht⟩) hS.2.2 dX12_entry_61

def wqX12_call_ : List Cond := .code yX12_call_ cX12_call_ 7 (some .int) :: (([.fieldLink RX12 200 "FourTonguesModel" "thrown" "I", .fieldLink RX12 42 "FourTonguesModel" "functions" "[I"] : List Cond) ++ wsX120)
theorem in_wqX12_call__RX12 : ∀ w ∈ u_ws RX12 TX12 106, w ∈ wqX12_call_ := fun w h => (List.mem_cons_of_mem _ (List.mem_append_right _ h))
set_option maxHeartbeats 4000000 in
set_option maxRecDepth 100000 in
theorem c_X12_call_ (l : Launch) (dC : Nat → ClassId) (dI : Nat → Nat → Nat) (sz : Nat) (h0 : Nat) (z_tape : Nat) (z_names : Nat) (z_parents : Nat) (z_ops : Nat) (z_args : Nat) (z_seconds : Nat) (z_functionNames : Nat) (z_functionAt : Nat) (z_functionParams : Nat) (z_functionSlots : Nat) (z_functions : Nat) (z_newParents : Nat) (z_slots : Nat) (z_overs : Nat) (z_waiting : Nat) (z_fTongue : Nat) (z_fFunction : Nat) (z_fPc : Nat) (z_fPlace : Nat) (z_fStack : Nat) (z_fBlocks : Nat) (z_varKinds : Nat) (z_varBits : Nat) (z_kinds : Nat) (z_bits : Nat) (z_bKind : Nat) (z_bTo : Nat) (z_bWhat : Nat) (z_bMany : Nat) (z_bPending : Nat) (z_bPendingKind : Nat) (z_bPendingBits : Nat) (z_arrayFrom : Nat) (z_arraySize : Nat) (z_arrayTongue : Nat) (z_cellKinds : Nat) (z_cellBits : Nat) (z_gTongue : Nat) (z_gWhat : Nat) (z_gKind : Nat) (z_gBits : Nat) (z_gPlace : Nat) (z_gFunction : Nat) (z_gHow : Nat) (z_gFrom : Nat) (z_gUnder : Nat) (z_lyingOnes : Nat) (z_lyingNext : Nat) (z_markBits : Nat) (z_markTongues : Nat) (z_rules : Nat) (z_entryBorder : Nat) (z_entryWhat : Nat) (z_entryAs : Nat) (z_defaults : Nat) (c_z_functions : ClassId) (x1 : Int32) (x2 : Int32) (x3 : Int64) : Met l yX12_call_ wqX12_call_ ({ frames := 0, cells := 0, slots := 0, locals := 0 }) (va_Pc [.ref h0, .int x1, .int x2, .long x3] (fun U => xM (dC, dI) sz [(h0, .inr (11, [.int 0, .ref z_tape, .int 0, .ref z_names, .int 12, .ref z_parents, .int 0, .int 0, .int 0, .int 0, .long 0, .int 0, .long 0, .int 0, .int 0, .int 0, .int 0, .int 0, .int 0, .ref z_ops, .ref z_args, .ref z_seconds, .int 0, .ref z_functionNames, .ref z_functionAt, .ref z_functionParams, .ref z_functionSlots, .ref z_functions, .ref z_newParents, .int 0, .ref z_slots, .int 0, .int 0, .ref z_overs, .int 0, .int 0, .long 0, .int 0, .ref z_waiting, .int 0, .int 0, .ref z_fTongue, .ref z_fFunction, .ref z_fPc, .ref z_fPlace, .ref z_fStack, .ref z_fBlocks, .int 0, .int 0, .ref z_varKinds, .ref z_varBits, .ref z_kinds, .ref z_bits, .int 0, .ref z_bKind, .ref z_bTo, .ref z_bWhat, .ref z_bMany, .ref z_bPending, .ref z_bPendingKind, .ref z_bPendingBits, .int 0, .ref z_arrayFrom, .ref z_arraySize, .ref z_arrayTongue, .int 0, .ref z_cellKinds, .ref z_cellBits, .int 0, .int 0, .ref z_gTongue, .ref z_gWhat, .ref z_gKind, .ref z_gBits, .ref z_gPlace, .ref z_gFunction, .ref z_gHow, .ref z_gFrom, .ref z_gUnder, .ref z_lyingOnes, .ref z_lyingNext, .int 0, .int 0, .int 0, .int 0, .int 0, .ref z_markBits, .ref z_markTongues, .int 0, .int 0, .int 0, .int 0, .int 0, .int 0, .int 0, .int 0, .long 0, .int 0, .int 0, .long 0, .ref z_rules, .ref z_entryBorder, .ref z_entryWhat, .ref z_entryAs, .int 0, .ref z_defaults])), (z_functions, .inl (c_z_functions, 5, .inl (fun _ => 0)))] [(c_z_functions, .int)] U)) (va_Qi (fun (r : Int32) (_ : Unit) => r = 3) (fun (_ : Unit) _ => True) (va_A [(h0, .inr (11, [.int 0, .ref z_tape, .int 0, .ref z_names, .int 12, .ref z_parents, .int 0, .int 0, .int 0, .int 0, .long 0, .int 0, .long 0, .int 0, .int 0, .int 0, .int 0, .int 0, .int 0, .ref z_ops, .ref z_args, .ref z_seconds, .int 0, .ref z_functionNames, .ref z_functionAt, .ref z_functionParams, .ref z_functionSlots, .ref z_functions, .ref z_newParents, .int 0, .ref z_slots, .int 0, .int 0, .ref z_overs, .int 0, .int 0, .long 0, .int 0, .ref z_waiting, .int 0, .int 0, .ref z_fTongue, .ref z_fFunction, .ref z_fPc, .ref z_fPlace, .ref z_fStack, .ref z_fBlocks, .int 0, .int 0, .ref z_varKinds, .ref z_varBits, .ref z_kinds, .ref z_bits, .int 0, .ref z_bKind, .ref z_bTo, .ref z_bWhat, .ref z_bMany, .ref z_bPending, .ref z_bPendingKind, .ref z_bPendingBits, .int 0, .ref z_arrayFrom, .ref z_arraySize, .ref z_arrayTongue, .int 0, .ref z_cellKinds, .ref z_cellBits, .int 0, .int 0, .ref z_gTongue, .ref z_gWhat, .ref z_gKind, .ref z_gBits, .ref z_gPlace, .ref z_gFunction, .ref z_gHow, .ref z_gFrom, .ref z_gUnder, .ref z_lyingOnes, .ref z_lyingNext, .int 0, .int 0, .int 0, .int 0, .int 0, .ref z_markBits, .ref z_markTongues, .int 0, .int 0, .int 0, .int 0, .int 0, .int 0, .int 0, .int 0, .long 0, .int 0, .int 0, .long 0, .ref z_rules, .ref z_entryBorder, .ref z_entryWhat, .ref z_entryAs, .int 0, .ref z_defaults])), (z_functions, .inl (c_z_functions, 5, .inl (fun _ => 0)))] sz)) 0 0 (va_A [(h0, .inr (11, [.int 0, .ref z_tape, .int 0, .ref z_names, .int 12, .ref z_parents, .int 0, .int 0, .int 0, .int 0, .long 0, .int 0, .long 0, .int 0, .int 0, .int 0, .int 0, .int 0, .int 0, .ref z_ops, .ref z_args, .ref z_seconds, .int 0, .ref z_functionNames, .ref z_functionAt, .ref z_functionParams, .ref z_functionSlots, .ref z_functions, .ref z_newParents, .int 0, .ref z_slots, .int 0, .int 0, .ref z_overs, .int 0, .int 0, .long 0, .int 0, .ref z_waiting, .int 0, .int 0, .ref z_fTongue, .ref z_fFunction, .ref z_fPc, .ref z_fPlace, .ref z_fStack, .ref z_fBlocks, .int 0, .int 0, .ref z_varKinds, .ref z_varBits, .ref z_kinds, .ref z_bits, .int 0, .ref z_bKind, .ref z_bTo, .ref z_bWhat, .ref z_bMany, .ref z_bPending, .ref z_bPendingKind, .ref z_bPendingBits, .int 0, .ref z_arrayFrom, .ref z_arraySize, .ref z_arrayTongue, .int 0, .ref z_cellKinds, .ref z_cellBits, .int 0, .int 0, .ref z_gTongue, .ref z_gWhat, .ref z_gKind, .ref z_gBits, .ref z_gPlace, .ref z_gFunction, .ref z_gHow, .ref z_gFrom, .ref z_gUnder, .ref z_lyingOnes, .ref z_lyingNext, .int 0, .int 0, .int 0, .int 0, .int 0, .ref z_markBits, .ref z_markTongues, .int 0, .int 0, .int 0, .int 0, .int 0, .int 0, .int 0, .int 0, .long 0, .int 0, .int 0, .long 0, .ref z_rules, .ref z_entryBorder, .ref z_entryWhat, .ref z_entryAs, .int 0, .ref z_defaults])), (z_functions, .inl (c_z_functions, 5, .inl (fun _ => 0)))] sz) := by
  refine Met.ofW (cc := cX12_call_) (maxL := 7) (ret := (some .int)) (by decide) rfl ?_
  intro p e s m args below meth c s₁ B hml hv
  obtain ⟨rfl, hsz, hP, hK, hD0⟩ := hv
  have hx := B.exec
  have hb := B.bytes
  have hr := B.returns
  have hts := atoms_spec (ws := wqX12_call_) B.pre
  have hown : s.vm.findClass RX12 = some m.cls := findClass_of_methodNamed B.named
  have hlocks := B.notSynchronized
  subst hsz
  have hD := hD0.self (sz := s.heap.size)
  generalize hAe : va_A [(h0, .inr (11, [.int 0, .ref z_tape, .int 0, .ref z_names, .int 12, .ref z_parents, .int 0, .int 0, .int 0, .int 0, .long 0, .int 0, .long 0, .int 0, .int 0, .int 0, .int 0, .int 0, .int 0, .ref z_ops, .ref z_args, .ref z_seconds, .int 0, .ref z_functionNames, .ref z_functionAt, .ref z_functionParams, .ref z_functionSlots, .ref z_functions, .ref z_newParents, .int 0, .ref z_slots, .int 0, .int 0, .ref z_overs, .int 0, .int 0, .long 0, .int 0, .ref z_waiting, .int 0, .int 0, .ref z_fTongue, .ref z_fFunction, .ref z_fPc, .ref z_fPlace, .ref z_fStack, .ref z_fBlocks, .int 0, .int 0, .ref z_varKinds, .ref z_varBits, .ref z_kinds, .ref z_bits, .int 0, .ref z_bKind, .ref z_bTo, .ref z_bWhat, .ref z_bMany, .ref z_bPending, .ref z_bPendingKind, .ref z_bPendingBits, .int 0, .ref z_arrayFrom, .ref z_arraySize, .ref z_arrayTongue, .int 0, .ref z_cellKinds, .ref z_cellBits, .int 0, .int 0, .ref z_gTongue, .ref z_gWhat, .ref z_gKind, .ref z_gBits, .ref z_gPlace, .ref z_gFunction, .ref z_gHow, .ref z_gFrom, .ref z_gUnder, .ref z_lyingOnes, .ref z_lyingNext, .int 0, .int 0, .int 0, .int 0, .int 0, .ref z_markBits, .ref z_markTongues, .int 0, .int 0, .int 0, .int 0, .int 0, .int 0, .int 0, .int 0, .long 0, .int 0, .int 0, .long 0, .ref z_rules, .ref z_entryBorder, .ref z_entryWhat, .ref z_entryAs, .int 0, .ref z_defaults])), (z_functions, .inl (c_z_functions, 5, .inl (fun _ => 0)))] s.heap.size = A at hD ⊢
  have hA : ∀ q : Nat, s.heap.size ≤ q → A q := fun q h => by rw [← hAe]; exact Or.inr h
  have hS : va_S A s.heap s.heap [] := va_S.rf
  have hl := lv_entry ([.ref h0, .int x1, .int x2, .long x3]) (n := 7) (Nat.le_of_ble_eq_true rfl)
  rw [lg_entry_eq]
  generalize (lg_sl ([.ref h0, .int x1, .int x2, .long x3]) ++ List.replicate (7 - (lg_sl ([.ref h0, .int x1, .int x2, .long x3])).length) Slot.unset).toArray = ls at hl ⊢
  have hl : lv_has ls 7 [(0, .ref h0), (1, .int x1), (2, .int x2), (3, .long x3)] := hl
  refine lv_aload_n hx hb dX12_call__0 rfl (lv_at hl 0 rfl) ?_
  refine lv_iconst (v := 0) hx hb dX12_call__1 (by decide) ?_
  refine va_put (D := (dC, dI)) (ci := 11) (v := .int 0) (ty := .int) (C := RX12) (T := TX12) (N := 106) hx hb hts in_wqX12_call__RX12 tyX12 tyX12_ok nmX12 hown hK hP hD hS 0 rfl rfl 0 (by decide) (hts (.fieldLink RX12 200 "FourTonguesModel" "thrown" "I") (by decide +kernel)) (fun _ h9 => h9) rfl (by decide +kernel) rfl rfl (Nat.le_of_ble_eq_true rfl) dX12_call__2 (fun H locs hP hD hS => ?_)
  have hP : va_P (dC, dI) vwCl [(h0, .inr (11, [.int 0, .ref z_tape, .int 0, .ref z_names, .int 12, .ref z_parents, .int 0, .int 0, .int 0, .int 0, .long 0, .int 0, .long 0, .int 0, .int 0, .int 0, .int 0, .int 0, .int 0, .ref z_ops, .ref z_args, .ref z_seconds, .int 0, .ref z_functionNames, .ref z_functionAt, .ref z_functionParams, .ref z_functionSlots, .ref z_functions, .ref z_newParents, .int 0, .ref z_slots, .int 0, .int 0, .ref z_overs, .int 0, .int 0, .long 0, .int 0, .ref z_waiting, .int 0, .int 0, .ref z_fTongue, .ref z_fFunction, .ref z_fPc, .ref z_fPlace, .ref z_fStack, .ref z_fBlocks, .int 0, .int 0, .ref z_varKinds, .ref z_varBits, .ref z_kinds, .ref z_bits, .int 0, .ref z_bKind, .ref z_bTo, .ref z_bWhat, .ref z_bMany, .ref z_bPending, .ref z_bPendingKind, .ref z_bPendingBits, .int 0, .ref z_arrayFrom, .ref z_arraySize, .ref z_arrayTongue, .int 0, .ref z_cellKinds, .ref z_cellBits, .int 0, .int 0, .ref z_gTongue, .ref z_gWhat, .ref z_gKind, .ref z_gBits, .ref z_gPlace, .ref z_gFunction, .ref z_gHow, .ref z_gFrom, .ref z_gUnder, .ref z_lyingOnes, .ref z_lyingNext, .int 0, .int 0, .int 0, .int 0, .int 0, .ref z_markBits, .ref z_markTongues, .int 0, .int 0, .int 0, .int 0, .int 0, .int 0, .int 0, .int 0, .long 0, .int 0, .int 0, .long 0, .ref z_rules, .ref z_entryBorder, .ref z_entryWhat, .ref z_entryAs, .int 0, .ref z_defaults])), (z_functions, .inl (c_z_functions, 5, .inl (fun _ => 0)))] _ := hP
  have hD : va_D A [(h0, .inr (11, [.int 0, .ref z_tape, .int 0, .ref z_names, .int 12, .ref z_parents, .int 0, .int 0, .int 0, .int 0, .long 0, .int 0, .long 0, .int 0, .int 0, .int 0, .int 0, .int 0, .int 0, .ref z_ops, .ref z_args, .ref z_seconds, .int 0, .ref z_functionNames, .ref z_functionAt, .ref z_functionParams, .ref z_functionSlots, .ref z_functions, .ref z_newParents, .int 0, .ref z_slots, .int 0, .int 0, .ref z_overs, .int 0, .int 0, .long 0, .int 0, .ref z_waiting, .int 0, .int 0, .ref z_fTongue, .ref z_fFunction, .ref z_fPc, .ref z_fPlace, .ref z_fStack, .ref z_fBlocks, .int 0, .int 0, .ref z_varKinds, .ref z_varBits, .ref z_kinds, .ref z_bits, .int 0, .ref z_bKind, .ref z_bTo, .ref z_bWhat, .ref z_bMany, .ref z_bPending, .ref z_bPendingKind, .ref z_bPendingBits, .int 0, .ref z_arrayFrom, .ref z_arraySize, .ref z_arrayTongue, .int 0, .ref z_cellKinds, .ref z_cellBits, .int 0, .int 0, .ref z_gTongue, .ref z_gWhat, .ref z_gKind, .ref z_gBits, .ref z_gPlace, .ref z_gFunction, .ref z_gHow, .ref z_gFrom, .ref z_gUnder, .ref z_lyingOnes, .ref z_lyingNext, .int 0, .int 0, .int 0, .int 0, .int 0, .ref z_markBits, .ref z_markTongues, .int 0, .int 0, .int 0, .int 0, .int 0, .int 0, .int 0, .int 0, .long 0, .int 0, .int 0, .long 0, .ref z_rules, .ref z_entryBorder, .ref z_entryWhat, .ref z_entryAs, .int 0, .ref z_defaults])), (z_functions, .inl (c_z_functions, 5, .inl (fun _ => 0)))] := hD
  refine lv_iload_n hx hb dX12_call__5 rfl (lv_at hl 1 rfl) ?_
  refine lv_if_lt (tgt := 28) hx hb dX12_call__6 (by decide) (fun c_6 => ?_) (fun c_6 => ?_)
  · refine lv_iconst (v := 3) hx hb dX12_call__28 (by decide) ?_
    exact W.iret (v := 3) hx hb hr (fun t ht hW => ⟨⟨3, (), rfl, rfl, trivial⟩, hS.F ht⟩) hS.2.2 dX12_call__29
  · refine lv_iload_n hx hb dX12_call__9 rfl (lv_at hl 1 rfl) ?_
    refine lv_iconst (v := 3) hx hb dX12_call__10 (by decide) ?_
    refine lv_icmp_gt (tgt := 28) hx hb dX12_call__11 (by decide) (fun c_11 => ?_) (fun c_11 => ?_)
    · refine lv_iconst (v := 3) hx hb dX12_call__28 (by decide) ?_
      exact W.iret (v := 3) hx hb hr (fun t ht hW => ⟨⟨3, (), rfl, rfl, trivial⟩, hS.F ht⟩) hS.2.2 dX12_call__29
    · refine lv_iload_n hx hb dX12_call__14 rfl (lv_at hl 2 rfl) ?_
      refine lv_if_lt (tgt := 28) hx hb dX12_call__15 (by decide) (fun c_15 => ?_) (fun c_15 => ?_)
      · refine lv_iconst (v := 3) hx hb dX12_call__28 (by decide) ?_
        exact W.iret (v := 3) hx hb hr (fun t ht hW => ⟨⟨3, (), rfl, rfl, trivial⟩, hS.F ht⟩) hS.2.2 dX12_call__29
      · refine lv_iload_n hx hb dX12_call__18 rfl (lv_at hl 2 rfl) ?_
        refine lv_aload_n hx hb dX12_call__19 rfl (lv_at hl 0 rfl) ?_
        refine va_get (D := (dC, dI)) (ci := 11) (v := .ref z_functions) (C := RX12) (T := TX12) (N := 106) hx hb hts in_wqX12_call__RX12 hown hK hP 0 rfl rfl 27 (by decide) (hts (.fieldLink RX12 42 "FourTonguesModel" "functions" "[I") (by decide +kernel)) (fun _ h9 => h9) rfl dX12_call__20 ?_
        refine lv_iload_n hx hb dX12_call__23 rfl (lv_at hl 1 rfl) ?_
        refine va_iald hx hb hK hP 1 0 rfl rfl (tg_in5 (ng_of c_6 c_11)) dX12_call__24 ?_
        refine my_ti (v := 0) rfl ?_
        refine lv_icmp_lt (tgt := 30) hx hb dX12_call__25 (by decide) (fun c_25 => absurd c_25 (c_15)) (fun c_25 => ?_)
        refine lv_iconst (v := 3) hx hb dX12_call__28 (by decide) ?_
        exact W.iret (v := 3) hx hb hr (fun t ht hW => ⟨⟨3, (), rfl, rfl, trivial⟩, hS.F ht⟩) hS.2.2 dX12_call__29

def wqX12_look : List Cond := .code yX12_look cX12_look 2 (some .int) :: (([.fieldLink RX12 200 "FourTonguesModel" "thrown" "I", .fieldLink RX12 586 "FourTonguesModel" "stepsEver" "I", .fieldLink RX12 626 "FourTonguesModel" "theCell" "I", .fieldLink RX12 178 "FourTonguesModel" "namesMany" "I", .fieldLink RX12 786 "FourTonguesModel" "hasRun" "Z"] : List Cond) ++ wsX120)
theorem in_wqX12_look_RX12 : ∀ w ∈ u_ws RX12 TX12 106, w ∈ wqX12_look := fun w h => (List.mem_cons_of_mem _ (List.mem_append_right _ h))
set_option maxHeartbeats 4000000 in
set_option maxRecDepth 100000 in
theorem c_X12_look (l : Launch) (dC : Nat → ClassId) (dI : Nat → Nat → Nat) (sz : Nat) (h0 : Nat) (z_tape : Nat) (z_names : Nat) (z_parents : Nat) (z_ops : Nat) (z_args : Nat) (z_seconds : Nat) (z_functionNames : Nat) (z_functionAt : Nat) (z_functionParams : Nat) (z_functionSlots : Nat) (z_functions : Nat) (z_newParents : Nat) (z_slots : Nat) (z_overs : Nat) (z_waiting : Nat) (z_fTongue : Nat) (z_fFunction : Nat) (z_fPc : Nat) (z_fPlace : Nat) (z_fStack : Nat) (z_fBlocks : Nat) (z_varKinds : Nat) (z_varBits : Nat) (z_kinds : Nat) (z_bits : Nat) (z_bKind : Nat) (z_bTo : Nat) (z_bWhat : Nat) (z_bMany : Nat) (z_bPending : Nat) (z_bPendingKind : Nat) (z_bPendingBits : Nat) (z_arrayFrom : Nat) (z_arraySize : Nat) (z_arrayTongue : Nat) (z_cellKinds : Nat) (z_cellBits : Nat) (z_gTongue : Nat) (z_gWhat : Nat) (z_gKind : Nat) (z_gBits : Nat) (z_gPlace : Nat) (z_gFunction : Nat) (z_gHow : Nat) (z_gFrom : Nat) (z_gUnder : Nat) (z_lyingOnes : Nat) (z_lyingNext : Nat) (z_markBits : Nat) (z_markTongues : Nat) (z_rules : Nat) (z_entryBorder : Nat) (z_entryWhat : Nat) (z_entryAs : Nat) (z_defaults : Nat) (x1 : Int32) : Met l yX12_look wqX12_look ({ frames := 0, cells := 0, slots := 0, locals := 0 }) (va_Pc [.ref h0, .int x1] (fun U => xM (dC, dI) sz [(h0, .inr (11, [.int 0, .ref z_tape, .int 0, .ref z_names, .int 12, .ref z_parents, .int 0, .int 0, .int 0, .int 0, .long 0, .int 0, .long 0, .int 0, .int 0, .int 0, .int 0, .int 0, .int 0, .ref z_ops, .ref z_args, .ref z_seconds, .int 0, .ref z_functionNames, .ref z_functionAt, .ref z_functionParams, .ref z_functionSlots, .ref z_functions, .ref z_newParents, .int 0, .ref z_slots, .int 0, .int 0, .ref z_overs, .int 0, .int 0, .long 0, .int 0, .ref z_waiting, .int 0, .int 0, .ref z_fTongue, .ref z_fFunction, .ref z_fPc, .ref z_fPlace, .ref z_fStack, .ref z_fBlocks, .int 0, .int 0, .ref z_varKinds, .ref z_varBits, .ref z_kinds, .ref z_bits, .int 0, .ref z_bKind, .ref z_bTo, .ref z_bWhat, .ref z_bMany, .ref z_bPending, .ref z_bPendingKind, .ref z_bPendingBits, .int 0, .ref z_arrayFrom, .ref z_arraySize, .ref z_arrayTongue, .int 0, .ref z_cellKinds, .ref z_cellBits, .int 0, .int 0, .ref z_gTongue, .ref z_gWhat, .ref z_gKind, .ref z_gBits, .ref z_gPlace, .ref z_gFunction, .ref z_gHow, .ref z_gFrom, .ref z_gUnder, .ref z_lyingOnes, .ref z_lyingNext, .int 0, .int 0, .int 0, .int 0, .int 0, .ref z_markBits, .ref z_markTongues, .int 0, .int 0, .int 0, .int 0, .int 0, .int 0, .int 0, .int 0, .long 0, .int 0, .int 0, .long 0, .ref z_rules, .ref z_entryBorder, .ref z_entryWhat, .ref z_entryAs, .int 0, .ref z_defaults]))] [] U)) (va_Qi (fun (r : Int32) (_ : Unit) => (x1 = 10 ∧ r = 11) ∨ (¬ x1 = 10 ∧ (x1 < 0 ∨ 10 ≤ x1) ∧ r = -1) ∨ (¬ x1 = 10 ∧ ¬ (x1 < 0 ∨ 10 ≤ x1) ∧ r = 0)) (fun (_ : Unit) _ => True) (va_A [(h0, .inr (11, [.int 0, .ref z_tape, .int 0, .ref z_names, .int 12, .ref z_parents, .int 0, .int 0, .int 0, .int 0, .long 0, .int 0, .long 0, .int 0, .int 0, .int 0, .int 0, .int 0, .int 0, .ref z_ops, .ref z_args, .ref z_seconds, .int 0, .ref z_functionNames, .ref z_functionAt, .ref z_functionParams, .ref z_functionSlots, .ref z_functions, .ref z_newParents, .int 0, .ref z_slots, .int 0, .int 0, .ref z_overs, .int 0, .int 0, .long 0, .int 0, .ref z_waiting, .int 0, .int 0, .ref z_fTongue, .ref z_fFunction, .ref z_fPc, .ref z_fPlace, .ref z_fStack, .ref z_fBlocks, .int 0, .int 0, .ref z_varKinds, .ref z_varBits, .ref z_kinds, .ref z_bits, .int 0, .ref z_bKind, .ref z_bTo, .ref z_bWhat, .ref z_bMany, .ref z_bPending, .ref z_bPendingKind, .ref z_bPendingBits, .int 0, .ref z_arrayFrom, .ref z_arraySize, .ref z_arrayTongue, .int 0, .ref z_cellKinds, .ref z_cellBits, .int 0, .int 0, .ref z_gTongue, .ref z_gWhat, .ref z_gKind, .ref z_gBits, .ref z_gPlace, .ref z_gFunction, .ref z_gHow, .ref z_gFrom, .ref z_gUnder, .ref z_lyingOnes, .ref z_lyingNext, .int 0, .int 0, .int 0, .int 0, .int 0, .ref z_markBits, .ref z_markTongues, .int 0, .int 0, .int 0, .int 0, .int 0, .int 0, .int 0, .int 0, .long 0, .int 0, .int 0, .long 0, .ref z_rules, .ref z_entryBorder, .ref z_entryWhat, .ref z_entryAs, .int 0, .ref z_defaults]))] sz)) 0 0 (va_A [(h0, .inr (11, [.int 0, .ref z_tape, .int 0, .ref z_names, .int 12, .ref z_parents, .int 0, .int 0, .int 0, .int 0, .long 0, .int 0, .long 0, .int 0, .int 0, .int 0, .int 0, .int 0, .int 0, .ref z_ops, .ref z_args, .ref z_seconds, .int 0, .ref z_functionNames, .ref z_functionAt, .ref z_functionParams, .ref z_functionSlots, .ref z_functions, .ref z_newParents, .int 0, .ref z_slots, .int 0, .int 0, .ref z_overs, .int 0, .int 0, .long 0, .int 0, .ref z_waiting, .int 0, .int 0, .ref z_fTongue, .ref z_fFunction, .ref z_fPc, .ref z_fPlace, .ref z_fStack, .ref z_fBlocks, .int 0, .int 0, .ref z_varKinds, .ref z_varBits, .ref z_kinds, .ref z_bits, .int 0, .ref z_bKind, .ref z_bTo, .ref z_bWhat, .ref z_bMany, .ref z_bPending, .ref z_bPendingKind, .ref z_bPendingBits, .int 0, .ref z_arrayFrom, .ref z_arraySize, .ref z_arrayTongue, .int 0, .ref z_cellKinds, .ref z_cellBits, .int 0, .int 0, .ref z_gTongue, .ref z_gWhat, .ref z_gKind, .ref z_gBits, .ref z_gPlace, .ref z_gFunction, .ref z_gHow, .ref z_gFrom, .ref z_gUnder, .ref z_lyingOnes, .ref z_lyingNext, .int 0, .int 0, .int 0, .int 0, .int 0, .ref z_markBits, .ref z_markTongues, .int 0, .int 0, .int 0, .int 0, .int 0, .int 0, .int 0, .int 0, .long 0, .int 0, .int 0, .long 0, .ref z_rules, .ref z_entryBorder, .ref z_entryWhat, .ref z_entryAs, .int 0, .ref z_defaults]))] sz) := by
  refine Met.ofW (cc := cX12_look) (maxL := 2) (ret := (some .int)) (by decide) rfl ?_
  intro p e s m args below meth c s₁ B hml hv
  obtain ⟨rfl, hsz, hP, hK, hD0⟩ := hv
  have hx := B.exec
  have hb := B.bytes
  have hr := B.returns
  have hts := atoms_spec (ws := wqX12_look) B.pre
  have hown : s.vm.findClass RX12 = some m.cls := findClass_of_methodNamed B.named
  have hlocks := B.notSynchronized
  subst hsz
  have hD := hD0.self (sz := s.heap.size)
  generalize hAe : va_A [(h0, .inr (11, [.int 0, .ref z_tape, .int 0, .ref z_names, .int 12, .ref z_parents, .int 0, .int 0, .int 0, .int 0, .long 0, .int 0, .long 0, .int 0, .int 0, .int 0, .int 0, .int 0, .int 0, .ref z_ops, .ref z_args, .ref z_seconds, .int 0, .ref z_functionNames, .ref z_functionAt, .ref z_functionParams, .ref z_functionSlots, .ref z_functions, .ref z_newParents, .int 0, .ref z_slots, .int 0, .int 0, .ref z_overs, .int 0, .int 0, .long 0, .int 0, .ref z_waiting, .int 0, .int 0, .ref z_fTongue, .ref z_fFunction, .ref z_fPc, .ref z_fPlace, .ref z_fStack, .ref z_fBlocks, .int 0, .int 0, .ref z_varKinds, .ref z_varBits, .ref z_kinds, .ref z_bits, .int 0, .ref z_bKind, .ref z_bTo, .ref z_bWhat, .ref z_bMany, .ref z_bPending, .ref z_bPendingKind, .ref z_bPendingBits, .int 0, .ref z_arrayFrom, .ref z_arraySize, .ref z_arrayTongue, .int 0, .ref z_cellKinds, .ref z_cellBits, .int 0, .int 0, .ref z_gTongue, .ref z_gWhat, .ref z_gKind, .ref z_gBits, .ref z_gPlace, .ref z_gFunction, .ref z_gHow, .ref z_gFrom, .ref z_gUnder, .ref z_lyingOnes, .ref z_lyingNext, .int 0, .int 0, .int 0, .int 0, .int 0, .ref z_markBits, .ref z_markTongues, .int 0, .int 0, .int 0, .int 0, .int 0, .int 0, .int 0, .int 0, .long 0, .int 0, .int 0, .long 0, .ref z_rules, .ref z_entryBorder, .ref z_entryWhat, .ref z_entryAs, .int 0, .ref z_defaults]))] s.heap.size = A at hD ⊢
  have hA : ∀ q : Nat, s.heap.size ≤ q → A q := fun q h => by rw [← hAe]; exact Or.inr h
  have hS : va_S A s.heap s.heap [] := va_S.rf
  have hl := lv_entry ([.ref h0, .int x1]) (n := 2) (Nat.le_of_ble_eq_true rfl)
  rw [lg_entry_eq]
  generalize (lg_sl ([.ref h0, .int x1]) ++ List.replicate (2 - (lg_sl ([.ref h0, .int x1])).length) Slot.unset).toArray = ls at hl ⊢
  have hl : lv_has ls 2 [(0, .ref h0), (1, .int x1)] := hl
  refine lv_aload_n hx hb dX12_look_0 rfl (lv_at hl 0 rfl) ?_
  refine lv_iconst (v := 0) hx hb dX12_look_1 (by decide) ?_
  refine va_put (D := (dC, dI)) (ci := 11) (v := .int 0) (ty := .int) (C := RX12) (T := TX12) (N := 106) hx hb hts in_wqX12_look_RX12 tyX12 tyX12_ok nmX12 hown hK hP hD hS 0 rfl rfl 0 (by decide) (hts (.fieldLink RX12 200 "FourTonguesModel" "thrown" "I") (by decide +kernel)) (fun _ h9 => h9) rfl (by decide +kernel) rfl rfl (Nat.le_of_ble_eq_true rfl) dX12_look_2 (fun H locs hP hD hS => ?_)
  have hP : va_P (dC, dI) vwCl [(h0, .inr (11, [.int 0, .ref z_tape, .int 0, .ref z_names, .int 12, .ref z_parents, .int 0, .int 0, .int 0, .int 0, .long 0, .int 0, .long 0, .int 0, .int 0, .int 0, .int 0, .int 0, .int 0, .ref z_ops, .ref z_args, .ref z_seconds, .int 0, .ref z_functionNames, .ref z_functionAt, .ref z_functionParams, .ref z_functionSlots, .ref z_functions, .ref z_newParents, .int 0, .ref z_slots, .int 0, .int 0, .ref z_overs, .int 0, .int 0, .long 0, .int 0, .ref z_waiting, .int 0, .int 0, .ref z_fTongue, .ref z_fFunction, .ref z_fPc, .ref z_fPlace, .ref z_fStack, .ref z_fBlocks, .int 0, .int 0, .ref z_varKinds, .ref z_varBits, .ref z_kinds, .ref z_bits, .int 0, .ref z_bKind, .ref z_bTo, .ref z_bWhat, .ref z_bMany, .ref z_bPending, .ref z_bPendingKind, .ref z_bPendingBits, .int 0, .ref z_arrayFrom, .ref z_arraySize, .ref z_arrayTongue, .int 0, .ref z_cellKinds, .ref z_cellBits, .int 0, .int 0, .ref z_gTongue, .ref z_gWhat, .ref z_gKind, .ref z_gBits, .ref z_gPlace, .ref z_gFunction, .ref z_gHow, .ref z_gFrom, .ref z_gUnder, .ref z_lyingOnes, .ref z_lyingNext, .int 0, .int 0, .int 0, .int 0, .int 0, .ref z_markBits, .ref z_markTongues, .int 0, .int 0, .int 0, .int 0, .int 0, .int 0, .int 0, .int 0, .long 0, .int 0, .int 0, .long 0, .ref z_rules, .ref z_entryBorder, .ref z_entryWhat, .ref z_entryAs, .int 0, .ref z_defaults]))] _ := hP
  have hD : va_D A [(h0, .inr (11, [.int 0, .ref z_tape, .int 0, .ref z_names, .int 12, .ref z_parents, .int 0, .int 0, .int 0, .int 0, .long 0, .int 0, .long 0, .int 0, .int 0, .int 0, .int 0, .int 0, .int 0, .ref z_ops, .ref z_args, .ref z_seconds, .int 0, .ref z_functionNames, .ref z_functionAt, .ref z_functionParams, .ref z_functionSlots, .ref z_functions, .ref z_newParents, .int 0, .ref z_slots, .int 0, .int 0, .ref z_overs, .int 0, .int 0, .long 0, .int 0, .ref z_waiting, .int 0, .int 0, .ref z_fTongue, .ref z_fFunction, .ref z_fPc, .ref z_fPlace, .ref z_fStack, .ref z_fBlocks, .int 0, .int 0, .ref z_varKinds, .ref z_varBits, .ref z_kinds, .ref z_bits, .int 0, .ref z_bKind, .ref z_bTo, .ref z_bWhat, .ref z_bMany, .ref z_bPending, .ref z_bPendingKind, .ref z_bPendingBits, .int 0, .ref z_arrayFrom, .ref z_arraySize, .ref z_arrayTongue, .int 0, .ref z_cellKinds, .ref z_cellBits, .int 0, .int 0, .ref z_gTongue, .ref z_gWhat, .ref z_gKind, .ref z_gBits, .ref z_gPlace, .ref z_gFunction, .ref z_gHow, .ref z_gFrom, .ref z_gUnder, .ref z_lyingOnes, .ref z_lyingNext, .int 0, .int 0, .int 0, .int 0, .int 0, .ref z_markBits, .ref z_markTongues, .int 0, .int 0, .int 0, .int 0, .int 0, .int 0, .int 0, .int 0, .long 0, .int 0, .int 0, .long 0, .ref z_rules, .ref z_entryBorder, .ref z_entryWhat, .ref z_entryAs, .int 0, .ref z_defaults]))] := hD
  refine lv_iload_n hx hb dX12_look_5 rfl (lv_at hl 1 rfl) ?_
  refine lv_if_lt (tgt := 24) hx hb dX12_look_6 (by decide) (fun c_6 => ?_) (fun c_6 => ?_)
  · refine lv_iload_n hx hb dX12_look_24 rfl (lv_at hl 1 rfl) ?_
    refine lv_tableOut (tgt := 141) hx hb dX12_look_25 (Or.inl (by rw [Int32.lt_iff_toInt_lt] at c_6; exact c_6)) (by decide) ?_
    refine lv_iconst (v := (-1)) hx hb dX12_look_141 (by decide) ?_
    exact W.iret (v := (-1)) hx hb hr (fun t ht hW => ⟨⟨(-1), (), rfl, Or.inr (Or.inl ⟨fun q => by subst q; exact absurd c_6 (by decide), Or.inl c_6, rfl⟩), trivial⟩, hS.F ht⟩) hS.2.2 dX12_look_142
  · refine lv_iload_n hx hb dX12_look_9 rfl (lv_at hl 1 rfl) ?_
    refine lv_bipush (v := 8) hx hb dX12_look_10 (by decide) ?_
    refine lv_icmp_ge (tgt := 24) hx hb dX12_look_12 (by decide) (fun c_12 => ?_) (fun c_12 => ?_)
    · refine lv_iload_n hx hb dX12_look_24 rfl (lv_at hl 1 rfl) ?_
      rcases cs_look c_12 with rfl | rfl | rfl | hgt
      · have _ := c_12
        refine lv_tableIn (tgt := 124) hx hb dX12_look_25 (by decide) (by decide) (off := 99) rfl (by decide) ?_
        refine lv_aload_n hx hb dX12_look_124 rfl (lv_at hl 0 rfl) ?_
        refine va_get (D := (dC, dI)) (ci := 11) (v := .int 0) (C := RX12) (T := TX12) (N := 106) hx hb hts in_wqX12_look_RX12 hown hK hP 0 rfl rfl 84 (by decide) (hts (.fieldLink RX12 586 "FourTonguesModel" "stepsEver" "I") (by decide +kernel)) (fun _ h9 => h9) rfl dX12_look_125 ?_
        exact W.iret (v := 0) hx hb hr (fun t ht hW => ⟨⟨0, (), rfl, Or.inr (Or.inr ⟨by decide, by decide, rfl⟩), trivial⟩, hS.F ht⟩) hS.2.2 dX12_look_128
      · have _ := c_12
        refine lv_tableIn (tgt := 129) hx hb dX12_look_25 (by decide) (by decide) (off := 104) rfl (by decide) ?_
        refine lv_aload_n hx hb dX12_look_129 rfl (lv_at hl 0 rfl) ?_
        refine va_get (D := (dC, dI)) (ci := 11) (v := .int 0) (C := RX12) (T := TX12) (N := 106) hx hb hts in_wqX12_look_RX12 hown hK hP 0 rfl rfl 91 (by decide) (hts (.fieldLink RX12 626 "FourTonguesModel" "theCell" "I") (by decide +kernel)) (fun _ h9 => h9) rfl dX12_look_130 ?_
        exact W.iret (v := 0) hx hb hr (fun t ht hW => ⟨⟨0, (), rfl, Or.inr (Or.inr ⟨by decide, by decide, rfl⟩), trivial⟩, hS.F ht⟩) hS.2.2 dX12_look_133
      · have _ := c_12
        refine lv_tableIn (tgt := 134) hx hb dX12_look_25 (by decide) (by decide) (off := 109) rfl (by decide) ?_
        refine lv_aload_n hx hb dX12_look_134 rfl (lv_at hl 0 rfl) ?_
        refine va_get (D := (dC, dI)) (ci := 11) (v := .int 12) (C := RX12) (T := TX12) (N := 106) hx hb hts in_wqX12_look_RX12 hown hK hP 0 rfl rfl 4 (by decide) (hts (.fieldLink RX12 178 "FourTonguesModel" "namesMany" "I") (by decide +kernel)) (fun _ h9 => h9) rfl dX12_look_135 ?_
        refine lv_iconst (v := 1) hx hb dX12_look_138 (by decide) ?_
        refine lv_isub hx hb dX12_look_139 ?_
        refine my_ti (v := 11) (by decide) ?_
        exact W.iret (v := 11) hx hb hr (fun t ht hW => ⟨⟨11, (), rfl, Or.inl ⟨rfl, rfl⟩, trivial⟩, hS.F ht⟩) hS.2.2 dX12_look_140
      · have _ := c_12
        refine lv_tableOut (tgt := 141) hx hb dX12_look_25 (Or.inr (by rw [Int32.lt_iff_toInt_lt] at hgt; exact hgt)) (by decide) ?_
        refine lv_iconst (v := (-1)) hx hb dX12_look_141 (by decide) ?_
        exact W.iret (v := (-1)) hx hb hr (fun t ht hW => ⟨⟨(-1), (), rfl, Or.inr (Or.inl ⟨fun q => by subst q; exact absurd hgt (by decide), Or.inr (Int32.le_of_lt hgt), rfl⟩), trivial⟩, hS.F ht⟩) hS.2.2 dX12_look_142
    · refine lv_aload_n hx hb dX12_look_15 rfl (lv_at hl 0 rfl) ?_
      refine va_get (D := (dC, dI)) (ci := 11) (v := .int 0) (C := RX12) (T := TX12) (N := 106) hx hb hts in_wqX12_look_RX12 hown hK hP 0 rfl rfl 92 (by decide) (hts (.fieldLink RX12 786 "FourTonguesModel" "hasRun" "Z") (by decide +kernel)) (fun _ h9 => h9) rfl dX12_look_16 ?_
      refine lv_if_ne (tgt := 24) hx hb dX12_look_19 (by decide) (fun c_19 => absurd c_19 (by decide)) (fun c_19 => ?_)
      refine lv_iconst (v := 0) hx hb dX12_look_22 (by decide) ?_
      exact W.iret (v := 0) hx hb hr (fun t ht hW => ⟨⟨0, (), rfl, Or.inr (Or.inr ⟨fun q => by subst q; exact absurd (by decide) c_12, fun q => q.elim c_6 (fun z => c_12 (Int32.le_trans (by decide) z)), rfl⟩), trivial⟩, hS.F ht⟩) hS.2.2 dX12_look_23

def wqX12_letter : List Cond := .code yX12_letter cX12_letter 8 (some .int) :: (([.fieldLink RX12 200 "FourTonguesModel" "thrown" "I", .fieldLink RX12 178 "FourTonguesModel" "namesMany" "I", .fieldLink RX12 13 "FourTonguesModel" "names" "[J", .constantLong RX12 194 (37)] : List Cond) ++ wsX120)
theorem in_wqX12_letter_RX12 : ∀ w ∈ u_ws RX12 TX12 106, w ∈ wqX12_letter := fun w h => (List.mem_cons_of_mem _ (List.mem_append_right _ h))
set_option maxHeartbeats 4000000 in
set_option maxRecDepth 100000 in
theorem c_X12_letter (l : Launch) (dC : Nat → ClassId) (dI : Nat → Nat → Nat) (sz : Nat) (h0 : Nat) (z_tape : Nat) (z_names : Nat) (z_parents : Nat) (z_ops : Nat) (z_args : Nat) (z_seconds : Nat) (z_functionNames : Nat) (z_functionAt : Nat) (z_functionParams : Nat) (z_functionSlots : Nat) (z_functions : Nat) (z_newParents : Nat) (z_slots : Nat) (z_overs : Nat) (z_waiting : Nat) (z_fTongue : Nat) (z_fFunction : Nat) (z_fPc : Nat) (z_fPlace : Nat) (z_fStack : Nat) (z_fBlocks : Nat) (z_varKinds : Nat) (z_varBits : Nat) (z_kinds : Nat) (z_bits : Nat) (z_bKind : Nat) (z_bTo : Nat) (z_bWhat : Nat) (z_bMany : Nat) (z_bPending : Nat) (z_bPendingKind : Nat) (z_bPendingBits : Nat) (z_arrayFrom : Nat) (z_arraySize : Nat) (z_arrayTongue : Nat) (z_cellKinds : Nat) (z_cellBits : Nat) (z_gTongue : Nat) (z_gWhat : Nat) (z_gKind : Nat) (z_gBits : Nat) (z_gPlace : Nat) (z_gFunction : Nat) (z_gHow : Nat) (z_gFrom : Nat) (z_gUnder : Nat) (z_lyingOnes : Nat) (z_lyingNext : Nat) (z_markBits : Nat) (z_markTongues : Nat) (z_rules : Nat) (z_entryBorder : Nat) (z_entryWhat : Nat) (z_entryAs : Nat) (z_defaults : Nat) (c_z_names : ClassId) (f_names : Nat → Int64) (x1 : Int32) (x2 : Int32) (hf : f_names = (mdS 63).2.2) : Met l yX12_letter wqX12_letter ({ frames := 0, cells := 0, slots := 0, locals := 0 }) (va_Pc [.ref h0, .int x1, .int x2] (fun U => xM (dC, dI) sz [(h0, .inr (11, [.int 0, .ref z_tape, .int 0, .ref z_names, .int 12, .ref z_parents, .int 0, .int 0, .int 0, .int 0, .long 0, .int 0, .long 0, .int 0, .int 0, .int 0, .int 0, .int 0, .int 0, .ref z_ops, .ref z_args, .ref z_seconds, .int 0, .ref z_functionNames, .ref z_functionAt, .ref z_functionParams, .ref z_functionSlots, .ref z_functions, .ref z_newParents, .int 0, .ref z_slots, .int 0, .int 0, .ref z_overs, .int 0, .int 0, .long 0, .int 0, .ref z_waiting, .int 0, .int 0, .ref z_fTongue, .ref z_fFunction, .ref z_fPc, .ref z_fPlace, .ref z_fStack, .ref z_fBlocks, .int 0, .int 0, .ref z_varKinds, .ref z_varBits, .ref z_kinds, .ref z_bits, .int 0, .ref z_bKind, .ref z_bTo, .ref z_bWhat, .ref z_bMany, .ref z_bPending, .ref z_bPendingKind, .ref z_bPendingBits, .int 0, .ref z_arrayFrom, .ref z_arraySize, .ref z_arrayTongue, .int 0, .ref z_cellKinds, .ref z_cellBits, .int 0, .int 0, .ref z_gTongue, .ref z_gWhat, .ref z_gKind, .ref z_gBits, .ref z_gPlace, .ref z_gFunction, .ref z_gHow, .ref z_gFrom, .ref z_gUnder, .ref z_lyingOnes, .ref z_lyingNext, .int 0, .int 0, .int 0, .int 0, .int 0, .ref z_markBits, .ref z_markTongues, .int 0, .int 0, .int 0, .int 0, .int 0, .int 0, .int 0, .int 0, .long 0, .int 0, .int 0, .long 0, .ref z_rules, .ref z_entryBorder, .ref z_entryWhat, .ref z_entryAs, .int 0, .ref z_defaults])), (z_names, .inl (c_z_names, 64, .inr (.inl f_names)))] [(c_z_names, .long)] U)) (va_Qi (fun (r : Int32) (_ : Unit) => r = ltF x1 x2) (fun (_ : Unit) _ => True) (va_A [(h0, .inr (11, [.int 0, .ref z_tape, .int 0, .ref z_names, .int 12, .ref z_parents, .int 0, .int 0, .int 0, .int 0, .long 0, .int 0, .long 0, .int 0, .int 0, .int 0, .int 0, .int 0, .int 0, .ref z_ops, .ref z_args, .ref z_seconds, .int 0, .ref z_functionNames, .ref z_functionAt, .ref z_functionParams, .ref z_functionSlots, .ref z_functions, .ref z_newParents, .int 0, .ref z_slots, .int 0, .int 0, .ref z_overs, .int 0, .int 0, .long 0, .int 0, .ref z_waiting, .int 0, .int 0, .ref z_fTongue, .ref z_fFunction, .ref z_fPc, .ref z_fPlace, .ref z_fStack, .ref z_fBlocks, .int 0, .int 0, .ref z_varKinds, .ref z_varBits, .ref z_kinds, .ref z_bits, .int 0, .ref z_bKind, .ref z_bTo, .ref z_bWhat, .ref z_bMany, .ref z_bPending, .ref z_bPendingKind, .ref z_bPendingBits, .int 0, .ref z_arrayFrom, .ref z_arraySize, .ref z_arrayTongue, .int 0, .ref z_cellKinds, .ref z_cellBits, .int 0, .int 0, .ref z_gTongue, .ref z_gWhat, .ref z_gKind, .ref z_gBits, .ref z_gPlace, .ref z_gFunction, .ref z_gHow, .ref z_gFrom, .ref z_gUnder, .ref z_lyingOnes, .ref z_lyingNext, .int 0, .int 0, .int 0, .int 0, .int 0, .ref z_markBits, .ref z_markTongues, .int 0, .int 0, .int 0, .int 0, .int 0, .int 0, .int 0, .int 0, .long 0, .int 0, .int 0, .long 0, .ref z_rules, .ref z_entryBorder, .ref z_entryWhat, .ref z_entryAs, .int 0, .ref z_defaults])), (z_names, .inl (c_z_names, 64, .inr (.inl f_names)))] sz)) 0 0 (va_A [(h0, .inr (11, [.int 0, .ref z_tape, .int 0, .ref z_names, .int 12, .ref z_parents, .int 0, .int 0, .int 0, .int 0, .long 0, .int 0, .long 0, .int 0, .int 0, .int 0, .int 0, .int 0, .int 0, .ref z_ops, .ref z_args, .ref z_seconds, .int 0, .ref z_functionNames, .ref z_functionAt, .ref z_functionParams, .ref z_functionSlots, .ref z_functions, .ref z_newParents, .int 0, .ref z_slots, .int 0, .int 0, .ref z_overs, .int 0, .int 0, .long 0, .int 0, .ref z_waiting, .int 0, .int 0, .ref z_fTongue, .ref z_fFunction, .ref z_fPc, .ref z_fPlace, .ref z_fStack, .ref z_fBlocks, .int 0, .int 0, .ref z_varKinds, .ref z_varBits, .ref z_kinds, .ref z_bits, .int 0, .ref z_bKind, .ref z_bTo, .ref z_bWhat, .ref z_bMany, .ref z_bPending, .ref z_bPendingKind, .ref z_bPendingBits, .int 0, .ref z_arrayFrom, .ref z_arraySize, .ref z_arrayTongue, .int 0, .ref z_cellKinds, .ref z_cellBits, .int 0, .int 0, .ref z_gTongue, .ref z_gWhat, .ref z_gKind, .ref z_gBits, .ref z_gPlace, .ref z_gFunction, .ref z_gHow, .ref z_gFrom, .ref z_gUnder, .ref z_lyingOnes, .ref z_lyingNext, .int 0, .int 0, .int 0, .int 0, .int 0, .ref z_markBits, .ref z_markTongues, .int 0, .int 0, .int 0, .int 0, .int 0, .int 0, .int 0, .int 0, .long 0, .int 0, .int 0, .long 0, .ref z_rules, .ref z_entryBorder, .ref z_entryWhat, .ref z_entryAs, .int 0, .ref z_defaults])), (z_names, .inl (c_z_names, 64, .inr (.inl f_names)))] sz) := by
  refine Met.ofW (cc := cX12_letter) (maxL := 8) (ret := (some .int)) (by decide) rfl ?_
  intro p e s m args below meth c s₁ B hml hv
  obtain ⟨rfl, hsz, hP, hK, hD0⟩ := hv
  have hx := B.exec
  have hb := B.bytes
  have hr := B.returns
  have hts := atoms_spec (ws := wqX12_letter) B.pre
  have hown : s.vm.findClass RX12 = some m.cls := findClass_of_methodNamed B.named
  have hlocks := B.notSynchronized
  subst hsz
  have hD := hD0.self (sz := s.heap.size)
  generalize hAe : va_A [(h0, .inr (11, [.int 0, .ref z_tape, .int 0, .ref z_names, .int 12, .ref z_parents, .int 0, .int 0, .int 0, .int 0, .long 0, .int 0, .long 0, .int 0, .int 0, .int 0, .int 0, .int 0, .int 0, .ref z_ops, .ref z_args, .ref z_seconds, .int 0, .ref z_functionNames, .ref z_functionAt, .ref z_functionParams, .ref z_functionSlots, .ref z_functions, .ref z_newParents, .int 0, .ref z_slots, .int 0, .int 0, .ref z_overs, .int 0, .int 0, .long 0, .int 0, .ref z_waiting, .int 0, .int 0, .ref z_fTongue, .ref z_fFunction, .ref z_fPc, .ref z_fPlace, .ref z_fStack, .ref z_fBlocks, .int 0, .int 0, .ref z_varKinds, .ref z_varBits, .ref z_kinds, .ref z_bits, .int 0, .ref z_bKind, .ref z_bTo, .ref z_bWhat, .ref z_bMany, .ref z_bPending, .ref z_bPendingKind, .ref z_bPendingBits, .int 0, .ref z_arrayFrom, .ref z_arraySize, .ref z_arrayTongue, .int 0, .ref z_cellKinds, .ref z_cellBits, .int 0, .int 0, .ref z_gTongue, .ref z_gWhat, .ref z_gKind, .ref z_gBits, .ref z_gPlace, .ref z_gFunction, .ref z_gHow, .ref z_gFrom, .ref z_gUnder, .ref z_lyingOnes, .ref z_lyingNext, .int 0, .int 0, .int 0, .int 0, .int 0, .ref z_markBits, .ref z_markTongues, .int 0, .int 0, .int 0, .int 0, .int 0, .int 0, .int 0, .int 0, .long 0, .int 0, .int 0, .long 0, .ref z_rules, .ref z_entryBorder, .ref z_entryWhat, .ref z_entryAs, .int 0, .ref z_defaults])), (z_names, .inl (c_z_names, 64, .inr (.inl f_names)))] s.heap.size = A at hD ⊢
  have hA : ∀ q : Nat, s.heap.size ≤ q → A q := fun q h => by rw [← hAe]; exact Or.inr h
  have hS : va_S A s.heap s.heap [] := va_S.rf
  have hl := lv_entry ([.ref h0, .int x1, .int x2]) (n := 8) (Nat.le_of_ble_eq_true rfl)
  rw [lg_entry_eq]
  generalize (lg_sl ([.ref h0, .int x1, .int x2]) ++ List.replicate (8 - (lg_sl ([.ref h0, .int x1, .int x2])).length) Slot.unset).toArray = ls at hl ⊢
  have hl : lv_has ls 8 [(0, .ref h0), (1, .int x1), (2, .int x2)] := hl
  refine lv_aload_n hx hb dX12_letter_0 rfl (lv_at hl 0 rfl) ?_
  refine lv_iconst (v := 0) hx hb dX12_letter_1 (by decide) ?_
  refine va_put (D := (dC, dI)) (ci := 11) (v := .int 0) (ty := .int) (C := RX12) (T := TX12) (N := 106) hx hb hts in_wqX12_letter_RX12 tyX12 tyX12_ok nmX12 hown hK hP hD hS 0 rfl rfl 0 (by decide) (hts (.fieldLink RX12 200 "FourTonguesModel" "thrown" "I") (by decide +kernel)) (fun _ h9 => h9) rfl (by decide +kernel) rfl rfl (Nat.le_of_ble_eq_true rfl) dX12_letter_2 (fun H locs hP hD hS => ?_)
  have hP : va_P (dC, dI) vwCl [(h0, .inr (11, [.int 0, .ref z_tape, .int 0, .ref z_names, .int 12, .ref z_parents, .int 0, .int 0, .int 0, .int 0, .long 0, .int 0, .long 0, .int 0, .int 0, .int 0, .int 0, .int 0, .int 0, .ref z_ops, .ref z_args, .ref z_seconds, .int 0, .ref z_functionNames, .ref z_functionAt, .ref z_functionParams, .ref z_functionSlots, .ref z_functions, .ref z_newParents, .int 0, .ref z_slots, .int 0, .int 0, .ref z_overs, .int 0, .int 0, .long 0, .int 0, .ref z_waiting, .int 0, .int 0, .ref z_fTongue, .ref z_fFunction, .ref z_fPc, .ref z_fPlace, .ref z_fStack, .ref z_fBlocks, .int 0, .int 0, .ref z_varKinds, .ref z_varBits, .ref z_kinds, .ref z_bits, .int 0, .ref z_bKind, .ref z_bTo, .ref z_bWhat, .ref z_bMany, .ref z_bPending, .ref z_bPendingKind, .ref z_bPendingBits, .int 0, .ref z_arrayFrom, .ref z_arraySize, .ref z_arrayTongue, .int 0, .ref z_cellKinds, .ref z_cellBits, .int 0, .int 0, .ref z_gTongue, .ref z_gWhat, .ref z_gKind, .ref z_gBits, .ref z_gPlace, .ref z_gFunction, .ref z_gHow, .ref z_gFrom, .ref z_gUnder, .ref z_lyingOnes, .ref z_lyingNext, .int 0, .int 0, .int 0, .int 0, .int 0, .ref z_markBits, .ref z_markTongues, .int 0, .int 0, .int 0, .int 0, .int 0, .int 0, .int 0, .int 0, .long 0, .int 0, .int 0, .long 0, .ref z_rules, .ref z_entryBorder, .ref z_entryWhat, .ref z_entryAs, .int 0, .ref z_defaults])), (z_names, .inl (c_z_names, 64, .inr (.inl f_names)))] _ := hP
  have hD : va_D A [(h0, .inr (11, [.int 0, .ref z_tape, .int 0, .ref z_names, .int 12, .ref z_parents, .int 0, .int 0, .int 0, .int 0, .long 0, .int 0, .long 0, .int 0, .int 0, .int 0, .int 0, .int 0, .int 0, .ref z_ops, .ref z_args, .ref z_seconds, .int 0, .ref z_functionNames, .ref z_functionAt, .ref z_functionParams, .ref z_functionSlots, .ref z_functions, .ref z_newParents, .int 0, .ref z_slots, .int 0, .int 0, .ref z_overs, .int 0, .int 0, .long 0, .int 0, .ref z_waiting, .int 0, .int 0, .ref z_fTongue, .ref z_fFunction, .ref z_fPc, .ref z_fPlace, .ref z_fStack, .ref z_fBlocks, .int 0, .int 0, .ref z_varKinds, .ref z_varBits, .ref z_kinds, .ref z_bits, .int 0, .ref z_bKind, .ref z_bTo, .ref z_bWhat, .ref z_bMany, .ref z_bPending, .ref z_bPendingKind, .ref z_bPendingBits, .int 0, .ref z_arrayFrom, .ref z_arraySize, .ref z_arrayTongue, .int 0, .ref z_cellKinds, .ref z_cellBits, .int 0, .int 0, .ref z_gTongue, .ref z_gWhat, .ref z_gKind, .ref z_gBits, .ref z_gPlace, .ref z_gFunction, .ref z_gHow, .ref z_gFrom, .ref z_gUnder, .ref z_lyingOnes, .ref z_lyingNext, .int 0, .int 0, .int 0, .int 0, .int 0, .ref z_markBits, .ref z_markTongues, .int 0, .int 0, .int 0, .int 0, .int 0, .int 0, .int 0, .int 0, .long 0, .int 0, .int 0, .long 0, .ref z_rules, .ref z_entryBorder, .ref z_entryWhat, .ref z_entryAs, .int 0, .ref z_defaults])), (z_names, .inl (c_z_names, 64, .inr (.inl f_names)))] := hD
  refine lv_iload_n hx hb dX12_letter_5 rfl (lv_at hl 1 rfl) ?_
  refine lv_iconst (v := 1) hx hb dX12_letter_6 (by decide) ?_
  refine lv_icmp_lt (tgt := 22) hx hb dX12_letter_7 (by decide) (fun c_7 => ?_) (fun c_7 => ?_)
  · refine lv_iconst (v := (-1)) hx hb dX12_letter_22 (by decide) ?_
    exact W.iret (v := (-1)) hx hb hr (fun t ht hW => ⟨⟨(-1), (), rfl, ltF_out (Or.inl c_7), trivial⟩, hS.F ht⟩) hS.2.2 dX12_letter_23
  · refine lv_iload_n hx hb dX12_letter_10 rfl (lv_at hl 1 rfl) ?_
    refine lv_aload_n hx hb dX12_letter_11 rfl (lv_at hl 0 rfl) ?_
    refine va_get (D := (dC, dI)) (ci := 11) (v := .int 12) (C := RX12) (T := TX12) (N := 106) hx hb hts in_wqX12_letter_RX12 hown hK hP 0 rfl rfl 4 (by decide) (hts (.fieldLink RX12 178 "FourTonguesModel" "namesMany" "I") (by decide +kernel)) (fun _ h9 => h9) rfl dX12_letter_12 ?_
    refine lv_icmp_ge (tgt := 22) hx hb dX12_letter_15 (by decide) (fun c_15 => ?_) (fun c_15 => ?_)
    · refine lv_iconst (v := (-1)) hx hb dX12_letter_22 (by decide) ?_
      exact W.iret (v := (-1)) hx hb hr (fun t ht hW => ⟨⟨(-1), (), rfl, ltF_out (Or.inr (Or.inl ((succ_le (by decide)).mpr c_15))), trivial⟩, hS.F ht⟩) hS.2.2 dX12_letter_23
    · refine lv_iload_n hx hb dX12_letter_18 rfl (lv_at hl 2 rfl) ?_
      refine lv_if_ge (tgt := 24) hx hb dX12_letter_19 (by decide) (fun c_19 => ?_) (fun c_19 => ?_)
      · rcases cs11 c_7 (fun q => c_15 ((succ_le (by decide)).mp q)) with rfl | rfl | rfl | rfl | rfl | rfl | rfl | rfl | rfl | rfl | rfl
        · have _ := hf
          refine lv_aload_n hx hb dX12_letter_24 rfl (lv_at hl 0 rfl) ?_
          refine va_get (D := (dC, dI)) (ci := 11) (v := .ref z_names) (C := RX12) (T := TX12) (N := 106) hx hb hts in_wqX12_letter_RX12 hown hK hP 0 rfl rfl 3 (by decide) (hts (.fieldLink RX12 13 "FourTonguesModel" "names" "[J") (by decide +kernel)) (fun _ h9 => h9) rfl dX12_letter_25 ?_
          refine lv_iload_n hx hb dX12_letter_28 rfl (lv_at hl 1 rfl) ?_
          refine va_lald hx hb hK hP 1 0 rfl rfl (by unfold vp_in; decide) dX12_letter_29 ?_
          refine my_tl (v := 1324504) (by rw [hf]; decide +kernel) ?_
          refine lv_lstore_n (lv' := [(3, .long 1324504), (0, .ref h0), (1, .int 1), (2, .int x2)]) hx hb dX12_letter_30 rfl hl (by decide) rfl (fun ls hl => ?_)
          refine lv_iconst (v := 0) hx hb dX12_letter_31 (by decide) ?_
          refine lv_istore (lv' := [(5, .int 0), (3, .long 1324504), (0, .ref h0), (1, .int 1), (2, .int x2)]) hx hb dX12_letter_32 hl (by decide) rfl (fun ls hl => ?_)
          refine lv_lload_n hx hb dX12_letter_34 rfl (lv_at hl 1 rfl) ?_
          refine lv_lstore (lv' := [(6, .long 1324504), (5, .int 0), (3, .long 1324504), (0, .ref h0), (1, .int 1), (2, .int x2)]) hx hb dX12_letter_35 hl (by decide) rfl (fun ls hl => ?_)
          refine lv_lload hx hb dX12_letter_37 (lv_at hl 0 rfl) ?_
          refine lv_lconst (v := 0) hx hb dX12_letter_39 (by decide) ?_
          refine W.lcmp hx hb dX12_letter_40 ?_
          refine my_ti (v := 1) (by decide) ?_
          refine lv_if_le (tgt := 58) hx hb dX12_letter_41 (by decide) (fun c_41 => absurd c_41 (by decide)) (fun c_41 => ?_)
          refine lv_iinc (v := 1) (lv' := [(5, .int 1), (6, .long 1324504), (3, .long 1324504), (0, .ref h0), (1, .int 1), (2, .int x2)]) hx hb dX12_letter_44 hl (k := 1) rfl (by decide) (by decide) rfl (fun ls hl => ?_)
          refine lv_lload hx hb dX12_letter_47 (lv_at hl 1 rfl) ?_
          refine lv_ldc2 hx hb hown (hts (.constantLong RX12 194 (37)) (by decide +kernel)) dX12_letter_49 ?_
          refine lv_ldiv hx hb dX12_letter_52 (by decide) ?_
          refine my_tl (v := 35797) (by decide) ?_
          refine lv_lstore (lv' := [(6, .long 35797), (5, .int 1), (3, .long 1324504), (0, .ref h0), (1, .int 1), (2, .int x2)]) hx hb dX12_letter_53 hl (by decide) rfl (fun ls hl => ?_)
          refine lv_goto (tgt := 37) hx hb dX12_letter_55 (by decide) ?_
          refine lv_lload hx hb dX12_letter_37 (lv_at hl 0 rfl) ?_
          refine lv_lconst (v := 0) hx hb dX12_letter_39 (by decide) ?_
          refine W.lcmp hx hb dX12_letter_40 ?_
          refine my_ti (v := 1) (by decide) ?_
          refine lv_if_le (tgt := 58) hx hb dX12_letter_41 (by decide) (fun c_41 => absurd c_41 (by decide)) (fun c_41 => ?_)
          refine lv_iinc (v := 2) (lv' := [(5, .int 2), (6, .long 35797), (3, .long 1324504), (0, .ref h0), (1, .int 1), (2, .int x2)]) hx hb dX12_letter_44 hl (k := 1) rfl (by decide) (by decide) rfl (fun ls hl => ?_)
          refine lv_lload hx hb dX12_letter_47 (lv_at hl 1 rfl) ?_
          refine lv_ldc2 hx hb hown (hts (.constantLong RX12 194 (37)) (by decide +kernel)) dX12_letter_49 ?_
          refine lv_ldiv hx hb dX12_letter_52 (by decide) ?_
          refine my_tl (v := 967) (by decide) ?_
          refine lv_lstore (lv' := [(6, .long 967), (5, .int 2), (3, .long 1324504), (0, .ref h0), (1, .int 1), (2, .int x2)]) hx hb dX12_letter_53 hl (by decide) rfl (fun ls hl => ?_)
          refine lv_goto (tgt := 37) hx hb dX12_letter_55 (by decide) ?_
          refine lv_lload hx hb dX12_letter_37 (lv_at hl 0 rfl) ?_
          refine lv_lconst (v := 0) hx hb dX12_letter_39 (by decide) ?_
          refine W.lcmp hx hb dX12_letter_40 ?_
          refine my_ti (v := 1) (by decide) ?_
          refine lv_if_le (tgt := 58) hx hb dX12_letter_41 (by decide) (fun c_41 => absurd c_41 (by decide)) (fun c_41 => ?_)
          refine lv_iinc (v := 3) (lv' := [(5, .int 3), (6, .long 967), (3, .long 1324504), (0, .ref h0), (1, .int 1), (2, .int x2)]) hx hb dX12_letter_44 hl (k := 1) rfl (by decide) (by decide) rfl (fun ls hl => ?_)
          refine lv_lload hx hb dX12_letter_47 (lv_at hl 1 rfl) ?_
          refine lv_ldc2 hx hb hown (hts (.constantLong RX12 194 (37)) (by decide +kernel)) dX12_letter_49 ?_
          refine lv_ldiv hx hb dX12_letter_52 (by decide) ?_
          refine my_tl (v := 26) (by decide) ?_
          refine lv_lstore (lv' := [(6, .long 26), (5, .int 3), (3, .long 1324504), (0, .ref h0), (1, .int 1), (2, .int x2)]) hx hb dX12_letter_53 hl (by decide) rfl (fun ls hl => ?_)
          refine lv_goto (tgt := 37) hx hb dX12_letter_55 (by decide) ?_
          refine lv_lload hx hb dX12_letter_37 (lv_at hl 0 rfl) ?_
          refine lv_lconst (v := 0) hx hb dX12_letter_39 (by decide) ?_
          refine W.lcmp hx hb dX12_letter_40 ?_
          refine my_ti (v := 1) (by decide) ?_
          refine lv_if_le (tgt := 58) hx hb dX12_letter_41 (by decide) (fun c_41 => absurd c_41 (by decide)) (fun c_41 => ?_)
          refine lv_iinc (v := 4) (lv' := [(5, .int 4), (6, .long 26), (3, .long 1324504), (0, .ref h0), (1, .int 1), (2, .int x2)]) hx hb dX12_letter_44 hl (k := 1) rfl (by decide) (by decide) rfl (fun ls hl => ?_)
          refine lv_lload hx hb dX12_letter_47 (lv_at hl 1 rfl) ?_
          refine lv_ldc2 hx hb hown (hts (.constantLong RX12 194 (37)) (by decide +kernel)) dX12_letter_49 ?_
          refine lv_ldiv hx hb dX12_letter_52 (by decide) ?_
          refine my_tl (v := 0) (by decide) ?_
          refine lv_lstore (lv' := [(6, .long 0), (5, .int 4), (3, .long 1324504), (0, .ref h0), (1, .int 1), (2, .int x2)]) hx hb dX12_letter_53 hl (by decide) rfl (fun ls hl => ?_)
          refine lv_goto (tgt := 37) hx hb dX12_letter_55 (by decide) ?_
          refine lv_lload hx hb dX12_letter_37 (lv_at hl 0 rfl) ?_
          refine lv_lconst (v := 0) hx hb dX12_letter_39 (by decide) ?_
          refine W.lcmp hx hb dX12_letter_40 ?_
          refine my_ti (v := 0) (by decide) ?_
          refine lv_if_le (tgt := 58) hx hb dX12_letter_41 (by decide) (fun c_41 => ?_) (fun c_41 => absurd c_41 (by decide))
          refine lv_iload_n hx hb dX12_letter_58 rfl (lv_at hl 5 rfl) ?_
          refine lv_iload hx hb dX12_letter_59 (lv_at hl 1 rfl) ?_
          refine lv_icmp_lt (tgt := 66) hx hb dX12_letter_61 (by decide) (fun c_61 => ?_) (fun c_61 => ?_)
          · refine lv_iload hx hb dX12_letter_66 (lv_at hl 1 rfl) ?_
            refine lv_iconst (v := 1) hx hb dX12_letter_68 (by decide) ?_
            refine lv_isub hx hb dX12_letter_69 ?_
            refine my_ti (v := 3) (by decide) ?_
            refine lv_istore (lv' := [(6, .int 3), (5, .int 4), (3, .long 1324504), (0, .ref h0), (1, .int 1), (2, .int x2)]) hx hb dX12_letter_70 hl (by decide) rfl (fun ls hl => ?_)
            refine lv_iload hx hb dX12_letter_72 (lv_at hl 0 rfl) ?_
            refine lv_iload_n hx hb dX12_letter_74 rfl (lv_at hl 5 rfl) ?_
            refine lv_icmp_le (tgt := 90) hx hb dX12_letter_75 (by decide) (fun c_75 => ?_) (fun c_75 => ?_)
            · obtain rfl : x2 = 3 := eq_of c_75 (Int32.not_le.mpr c_61) (by decide)
              refine lv_lload_n hx hb dX12_letter_90 rfl (lv_at hl 2 rfl) ?_
              refine lv_ldc2 hx hb hown (hts (.constantLong RX12 194 (37)) (by decide +kernel)) dX12_letter_91 ?_
              refine lv_lrem hx hb dX12_letter_94 (by decide) ?_
              refine my_tl (v := 15) (by decide) ?_
              refine lv_l2i (v := 15) hx hb dX12_letter_95 (by decide) ?_
              refine lv_istore (lv' := [(6, .int 15), (5, .int 4), (3, .long 1324504), (0, .ref h0), (1, .int 1), (2, .int 3)]) hx hb dX12_letter_96 hl (by decide) rfl (fun ls hl => ?_)
              refine lv_iload hx hb dX12_letter_98 (lv_at hl 0 rfl) ?_
              refine lv_bipush (v := 27) hx hb dX12_letter_100 (by decide) ?_
              refine lv_icmp_ge (tgt := 115) hx hb dX12_letter_102 (by decide) (fun c_102 => absurd c_102 (by decide)) (fun c_102 => ?_)
              refine lv_bipush (v := 97) hx hb dX12_letter_105 (by decide) ?_
              refine lv_iload hx hb dX12_letter_107 (lv_at hl 0 rfl) ?_
              refine lv_iadd hx hb dX12_letter_109 ?_
              refine my_ti (v := 112) (by decide) ?_
              refine lv_iconst (v := 1) hx hb dX12_letter_110 (by decide) ?_
              refine lv_isub hx hb dX12_letter_111 ?_
              refine my_ti (v := 111) (by decide) ?_
              refine lv_goto (tgt := 123) hx hb dX12_letter_112 (by decide) ?_
              exact W.iret (v := 111) hx hb hr (fun t ht hW => ⟨⟨111, (), rfl, by decide +kernel, trivial⟩, hS.F ht⟩) hS.2.2 dX12_letter_123
            · have hb_3 := c_75
              refine lv_lload_n hx hb dX12_letter_78 rfl (lv_at hl 2 rfl) ?_
              refine lv_ldc2 hx hb hown (hts (.constantLong RX12 194 (37)) (by decide +kernel)) dX12_letter_79 ?_
              refine lv_ldiv hx hb dX12_letter_82 (by decide) ?_
              refine my_tl (v := 35797) (by decide) ?_
              refine lv_lstore_n (lv' := [(3, .long 35797), (6, .int 3), (5, .int 4), (0, .ref h0), (1, .int 1), (2, .int x2)]) hx hb dX12_letter_83 rfl hl (by decide) rfl (fun ls hl => ?_)
              refine lv_iinc (v := 2) (lv' := [(6, .int 2), (3, .long 35797), (5, .int 4), (0, .ref h0), (1, .int 1), (2, .int x2)]) hx hb dX12_letter_84 hl (k := 1) rfl (by decide) (by decide) rfl (fun ls hl => ?_)
              refine lv_goto (tgt := 72) hx hb dX12_letter_87 (by decide) ?_
              refine lv_iload hx hb dX12_letter_72 (lv_at hl 0 rfl) ?_
              refine lv_iload_n hx hb dX12_letter_74 rfl (lv_at hl 5 rfl) ?_
              refine lv_icmp_le (tgt := 90) hx hb dX12_letter_75 (by decide) (fun c_75 => ?_) (fun c_75 => ?_)
              · obtain rfl : x2 = 2 := eq_of c_75 hb_3 (by decide)
                refine lv_lload_n hx hb dX12_letter_90 rfl (lv_at hl 1 rfl) ?_
                refine lv_ldc2 hx hb hown (hts (.constantLong RX12 194 (37)) (by decide +kernel)) dX12_letter_91 ?_
                refine lv_lrem hx hb dX12_letter_94 (by decide) ?_
                refine my_tl (v := 18) (by decide) ?_
                refine lv_l2i (v := 18) hx hb dX12_letter_95 (by decide) ?_
                refine lv_istore (lv' := [(6, .int 18), (3, .long 35797), (5, .int 4), (0, .ref h0), (1, .int 1), (2, .int 2)]) hx hb dX12_letter_96 hl (by decide) rfl (fun ls hl => ?_)
                refine lv_iload hx hb dX12_letter_98 (lv_at hl 0 rfl) ?_
                refine lv_bipush (v := 27) hx hb dX12_letter_100 (by decide) ?_
                refine lv_icmp_ge (tgt := 115) hx hb dX12_letter_102 (by decide) (fun c_102 => absurd c_102 (by decide)) (fun c_102 => ?_)
                refine lv_bipush (v := 97) hx hb dX12_letter_105 (by decide) ?_
                refine lv_iload hx hb dX12_letter_107 (lv_at hl 0 rfl) ?_
                refine lv_iadd hx hb dX12_letter_109 ?_
                refine my_ti (v := 115) (by decide) ?_
                refine lv_iconst (v := 1) hx hb dX12_letter_110 (by decide) ?_
                refine lv_isub hx hb dX12_letter_111 ?_
                refine my_ti (v := 114) (by decide) ?_
                refine lv_goto (tgt := 123) hx hb dX12_letter_112 (by decide) ?_
                exact W.iret (v := 114) hx hb hr (fun t ht hW => ⟨⟨114, (), rfl, by decide +kernel, trivial⟩, hS.F ht⟩) hS.2.2 dX12_letter_123
              · have hb_2 := c_75
                refine lv_lload_n hx hb dX12_letter_78 rfl (lv_at hl 1 rfl) ?_
                refine lv_ldc2 hx hb hown (hts (.constantLong RX12 194 (37)) (by decide +kernel)) dX12_letter_79 ?_
                refine lv_ldiv hx hb dX12_letter_82 (by decide) ?_
                refine my_tl (v := 967) (by decide) ?_
                refine lv_lstore_n (lv' := [(3, .long 967), (6, .int 2), (5, .int 4), (0, .ref h0), (1, .int 1), (2, .int x2)]) hx hb dX12_letter_83 rfl hl (by decide) rfl (fun ls hl => ?_)
                refine lv_iinc (v := 1) (lv' := [(6, .int 1), (3, .long 967), (5, .int 4), (0, .ref h0), (1, .int 1), (2, .int x2)]) hx hb dX12_letter_84 hl (k := 1) rfl (by decide) (by decide) rfl (fun ls hl => ?_)
                refine lv_goto (tgt := 72) hx hb dX12_letter_87 (by decide) ?_
                refine lv_iload hx hb dX12_letter_72 (lv_at hl 0 rfl) ?_
                refine lv_iload_n hx hb dX12_letter_74 rfl (lv_at hl 5 rfl) ?_
                refine lv_icmp_le (tgt := 90) hx hb dX12_letter_75 (by decide) (fun c_75 => ?_) (fun c_75 => ?_)
                · obtain rfl : x2 = 1 := eq_of c_75 hb_2 (by decide)
                  refine lv_lload_n hx hb dX12_letter_90 rfl (lv_at hl 1 rfl) ?_
                  refine lv_ldc2 hx hb hown (hts (.constantLong RX12 194 (37)) (by decide +kernel)) dX12_letter_91 ?_
                  refine lv_lrem hx hb dX12_letter_94 (by decide) ?_
                  refine my_tl (v := 5) (by decide) ?_
                  refine lv_l2i (v := 5) hx hb dX12_letter_95 (by decide) ?_
                  refine lv_istore (lv' := [(6, .int 5), (3, .long 967), (5, .int 4), (0, .ref h0), (1, .int 1), (2, .int 1)]) hx hb dX12_letter_96 hl (by decide) rfl (fun ls hl => ?_)
                  refine lv_iload hx hb dX12_letter_98 (lv_at hl 0 rfl) ?_
                  refine lv_bipush (v := 27) hx hb dX12_letter_100 (by decide) ?_
                  refine lv_icmp_ge (tgt := 115) hx hb dX12_letter_102 (by decide) (fun c_102 => absurd c_102 (by decide)) (fun c_102 => ?_)
                  refine lv_bipush (v := 97) hx hb dX12_letter_105 (by decide) ?_
                  refine lv_iload hx hb dX12_letter_107 (lv_at hl 0 rfl) ?_
                  refine lv_iadd hx hb dX12_letter_109 ?_
                  refine my_ti (v := 102) (by decide) ?_
                  refine lv_iconst (v := 1) hx hb dX12_letter_110 (by decide) ?_
                  refine lv_isub hx hb dX12_letter_111 ?_
                  refine my_ti (v := 101) (by decide) ?_
                  refine lv_goto (tgt := 123) hx hb dX12_letter_112 (by decide) ?_
                  exact W.iret (v := 101) hx hb hr (fun t ht hW => ⟨⟨101, (), rfl, by decide +kernel, trivial⟩, hS.F ht⟩) hS.2.2 dX12_letter_123
                · have hb_1 := c_75
                  refine lv_lload_n hx hb dX12_letter_78 rfl (lv_at hl 1 rfl) ?_
                  refine lv_ldc2 hx hb hown (hts (.constantLong RX12 194 (37)) (by decide +kernel)) dX12_letter_79 ?_
                  refine lv_ldiv hx hb dX12_letter_82 (by decide) ?_
                  refine my_tl (v := 26) (by decide) ?_
                  refine lv_lstore_n (lv' := [(3, .long 26), (6, .int 1), (5, .int 4), (0, .ref h0), (1, .int 1), (2, .int x2)]) hx hb dX12_letter_83 rfl hl (by decide) rfl (fun ls hl => ?_)
                  refine lv_iinc (v := 0) (lv' := [(6, .int 0), (3, .long 26), (5, .int 4), (0, .ref h0), (1, .int 1), (2, .int x2)]) hx hb dX12_letter_84 hl (k := 1) rfl (by decide) (by decide) rfl (fun ls hl => ?_)
                  refine lv_goto (tgt := 72) hx hb dX12_letter_87 (by decide) ?_
                  refine lv_iload hx hb dX12_letter_72 (lv_at hl 0 rfl) ?_
                  refine lv_iload_n hx hb dX12_letter_74 rfl (lv_at hl 5 rfl) ?_
                  refine lv_icmp_le (tgt := 90) hx hb dX12_letter_75 (by decide) (fun c_75 => ?_) (fun c_75 => absurd (c_19) c_75)
                  obtain rfl : x2 = 0 := eq_of c_75 hb_1 (by decide)
                  refine lv_lload_n hx hb dX12_letter_90 rfl (lv_at hl 1 rfl) ?_
                  refine lv_ldc2 hx hb hown (hts (.constantLong RX12 194 (37)) (by decide +kernel)) dX12_letter_91 ?_
                  refine lv_lrem hx hb dX12_letter_94 (by decide) ?_
                  refine my_tl (v := 26) (by decide) ?_
                  refine lv_l2i (v := 26) hx hb dX12_letter_95 (by decide) ?_
                  refine lv_istore (lv' := [(6, .int 26), (3, .long 26), (5, .int 4), (0, .ref h0), (1, .int 1), (2, .int 0)]) hx hb dX12_letter_96 hl (by decide) rfl (fun ls hl => ?_)
                  refine lv_iload hx hb dX12_letter_98 (lv_at hl 0 rfl) ?_
                  refine lv_bipush (v := 27) hx hb dX12_letter_100 (by decide) ?_
                  refine lv_icmp_ge (tgt := 115) hx hb dX12_letter_102 (by decide) (fun c_102 => absurd c_102 (by decide)) (fun c_102 => ?_)
                  refine lv_bipush (v := 97) hx hb dX12_letter_105 (by decide) ?_
                  refine lv_iload hx hb dX12_letter_107 (lv_at hl 0 rfl) ?_
                  refine lv_iadd hx hb dX12_letter_109 ?_
                  refine my_ti (v := 123) (by decide) ?_
                  refine lv_iconst (v := 1) hx hb dX12_letter_110 (by decide) ?_
                  refine lv_isub hx hb dX12_letter_111 ?_
                  refine my_ti (v := 122) (by decide) ?_
                  refine lv_goto (tgt := 123) hx hb dX12_letter_112 (by decide) ?_
                  exact W.iret (v := 122) hx hb hr (fun t ht hW => ⟨⟨122, (), rfl, by decide +kernel, trivial⟩, hS.F ht⟩) hS.2.2 dX12_letter_123
          · refine lv_iconst (v := (-1)) hx hb dX12_letter_64 (by decide) ?_
            exact W.iret (v := (-1)) hx hb hr (fun t ht hW => ⟨⟨(-1), (), rfl, lt_hi (Int32.not_lt.mpr c_19) c_61 (by decide +kernel), trivial⟩, hS.F ht⟩) hS.2.2 dX12_letter_65
        · have _ := hf
          refine lv_aload_n hx hb dX12_letter_24 rfl (lv_at hl 0 rfl) ?_
          refine va_get (D := (dC, dI)) (ci := 11) (v := .ref z_names) (C := RX12) (T := TX12) (N := 106) hx hb hts in_wqX12_letter_RX12 hown hK hP 0 rfl rfl 3 (by decide) (hts (.fieldLink RX12 13 "FourTonguesModel" "names" "[J") (by decide +kernel)) (fun _ h9 => h9) rfl dX12_letter_25 ?_
          refine lv_iload_n hx hb dX12_letter_28 rfl (lv_at hl 1 rfl) ?_
          refine va_lald hx hb hK hP 1 0 rfl rfl (by unfold vp_in; decide) dX12_letter_29 ?_
          refine my_tl (v := 17582276) (by rw [hf]; decide +kernel) ?_
          refine lv_lstore_n (lv' := [(3, .long 17582276), (0, .ref h0), (1, .int 2), (2, .int x2)]) hx hb dX12_letter_30 rfl hl (by decide) rfl (fun ls hl => ?_)
          refine lv_iconst (v := 0) hx hb dX12_letter_31 (by decide) ?_
          refine lv_istore (lv' := [(5, .int 0), (3, .long 17582276), (0, .ref h0), (1, .int 2), (2, .int x2)]) hx hb dX12_letter_32 hl (by decide) rfl (fun ls hl => ?_)
          refine lv_lload_n hx hb dX12_letter_34 rfl (lv_at hl 1 rfl) ?_
          refine lv_lstore (lv' := [(6, .long 17582276), (5, .int 0), (3, .long 17582276), (0, .ref h0), (1, .int 2), (2, .int x2)]) hx hb dX12_letter_35 hl (by decide) rfl (fun ls hl => ?_)
          refine lv_lload hx hb dX12_letter_37 (lv_at hl 0 rfl) ?_
          refine lv_lconst (v := 0) hx hb dX12_letter_39 (by decide) ?_
          refine W.lcmp hx hb dX12_letter_40 ?_
          refine my_ti (v := 1) (by decide) ?_
          refine lv_if_le (tgt := 58) hx hb dX12_letter_41 (by decide) (fun c_41 => absurd c_41 (by decide)) (fun c_41 => ?_)
          refine lv_iinc (v := 1) (lv' := [(5, .int 1), (6, .long 17582276), (3, .long 17582276), (0, .ref h0), (1, .int 2), (2, .int x2)]) hx hb dX12_letter_44 hl (k := 1) rfl (by decide) (by decide) rfl (fun ls hl => ?_)
          refine lv_lload hx hb dX12_letter_47 (lv_at hl 1 rfl) ?_
          refine lv_ldc2 hx hb hown (hts (.constantLong RX12 194 (37)) (by decide +kernel)) dX12_letter_49 ?_
          refine lv_ldiv hx hb dX12_letter_52 (by decide) ?_
          refine my_tl (v := 475196) (by decide) ?_
          refine lv_lstore (lv' := [(6, .long 475196), (5, .int 1), (3, .long 17582276), (0, .ref h0), (1, .int 2), (2, .int x2)]) hx hb dX12_letter_53 hl (by decide) rfl (fun ls hl => ?_)
          refine lv_goto (tgt := 37) hx hb dX12_letter_55 (by decide) ?_
          refine lv_lload hx hb dX12_letter_37 (lv_at hl 0 rfl) ?_
          refine lv_lconst (v := 0) hx hb dX12_letter_39 (by decide) ?_
          refine W.lcmp hx hb dX12_letter_40 ?_
          refine my_ti (v := 1) (by decide) ?_
          refine lv_if_le (tgt := 58) hx hb dX12_letter_41 (by decide) (fun c_41 => absurd c_41 (by decide)) (fun c_41 => ?_)
          refine lv_iinc (v := 2) (lv' := [(5, .int 2), (6, .long 475196), (3, .long 17582276), (0, .ref h0), (1, .int 2), (2, .int x2)]) hx hb dX12_letter_44 hl (k := 1) rfl (by decide) (by decide) rfl (fun ls hl => ?_)
          refine lv_lload hx hb dX12_letter_47 (lv_at hl 1 rfl) ?_
          refine lv_ldc2 hx hb hown (hts (.constantLong RX12 194 (37)) (by decide +kernel)) dX12_letter_49 ?_
          refine lv_ldiv hx hb dX12_letter_52 (by decide) ?_
          refine my_tl (v := 12843) (by decide) ?_
          refine lv_lstore (lv' := [(6, .long 12843), (5, .int 2), (3, .long 17582276), (0, .ref h0), (1, .int 2), (2, .int x2)]) hx hb dX12_letter_53 hl (by decide) rfl (fun ls hl => ?_)
          refine lv_goto (tgt := 37) hx hb dX12_letter_55 (by decide) ?_
          refine lv_lload hx hb dX12_letter_37 (lv_at hl 0 rfl) ?_
          refine lv_lconst (v := 0) hx hb dX12_letter_39 (by decide) ?_
          refine W.lcmp hx hb dX12_letter_40 ?_
          refine my_ti (v := 1) (by decide) ?_
          refine lv_if_le (tgt := 58) hx hb dX12_letter_41 (by decide) (fun c_41 => absurd c_41 (by decide)) (fun c_41 => ?_)
          refine lv_iinc (v := 3) (lv' := [(5, .int 3), (6, .long 12843), (3, .long 17582276), (0, .ref h0), (1, .int 2), (2, .int x2)]) hx hb dX12_letter_44 hl (k := 1) rfl (by decide) (by decide) rfl (fun ls hl => ?_)
          refine lv_lload hx hb dX12_letter_47 (lv_at hl 1 rfl) ?_
          refine lv_ldc2 hx hb hown (hts (.constantLong RX12 194 (37)) (by decide +kernel)) dX12_letter_49 ?_
          refine lv_ldiv hx hb dX12_letter_52 (by decide) ?_
          refine my_tl (v := 347) (by decide) ?_
          refine lv_lstore (lv' := [(6, .long 347), (5, .int 3), (3, .long 17582276), (0, .ref h0), (1, .int 2), (2, .int x2)]) hx hb dX12_letter_53 hl (by decide) rfl (fun ls hl => ?_)
          refine lv_goto (tgt := 37) hx hb dX12_letter_55 (by decide) ?_
          refine lv_lload hx hb dX12_letter_37 (lv_at hl 0 rfl) ?_
          refine lv_lconst (v := 0) hx hb dX12_letter_39 (by decide) ?_
          refine W.lcmp hx hb dX12_letter_40 ?_
          refine my_ti (v := 1) (by decide) ?_
          refine lv_if_le (tgt := 58) hx hb dX12_letter_41 (by decide) (fun c_41 => absurd c_41 (by decide)) (fun c_41 => ?_)
          refine lv_iinc (v := 4) (lv' := [(5, .int 4), (6, .long 347), (3, .long 17582276), (0, .ref h0), (1, .int 2), (2, .int x2)]) hx hb dX12_letter_44 hl (k := 1) rfl (by decide) (by decide) rfl (fun ls hl => ?_)
          refine lv_lload hx hb dX12_letter_47 (lv_at hl 1 rfl) ?_
          refine lv_ldc2 hx hb hown (hts (.constantLong RX12 194 (37)) (by decide +kernel)) dX12_letter_49 ?_
          refine lv_ldiv hx hb dX12_letter_52 (by decide) ?_
          refine my_tl (v := 9) (by decide) ?_
          refine lv_lstore (lv' := [(6, .long 9), (5, .int 4), (3, .long 17582276), (0, .ref h0), (1, .int 2), (2, .int x2)]) hx hb dX12_letter_53 hl (by decide) rfl (fun ls hl => ?_)
          refine lv_goto (tgt := 37) hx hb dX12_letter_55 (by decide) ?_
          refine lv_lload hx hb dX12_letter_37 (lv_at hl 0 rfl) ?_
          refine lv_lconst (v := 0) hx hb dX12_letter_39 (by decide) ?_
          refine W.lcmp hx hb dX12_letter_40 ?_
          refine my_ti (v := 1) (by decide) ?_
          refine lv_if_le (tgt := 58) hx hb dX12_letter_41 (by decide) (fun c_41 => absurd c_41 (by decide)) (fun c_41 => ?_)
          refine lv_iinc (v := 5) (lv' := [(5, .int 5), (6, .long 9), (3, .long 17582276), (0, .ref h0), (1, .int 2), (2, .int x2)]) hx hb dX12_letter_44 hl (k := 1) rfl (by decide) (by decide) rfl (fun ls hl => ?_)
          refine lv_lload hx hb dX12_letter_47 (lv_at hl 1 rfl) ?_
          refine lv_ldc2 hx hb hown (hts (.constantLong RX12 194 (37)) (by decide +kernel)) dX12_letter_49 ?_
          refine lv_ldiv hx hb dX12_letter_52 (by decide) ?_
          refine my_tl (v := 0) (by decide) ?_
          refine lv_lstore (lv' := [(6, .long 0), (5, .int 5), (3, .long 17582276), (0, .ref h0), (1, .int 2), (2, .int x2)]) hx hb dX12_letter_53 hl (by decide) rfl (fun ls hl => ?_)
          refine lv_goto (tgt := 37) hx hb dX12_letter_55 (by decide) ?_
          refine lv_lload hx hb dX12_letter_37 (lv_at hl 0 rfl) ?_
          refine lv_lconst (v := 0) hx hb dX12_letter_39 (by decide) ?_
          refine W.lcmp hx hb dX12_letter_40 ?_
          refine my_ti (v := 0) (by decide) ?_
          refine lv_if_le (tgt := 58) hx hb dX12_letter_41 (by decide) (fun c_41 => ?_) (fun c_41 => absurd c_41 (by decide))
          refine lv_iload_n hx hb dX12_letter_58 rfl (lv_at hl 5 rfl) ?_
          refine lv_iload hx hb dX12_letter_59 (lv_at hl 1 rfl) ?_
          refine lv_icmp_lt (tgt := 66) hx hb dX12_letter_61 (by decide) (fun c_61 => ?_) (fun c_61 => ?_)
          · refine lv_iload hx hb dX12_letter_66 (lv_at hl 1 rfl) ?_
            refine lv_iconst (v := 1) hx hb dX12_letter_68 (by decide) ?_
            refine lv_isub hx hb dX12_letter_69 ?_
            refine my_ti (v := 4) (by decide) ?_
            refine lv_istore (lv' := [(6, .int 4), (5, .int 5), (3, .long 17582276), (0, .ref h0), (1, .int 2), (2, .int x2)]) hx hb dX12_letter_70 hl (by decide) rfl (fun ls hl => ?_)
            refine lv_iload hx hb dX12_letter_72 (lv_at hl 0 rfl) ?_
            refine lv_iload_n hx hb dX12_letter_74 rfl (lv_at hl 5 rfl) ?_
            refine lv_icmp_le (tgt := 90) hx hb dX12_letter_75 (by decide) (fun c_75 => ?_) (fun c_75 => ?_)
            · obtain rfl : x2 = 4 := eq_of c_75 (Int32.not_le.mpr c_61) (by decide)
              refine lv_lload_n hx hb dX12_letter_90 rfl (lv_at hl 2 rfl) ?_
              refine lv_ldc2 hx hb hown (hts (.constantLong RX12 194 (37)) (by decide +kernel)) dX12_letter_91 ?_
              refine lv_lrem hx hb dX12_letter_94 (by decide) ?_
              refine my_tl (v := 24) (by decide) ?_
              refine lv_l2i (v := 24) hx hb dX12_letter_95 (by decide) ?_
              refine lv_istore (lv' := [(6, .int 24), (5, .int 5), (3, .long 17582276), (0, .ref h0), (1, .int 2), (2, .int 4)]) hx hb dX12_letter_96 hl (by decide) rfl (fun ls hl => ?_)
              refine lv_iload hx hb dX12_letter_98 (lv_at hl 0 rfl) ?_
              refine lv_bipush (v := 27) hx hb dX12_letter_100 (by decide) ?_
              refine lv_icmp_ge (tgt := 115) hx hb dX12_letter_102 (by decide) (fun c_102 => absurd c_102 (by decide)) (fun c_102 => ?_)
              refine lv_bipush (v := 97) hx hb dX12_letter_105 (by decide) ?_
              refine lv_iload hx hb dX12_letter_107 (lv_at hl 0 rfl) ?_
              refine lv_iadd hx hb dX12_letter_109 ?_
              refine my_ti (v := 121) (by decide) ?_
              refine lv_iconst (v := 1) hx hb dX12_letter_110 (by decide) ?_
              refine lv_isub hx hb dX12_letter_111 ?_
              refine my_ti (v := 120) (by decide) ?_
              refine lv_goto (tgt := 123) hx hb dX12_letter_112 (by decide) ?_
              exact W.iret (v := 120) hx hb hr (fun t ht hW => ⟨⟨120, (), rfl, by decide +kernel, trivial⟩, hS.F ht⟩) hS.2.2 dX12_letter_123
            · have hb_4 := c_75
              refine lv_lload_n hx hb dX12_letter_78 rfl (lv_at hl 2 rfl) ?_
              refine lv_ldc2 hx hb hown (hts (.constantLong RX12 194 (37)) (by decide +kernel)) dX12_letter_79 ?_
              refine lv_ldiv hx hb dX12_letter_82 (by decide) ?_
              refine my_tl (v := 475196) (by decide) ?_
              refine lv_lstore_n (lv' := [(3, .long 475196), (6, .int 4), (5, .int 5), (0, .ref h0), (1, .int 2), (2, .int x2)]) hx hb dX12_letter_83 rfl hl (by decide) rfl (fun ls hl => ?_)
              refine lv_iinc (v := 3) (lv' := [(6, .int 3), (3, .long 475196), (5, .int 5), (0, .ref h0), (1, .int 2), (2, .int x2)]) hx hb dX12_letter_84 hl (k := 1) rfl (by decide) (by decide) rfl (fun ls hl => ?_)
              refine lv_goto (tgt := 72) hx hb dX12_letter_87 (by decide) ?_
              refine lv_iload hx hb dX12_letter_72 (lv_at hl 0 rfl) ?_
              refine lv_iload_n hx hb dX12_letter_74 rfl (lv_at hl 5 rfl) ?_
              refine lv_icmp_le (tgt := 90) hx hb dX12_letter_75 (by decide) (fun c_75 => ?_) (fun c_75 => ?_)
              · obtain rfl : x2 = 3 := eq_of c_75 hb_4 (by decide)
                refine lv_lload_n hx hb dX12_letter_90 rfl (lv_at hl 1 rfl) ?_
                refine lv_ldc2 hx hb hown (hts (.constantLong RX12 194 (37)) (by decide +kernel)) dX12_letter_91 ?_
                refine lv_lrem hx hb dX12_letter_94 (by decide) ?_
                refine my_tl (v := 5) (by decide) ?_
                refine lv_l2i (v := 5) hx hb dX12_letter_95 (by decide) ?_
                refine lv_istore (lv' := [(6, .int 5), (3, .long 475196), (5, .int 5), (0, .ref h0), (1, .int 2), (2, .int 3)]) hx hb dX12_letter_96 hl (by decide) rfl (fun ls hl => ?_)
                refine lv_iload hx hb dX12_letter_98 (lv_at hl 0 rfl) ?_
                refine lv_bipush (v := 27) hx hb dX12_letter_100 (by decide) ?_
                refine lv_icmp_ge (tgt := 115) hx hb dX12_letter_102 (by decide) (fun c_102 => absurd c_102 (by decide)) (fun c_102 => ?_)
                refine lv_bipush (v := 97) hx hb dX12_letter_105 (by decide) ?_
                refine lv_iload hx hb dX12_letter_107 (lv_at hl 0 rfl) ?_
                refine lv_iadd hx hb dX12_letter_109 ?_
                refine my_ti (v := 102) (by decide) ?_
                refine lv_iconst (v := 1) hx hb dX12_letter_110 (by decide) ?_
                refine lv_isub hx hb dX12_letter_111 ?_
                refine my_ti (v := 101) (by decide) ?_
                refine lv_goto (tgt := 123) hx hb dX12_letter_112 (by decide) ?_
                exact W.iret (v := 101) hx hb hr (fun t ht hW => ⟨⟨101, (), rfl, by decide +kernel, trivial⟩, hS.F ht⟩) hS.2.2 dX12_letter_123
              · have hb_3 := c_75
                refine lv_lload_n hx hb dX12_letter_78 rfl (lv_at hl 1 rfl) ?_
                refine lv_ldc2 hx hb hown (hts (.constantLong RX12 194 (37)) (by decide +kernel)) dX12_letter_79 ?_
                refine lv_ldiv hx hb dX12_letter_82 (by decide) ?_
                refine my_tl (v := 12843) (by decide) ?_
                refine lv_lstore_n (lv' := [(3, .long 12843), (6, .int 3), (5, .int 5), (0, .ref h0), (1, .int 2), (2, .int x2)]) hx hb dX12_letter_83 rfl hl (by decide) rfl (fun ls hl => ?_)
                refine lv_iinc (v := 2) (lv' := [(6, .int 2), (3, .long 12843), (5, .int 5), (0, .ref h0), (1, .int 2), (2, .int x2)]) hx hb dX12_letter_84 hl (k := 1) rfl (by decide) (by decide) rfl (fun ls hl => ?_)
                refine lv_goto (tgt := 72) hx hb dX12_letter_87 (by decide) ?_
                refine lv_iload hx hb dX12_letter_72 (lv_at hl 0 rfl) ?_
                refine lv_iload_n hx hb dX12_letter_74 rfl (lv_at hl 5 rfl) ?_
                refine lv_icmp_le (tgt := 90) hx hb dX12_letter_75 (by decide) (fun c_75 => ?_) (fun c_75 => ?_)
                · obtain rfl : x2 = 2 := eq_of c_75 hb_3 (by decide)
                  refine lv_lload_n hx hb dX12_letter_90 rfl (lv_at hl 1 rfl) ?_
                  refine lv_ldc2 hx hb hown (hts (.constantLong RX12 194 (37)) (by decide +kernel)) dX12_letter_91 ?_
                  refine lv_lrem hx hb dX12_letter_94 (by decide) ?_
                  refine my_tl (v := 4) (by decide) ?_
                  refine lv_l2i (v := 4) hx hb dX12_letter_95 (by decide) ?_
                  refine lv_istore (lv' := [(6, .int 4), (3, .long 12843), (5, .int 5), (0, .ref h0), (1, .int 2), (2, .int 2)]) hx hb dX12_letter_96 hl (by decide) rfl (fun ls hl => ?_)
                  refine lv_iload hx hb dX12_letter_98 (lv_at hl 0 rfl) ?_
                  refine lv_bipush (v := 27) hx hb dX12_letter_100 (by decide) ?_
                  refine lv_icmp_ge (tgt := 115) hx hb dX12_letter_102 (by decide) (fun c_102 => absurd c_102 (by decide)) (fun c_102 => ?_)
                  refine lv_bipush (v := 97) hx hb dX12_letter_105 (by decide) ?_
                  refine lv_iload hx hb dX12_letter_107 (lv_at hl 0 rfl) ?_
                  refine lv_iadd hx hb dX12_letter_109 ?_
                  refine my_ti (v := 101) (by decide) ?_
                  refine lv_iconst (v := 1) hx hb dX12_letter_110 (by decide) ?_
                  refine lv_isub hx hb dX12_letter_111 ?_
                  refine my_ti (v := 100) (by decide) ?_
                  refine lv_goto (tgt := 123) hx hb dX12_letter_112 (by decide) ?_
                  exact W.iret (v := 100) hx hb hr (fun t ht hW => ⟨⟨100, (), rfl, by decide +kernel, trivial⟩, hS.F ht⟩) hS.2.2 dX12_letter_123
                · have hb_2 := c_75
                  refine lv_lload_n hx hb dX12_letter_78 rfl (lv_at hl 1 rfl) ?_
                  refine lv_ldc2 hx hb hown (hts (.constantLong RX12 194 (37)) (by decide +kernel)) dX12_letter_79 ?_
                  refine lv_ldiv hx hb dX12_letter_82 (by decide) ?_
                  refine my_tl (v := 347) (by decide) ?_
                  refine lv_lstore_n (lv' := [(3, .long 347), (6, .int 2), (5, .int 5), (0, .ref h0), (1, .int 2), (2, .int x2)]) hx hb dX12_letter_83 rfl hl (by decide) rfl (fun ls hl => ?_)
                  refine lv_iinc (v := 1) (lv' := [(6, .int 1), (3, .long 347), (5, .int 5), (0, .ref h0), (1, .int 2), (2, .int x2)]) hx hb dX12_letter_84 hl (k := 1) rfl (by decide) (by decide) rfl (fun ls hl => ?_)
                  refine lv_goto (tgt := 72) hx hb dX12_letter_87 (by decide) ?_
                  refine lv_iload hx hb dX12_letter_72 (lv_at hl 0 rfl) ?_
                  refine lv_iload_n hx hb dX12_letter_74 rfl (lv_at hl 5 rfl) ?_
                  refine lv_icmp_le (tgt := 90) hx hb dX12_letter_75 (by decide) (fun c_75 => ?_) (fun c_75 => ?_)
                  · obtain rfl : x2 = 1 := eq_of c_75 hb_2 (by decide)
                    refine lv_lload_n hx hb dX12_letter_90 rfl (lv_at hl 1 rfl) ?_
                    refine lv_ldc2 hx hb hown (hts (.constantLong RX12 194 (37)) (by decide +kernel)) dX12_letter_91 ?_
                    refine lv_lrem hx hb dX12_letter_94 (by decide) ?_
                    refine my_tl (v := 14) (by decide) ?_
                    refine lv_l2i (v := 14) hx hb dX12_letter_95 (by decide) ?_
                    refine lv_istore (lv' := [(6, .int 14), (3, .long 347), (5, .int 5), (0, .ref h0), (1, .int 2), (2, .int 1)]) hx hb dX12_letter_96 hl (by decide) rfl (fun ls hl => ?_)
                    refine lv_iload hx hb dX12_letter_98 (lv_at hl 0 rfl) ?_
                    refine lv_bipush (v := 27) hx hb dX12_letter_100 (by decide) ?_
                    refine lv_icmp_ge (tgt := 115) hx hb dX12_letter_102 (by decide) (fun c_102 => absurd c_102 (by decide)) (fun c_102 => ?_)
                    refine lv_bipush (v := 97) hx hb dX12_letter_105 (by decide) ?_
                    refine lv_iload hx hb dX12_letter_107 (lv_at hl 0 rfl) ?_
                    refine lv_iadd hx hb dX12_letter_109 ?_
                    refine my_ti (v := 111) (by decide) ?_
                    refine lv_iconst (v := 1) hx hb dX12_letter_110 (by decide) ?_
                    refine lv_isub hx hb dX12_letter_111 ?_
                    refine my_ti (v := 110) (by decide) ?_
                    refine lv_goto (tgt := 123) hx hb dX12_letter_112 (by decide) ?_
                    exact W.iret (v := 110) hx hb hr (fun t ht hW => ⟨⟨110, (), rfl, by decide +kernel, trivial⟩, hS.F ht⟩) hS.2.2 dX12_letter_123
                  · have hb_1 := c_75
                    refine lv_lload_n hx hb dX12_letter_78 rfl (lv_at hl 1 rfl) ?_
                    refine lv_ldc2 hx hb hown (hts (.constantLong RX12 194 (37)) (by decide +kernel)) dX12_letter_79 ?_
                    refine lv_ldiv hx hb dX12_letter_82 (by decide) ?_
                    refine my_tl (v := 9) (by decide) ?_
                    refine lv_lstore_n (lv' := [(3, .long 9), (6, .int 1), (5, .int 5), (0, .ref h0), (1, .int 2), (2, .int x2)]) hx hb dX12_letter_83 rfl hl (by decide) rfl (fun ls hl => ?_)
                    refine lv_iinc (v := 0) (lv' := [(6, .int 0), (3, .long 9), (5, .int 5), (0, .ref h0), (1, .int 2), (2, .int x2)]) hx hb dX12_letter_84 hl (k := 1) rfl (by decide) (by decide) rfl (fun ls hl => ?_)
                    refine lv_goto (tgt := 72) hx hb dX12_letter_87 (by decide) ?_
                    refine lv_iload hx hb dX12_letter_72 (lv_at hl 0 rfl) ?_
                    refine lv_iload_n hx hb dX12_letter_74 rfl (lv_at hl 5 rfl) ?_
                    refine lv_icmp_le (tgt := 90) hx hb dX12_letter_75 (by decide) (fun c_75 => ?_) (fun c_75 => absurd (c_19) c_75)
                    obtain rfl : x2 = 0 := eq_of c_75 hb_1 (by decide)
                    refine lv_lload_n hx hb dX12_letter_90 rfl (lv_at hl 1 rfl) ?_
                    refine lv_ldc2 hx hb hown (hts (.constantLong RX12 194 (37)) (by decide +kernel)) dX12_letter_91 ?_
                    refine lv_lrem hx hb dX12_letter_94 (by decide) ?_
                    refine my_tl (v := 9) (by decide) ?_
                    refine lv_l2i (v := 9) hx hb dX12_letter_95 (by decide) ?_
                    refine lv_istore (lv' := [(6, .int 9), (3, .long 9), (5, .int 5), (0, .ref h0), (1, .int 2), (2, .int 0)]) hx hb dX12_letter_96 hl (by decide) rfl (fun ls hl => ?_)
                    refine lv_iload hx hb dX12_letter_98 (lv_at hl 0 rfl) ?_
                    refine lv_bipush (v := 27) hx hb dX12_letter_100 (by decide) ?_
                    refine lv_icmp_ge (tgt := 115) hx hb dX12_letter_102 (by decide) (fun c_102 => absurd c_102 (by decide)) (fun c_102 => ?_)
                    refine lv_bipush (v := 97) hx hb dX12_letter_105 (by decide) ?_
                    refine lv_iload hx hb dX12_letter_107 (lv_at hl 0 rfl) ?_
                    refine lv_iadd hx hb dX12_letter_109 ?_
                    refine my_ti (v := 106) (by decide) ?_
                    refine lv_iconst (v := 1) hx hb dX12_letter_110 (by decide) ?_
                    refine lv_isub hx hb dX12_letter_111 ?_
                    refine my_ti (v := 105) (by decide) ?_
                    refine lv_goto (tgt := 123) hx hb dX12_letter_112 (by decide) ?_
                    exact W.iret (v := 105) hx hb hr (fun t ht hW => ⟨⟨105, (), rfl, by decide +kernel, trivial⟩, hS.F ht⟩) hS.2.2 dX12_letter_123
          · refine lv_iconst (v := (-1)) hx hb dX12_letter_64 (by decide) ?_
            exact W.iret (v := (-1)) hx hb hr (fun t ht hW => ⟨⟨(-1), (), rfl, lt_hi (Int32.not_lt.mpr c_19) c_61 (by decide +kernel), trivial⟩, hS.F ht⟩) hS.2.2 dX12_letter_65
        · have _ := hf
          refine lv_aload_n hx hb dX12_letter_24 rfl (lv_at hl 0 rfl) ?_
          refine va_get (D := (dC, dI)) (ci := 11) (v := .ref z_names) (C := RX12) (T := TX12) (N := 106) hx hb hts in_wqX12_letter_RX12 hown hK hP 0 rfl rfl 3 (by decide) (hts (.fieldLink RX12 13 "FourTonguesModel" "names" "[J") (by decide +kernel)) (fun _ h9 => h9) rfl dX12_letter_25 ?_
          refine lv_iload_n hx hb dX12_letter_28 rfl (lv_at hl 1 rfl) ?_
          refine va_lald hx hb hK hP 1 0 rfl rfl (by unfold vp_in; decide) dX12_letter_29 ?_
          refine my_tl (v := 36998230371) (by rw [hf]; decide +kernel) ?_
          refine lv_lstore_n (lv' := [(3, .long 36998230371), (0, .ref h0), (1, .int 3), (2, .int x2)]) hx hb dX12_letter_30 rfl hl (by decide) rfl (fun ls hl => ?_)
          refine lv_iconst (v := 0) hx hb dX12_letter_31 (by decide) ?_
          refine lv_istore (lv' := [(5, .int 0), (3, .long 36998230371), (0, .ref h0), (1, .int 3), (2, .int x2)]) hx hb dX12_letter_32 hl (by decide) rfl (fun ls hl => ?_)
          refine lv_lload_n hx hb dX12_letter_34 rfl (lv_at hl 1 rfl) ?_
          refine lv_lstore (lv' := [(6, .long 36998230371), (5, .int 0), (3, .long 36998230371), (0, .ref h0), (1, .int 3), (2, .int x2)]) hx hb dX12_letter_35 hl (by decide) rfl (fun ls hl => ?_)
          refine lv_lload hx hb dX12_letter_37 (lv_at hl 0 rfl) ?_
          refine lv_lconst (v := 0) hx hb dX12_letter_39 (by decide) ?_
          refine W.lcmp hx hb dX12_letter_40 ?_
          refine my_ti (v := 1) (by decide) ?_
          refine lv_if_le (tgt := 58) hx hb dX12_letter_41 (by decide) (fun c_41 => absurd c_41 (by decide)) (fun c_41 => ?_)
          refine lv_iinc (v := 1) (lv' := [(5, .int 1), (6, .long 36998230371), (3, .long 36998230371), (0, .ref h0), (1, .int 3), (2, .int x2)]) hx hb dX12_letter_44 hl (k := 1) rfl (by decide) (by decide) rfl (fun ls hl => ?_)
          refine lv_lload hx hb dX12_letter_47 (lv_at hl 1 rfl) ?_
          refine lv_ldc2 hx hb hown (hts (.constantLong RX12 194 (37)) (by decide +kernel)) dX12_letter_49 ?_
          refine lv_ldiv hx hb dX12_letter_52 (by decide) ?_
          refine my_tl (v := 999952172) (by decide) ?_
          refine lv_lstore (lv' := [(6, .long 999952172), (5, .int 1), (3, .long 36998230371), (0, .ref h0), (1, .int 3), (2, .int x2)]) hx hb dX12_letter_53 hl (by decide) rfl (fun ls hl => ?_)
          refine lv_goto (tgt := 37) hx hb dX12_letter_55 (by decide) ?_
          refine lv_lload hx hb dX12_letter_37 (lv_at hl 0 rfl) ?_
          refine lv_lconst (v := 0) hx hb dX12_letter_39 (by decide) ?_
          refine W.lcmp hx hb dX12_letter_40 ?_
          refine my_ti (v := 1) (by decide) ?_
          refine lv_if_le (tgt := 58) hx hb dX12_letter_41 (by decide) (fun c_41 => absurd c_41 (by decide)) (fun c_41 => ?_)
          refine lv_iinc (v := 2) (lv' := [(5, .int 2), (6, .long 999952172), (3, .long 36998230371), (0, .ref h0), (1, .int 3), (2, .int x2)]) hx hb dX12_letter_44 hl (k := 1) rfl (by decide) (by decide) rfl (fun ls hl => ?_)
          refine lv_lload hx hb dX12_letter_47 (lv_at hl 1 rfl) ?_
          refine lv_ldc2 hx hb hown (hts (.constantLong RX12 194 (37)) (by decide +kernel)) dX12_letter_49 ?_
          refine lv_ldiv hx hb dX12_letter_52 (by decide) ?_
          refine my_tl (v := 27025734) (by decide) ?_
          refine lv_lstore (lv' := [(6, .long 27025734), (5, .int 2), (3, .long 36998230371), (0, .ref h0), (1, .int 3), (2, .int x2)]) hx hb dX12_letter_53 hl (by decide) rfl (fun ls hl => ?_)
          refine lv_goto (tgt := 37) hx hb dX12_letter_55 (by decide) ?_
          refine lv_lload hx hb dX12_letter_37 (lv_at hl 0 rfl) ?_
          refine lv_lconst (v := 0) hx hb dX12_letter_39 (by decide) ?_
          refine W.lcmp hx hb dX12_letter_40 ?_
          refine my_ti (v := 1) (by decide) ?_
          refine lv_if_le (tgt := 58) hx hb dX12_letter_41 (by decide) (fun c_41 => absurd c_41 (by decide)) (fun c_41 => ?_)
          refine lv_iinc (v := 3) (lv' := [(5, .int 3), (6, .long 27025734), (3, .long 36998230371), (0, .ref h0), (1, .int 3), (2, .int x2)]) hx hb dX12_letter_44 hl (k := 1) rfl (by decide) (by decide) rfl (fun ls hl => ?_)
          refine lv_lload hx hb dX12_letter_47 (lv_at hl 1 rfl) ?_
          refine lv_ldc2 hx hb hown (hts (.constantLong RX12 194 (37)) (by decide +kernel)) dX12_letter_49 ?_
          refine lv_ldiv hx hb dX12_letter_52 (by decide) ?_
          refine my_tl (v := 730425) (by decide) ?_
          refine lv_lstore (lv' := [(6, .long 730425), (5, .int 3), (3, .long 36998230371), (0, .ref h0), (1, .int 3), (2, .int x2)]) hx hb dX12_letter_53 hl (by decide) rfl (fun ls hl => ?_)
          refine lv_goto (tgt := 37) hx hb dX12_letter_55 (by decide) ?_
          refine lv_lload hx hb dX12_letter_37 (lv_at hl 0 rfl) ?_
          refine lv_lconst (v := 0) hx hb dX12_letter_39 (by decide) ?_
          refine W.lcmp hx hb dX12_letter_40 ?_
          refine my_ti (v := 1) (by decide) ?_
          refine lv_if_le (tgt := 58) hx hb dX12_letter_41 (by decide) (fun c_41 => absurd c_41 (by decide)) (fun c_41 => ?_)
          refine lv_iinc (v := 4) (lv' := [(5, .int 4), (6, .long 730425), (3, .long 36998230371), (0, .ref h0), (1, .int 3), (2, .int x2)]) hx hb dX12_letter_44 hl (k := 1) rfl (by decide) (by decide) rfl (fun ls hl => ?_)
          refine lv_lload hx hb dX12_letter_47 (lv_at hl 1 rfl) ?_
          refine lv_ldc2 hx hb hown (hts (.constantLong RX12 194 (37)) (by decide +kernel)) dX12_letter_49 ?_
          refine lv_ldiv hx hb dX12_letter_52 (by decide) ?_
          refine my_tl (v := 19741) (by decide) ?_
          refine lv_lstore (lv' := [(6, .long 19741), (5, .int 4), (3, .long 36998230371), (0, .ref h0), (1, .int 3), (2, .int x2)]) hx hb dX12_letter_53 hl (by decide) rfl (fun ls hl => ?_)
          refine lv_goto (tgt := 37) hx hb dX12_letter_55 (by decide) ?_
          refine lv_lload hx hb dX12_letter_37 (lv_at hl 0 rfl) ?_
          refine lv_lconst (v := 0) hx hb dX12_letter_39 (by decide) ?_
          refine W.lcmp hx hb dX12_letter_40 ?_
          refine my_ti (v := 1) (by decide) ?_
          refine lv_if_le (tgt := 58) hx hb dX12_letter_41 (by decide) (fun c_41 => absurd c_41 (by decide)) (fun c_41 => ?_)
          refine lv_iinc (v := 5) (lv' := [(5, .int 5), (6, .long 19741), (3, .long 36998230371), (0, .ref h0), (1, .int 3), (2, .int x2)]) hx hb dX12_letter_44 hl (k := 1) rfl (by decide) (by decide) rfl (fun ls hl => ?_)
          refine lv_lload hx hb dX12_letter_47 (lv_at hl 1 rfl) ?_
          refine lv_ldc2 hx hb hown (hts (.constantLong RX12 194 (37)) (by decide +kernel)) dX12_letter_49 ?_
          refine lv_ldiv hx hb dX12_letter_52 (by decide) ?_
          refine my_tl (v := 533) (by decide) ?_
          refine lv_lstore (lv' := [(6, .long 533), (5, .int 5), (3, .long 36998230371), (0, .ref h0), (1, .int 3), (2, .int x2)]) hx hb dX12_letter_53 hl (by decide) rfl (fun ls hl => ?_)
          refine lv_goto (tgt := 37) hx hb dX12_letter_55 (by decide) ?_
          refine lv_lload hx hb dX12_letter_37 (lv_at hl 0 rfl) ?_
          refine lv_lconst (v := 0) hx hb dX12_letter_39 (by decide) ?_
          refine W.lcmp hx hb dX12_letter_40 ?_
          refine my_ti (v := 1) (by decide) ?_
          refine lv_if_le (tgt := 58) hx hb dX12_letter_41 (by decide) (fun c_41 => absurd c_41 (by decide)) (fun c_41 => ?_)
          refine lv_iinc (v := 6) (lv' := [(5, .int 6), (6, .long 533), (3, .long 36998230371), (0, .ref h0), (1, .int 3), (2, .int x2)]) hx hb dX12_letter_44 hl (k := 1) rfl (by decide) (by decide) rfl (fun ls hl => ?_)
          refine lv_lload hx hb dX12_letter_47 (lv_at hl 1 rfl) ?_
          refine lv_ldc2 hx hb hown (hts (.constantLong RX12 194 (37)) (by decide +kernel)) dX12_letter_49 ?_
          refine lv_ldiv hx hb dX12_letter_52 (by decide) ?_
          refine my_tl (v := 14) (by decide) ?_
          refine lv_lstore (lv' := [(6, .long 14), (5, .int 6), (3, .long 36998230371), (0, .ref h0), (1, .int 3), (2, .int x2)]) hx hb dX12_letter_53 hl (by decide) rfl (fun ls hl => ?_)
          refine lv_goto (tgt := 37) hx hb dX12_letter_55 (by decide) ?_
          refine lv_lload hx hb dX12_letter_37 (lv_at hl 0 rfl) ?_
          refine lv_lconst (v := 0) hx hb dX12_letter_39 (by decide) ?_
          refine W.lcmp hx hb dX12_letter_40 ?_
          refine my_ti (v := 1) (by decide) ?_
          refine lv_if_le (tgt := 58) hx hb dX12_letter_41 (by decide) (fun c_41 => absurd c_41 (by decide)) (fun c_41 => ?_)
          refine lv_iinc (v := 7) (lv' := [(5, .int 7), (6, .long 14), (3, .long 36998230371), (0, .ref h0), (1, .int 3), (2, .int x2)]) hx hb dX12_letter_44 hl (k := 1) rfl (by decide) (by decide) rfl (fun ls hl => ?_)
          refine lv_lload hx hb dX12_letter_47 (lv_at hl 1 rfl) ?_
          refine lv_ldc2 hx hb hown (hts (.constantLong RX12 194 (37)) (by decide +kernel)) dX12_letter_49 ?_
          refine lv_ldiv hx hb dX12_letter_52 (by decide) ?_
          refine my_tl (v := 0) (by decide) ?_
          refine lv_lstore (lv' := [(6, .long 0), (5, .int 7), (3, .long 36998230371), (0, .ref h0), (1, .int 3), (2, .int x2)]) hx hb dX12_letter_53 hl (by decide) rfl (fun ls hl => ?_)
          refine lv_goto (tgt := 37) hx hb dX12_letter_55 (by decide) ?_
          refine lv_lload hx hb dX12_letter_37 (lv_at hl 0 rfl) ?_
          refine lv_lconst (v := 0) hx hb dX12_letter_39 (by decide) ?_
          refine W.lcmp hx hb dX12_letter_40 ?_
          refine my_ti (v := 0) (by decide) ?_
          refine lv_if_le (tgt := 58) hx hb dX12_letter_41 (by decide) (fun c_41 => ?_) (fun c_41 => absurd c_41 (by decide))
          refine lv_iload_n hx hb dX12_letter_58 rfl (lv_at hl 5 rfl) ?_
          refine lv_iload hx hb dX12_letter_59 (lv_at hl 1 rfl) ?_
          refine lv_icmp_lt (tgt := 66) hx hb dX12_letter_61 (by decide) (fun c_61 => ?_) (fun c_61 => ?_)
          · refine lv_iload hx hb dX12_letter_66 (lv_at hl 1 rfl) ?_
            refine lv_iconst (v := 1) hx hb dX12_letter_68 (by decide) ?_
            refine lv_isub hx hb dX12_letter_69 ?_
            refine my_ti (v := 6) (by decide) ?_
            refine lv_istore (lv' := [(6, .int 6), (5, .int 7), (3, .long 36998230371), (0, .ref h0), (1, .int 3), (2, .int x2)]) hx hb dX12_letter_70 hl (by decide) rfl (fun ls hl => ?_)
            refine lv_iload hx hb dX12_letter_72 (lv_at hl 0 rfl) ?_
            refine lv_iload_n hx hb dX12_letter_74 rfl (lv_at hl 5 rfl) ?_
            refine lv_icmp_le (tgt := 90) hx hb dX12_letter_75 (by decide) (fun c_75 => ?_) (fun c_75 => ?_)
            · obtain rfl : x2 = 6 := eq_of c_75 (Int32.not_le.mpr c_61) (by decide)
              refine lv_lload_n hx hb dX12_letter_90 rfl (lv_at hl 2 rfl) ?_
              refine lv_ldc2 hx hb hown (hts (.constantLong RX12 194 (37)) (by decide +kernel)) dX12_letter_91 ?_
              refine lv_lrem hx hb dX12_letter_94 (by decide) ?_
              refine my_tl (v := 7) (by decide) ?_
              refine lv_l2i (v := 7) hx hb dX12_letter_95 (by decide) ?_
              refine lv_istore (lv' := [(6, .int 7), (5, .int 7), (3, .long 36998230371), (0, .ref h0), (1, .int 3), (2, .int 6)]) hx hb dX12_letter_96 hl (by decide) rfl (fun ls hl => ?_)
              refine lv_iload hx hb dX12_letter_98 (lv_at hl 0 rfl) ?_
              refine lv_bipush (v := 27) hx hb dX12_letter_100 (by decide) ?_
              refine lv_icmp_ge (tgt := 115) hx hb dX12_letter_102 (by decide) (fun c_102 => absurd c_102 (by decide)) (fun c_102 => ?_)
              refine lv_bipush (v := 97) hx hb dX12_letter_105 (by decide) ?_
              refine lv_iload hx hb dX12_letter_107 (lv_at hl 0 rfl) ?_
              refine lv_iadd hx hb dX12_letter_109 ?_
              refine my_ti (v := 104) (by decide) ?_
              refine lv_iconst (v := 1) hx hb dX12_letter_110 (by decide) ?_
              refine lv_isub hx hb dX12_letter_111 ?_
              refine my_ti (v := 103) (by decide) ?_
              refine lv_goto (tgt := 123) hx hb dX12_letter_112 (by decide) ?_
              exact W.iret (v := 103) hx hb hr (fun t ht hW => ⟨⟨103, (), rfl, by decide +kernel, trivial⟩, hS.F ht⟩) hS.2.2 dX12_letter_123
            · have hb_6 := c_75
              refine lv_lload_n hx hb dX12_letter_78 rfl (lv_at hl 2 rfl) ?_
              refine lv_ldc2 hx hb hown (hts (.constantLong RX12 194 (37)) (by decide +kernel)) dX12_letter_79 ?_
              refine lv_ldiv hx hb dX12_letter_82 (by decide) ?_
              refine my_tl (v := 999952172) (by decide) ?_
              refine lv_lstore_n (lv' := [(3, .long 999952172), (6, .int 6), (5, .int 7), (0, .ref h0), (1, .int 3), (2, .int x2)]) hx hb dX12_letter_83 rfl hl (by decide) rfl (fun ls hl => ?_)
              refine lv_iinc (v := 5) (lv' := [(6, .int 5), (3, .long 999952172), (5, .int 7), (0, .ref h0), (1, .int 3), (2, .int x2)]) hx hb dX12_letter_84 hl (k := 1) rfl (by decide) (by decide) rfl (fun ls hl => ?_)
              refine lv_goto (tgt := 72) hx hb dX12_letter_87 (by decide) ?_
              refine lv_iload hx hb dX12_letter_72 (lv_at hl 0 rfl) ?_
              refine lv_iload_n hx hb dX12_letter_74 rfl (lv_at hl 5 rfl) ?_
              refine lv_icmp_le (tgt := 90) hx hb dX12_letter_75 (by decide) (fun c_75 => ?_) (fun c_75 => ?_)
              · obtain rfl : x2 = 5 := eq_of c_75 hb_6 (by decide)
                refine lv_lload_n hx hb dX12_letter_90 rfl (lv_at hl 1 rfl) ?_
                refine lv_ldc2 hx hb hown (hts (.constantLong RX12 194 (37)) (by decide +kernel)) dX12_letter_91 ?_
                refine lv_lrem hx hb dX12_letter_94 (by decide) ?_
                refine my_tl (v := 14) (by decide) ?_
                refine lv_l2i (v := 14) hx hb dX12_letter_95 (by decide) ?_
                refine lv_istore (lv' := [(6, .int 14), (3, .long 999952172), (5, .int 7), (0, .ref h0), (1, .int 3), (2, .int 5)]) hx hb dX12_letter_96 hl (by decide) rfl (fun ls hl => ?_)
                refine lv_iload hx hb dX12_letter_98 (lv_at hl 0 rfl) ?_
                refine lv_bipush (v := 27) hx hb dX12_letter_100 (by decide) ?_
                refine lv_icmp_ge (tgt := 115) hx hb dX12_letter_102 (by decide) (fun c_102 => absurd c_102 (by decide)) (fun c_102 => ?_)
                refine lv_bipush (v := 97) hx hb dX12_letter_105 (by decide) ?_
                refine lv_iload hx hb dX12_letter_107 (lv_at hl 0 rfl) ?_
                refine lv_iadd hx hb dX12_letter_109 ?_
                refine my_ti (v := 111) (by decide) ?_
                refine lv_iconst (v := 1) hx hb dX12_letter_110 (by decide) ?_
                refine lv_isub hx hb dX12_letter_111 ?_
                refine my_ti (v := 110) (by decide) ?_
                refine lv_goto (tgt := 123) hx hb dX12_letter_112 (by decide) ?_
                exact W.iret (v := 110) hx hb hr (fun t ht hW => ⟨⟨110, (), rfl, by decide +kernel, trivial⟩, hS.F ht⟩) hS.2.2 dX12_letter_123
              · have hb_5 := c_75
                refine lv_lload_n hx hb dX12_letter_78 rfl (lv_at hl 1 rfl) ?_
                refine lv_ldc2 hx hb hown (hts (.constantLong RX12 194 (37)) (by decide +kernel)) dX12_letter_79 ?_
                refine lv_ldiv hx hb dX12_letter_82 (by decide) ?_
                refine my_tl (v := 27025734) (by decide) ?_
                refine lv_lstore_n (lv' := [(3, .long 27025734), (6, .int 5), (5, .int 7), (0, .ref h0), (1, .int 3), (2, .int x2)]) hx hb dX12_letter_83 rfl hl (by decide) rfl (fun ls hl => ?_)
                refine lv_iinc (v := 4) (lv' := [(6, .int 4), (3, .long 27025734), (5, .int 7), (0, .ref h0), (1, .int 3), (2, .int x2)]) hx hb dX12_letter_84 hl (k := 1) rfl (by decide) (by decide) rfl (fun ls hl => ?_)
                refine lv_goto (tgt := 72) hx hb dX12_letter_87 (by decide) ?_
                refine lv_iload hx hb dX12_letter_72 (lv_at hl 0 rfl) ?_
                refine lv_iload_n hx hb dX12_letter_74 rfl (lv_at hl 5 rfl) ?_
                refine lv_icmp_le (tgt := 90) hx hb dX12_letter_75 (by decide) (fun c_75 => ?_) (fun c_75 => ?_)
                · obtain rfl : x2 = 4 := eq_of c_75 hb_5 (by decide)
                  refine lv_lload_n hx hb dX12_letter_90 rfl (lv_at hl 1 rfl) ?_
                  refine lv_ldc2 hx hb hown (hts (.constantLong RX12 194 (37)) (by decide +kernel)) dX12_letter_91 ?_
                  refine lv_lrem hx hb dX12_letter_94 (by decide) ?_
                  refine my_tl (v := 9) (by decide) ?_
                  refine lv_l2i (v := 9) hx hb dX12_letter_95 (by decide) ?_
                  refine lv_istore (lv' := [(6, .int 9), (3, .long 27025734), (5, .int 7), (0, .ref h0), (1, .int 3), (2, .int 4)]) hx hb dX12_letter_96 hl (by decide) rfl (fun ls hl => ?_)
                  refine lv_iload hx hb dX12_letter_98 (lv_at hl 0 rfl) ?_
                  refine lv_bipush (v := 27) hx hb dX12_letter_100 (by decide) ?_
                  refine lv_icmp_ge (tgt := 115) hx hb dX12_letter_102 (by decide) (fun c_102 => absurd c_102 (by decide)) (fun c_102 => ?_)
                  refine lv_bipush (v := 97) hx hb dX12_letter_105 (by decide) ?_
                  refine lv_iload hx hb dX12_letter_107 (lv_at hl 0 rfl) ?_
                  refine lv_iadd hx hb dX12_letter_109 ?_
                  refine my_ti (v := 106) (by decide) ?_
                  refine lv_iconst (v := 1) hx hb dX12_letter_110 (by decide) ?_
                  refine lv_isub hx hb dX12_letter_111 ?_
                  refine my_ti (v := 105) (by decide) ?_
                  refine lv_goto (tgt := 123) hx hb dX12_letter_112 (by decide) ?_
                  exact W.iret (v := 105) hx hb hr (fun t ht hW => ⟨⟨105, (), rfl, by decide +kernel, trivial⟩, hS.F ht⟩) hS.2.2 dX12_letter_123
                · have hb_4 := c_75
                  refine lv_lload_n hx hb dX12_letter_78 rfl (lv_at hl 1 rfl) ?_
                  refine lv_ldc2 hx hb hown (hts (.constantLong RX12 194 (37)) (by decide +kernel)) dX12_letter_79 ?_
                  refine lv_ldiv hx hb dX12_letter_82 (by decide) ?_
                  refine my_tl (v := 730425) (by decide) ?_
                  refine lv_lstore_n (lv' := [(3, .long 730425), (6, .int 4), (5, .int 7), (0, .ref h0), (1, .int 3), (2, .int x2)]) hx hb dX12_letter_83 rfl hl (by decide) rfl (fun ls hl => ?_)
                  refine lv_iinc (v := 3) (lv' := [(6, .int 3), (3, .long 730425), (5, .int 7), (0, .ref h0), (1, .int 3), (2, .int x2)]) hx hb dX12_letter_84 hl (k := 1) rfl (by decide) (by decide) rfl (fun ls hl => ?_)
                  refine lv_goto (tgt := 72) hx hb dX12_letter_87 (by decide) ?_
                  refine lv_iload hx hb dX12_letter_72 (lv_at hl 0 rfl) ?_
                  refine lv_iload_n hx hb dX12_letter_74 rfl (lv_at hl 5 rfl) ?_
                  refine lv_icmp_le (tgt := 90) hx hb dX12_letter_75 (by decide) (fun c_75 => ?_) (fun c_75 => ?_)
                  · obtain rfl : x2 = 3 := eq_of c_75 hb_4 (by decide)
                    refine lv_lload_n hx hb dX12_letter_90 rfl (lv_at hl 1 rfl) ?_
                    refine lv_ldc2 hx hb hown (hts (.constantLong RX12 194 (37)) (by decide +kernel)) dX12_letter_91 ?_
                    refine lv_lrem hx hb dX12_letter_94 (by decide) ?_
                    refine my_tl (v := 8) (by decide) ?_
                    refine lv_l2i (v := 8) hx hb dX12_letter_95 (by decide) ?_
                    refine lv_istore (lv' := [(6, .int 8), (3, .long 730425), (5, .int 7), (0, .ref h0), (1, .int 3), (2, .int 3)]) hx hb dX12_letter_96 hl (by decide) rfl (fun ls hl => ?_)
                    refine lv_iload hx hb dX12_letter_98 (lv_at hl 0 rfl) ?_
                    refine lv_bipush (v := 27) hx hb dX12_letter_100 (by decide) ?_
                    refine lv_icmp_ge (tgt := 115) hx hb dX12_letter_102 (by decide) (fun c_102 => absurd c_102 (by decide)) (fun c_102 => ?_)
                    refine lv_bipush (v := 97) hx hb dX12_letter_105 (by decide) ?_
                    refine lv_iload hx hb dX12_letter_107 (lv_at hl 0 rfl) ?_
                    refine lv_iadd hx hb dX12_letter_109 ?_
                    refine my_ti (v := 105) (by decide) ?_
                    refine lv_iconst (v := 1) hx hb dX12_letter_110 (by decide) ?_
                    refine lv_isub hx hb dX12_letter_111 ?_
                    refine my_ti (v := 104) (by decide) ?_
                    refine lv_goto (tgt := 123) hx hb dX12_letter_112 (by decide) ?_
                    exact W.iret (v := 104) hx hb hr (fun t ht hW => ⟨⟨104, (), rfl, by decide +kernel, trivial⟩, hS.F ht⟩) hS.2.2 dX12_letter_123
                  · have hb_3 := c_75
                    refine lv_lload_n hx hb dX12_letter_78 rfl (lv_at hl 1 rfl) ?_
                    refine lv_ldc2 hx hb hown (hts (.constantLong RX12 194 (37)) (by decide +kernel)) dX12_letter_79 ?_
                    refine lv_ldiv hx hb dX12_letter_82 (by decide) ?_
                    refine my_tl (v := 19741) (by decide) ?_
                    refine lv_lstore_n (lv' := [(3, .long 19741), (6, .int 3), (5, .int 7), (0, .ref h0), (1, .int 3), (2, .int x2)]) hx hb dX12_letter_83 rfl hl (by decide) rfl (fun ls hl => ?_)
                    refine lv_iinc (v := 2) (lv' := [(6, .int 2), (3, .long 19741), (5, .int 7), (0, .ref h0), (1, .int 3), (2, .int x2)]) hx hb dX12_letter_84 hl (k := 1) rfl (by decide) (by decide) rfl (fun ls hl => ?_)
                    refine lv_goto (tgt := 72) hx hb dX12_letter_87 (by decide) ?_
                    refine lv_iload hx hb dX12_letter_72 (lv_at hl 0 rfl) ?_
                    refine lv_iload_n hx hb dX12_letter_74 rfl (lv_at hl 5 rfl) ?_
                    refine lv_icmp_le (tgt := 90) hx hb dX12_letter_75 (by decide) (fun c_75 => ?_) (fun c_75 => ?_)
                    · obtain rfl : x2 = 2 := eq_of c_75 hb_3 (by decide)
                      refine lv_lload_n hx hb dX12_letter_90 rfl (lv_at hl 1 rfl) ?_
                      refine lv_ldc2 hx hb hown (hts (.constantLong RX12 194 (37)) (by decide +kernel)) dX12_letter_91 ?_
                      refine lv_lrem hx hb dX12_letter_94 (by decide) ?_
                      refine my_tl (v := 20) (by decide) ?_
                      refine lv_l2i (v := 20) hx hb dX12_letter_95 (by decide) ?_
                      refine lv_istore (lv' := [(6, .int 20), (3, .long 19741), (5, .int 7), (0, .ref h0), (1, .int 3), (2, .int 2)]) hx hb dX12_letter_96 hl (by decide) rfl (fun ls hl => ?_)
                      refine lv_iload hx hb dX12_letter_98 (lv_at hl 0 rfl) ?_
                      refine lv_bipush (v := 27) hx hb dX12_letter_100 (by decide) ?_
                      refine lv_icmp_ge (tgt := 115) hx hb dX12_letter_102 (by decide) (fun c_102 => absurd c_102 (by decide)) (fun c_102 => ?_)
                      refine lv_bipush (v := 97) hx hb dX12_letter_105 (by decide) ?_
                      refine lv_iload hx hb dX12_letter_107 (lv_at hl 0 rfl) ?_
                      refine lv_iadd hx hb dX12_letter_109 ?_
                      refine my_ti (v := 117) (by decide) ?_
                      refine lv_iconst (v := 1) hx hb dX12_letter_110 (by decide) ?_
                      refine lv_isub hx hb dX12_letter_111 ?_
                      refine my_ti (v := 116) (by decide) ?_
                      refine lv_goto (tgt := 123) hx hb dX12_letter_112 (by decide) ?_
                      exact W.iret (v := 116) hx hb hr (fun t ht hW => ⟨⟨116, (), rfl, by decide +kernel, trivial⟩, hS.F ht⟩) hS.2.2 dX12_letter_123
                    · have hb_2 := c_75
                      refine lv_lload_n hx hb dX12_letter_78 rfl (lv_at hl 1 rfl) ?_
                      refine lv_ldc2 hx hb hown (hts (.constantLong RX12 194 (37)) (by decide +kernel)) dX12_letter_79 ?_
                      refine lv_ldiv hx hb dX12_letter_82 (by decide) ?_
                      refine my_tl (v := 533) (by decide) ?_
                      refine lv_lstore_n (lv' := [(3, .long 533), (6, .int 2), (5, .int 7), (0, .ref h0), (1, .int 3), (2, .int x2)]) hx hb dX12_letter_83 rfl hl (by decide) rfl (fun ls hl => ?_)
                      refine lv_iinc (v := 1) (lv' := [(6, .int 1), (3, .long 533), (5, .int 7), (0, .ref h0), (1, .int 3), (2, .int x2)]) hx hb dX12_letter_84 hl (k := 1) rfl (by decide) (by decide) rfl (fun ls hl => ?_)
                      refine lv_goto (tgt := 72) hx hb dX12_letter_87 (by decide) ?_
                      refine lv_iload hx hb dX12_letter_72 (lv_at hl 0 rfl) ?_
                      refine lv_iload_n hx hb dX12_letter_74 rfl (lv_at hl 5 rfl) ?_
                      refine lv_icmp_le (tgt := 90) hx hb dX12_letter_75 (by decide) (fun c_75 => ?_) (fun c_75 => ?_)
                      · obtain rfl : x2 = 1 := eq_of c_75 hb_2 (by decide)
                        refine lv_lload_n hx hb dX12_letter_90 rfl (lv_at hl 1 rfl) ?_
                        refine lv_ldc2 hx hb hown (hts (.constantLong RX12 194 (37)) (by decide +kernel)) dX12_letter_91 ?_
                        refine lv_lrem hx hb dX12_letter_94 (by decide) ?_
                        refine my_tl (v := 15) (by decide) ?_
                        refine lv_l2i (v := 15) hx hb dX12_letter_95 (by decide) ?_
                        refine lv_istore (lv' := [(6, .int 15), (3, .long 533), (5, .int 7), (0, .ref h0), (1, .int 3), (2, .int 1)]) hx hb dX12_letter_96 hl (by decide) rfl (fun ls hl => ?_)
                        refine lv_iload hx hb dX12_letter_98 (lv_at hl 0 rfl) ?_
                        refine lv_bipush (v := 27) hx hb dX12_letter_100 (by decide) ?_
                        refine lv_icmp_ge (tgt := 115) hx hb dX12_letter_102 (by decide) (fun c_102 => absurd c_102 (by decide)) (fun c_102 => ?_)
                        refine lv_bipush (v := 97) hx hb dX12_letter_105 (by decide) ?_
                        refine lv_iload hx hb dX12_letter_107 (lv_at hl 0 rfl) ?_
                        refine lv_iadd hx hb dX12_letter_109 ?_
                        refine my_ti (v := 112) (by decide) ?_
                        refine lv_iconst (v := 1) hx hb dX12_letter_110 (by decide) ?_
                        refine lv_isub hx hb dX12_letter_111 ?_
                        refine my_ti (v := 111) (by decide) ?_
                        refine lv_goto (tgt := 123) hx hb dX12_letter_112 (by decide) ?_
                        exact W.iret (v := 111) hx hb hr (fun t ht hW => ⟨⟨111, (), rfl, by decide +kernel, trivial⟩, hS.F ht⟩) hS.2.2 dX12_letter_123
                      · have hb_1 := c_75
                        refine lv_lload_n hx hb dX12_letter_78 rfl (lv_at hl 1 rfl) ?_
                        refine lv_ldc2 hx hb hown (hts (.constantLong RX12 194 (37)) (by decide +kernel)) dX12_letter_79 ?_
                        refine lv_ldiv hx hb dX12_letter_82 (by decide) ?_
                        refine my_tl (v := 14) (by decide) ?_
                        refine lv_lstore_n (lv' := [(3, .long 14), (6, .int 1), (5, .int 7), (0, .ref h0), (1, .int 3), (2, .int x2)]) hx hb dX12_letter_83 rfl hl (by decide) rfl (fun ls hl => ?_)
                        refine lv_iinc (v := 0) (lv' := [(6, .int 0), (3, .long 14), (5, .int 7), (0, .ref h0), (1, .int 3), (2, .int x2)]) hx hb dX12_letter_84 hl (k := 1) rfl (by decide) (by decide) rfl (fun ls hl => ?_)
                        refine lv_goto (tgt := 72) hx hb dX12_letter_87 (by decide) ?_
                        refine lv_iload hx hb dX12_letter_72 (lv_at hl 0 rfl) ?_
                        refine lv_iload_n hx hb dX12_letter_74 rfl (lv_at hl 5 rfl) ?_
                        refine lv_icmp_le (tgt := 90) hx hb dX12_letter_75 (by decide) (fun c_75 => ?_) (fun c_75 => absurd (c_19) c_75)
                        obtain rfl : x2 = 0 := eq_of c_75 hb_1 (by decide)
                        refine lv_lload_n hx hb dX12_letter_90 rfl (lv_at hl 1 rfl) ?_
                        refine lv_ldc2 hx hb hown (hts (.constantLong RX12 194 (37)) (by decide +kernel)) dX12_letter_91 ?_
                        refine lv_lrem hx hb dX12_letter_94 (by decide) ?_
                        refine my_tl (v := 14) (by decide) ?_
                        refine lv_l2i (v := 14) hx hb dX12_letter_95 (by decide) ?_
                        refine lv_istore (lv' := [(6, .int 14), (3, .long 14), (5, .int 7), (0, .ref h0), (1, .int 3), (2, .int 0)]) hx hb dX12_letter_96 hl (by decide) rfl (fun ls hl => ?_)
                        refine lv_iload hx hb dX12_letter_98 (lv_at hl 0 rfl) ?_
                        refine lv_bipush (v := 27) hx hb dX12_letter_100 (by decide) ?_
                        refine lv_icmp_ge (tgt := 115) hx hb dX12_letter_102 (by decide) (fun c_102 => absurd c_102 (by decide)) (fun c_102 => ?_)
                        refine lv_bipush (v := 97) hx hb dX12_letter_105 (by decide) ?_
                        refine lv_iload hx hb dX12_letter_107 (lv_at hl 0 rfl) ?_
                        refine lv_iadd hx hb dX12_letter_109 ?_
                        refine my_ti (v := 111) (by decide) ?_
                        refine lv_iconst (v := 1) hx hb dX12_letter_110 (by decide) ?_
                        refine lv_isub hx hb dX12_letter_111 ?_
                        refine my_ti (v := 110) (by decide) ?_
                        refine lv_goto (tgt := 123) hx hb dX12_letter_112 (by decide) ?_
                        exact W.iret (v := 110) hx hb hr (fun t ht hW => ⟨⟨110, (), rfl, by decide +kernel, trivial⟩, hS.F ht⟩) hS.2.2 dX12_letter_123
          · refine lv_iconst (v := (-1)) hx hb dX12_letter_64 (by decide) ?_
            exact W.iret (v := (-1)) hx hb hr (fun t ht hW => ⟨⟨(-1), (), rfl, lt_hi (Int32.not_lt.mpr c_19) c_61 (by decide +kernel), trivial⟩, hS.F ht⟩) hS.2.2 dX12_letter_65
        · have _ := hf
          refine lv_aload_n hx hb dX12_letter_24 rfl (lv_at hl 0 rfl) ?_
          refine va_get (D := (dC, dI)) (ci := 11) (v := .ref z_names) (C := RX12) (T := TX12) (N := 106) hx hb hts in_wqX12_letter_RX12 hown hK hP 0 rfl rfl 3 (by decide) (hts (.fieldLink RX12 13 "FourTonguesModel" "names" "[J") (by decide +kernel)) (fun _ h9 => h9) rfl dX12_letter_25 ?_
          refine lv_iload_n hx hb dX12_letter_28 rfl (lv_at hl 1 rfl) ?_
          refine va_lald hx hb hK hP 1 0 rfl rfl (by unfold vp_in; decide) dX12_letter_29 ?_
          refine my_tl (v := 983628) (by rw [hf]; decide +kernel) ?_
          refine lv_lstore_n (lv' := [(3, .long 983628), (0, .ref h0), (1, .int 4), (2, .int x2)]) hx hb dX12_letter_30 rfl hl (by decide) rfl (fun ls hl => ?_)
          refine lv_iconst (v := 0) hx hb dX12_letter_31 (by decide) ?_
          refine lv_istore (lv' := [(5, .int 0), (3, .long 983628), (0, .ref h0), (1, .int 4), (2, .int x2)]) hx hb dX12_letter_32 hl (by decide) rfl (fun ls hl => ?_)
          refine lv_lload_n hx hb dX12_letter_34 rfl (lv_at hl 1 rfl) ?_
          refine lv_lstore (lv' := [(6, .long 983628), (5, .int 0), (3, .long 983628), (0, .ref h0), (1, .int 4), (2, .int x2)]) hx hb dX12_letter_35 hl (by decide) rfl (fun ls hl => ?_)
          refine lv_lload hx hb dX12_letter_37 (lv_at hl 0 rfl) ?_
          refine lv_lconst (v := 0) hx hb dX12_letter_39 (by decide) ?_
          refine W.lcmp hx hb dX12_letter_40 ?_
          refine my_ti (v := 1) (by decide) ?_
          refine lv_if_le (tgt := 58) hx hb dX12_letter_41 (by decide) (fun c_41 => absurd c_41 (by decide)) (fun c_41 => ?_)
          refine lv_iinc (v := 1) (lv' := [(5, .int 1), (6, .long 983628), (3, .long 983628), (0, .ref h0), (1, .int 4), (2, .int x2)]) hx hb dX12_letter_44 hl (k := 1) rfl (by decide) (by decide) rfl (fun ls hl => ?_)
          refine lv_lload hx hb dX12_letter_47 (lv_at hl 1 rfl) ?_
          refine lv_ldc2 hx hb hown (hts (.constantLong RX12 194 (37)) (by decide +kernel)) dX12_letter_49 ?_
          refine lv_ldiv hx hb dX12_letter_52 (by decide) ?_
          refine my_tl (v := 26584) (by decide) ?_
          refine lv_lstore (lv' := [(6, .long 26584), (5, .int 1), (3, .long 983628), (0, .ref h0), (1, .int 4), (2, .int x2)]) hx hb dX12_letter_53 hl (by decide) rfl (fun ls hl => ?_)
          refine lv_goto (tgt := 37) hx hb dX12_letter_55 (by decide) ?_
          refine lv_lload hx hb dX12_letter_37 (lv_at hl 0 rfl) ?_
          refine lv_lconst (v := 0) hx hb dX12_letter_39 (by decide) ?_
          refine W.lcmp hx hb dX12_letter_40 ?_
          refine my_ti (v := 1) (by decide) ?_
          refine lv_if_le (tgt := 58) hx hb dX12_letter_41 (by decide) (fun c_41 => absurd c_41 (by decide)) (fun c_41 => ?_)
          refine lv_iinc (v := 2) (lv' := [(5, .int 2), (6, .long 26584), (3, .long 983628), (0, .ref h0), (1, .int 4), (2, .int x2)]) hx hb dX12_letter_44 hl (k := 1) rfl (by decide) (by decide) rfl (fun ls hl => ?_)
          refine lv_lload hx hb dX12_letter_47 (lv_at hl 1 rfl) ?_
          refine lv_ldc2 hx hb hown (hts (.constantLong RX12 194 (37)) (by decide +kernel)) dX12_letter_49 ?_
          refine lv_ldiv hx hb dX12_letter_52 (by decide) ?_
          refine my_tl (v := 718) (by decide) ?_
          refine lv_lstore (lv' := [(6, .long 718), (5, .int 2), (3, .long 983628), (0, .ref h0), (1, .int 4), (2, .int x2)]) hx hb dX12_letter_53 hl (by decide) rfl (fun ls hl => ?_)
          refine lv_goto (tgt := 37) hx hb dX12_letter_55 (by decide) ?_
          refine lv_lload hx hb dX12_letter_37 (lv_at hl 0 rfl) ?_
          refine lv_lconst (v := 0) hx hb dX12_letter_39 (by decide) ?_
          refine W.lcmp hx hb dX12_letter_40 ?_
          refine my_ti (v := 1) (by decide) ?_
          refine lv_if_le (tgt := 58) hx hb dX12_letter_41 (by decide) (fun c_41 => absurd c_41 (by decide)) (fun c_41 => ?_)
          refine lv_iinc (v := 3) (lv' := [(5, .int 3), (6, .long 718), (3, .long 983628), (0, .ref h0), (1, .int 4), (2, .int x2)]) hx hb dX12_letter_44 hl (k := 1) rfl (by decide) (by decide) rfl (fun ls hl => ?_)
          refine lv_lload hx hb dX12_letter_47 (lv_at hl 1 rfl) ?_
          refine lv_ldc2 hx hb hown (hts (.constantLong RX12 194 (37)) (by decide +kernel)) dX12_letter_49 ?_
          refine lv_ldiv hx hb dX12_letter_52 (by decide) ?_
          refine my_tl (v := 19) (by decide) ?_
          refine lv_lstore (lv' := [(6, .long 19), (5, .int 3), (3, .long 983628), (0, .ref h0), (1, .int 4), (2, .int x2)]) hx hb dX12_letter_53 hl (by decide) rfl (fun ls hl => ?_)
          refine lv_goto (tgt := 37) hx hb dX12_letter_55 (by decide) ?_
          refine lv_lload hx hb dX12_letter_37 (lv_at hl 0 rfl) ?_
          refine lv_lconst (v := 0) hx hb dX12_letter_39 (by decide) ?_
          refine W.lcmp hx hb dX12_letter_40 ?_
          refine my_ti (v := 1) (by decide) ?_
          refine lv_if_le (tgt := 58) hx hb dX12_letter_41 (by decide) (fun c_41 => absurd c_41 (by decide)) (fun c_41 => ?_)
          refine lv_iinc (v := 4) (lv' := [(5, .int 4), (6, .long 19), (3, .long 983628), (0, .ref h0), (1, .int 4), (2, .int x2)]) hx hb dX12_letter_44 hl (k := 1) rfl (by decide) (by decide) rfl (fun ls hl => ?_)
          refine lv_lload hx hb dX12_letter_47 (lv_at hl 1 rfl) ?_
          refine lv_ldc2 hx hb hown (hts (.constantLong RX12 194 (37)) (by decide +kernel)) dX12_letter_49 ?_
          refine lv_ldiv hx hb dX12_letter_52 (by decide) ?_
          refine my_tl (v := 0) (by decide) ?_
          refine lv_lstore (lv' := [(6, .long 0), (5, .int 4), (3, .long 983628), (0, .ref h0), (1, .int 4), (2, .int x2)]) hx hb dX12_letter_53 hl (by decide) rfl (fun ls hl => ?_)
          refine lv_goto (tgt := 37) hx hb dX12_letter_55 (by decide) ?_
          refine lv_lload hx hb dX12_letter_37 (lv_at hl 0 rfl) ?_
          refine lv_lconst (v := 0) hx hb dX12_letter_39 (by decide) ?_
          refine W.lcmp hx hb dX12_letter_40 ?_
          refine my_ti (v := 0) (by decide) ?_
          refine lv_if_le (tgt := 58) hx hb dX12_letter_41 (by decide) (fun c_41 => ?_) (fun c_41 => absurd c_41 (by decide))
          refine lv_iload_n hx hb dX12_letter_58 rfl (lv_at hl 5 rfl) ?_
          refine lv_iload hx hb dX12_letter_59 (lv_at hl 1 rfl) ?_
          refine lv_icmp_lt (tgt := 66) hx hb dX12_letter_61 (by decide) (fun c_61 => ?_) (fun c_61 => ?_)
          · refine lv_iload hx hb dX12_letter_66 (lv_at hl 1 rfl) ?_
            refine lv_iconst (v := 1) hx hb dX12_letter_68 (by decide) ?_
            refine lv_isub hx hb dX12_letter_69 ?_
            refine my_ti (v := 3) (by decide) ?_
            refine lv_istore (lv' := [(6, .int 3), (5, .int 4), (3, .long 983628), (0, .ref h0), (1, .int 4), (2, .int x2)]) hx hb dX12_letter_70 hl (by decide) rfl (fun ls hl => ?_)
            refine lv_iload hx hb dX12_letter_72 (lv_at hl 0 rfl) ?_
            refine lv_iload_n hx hb dX12_letter_74 rfl (lv_at hl 5 rfl) ?_
            refine lv_icmp_le (tgt := 90) hx hb dX12_letter_75 (by decide) (fun c_75 => ?_) (fun c_75 => ?_)
            · obtain rfl : x2 = 3 := eq_of c_75 (Int32.not_le.mpr c_61) (by decide)
              refine lv_lload_n hx hb dX12_letter_90 rfl (lv_at hl 2 rfl) ?_
              refine lv_ldc2 hx hb hown (hts (.constantLong RX12 194 (37)) (by decide +kernel)) dX12_letter_91 ?_
              refine lv_lrem hx hb dX12_letter_94 (by decide) ?_
              refine my_tl (v := 20) (by decide) ?_
              refine lv_l2i (v := 20) hx hb dX12_letter_95 (by decide) ?_
              refine lv_istore (lv' := [(6, .int 20), (5, .int 4), (3, .long 983628), (0, .ref h0), (1, .int 4), (2, .int 3)]) hx hb dX12_letter_96 hl (by decide) rfl (fun ls hl => ?_)
              refine lv_iload hx hb dX12_letter_98 (lv_at hl 0 rfl) ?_
              refine lv_bipush (v := 27) hx hb dX12_letter_100 (by decide) ?_
              refine lv_icmp_ge (tgt := 115) hx hb dX12_letter_102 (by decide) (fun c_102 => absurd c_102 (by decide)) (fun c_102 => ?_)
              refine lv_bipush (v := 97) hx hb dX12_letter_105 (by decide) ?_
              refine lv_iload hx hb dX12_letter_107 (lv_at hl 0 rfl) ?_
              refine lv_iadd hx hb dX12_letter_109 ?_
              refine my_ti (v := 117) (by decide) ?_
              refine lv_iconst (v := 1) hx hb dX12_letter_110 (by decide) ?_
              refine lv_isub hx hb dX12_letter_111 ?_
              refine my_ti (v := 116) (by decide) ?_
              refine lv_goto (tgt := 123) hx hb dX12_letter_112 (by decide) ?_
              exact W.iret (v := 116) hx hb hr (fun t ht hW => ⟨⟨116, (), rfl, by decide +kernel, trivial⟩, hS.F ht⟩) hS.2.2 dX12_letter_123
            · have hb_3 := c_75
              refine lv_lload_n hx hb dX12_letter_78 rfl (lv_at hl 2 rfl) ?_
              refine lv_ldc2 hx hb hown (hts (.constantLong RX12 194 (37)) (by decide +kernel)) dX12_letter_79 ?_
              refine lv_ldiv hx hb dX12_letter_82 (by decide) ?_
              refine my_tl (v := 26584) (by decide) ?_
              refine lv_lstore_n (lv' := [(3, .long 26584), (6, .int 3), (5, .int 4), (0, .ref h0), (1, .int 4), (2, .int x2)]) hx hb dX12_letter_83 rfl hl (by decide) rfl (fun ls hl => ?_)
              refine lv_iinc (v := 2) (lv' := [(6, .int 2), (3, .long 26584), (5, .int 4), (0, .ref h0), (1, .int 4), (2, .int x2)]) hx hb dX12_letter_84 hl (k := 1) rfl (by decide) (by decide) rfl (fun ls hl => ?_)
              refine lv_goto (tgt := 72) hx hb dX12_letter_87 (by decide) ?_
              refine lv_iload hx hb dX12_letter_72 (lv_at hl 0 rfl) ?_
              refine lv_iload_n hx hb dX12_letter_74 rfl (lv_at hl 5 rfl) ?_
              refine lv_icmp_le (tgt := 90) hx hb dX12_letter_75 (by decide) (fun c_75 => ?_) (fun c_75 => ?_)
              · obtain rfl : x2 = 2 := eq_of c_75 hb_3 (by decide)
                refine lv_lload_n hx hb dX12_letter_90 rfl (lv_at hl 1 rfl) ?_
                refine lv_ldc2 hx hb hown (hts (.constantLong RX12 194 (37)) (by decide +kernel)) dX12_letter_91 ?_
                refine lv_lrem hx hb dX12_letter_94 (by decide) ?_
                refine my_tl (v := 18) (by decide) ?_
                refine lv_l2i (v := 18) hx hb dX12_letter_95 (by decide) ?_
                refine lv_istore (lv' := [(6, .int 18), (3, .long 26584), (5, .int 4), (0, .ref h0), (1, .int 4), (2, .int 2)]) hx hb dX12_letter_96 hl (by decide) rfl (fun ls hl => ?_)
                refine lv_iload hx hb dX12_letter_98 (lv_at hl 0 rfl) ?_
                refine lv_bipush (v := 27) hx hb dX12_letter_100 (by decide) ?_
                refine lv_icmp_ge (tgt := 115) hx hb dX12_letter_102 (by decide) (fun c_102 => absurd c_102 (by decide)) (fun c_102 => ?_)
                refine lv_bipush (v := 97) hx hb dX12_letter_105 (by decide) ?_
                refine lv_iload hx hb dX12_letter_107 (lv_at hl 0 rfl) ?_
                refine lv_iadd hx hb dX12_letter_109 ?_
                refine my_ti (v := 115) (by decide) ?_
                refine lv_iconst (v := 1) hx hb dX12_letter_110 (by decide) ?_
                refine lv_isub hx hb dX12_letter_111 ?_
                refine my_ti (v := 114) (by decide) ?_
                refine lv_goto (tgt := 123) hx hb dX12_letter_112 (by decide) ?_
                exact W.iret (v := 114) hx hb hr (fun t ht hW => ⟨⟨114, (), rfl, by decide +kernel, trivial⟩, hS.F ht⟩) hS.2.2 dX12_letter_123
              · have hb_2 := c_75
                refine lv_lload_n hx hb dX12_letter_78 rfl (lv_at hl 1 rfl) ?_
                refine lv_ldc2 hx hb hown (hts (.constantLong RX12 194 (37)) (by decide +kernel)) dX12_letter_79 ?_
                refine lv_ldiv hx hb dX12_letter_82 (by decide) ?_
                refine my_tl (v := 718) (by decide) ?_
                refine lv_lstore_n (lv' := [(3, .long 718), (6, .int 2), (5, .int 4), (0, .ref h0), (1, .int 4), (2, .int x2)]) hx hb dX12_letter_83 rfl hl (by decide) rfl (fun ls hl => ?_)
                refine lv_iinc (v := 1) (lv' := [(6, .int 1), (3, .long 718), (5, .int 4), (0, .ref h0), (1, .int 4), (2, .int x2)]) hx hb dX12_letter_84 hl (k := 1) rfl (by decide) (by decide) rfl (fun ls hl => ?_)
                refine lv_goto (tgt := 72) hx hb dX12_letter_87 (by decide) ?_
                refine lv_iload hx hb dX12_letter_72 (lv_at hl 0 rfl) ?_
                refine lv_iload_n hx hb dX12_letter_74 rfl (lv_at hl 5 rfl) ?_
                refine lv_icmp_le (tgt := 90) hx hb dX12_letter_75 (by decide) (fun c_75 => ?_) (fun c_75 => ?_)
                · obtain rfl : x2 = 1 := eq_of c_75 hb_2 (by decide)
                  refine lv_lload_n hx hb dX12_letter_90 rfl (lv_at hl 1 rfl) ?_
                  refine lv_ldc2 hx hb hown (hts (.constantLong RX12 194 (37)) (by decide +kernel)) dX12_letter_91 ?_
                  refine lv_lrem hx hb dX12_letter_94 (by decide) ?_
                  refine my_tl (v := 15) (by decide) ?_
                  refine lv_l2i (v := 15) hx hb dX12_letter_95 (by decide) ?_
                  refine lv_istore (lv' := [(6, .int 15), (3, .long 718), (5, .int 4), (0, .ref h0), (1, .int 4), (2, .int 1)]) hx hb dX12_letter_96 hl (by decide) rfl (fun ls hl => ?_)
                  refine lv_iload hx hb dX12_letter_98 (lv_at hl 0 rfl) ?_
                  refine lv_bipush (v := 27) hx hb dX12_letter_100 (by decide) ?_
                  refine lv_icmp_ge (tgt := 115) hx hb dX12_letter_102 (by decide) (fun c_102 => absurd c_102 (by decide)) (fun c_102 => ?_)
                  refine lv_bipush (v := 97) hx hb dX12_letter_105 (by decide) ?_
                  refine lv_iload hx hb dX12_letter_107 (lv_at hl 0 rfl) ?_
                  refine lv_iadd hx hb dX12_letter_109 ?_
                  refine my_ti (v := 112) (by decide) ?_
                  refine lv_iconst (v := 1) hx hb dX12_letter_110 (by decide) ?_
                  refine lv_isub hx hb dX12_letter_111 ?_
                  refine my_ti (v := 111) (by decide) ?_
                  refine lv_goto (tgt := 123) hx hb dX12_letter_112 (by decide) ?_
                  exact W.iret (v := 111) hx hb hr (fun t ht hW => ⟨⟨111, (), rfl, by decide +kernel, trivial⟩, hS.F ht⟩) hS.2.2 dX12_letter_123
                · have hb_1 := c_75
                  refine lv_lload_n hx hb dX12_letter_78 rfl (lv_at hl 1 rfl) ?_
                  refine lv_ldc2 hx hb hown (hts (.constantLong RX12 194 (37)) (by decide +kernel)) dX12_letter_79 ?_
                  refine lv_ldiv hx hb dX12_letter_82 (by decide) ?_
                  refine my_tl (v := 19) (by decide) ?_
                  refine lv_lstore_n (lv' := [(3, .long 19), (6, .int 1), (5, .int 4), (0, .ref h0), (1, .int 4), (2, .int x2)]) hx hb dX12_letter_83 rfl hl (by decide) rfl (fun ls hl => ?_)
                  refine lv_iinc (v := 0) (lv' := [(6, .int 0), (3, .long 19), (5, .int 4), (0, .ref h0), (1, .int 4), (2, .int x2)]) hx hb dX12_letter_84 hl (k := 1) rfl (by decide) (by decide) rfl (fun ls hl => ?_)
                  refine lv_goto (tgt := 72) hx hb dX12_letter_87 (by decide) ?_
                  refine lv_iload hx hb dX12_letter_72 (lv_at hl 0 rfl) ?_
                  refine lv_iload_n hx hb dX12_letter_74 rfl (lv_at hl 5 rfl) ?_
                  refine lv_icmp_le (tgt := 90) hx hb dX12_letter_75 (by decide) (fun c_75 => ?_) (fun c_75 => absurd (c_19) c_75)
                  obtain rfl : x2 = 0 := eq_of c_75 hb_1 (by decide)
                  refine lv_lload_n hx hb dX12_letter_90 rfl (lv_at hl 1 rfl) ?_
                  refine lv_ldc2 hx hb hown (hts (.constantLong RX12 194 (37)) (by decide +kernel)) dX12_letter_91 ?_
                  refine lv_lrem hx hb dX12_letter_94 (by decide) ?_
                  refine my_tl (v := 19) (by decide) ?_
                  refine lv_l2i (v := 19) hx hb dX12_letter_95 (by decide) ?_
                  refine lv_istore (lv' := [(6, .int 19), (3, .long 19), (5, .int 4), (0, .ref h0), (1, .int 4), (2, .int 0)]) hx hb dX12_letter_96 hl (by decide) rfl (fun ls hl => ?_)
                  refine lv_iload hx hb dX12_letter_98 (lv_at hl 0 rfl) ?_
                  refine lv_bipush (v := 27) hx hb dX12_letter_100 (by decide) ?_
                  refine lv_icmp_ge (tgt := 115) hx hb dX12_letter_102 (by decide) (fun c_102 => absurd c_102 (by decide)) (fun c_102 => ?_)
                  refine lv_bipush (v := 97) hx hb dX12_letter_105 (by decide) ?_
                  refine lv_iload hx hb dX12_letter_107 (lv_at hl 0 rfl) ?_
                  refine lv_iadd hx hb dX12_letter_109 ?_
                  refine my_ti (v := 116) (by decide) ?_
                  refine lv_iconst (v := 1) hx hb dX12_letter_110 (by decide) ?_
                  refine lv_isub hx hb dX12_letter_111 ?_
                  refine my_ti (v := 115) (by decide) ?_
                  refine lv_goto (tgt := 123) hx hb dX12_letter_112 (by decide) ?_
                  exact W.iret (v := 115) hx hb hr (fun t ht hW => ⟨⟨115, (), rfl, by decide +kernel, trivial⟩, hS.F ht⟩) hS.2.2 dX12_letter_123
          · refine lv_iconst (v := (-1)) hx hb dX12_letter_64 (by decide) ?_
            exact W.iret (v := (-1)) hx hb hr (fun t ht hW => ⟨⟨(-1), (), rfl, lt_hi (Int32.not_lt.mpr c_19) c_61 (by decide +kernel), trivial⟩, hS.F ht⟩) hS.2.2 dX12_letter_65
        · have _ := hf
          refine lv_aload_n hx hb dX12_letter_24 rfl (lv_at hl 0 rfl) ?_
          refine va_get (D := (dC, dI)) (ci := 11) (v := .ref z_names) (C := RX12) (T := TX12) (N := 106) hx hb hts in_wqX12_letter_RX12 hown hK hP 0 rfl rfl 3 (by decide) (hts (.fieldLink RX12 13 "FourTonguesModel" "names" "[J") (by decide +kernel)) (fun _ h9 => h9) rfl dX12_letter_25 ?_
          refine lv_iload_n hx hb dX12_letter_28 rfl (lv_at hl 1 rfl) ?_
          refine va_lald hx hb hK hP 1 0 rfl rfl (by unfold vp_in; decide) dX12_letter_29 ?_
          refine my_tl (v := 975695) (by rw [hf]; decide +kernel) ?_
          refine lv_lstore_n (lv' := [(3, .long 975695), (0, .ref h0), (1, .int 5), (2, .int x2)]) hx hb dX12_letter_30 rfl hl (by decide) rfl (fun ls hl => ?_)
          refine lv_iconst (v := 0) hx hb dX12_letter_31 (by decide) ?_
          refine lv_istore (lv' := [(5, .int 0), (3, .long 975695), (0, .ref h0), (1, .int 5), (2, .int x2)]) hx hb dX12_letter_32 hl (by decide) rfl (fun ls hl => ?_)
          refine lv_lload_n hx hb dX12_letter_34 rfl (lv_at hl 1 rfl) ?_
          refine lv_lstore (lv' := [(6, .long 975695), (5, .int 0), (3, .long 975695), (0, .ref h0), (1, .int 5), (2, .int x2)]) hx hb dX12_letter_35 hl (by decide) rfl (fun ls hl => ?_)
          refine lv_lload hx hb dX12_letter_37 (lv_at hl 0 rfl) ?_
          refine lv_lconst (v := 0) hx hb dX12_letter_39 (by decide) ?_
          refine W.lcmp hx hb dX12_letter_40 ?_
          refine my_ti (v := 1) (by decide) ?_
          refine lv_if_le (tgt := 58) hx hb dX12_letter_41 (by decide) (fun c_41 => absurd c_41 (by decide)) (fun c_41 => ?_)
          refine lv_iinc (v := 1) (lv' := [(5, .int 1), (6, .long 975695), (3, .long 975695), (0, .ref h0), (1, .int 5), (2, .int x2)]) hx hb dX12_letter_44 hl (k := 1) rfl (by decide) (by decide) rfl (fun ls hl => ?_)
          refine lv_lload hx hb dX12_letter_47 (lv_at hl 1 rfl) ?_
          refine lv_ldc2 hx hb hown (hts (.constantLong RX12 194 (37)) (by decide +kernel)) dX12_letter_49 ?_
          refine lv_ldiv hx hb dX12_letter_52 (by decide) ?_
          refine my_tl (v := 26370) (by decide) ?_
          refine lv_lstore (lv' := [(6, .long 26370), (5, .int 1), (3, .long 975695), (0, .ref h0), (1, .int 5), (2, .int x2)]) hx hb dX12_letter_53 hl (by decide) rfl (fun ls hl => ?_)
          refine lv_goto (tgt := 37) hx hb dX12_letter_55 (by decide) ?_
          refine lv_lload hx hb dX12_letter_37 (lv_at hl 0 rfl) ?_
          refine lv_lconst (v := 0) hx hb dX12_letter_39 (by decide) ?_
          refine W.lcmp hx hb dX12_letter_40 ?_
          refine my_ti (v := 1) (by decide) ?_
          refine lv_if_le (tgt := 58) hx hb dX12_letter_41 (by decide) (fun c_41 => absurd c_41 (by decide)) (fun c_41 => ?_)
          refine lv_iinc (v := 2) (lv' := [(5, .int 2), (6, .long 26370), (3, .long 975695), (0, .ref h0), (1, .int 5), (2, .int x2)]) hx hb dX12_letter_44 hl (k := 1) rfl (by decide) (by decide) rfl (fun ls hl => ?_)
          refine lv_lload hx hb dX12_letter_47 (lv_at hl 1 rfl) ?_
          refine lv_ldc2 hx hb hown (hts (.constantLong RX12 194 (37)) (by decide +kernel)) dX12_letter_49 ?_
          refine lv_ldiv hx hb dX12_letter_52 (by decide) ?_
          refine my_tl (v := 712) (by decide) ?_
          refine lv_lstore (lv' := [(6, .long 712), (5, .int 2), (3, .long 975695), (0, .ref h0), (1, .int 5), (2, .int x2)]) hx hb dX12_letter_53 hl (by decide) rfl (fun ls hl => ?_)
          refine lv_goto (tgt := 37) hx hb dX12_letter_55 (by decide) ?_
          refine lv_lload hx hb dX12_letter_37 (lv_at hl 0 rfl) ?_
          refine lv_lconst (v := 0) hx hb dX12_letter_39 (by decide) ?_
          refine W.lcmp hx hb dX12_letter_40 ?_
          refine my_ti (v := 1) (by decide) ?_
          refine lv_if_le (tgt := 58) hx hb dX12_letter_41 (by decide) (fun c_41 => absurd c_41 (by decide)) (fun c_41 => ?_)
          refine lv_iinc (v := 3) (lv' := [(5, .int 3), (6, .long 712), (3, .long 975695), (0, .ref h0), (1, .int 5), (2, .int x2)]) hx hb dX12_letter_44 hl (k := 1) rfl (by decide) (by decide) rfl (fun ls hl => ?_)
          refine lv_lload hx hb dX12_letter_47 (lv_at hl 1 rfl) ?_
          refine lv_ldc2 hx hb hown (hts (.constantLong RX12 194 (37)) (by decide +kernel)) dX12_letter_49 ?_
          refine lv_ldiv hx hb dX12_letter_52 (by decide) ?_
          refine my_tl (v := 19) (by decide) ?_
          refine lv_lstore (lv' := [(6, .long 19), (5, .int 3), (3, .long 975695), (0, .ref h0), (1, .int 5), (2, .int x2)]) hx hb dX12_letter_53 hl (by decide) rfl (fun ls hl => ?_)
          refine lv_goto (tgt := 37) hx hb dX12_letter_55 (by decide) ?_
          refine lv_lload hx hb dX12_letter_37 (lv_at hl 0 rfl) ?_
          refine lv_lconst (v := 0) hx hb dX12_letter_39 (by decide) ?_
          refine W.lcmp hx hb dX12_letter_40 ?_
          refine my_ti (v := 1) (by decide) ?_
          refine lv_if_le (tgt := 58) hx hb dX12_letter_41 (by decide) (fun c_41 => absurd c_41 (by decide)) (fun c_41 => ?_)
          refine lv_iinc (v := 4) (lv' := [(5, .int 4), (6, .long 19), (3, .long 975695), (0, .ref h0), (1, .int 5), (2, .int x2)]) hx hb dX12_letter_44 hl (k := 1) rfl (by decide) (by decide) rfl (fun ls hl => ?_)
          refine lv_lload hx hb dX12_letter_47 (lv_at hl 1 rfl) ?_
          refine lv_ldc2 hx hb hown (hts (.constantLong RX12 194 (37)) (by decide +kernel)) dX12_letter_49 ?_
          refine lv_ldiv hx hb dX12_letter_52 (by decide) ?_
          refine my_tl (v := 0) (by decide) ?_
          refine lv_lstore (lv' := [(6, .long 0), (5, .int 4), (3, .long 975695), (0, .ref h0), (1, .int 5), (2, .int x2)]) hx hb dX12_letter_53 hl (by decide) rfl (fun ls hl => ?_)
          refine lv_goto (tgt := 37) hx hb dX12_letter_55 (by decide) ?_
          refine lv_lload hx hb dX12_letter_37 (lv_at hl 0 rfl) ?_
          refine lv_lconst (v := 0) hx hb dX12_letter_39 (by decide) ?_
          refine W.lcmp hx hb dX12_letter_40 ?_
          refine my_ti (v := 0) (by decide) ?_
          refine lv_if_le (tgt := 58) hx hb dX12_letter_41 (by decide) (fun c_41 => ?_) (fun c_41 => absurd c_41 (by decide))
          refine lv_iload_n hx hb dX12_letter_58 rfl (lv_at hl 5 rfl) ?_
          refine lv_iload hx hb dX12_letter_59 (lv_at hl 1 rfl) ?_
          refine lv_icmp_lt (tgt := 66) hx hb dX12_letter_61 (by decide) (fun c_61 => ?_) (fun c_61 => ?_)
          · refine lv_iload hx hb dX12_letter_66 (lv_at hl 1 rfl) ?_
            refine lv_iconst (v := 1) hx hb dX12_letter_68 (by decide) ?_
            refine lv_isub hx hb dX12_letter_69 ?_
            refine my_ti (v := 3) (by decide) ?_
            refine lv_istore (lv' := [(6, .int 3), (5, .int 4), (3, .long 975695), (0, .ref h0), (1, .int 5), (2, .int x2)]) hx hb dX12_letter_70 hl (by decide) rfl (fun ls hl => ?_)
            refine lv_iload hx hb dX12_letter_72 (lv_at hl 0 rfl) ?_
            refine lv_iload_n hx hb dX12_letter_74 rfl (lv_at hl 5 rfl) ?_
            refine lv_icmp_le (tgt := 90) hx hb dX12_letter_75 (by decide) (fun c_75 => ?_) (fun c_75 => ?_)
            · obtain rfl : x2 = 3 := eq_of c_75 (Int32.not_le.mpr c_61) (by decide)
              refine lv_lload_n hx hb dX12_letter_90 rfl (lv_at hl 2 rfl) ?_
              refine lv_ldc2 hx hb hown (hts (.constantLong RX12 194 (37)) (by decide +kernel)) dX12_letter_91 ?_
              refine lv_lrem hx hb dX12_letter_94 (by decide) ?_
              refine my_tl (v := 5) (by decide) ?_
              refine lv_l2i (v := 5) hx hb dX12_letter_95 (by decide) ?_
              refine lv_istore (lv' := [(6, .int 5), (5, .int 4), (3, .long 975695), (0, .ref h0), (1, .int 5), (2, .int 3)]) hx hb dX12_letter_96 hl (by decide) rfl (fun ls hl => ?_)
              refine lv_iload hx hb dX12_letter_98 (lv_at hl 0 rfl) ?_
              refine lv_bipush (v := 27) hx hb dX12_letter_100 (by decide) ?_
              refine lv_icmp_ge (tgt := 115) hx hb dX12_letter_102 (by decide) (fun c_102 => absurd c_102 (by decide)) (fun c_102 => ?_)
              refine lv_bipush (v := 97) hx hb dX12_letter_105 (by decide) ?_
              refine lv_iload hx hb dX12_letter_107 (lv_at hl 0 rfl) ?_
              refine lv_iadd hx hb dX12_letter_109 ?_
              refine my_ti (v := 102) (by decide) ?_
              refine lv_iconst (v := 1) hx hb dX12_letter_110 (by decide) ?_
              refine lv_isub hx hb dX12_letter_111 ?_
              refine my_ti (v := 101) (by decide) ?_
              refine lv_goto (tgt := 123) hx hb dX12_letter_112 (by decide) ?_
              exact W.iret (v := 101) hx hb hr (fun t ht hW => ⟨⟨101, (), rfl, by decide +kernel, trivial⟩, hS.F ht⟩) hS.2.2 dX12_letter_123
            · have hb_3 := c_75
              refine lv_lload_n hx hb dX12_letter_78 rfl (lv_at hl 2 rfl) ?_
              refine lv_ldc2 hx hb hown (hts (.constantLong RX12 194 (37)) (by decide +kernel)) dX12_letter_79 ?_
              refine lv_ldiv hx hb dX12_letter_82 (by decide) ?_
              refine my_tl (v := 26370) (by decide) ?_
              refine lv_lstore_n (lv' := [(3, .long 26370), (6, .int 3), (5, .int 4), (0, .ref h0), (1, .int 5), (2, .int x2)]) hx hb dX12_letter_83 rfl hl (by decide) rfl (fun ls hl => ?_)
              refine lv_iinc (v := 2) (lv' := [(6, .int 2), (3, .long 26370), (5, .int 4), (0, .ref h0), (1, .int 5), (2, .int x2)]) hx hb dX12_letter_84 hl (k := 1) rfl (by decide) (by decide) rfl (fun ls hl => ?_)
              refine lv_goto (tgt := 72) hx hb dX12_letter_87 (by decide) ?_
              refine lv_iload hx hb dX12_letter_72 (lv_at hl 0 rfl) ?_
              refine lv_iload_n hx hb dX12_letter_74 rfl (lv_at hl 5 rfl) ?_
              refine lv_icmp_le (tgt := 90) hx hb dX12_letter_75 (by decide) (fun c_75 => ?_) (fun c_75 => ?_)
              · obtain rfl : x2 = 2 := eq_of c_75 hb_3 (by decide)
                refine lv_lload_n hx hb dX12_letter_90 rfl (lv_at hl 1 rfl) ?_
                refine lv_ldc2 hx hb hown (hts (.constantLong RX12 194 (37)) (by decide +kernel)) dX12_letter_91 ?_
                refine lv_lrem hx hb dX12_letter_94 (by decide) ?_
                refine my_tl (v := 26) (by decide) ?_
                refine lv_l2i (v := 26) hx hb dX12_letter_95 (by decide) ?_
                refine lv_istore (lv' := [(6, .int 26), (3, .long 26370), (5, .int 4), (0, .ref h0), (1, .int 5), (2, .int 2)]) hx hb dX12_letter_96 hl (by decide) rfl (fun ls hl => ?_)
                refine lv_iload hx hb dX12_letter_98 (lv_at hl 0 rfl) ?_
                refine lv_bipush (v := 27) hx hb dX12_letter_100 (by decide) ?_
                refine lv_icmp_ge (tgt := 115) hx hb dX12_letter_102 (by decide) (fun c_102 => absurd c_102 (by decide)) (fun c_102 => ?_)
                refine lv_bipush (v := 97) hx hb dX12_letter_105 (by decide) ?_
                refine lv_iload hx hb dX12_letter_107 (lv_at hl 0 rfl) ?_
                refine lv_iadd hx hb dX12_letter_109 ?_
                refine my_ti (v := 123) (by decide) ?_
                refine lv_iconst (v := 1) hx hb dX12_letter_110 (by decide) ?_
                refine lv_isub hx hb dX12_letter_111 ?_
                refine my_ti (v := 122) (by decide) ?_
                refine lv_goto (tgt := 123) hx hb dX12_letter_112 (by decide) ?_
                exact W.iret (v := 122) hx hb hr (fun t ht hW => ⟨⟨122, (), rfl, by decide +kernel, trivial⟩, hS.F ht⟩) hS.2.2 dX12_letter_123
              · have hb_2 := c_75
                refine lv_lload_n hx hb dX12_letter_78 rfl (lv_at hl 1 rfl) ?_
                refine lv_ldc2 hx hb hown (hts (.constantLong RX12 194 (37)) (by decide +kernel)) dX12_letter_79 ?_
                refine lv_ldiv hx hb dX12_letter_82 (by decide) ?_
                refine my_tl (v := 712) (by decide) ?_
                refine lv_lstore_n (lv' := [(3, .long 712), (6, .int 2), (5, .int 4), (0, .ref h0), (1, .int 5), (2, .int x2)]) hx hb dX12_letter_83 rfl hl (by decide) rfl (fun ls hl => ?_)
                refine lv_iinc (v := 1) (lv' := [(6, .int 1), (3, .long 712), (5, .int 4), (0, .ref h0), (1, .int 5), (2, .int x2)]) hx hb dX12_letter_84 hl (k := 1) rfl (by decide) (by decide) rfl (fun ls hl => ?_)
                refine lv_goto (tgt := 72) hx hb dX12_letter_87 (by decide) ?_
                refine lv_iload hx hb dX12_letter_72 (lv_at hl 0 rfl) ?_
                refine lv_iload_n hx hb dX12_letter_74 rfl (lv_at hl 5 rfl) ?_
                refine lv_icmp_le (tgt := 90) hx hb dX12_letter_75 (by decide) (fun c_75 => ?_) (fun c_75 => ?_)
                · obtain rfl : x2 = 1 := eq_of c_75 hb_2 (by decide)
                  refine lv_lload_n hx hb dX12_letter_90 rfl (lv_at hl 1 rfl) ?_
                  refine lv_ldc2 hx hb hown (hts (.constantLong RX12 194 (37)) (by decide +kernel)) dX12_letter_91 ?_
                  refine lv_lrem hx hb dX12_letter_94 (by decide) ?_
                  refine my_tl (v := 9) (by decide) ?_
                  refine lv_l2i (v := 9) hx hb dX12_letter_95 (by decide) ?_
                  refine lv_istore (lv' := [(6, .int 9), (3, .long 712), (5, .int 4), (0, .ref h0), (1, .int 5), (2, .int 1)]) hx hb dX12_letter_96 hl (by decide) rfl (fun ls hl => ?_)
                  refine lv_iload hx hb dX12_letter_98 (lv_at hl 0 rfl) ?_
                  refine lv_bipush (v := 27) hx hb dX12_letter_100 (by decide) ?_
                  refine lv_icmp_ge (tgt := 115) hx hb dX12_letter_102 (by decide) (fun c_102 => absurd c_102 (by decide)) (fun c_102 => ?_)
                  refine lv_bipush (v := 97) hx hb dX12_letter_105 (by decide) ?_
                  refine lv_iload hx hb dX12_letter_107 (lv_at hl 0 rfl) ?_
                  refine lv_iadd hx hb dX12_letter_109 ?_
                  refine my_ti (v := 106) (by decide) ?_
                  refine lv_iconst (v := 1) hx hb dX12_letter_110 (by decide) ?_
                  refine lv_isub hx hb dX12_letter_111 ?_
                  refine my_ti (v := 105) (by decide) ?_
                  refine lv_goto (tgt := 123) hx hb dX12_letter_112 (by decide) ?_
                  exact W.iret (v := 105) hx hb hr (fun t ht hW => ⟨⟨105, (), rfl, by decide +kernel, trivial⟩, hS.F ht⟩) hS.2.2 dX12_letter_123
                · have hb_1 := c_75
                  refine lv_lload_n hx hb dX12_letter_78 rfl (lv_at hl 1 rfl) ?_
                  refine lv_ldc2 hx hb hown (hts (.constantLong RX12 194 (37)) (by decide +kernel)) dX12_letter_79 ?_
                  refine lv_ldiv hx hb dX12_letter_82 (by decide) ?_
                  refine my_tl (v := 19) (by decide) ?_
                  refine lv_lstore_n (lv' := [(3, .long 19), (6, .int 1), (5, .int 4), (0, .ref h0), (1, .int 5), (2, .int x2)]) hx hb dX12_letter_83 rfl hl (by decide) rfl (fun ls hl => ?_)
                  refine lv_iinc (v := 0) (lv' := [(6, .int 0), (3, .long 19), (5, .int 4), (0, .ref h0), (1, .int 5), (2, .int x2)]) hx hb dX12_letter_84 hl (k := 1) rfl (by decide) (by decide) rfl (fun ls hl => ?_)
                  refine lv_goto (tgt := 72) hx hb dX12_letter_87 (by decide) ?_
                  refine lv_iload hx hb dX12_letter_72 (lv_at hl 0 rfl) ?_
                  refine lv_iload_n hx hb dX12_letter_74 rfl (lv_at hl 5 rfl) ?_
                  refine lv_icmp_le (tgt := 90) hx hb dX12_letter_75 (by decide) (fun c_75 => ?_) (fun c_75 => absurd (c_19) c_75)
                  obtain rfl : x2 = 0 := eq_of c_75 hb_1 (by decide)
                  refine lv_lload_n hx hb dX12_letter_90 rfl (lv_at hl 1 rfl) ?_
                  refine lv_ldc2 hx hb hown (hts (.constantLong RX12 194 (37)) (by decide +kernel)) dX12_letter_91 ?_
                  refine lv_lrem hx hb dX12_letter_94 (by decide) ?_
                  refine my_tl (v := 19) (by decide) ?_
                  refine lv_l2i (v := 19) hx hb dX12_letter_95 (by decide) ?_
                  refine lv_istore (lv' := [(6, .int 19), (3, .long 19), (5, .int 4), (0, .ref h0), (1, .int 5), (2, .int 0)]) hx hb dX12_letter_96 hl (by decide) rfl (fun ls hl => ?_)
                  refine lv_iload hx hb dX12_letter_98 (lv_at hl 0 rfl) ?_
                  refine lv_bipush (v := 27) hx hb dX12_letter_100 (by decide) ?_
                  refine lv_icmp_ge (tgt := 115) hx hb dX12_letter_102 (by decide) (fun c_102 => absurd c_102 (by decide)) (fun c_102 => ?_)
                  refine lv_bipush (v := 97) hx hb dX12_letter_105 (by decide) ?_
                  refine lv_iload hx hb dX12_letter_107 (lv_at hl 0 rfl) ?_
                  refine lv_iadd hx hb dX12_letter_109 ?_
                  refine my_ti (v := 116) (by decide) ?_
                  refine lv_iconst (v := 1) hx hb dX12_letter_110 (by decide) ?_
                  refine lv_isub hx hb dX12_letter_111 ?_
                  refine my_ti (v := 115) (by decide) ?_
                  refine lv_goto (tgt := 123) hx hb dX12_letter_112 (by decide) ?_
                  exact W.iret (v := 115) hx hb hr (fun t ht hW => ⟨⟨115, (), rfl, by decide +kernel, trivial⟩, hS.F ht⟩) hS.2.2 dX12_letter_123
          · refine lv_iconst (v := (-1)) hx hb dX12_letter_64 (by decide) ?_
            exact W.iret (v := (-1)) hx hb hr (fun t ht hW => ⟨⟨(-1), (), rfl, lt_hi (Int32.not_lt.mpr c_19) c_61 (by decide +kernel), trivial⟩, hS.F ht⟩) hS.2.2 dX12_letter_65
        · have _ := hf
          refine lv_aload_n hx hb dX12_letter_24 rfl (lv_at hl 0 rfl) ?_
          refine va_get (D := (dC, dI)) (ci := 11) (v := .ref z_names) (C := RX12) (T := TX12) (N := 106) hx hb hts in_wqX12_letter_RX12 hown hK hP 0 rfl rfl 3 (by decide) (hts (.fieldLink RX12 13 "FourTonguesModel" "names" "[J") (by decide +kernel)) (fun _ h9 => h9) rfl dX12_letter_25 ?_
          refine lv_iload_n hx hb dX12_letter_28 rfl (lv_at hl 1 rfl) ?_
          refine va_lald hx hb hK hP 1 0 rfl rfl (by unfold vp_in; decide) dX12_letter_29 ?_
          refine my_tl (v := 209658) (by rw [hf]; decide +kernel) ?_
          refine lv_lstore_n (lv' := [(3, .long 209658), (0, .ref h0), (1, .int 6), (2, .int x2)]) hx hb dX12_letter_30 rfl hl (by decide) rfl (fun ls hl => ?_)
          refine lv_iconst (v := 0) hx hb dX12_letter_31 (by decide) ?_
          refine lv_istore (lv' := [(5, .int 0), (3, .long 209658), (0, .ref h0), (1, .int 6), (2, .int x2)]) hx hb dX12_letter_32 hl (by decide) rfl (fun ls hl => ?_)
          refine lv_lload_n hx hb dX12_letter_34 rfl (lv_at hl 1 rfl) ?_
          refine lv_lstore (lv' := [(6, .long 209658), (5, .int 0), (3, .long 209658), (0, .ref h0), (1, .int 6), (2, .int x2)]) hx hb dX12_letter_35 hl (by decide) rfl (fun ls hl => ?_)
          refine lv_lload hx hb dX12_letter_37 (lv_at hl 0 rfl) ?_
          refine lv_lconst (v := 0) hx hb dX12_letter_39 (by decide) ?_
          refine W.lcmp hx hb dX12_letter_40 ?_
          refine my_ti (v := 1) (by decide) ?_
          refine lv_if_le (tgt := 58) hx hb dX12_letter_41 (by decide) (fun c_41 => absurd c_41 (by decide)) (fun c_41 => ?_)
          refine lv_iinc (v := 1) (lv' := [(5, .int 1), (6, .long 209658), (3, .long 209658), (0, .ref h0), (1, .int 6), (2, .int x2)]) hx hb dX12_letter_44 hl (k := 1) rfl (by decide) (by decide) rfl (fun ls hl => ?_)
          refine lv_lload hx hb dX12_letter_47 (lv_at hl 1 rfl) ?_
          refine lv_ldc2 hx hb hown (hts (.constantLong RX12 194 (37)) (by decide +kernel)) dX12_letter_49 ?_
          refine lv_ldiv hx hb dX12_letter_52 (by decide) ?_
          refine my_tl (v := 5666) (by decide) ?_
          refine lv_lstore (lv' := [(6, .long 5666), (5, .int 1), (3, .long 209658), (0, .ref h0), (1, .int 6), (2, .int x2)]) hx hb dX12_letter_53 hl (by decide) rfl (fun ls hl => ?_)
          refine lv_goto (tgt := 37) hx hb dX12_letter_55 (by decide) ?_
          refine lv_lload hx hb dX12_letter_37 (lv_at hl 0 rfl) ?_
          refine lv_lconst (v := 0) hx hb dX12_letter_39 (by decide) ?_
          refine W.lcmp hx hb dX12_letter_40 ?_
          refine my_ti (v := 1) (by decide) ?_
          refine lv_if_le (tgt := 58) hx hb dX12_letter_41 (by decide) (fun c_41 => absurd c_41 (by decide)) (fun c_41 => ?_)
          refine lv_iinc (v := 2) (lv' := [(5, .int 2), (6, .long 5666), (3, .long 209658), (0, .ref h0), (1, .int 6), (2, .int x2)]) hx hb dX12_letter_44 hl (k := 1) rfl (by decide) (by decide) rfl (fun ls hl => ?_)
          refine lv_lload hx hb dX12_letter_47 (lv_at hl 1 rfl) ?_
          refine lv_ldc2 hx hb hown (hts (.constantLong RX12 194 (37)) (by decide +kernel)) dX12_letter_49 ?_
          refine lv_ldiv hx hb dX12_letter_52 (by decide) ?_
          refine my_tl (v := 153) (by decide) ?_
          refine lv_lstore (lv' := [(6, .long 153), (5, .int 2), (3, .long 209658), (0, .ref h0), (1, .int 6), (2, .int x2)]) hx hb dX12_letter_53 hl (by decide) rfl (fun ls hl => ?_)
          refine lv_goto (tgt := 37) hx hb dX12_letter_55 (by decide) ?_
          refine lv_lload hx hb dX12_letter_37 (lv_at hl 0 rfl) ?_
          refine lv_lconst (v := 0) hx hb dX12_letter_39 (by decide) ?_
          refine W.lcmp hx hb dX12_letter_40 ?_
          refine my_ti (v := 1) (by decide) ?_
          refine lv_if_le (tgt := 58) hx hb dX12_letter_41 (by decide) (fun c_41 => absurd c_41 (by decide)) (fun c_41 => ?_)
          refine lv_iinc (v := 3) (lv' := [(5, .int 3), (6, .long 153), (3, .long 209658), (0, .ref h0), (1, .int 6), (2, .int x2)]) hx hb dX12_letter_44 hl (k := 1) rfl (by decide) (by decide) rfl (fun ls hl => ?_)
          refine lv_lload hx hb dX12_letter_47 (lv_at hl 1 rfl) ?_
          refine lv_ldc2 hx hb hown (hts (.constantLong RX12 194 (37)) (by decide +kernel)) dX12_letter_49 ?_
          refine lv_ldiv hx hb dX12_letter_52 (by decide) ?_
          refine my_tl (v := 4) (by decide) ?_
          refine lv_lstore (lv' := [(6, .long 4), (5, .int 3), (3, .long 209658), (0, .ref h0), (1, .int 6), (2, .int x2)]) hx hb dX12_letter_53 hl (by decide) rfl (fun ls hl => ?_)
          refine lv_goto (tgt := 37) hx hb dX12_letter_55 (by decide) ?_
          refine lv_lload hx hb dX12_letter_37 (lv_at hl 0 rfl) ?_
          refine lv_lconst (v := 0) hx hb dX12_letter_39 (by decide) ?_
          refine W.lcmp hx hb dX12_letter_40 ?_
          refine my_ti (v := 1) (by decide) ?_
          refine lv_if_le (tgt := 58) hx hb dX12_letter_41 (by decide) (fun c_41 => absurd c_41 (by decide)) (fun c_41 => ?_)
          refine lv_iinc (v := 4) (lv' := [(5, .int 4), (6, .long 4), (3, .long 209658), (0, .ref h0), (1, .int 6), (2, .int x2)]) hx hb dX12_letter_44 hl (k := 1) rfl (by decide) (by decide) rfl (fun ls hl => ?_)
          refine lv_lload hx hb dX12_letter_47 (lv_at hl 1 rfl) ?_
          refine lv_ldc2 hx hb hown (hts (.constantLong RX12 194 (37)) (by decide +kernel)) dX12_letter_49 ?_
          refine lv_ldiv hx hb dX12_letter_52 (by decide) ?_
          refine my_tl (v := 0) (by decide) ?_
          refine lv_lstore (lv' := [(6, .long 0), (5, .int 4), (3, .long 209658), (0, .ref h0), (1, .int 6), (2, .int x2)]) hx hb dX12_letter_53 hl (by decide) rfl (fun ls hl => ?_)
          refine lv_goto (tgt := 37) hx hb dX12_letter_55 (by decide) ?_
          refine lv_lload hx hb dX12_letter_37 (lv_at hl 0 rfl) ?_
          refine lv_lconst (v := 0) hx hb dX12_letter_39 (by decide) ?_
          refine W.lcmp hx hb dX12_letter_40 ?_
          refine my_ti (v := 0) (by decide) ?_
          refine lv_if_le (tgt := 58) hx hb dX12_letter_41 (by decide) (fun c_41 => ?_) (fun c_41 => absurd c_41 (by decide))
          refine lv_iload_n hx hb dX12_letter_58 rfl (lv_at hl 5 rfl) ?_
          refine lv_iload hx hb dX12_letter_59 (lv_at hl 1 rfl) ?_
          refine lv_icmp_lt (tgt := 66) hx hb dX12_letter_61 (by decide) (fun c_61 => ?_) (fun c_61 => ?_)
          · refine lv_iload hx hb dX12_letter_66 (lv_at hl 1 rfl) ?_
            refine lv_iconst (v := 1) hx hb dX12_letter_68 (by decide) ?_
            refine lv_isub hx hb dX12_letter_69 ?_
            refine my_ti (v := 3) (by decide) ?_
            refine lv_istore (lv' := [(6, .int 3), (5, .int 4), (3, .long 209658), (0, .ref h0), (1, .int 6), (2, .int x2)]) hx hb dX12_letter_70 hl (by decide) rfl (fun ls hl => ?_)
            refine lv_iload hx hb dX12_letter_72 (lv_at hl 0 rfl) ?_
            refine lv_iload_n hx hb dX12_letter_74 rfl (lv_at hl 5 rfl) ?_
            refine lv_icmp_le (tgt := 90) hx hb dX12_letter_75 (by decide) (fun c_75 => ?_) (fun c_75 => ?_)
            · obtain rfl : x2 = 3 := eq_of c_75 (Int32.not_le.mpr c_61) (by decide)
              refine lv_lload_n hx hb dX12_letter_90 rfl (lv_at hl 2 rfl) ?_
              refine lv_ldc2 hx hb hown (hts (.constantLong RX12 194 (37)) (by decide +kernel)) dX12_letter_91 ?_
              refine lv_lrem hx hb dX12_letter_94 (by decide) ?_
              refine my_tl (v := 16) (by decide) ?_
              refine lv_l2i (v := 16) hx hb dX12_letter_95 (by decide) ?_
              refine lv_istore (lv' := [(6, .int 16), (5, .int 4), (3, .long 209658), (0, .ref h0), (1, .int 6), (2, .int 3)]) hx hb dX12_letter_96 hl (by decide) rfl (fun ls hl => ?_)
              refine lv_iload hx hb dX12_letter_98 (lv_at hl 0 rfl) ?_
              refine lv_bipush (v := 27) hx hb dX12_letter_100 (by decide) ?_
              refine lv_icmp_ge (tgt := 115) hx hb dX12_letter_102 (by decide) (fun c_102 => absurd c_102 (by decide)) (fun c_102 => ?_)
              refine lv_bipush (v := 97) hx hb dX12_letter_105 (by decide) ?_
              refine lv_iload hx hb dX12_letter_107 (lv_at hl 0 rfl) ?_
              refine lv_iadd hx hb dX12_letter_109 ?_
              refine my_ti (v := 113) (by decide) ?_
              refine lv_iconst (v := 1) hx hb dX12_letter_110 (by decide) ?_
              refine lv_isub hx hb dX12_letter_111 ?_
              refine my_ti (v := 112) (by decide) ?_
              refine lv_goto (tgt := 123) hx hb dX12_letter_112 (by decide) ?_
              exact W.iret (v := 112) hx hb hr (fun t ht hW => ⟨⟨112, (), rfl, by decide +kernel, trivial⟩, hS.F ht⟩) hS.2.2 dX12_letter_123
            · have hb_3 := c_75
              refine lv_lload_n hx hb dX12_letter_78 rfl (lv_at hl 2 rfl) ?_
              refine lv_ldc2 hx hb hown (hts (.constantLong RX12 194 (37)) (by decide +kernel)) dX12_letter_79 ?_
              refine lv_ldiv hx hb dX12_letter_82 (by decide) ?_
              refine my_tl (v := 5666) (by decide) ?_
              refine lv_lstore_n (lv' := [(3, .long 5666), (6, .int 3), (5, .int 4), (0, .ref h0), (1, .int 6), (2, .int x2)]) hx hb dX12_letter_83 rfl hl (by decide) rfl (fun ls hl => ?_)
              refine lv_iinc (v := 2) (lv' := [(6, .int 2), (3, .long 5666), (5, .int 4), (0, .ref h0), (1, .int 6), (2, .int x2)]) hx hb dX12_letter_84 hl (k := 1) rfl (by decide) (by decide) rfl (fun ls hl => ?_)
              refine lv_goto (tgt := 72) hx hb dX12_letter_87 (by decide) ?_
              refine lv_iload hx hb dX12_letter_72 (lv_at hl 0 rfl) ?_
              refine lv_iload_n hx hb dX12_letter_74 rfl (lv_at hl 5 rfl) ?_
              refine lv_icmp_le (tgt := 90) hx hb dX12_letter_75 (by decide) (fun c_75 => ?_) (fun c_75 => ?_)
              · obtain rfl : x2 = 2 := eq_of c_75 hb_3 (by decide)
                refine lv_lload_n hx hb dX12_letter_90 rfl (lv_at hl 1 rfl) ?_
                refine lv_ldc2 hx hb hown (hts (.constantLong RX12 194 (37)) (by decide +kernel)) dX12_letter_91 ?_
                refine lv_lrem hx hb dX12_letter_94 (by decide) ?_
                refine my_tl (v := 5) (by decide) ?_
                refine lv_l2i (v := 5) hx hb dX12_letter_95 (by decide) ?_
                refine lv_istore (lv' := [(6, .int 5), (3, .long 5666), (5, .int 4), (0, .ref h0), (1, .int 6), (2, .int 2)]) hx hb dX12_letter_96 hl (by decide) rfl (fun ls hl => ?_)
                refine lv_iload hx hb dX12_letter_98 (lv_at hl 0 rfl) ?_
                refine lv_bipush (v := 27) hx hb dX12_letter_100 (by decide) ?_
                refine lv_icmp_ge (tgt := 115) hx hb dX12_letter_102 (by decide) (fun c_102 => absurd c_102 (by decide)) (fun c_102 => ?_)
                refine lv_bipush (v := 97) hx hb dX12_letter_105 (by decide) ?_
                refine lv_iload hx hb dX12_letter_107 (lv_at hl 0 rfl) ?_
                refine lv_iadd hx hb dX12_letter_109 ?_
                refine my_ti (v := 102) (by decide) ?_
                refine lv_iconst (v := 1) hx hb dX12_letter_110 (by decide) ?_
                refine lv_isub hx hb dX12_letter_111 ?_
                refine my_ti (v := 101) (by decide) ?_
                refine lv_goto (tgt := 123) hx hb dX12_letter_112 (by decide) ?_
                exact W.iret (v := 101) hx hb hr (fun t ht hW => ⟨⟨101, (), rfl, by decide +kernel, trivial⟩, hS.F ht⟩) hS.2.2 dX12_letter_123
              · have hb_2 := c_75
                refine lv_lload_n hx hb dX12_letter_78 rfl (lv_at hl 1 rfl) ?_
                refine lv_ldc2 hx hb hown (hts (.constantLong RX12 194 (37)) (by decide +kernel)) dX12_letter_79 ?_
                refine lv_ldiv hx hb dX12_letter_82 (by decide) ?_
                refine my_tl (v := 153) (by decide) ?_
                refine lv_lstore_n (lv' := [(3, .long 153), (6, .int 2), (5, .int 4), (0, .ref h0), (1, .int 6), (2, .int x2)]) hx hb dX12_letter_83 rfl hl (by decide) rfl (fun ls hl => ?_)
                refine lv_iinc (v := 1) (lv' := [(6, .int 1), (3, .long 153), (5, .int 4), (0, .ref h0), (1, .int 6), (2, .int x2)]) hx hb dX12_letter_84 hl (k := 1) rfl (by decide) (by decide) rfl (fun ls hl => ?_)
                refine lv_goto (tgt := 72) hx hb dX12_letter_87 (by decide) ?_
                refine lv_iload hx hb dX12_letter_72 (lv_at hl 0 rfl) ?_
                refine lv_iload_n hx hb dX12_letter_74 rfl (lv_at hl 5 rfl) ?_
                refine lv_icmp_le (tgt := 90) hx hb dX12_letter_75 (by decide) (fun c_75 => ?_) (fun c_75 => ?_)
                · obtain rfl : x2 = 1 := eq_of c_75 hb_2 (by decide)
                  refine lv_lload_n hx hb dX12_letter_90 rfl (lv_at hl 1 rfl) ?_
                  refine lv_ldc2 hx hb hown (hts (.constantLong RX12 194 (37)) (by decide +kernel)) dX12_letter_91 ?_
                  refine lv_lrem hx hb dX12_letter_94 (by decide) ?_
                  refine my_tl (v := 5) (by decide) ?_
                  refine lv_l2i (v := 5) hx hb dX12_letter_95 (by decide) ?_
                  refine lv_istore (lv' := [(6, .int 5), (3, .long 153), (5, .int 4), (0, .ref h0), (1, .int 6), (2, .int 1)]) hx hb dX12_letter_96 hl (by decide) rfl (fun ls hl => ?_)
                  refine lv_iload hx hb dX12_letter_98 (lv_at hl 0 rfl) ?_
                  refine lv_bipush (v := 27) hx hb dX12_letter_100 (by decide) ?_
                  refine lv_icmp_ge (tgt := 115) hx hb dX12_letter_102 (by decide) (fun c_102 => absurd c_102 (by decide)) (fun c_102 => ?_)
                  refine lv_bipush (v := 97) hx hb dX12_letter_105 (by decide) ?_
                  refine lv_iload hx hb dX12_letter_107 (lv_at hl 0 rfl) ?_
                  refine lv_iadd hx hb dX12_letter_109 ?_
                  refine my_ti (v := 102) (by decide) ?_
                  refine lv_iconst (v := 1) hx hb dX12_letter_110 (by decide) ?_
                  refine lv_isub hx hb dX12_letter_111 ?_
                  refine my_ti (v := 101) (by decide) ?_
                  refine lv_goto (tgt := 123) hx hb dX12_letter_112 (by decide) ?_
                  exact W.iret (v := 101) hx hb hr (fun t ht hW => ⟨⟨101, (), rfl, by decide +kernel, trivial⟩, hS.F ht⟩) hS.2.2 dX12_letter_123
                · have hb_1 := c_75
                  refine lv_lload_n hx hb dX12_letter_78 rfl (lv_at hl 1 rfl) ?_
                  refine lv_ldc2 hx hb hown (hts (.constantLong RX12 194 (37)) (by decide +kernel)) dX12_letter_79 ?_
                  refine lv_ldiv hx hb dX12_letter_82 (by decide) ?_
                  refine my_tl (v := 4) (by decide) ?_
                  refine lv_lstore_n (lv' := [(3, .long 4), (6, .int 1), (5, .int 4), (0, .ref h0), (1, .int 6), (2, .int x2)]) hx hb dX12_letter_83 rfl hl (by decide) rfl (fun ls hl => ?_)
                  refine lv_iinc (v := 0) (lv' := [(6, .int 0), (3, .long 4), (5, .int 4), (0, .ref h0), (1, .int 6), (2, .int x2)]) hx hb dX12_letter_84 hl (k := 1) rfl (by decide) (by decide) rfl (fun ls hl => ?_)
                  refine lv_goto (tgt := 72) hx hb dX12_letter_87 (by decide) ?_
                  refine lv_iload hx hb dX12_letter_72 (lv_at hl 0 rfl) ?_
                  refine lv_iload_n hx hb dX12_letter_74 rfl (lv_at hl 5 rfl) ?_
                  refine lv_icmp_le (tgt := 90) hx hb dX12_letter_75 (by decide) (fun c_75 => ?_) (fun c_75 => absurd (c_19) c_75)
                  obtain rfl : x2 = 0 := eq_of c_75 hb_1 (by decide)
                  refine lv_lload_n hx hb dX12_letter_90 rfl (lv_at hl 1 rfl) ?_
                  refine lv_ldc2 hx hb hown (hts (.constantLong RX12 194 (37)) (by decide +kernel)) dX12_letter_91 ?_
                  refine lv_lrem hx hb dX12_letter_94 (by decide) ?_
                  refine my_tl (v := 4) (by decide) ?_
                  refine lv_l2i (v := 4) hx hb dX12_letter_95 (by decide) ?_
                  refine lv_istore (lv' := [(6, .int 4), (3, .long 4), (5, .int 4), (0, .ref h0), (1, .int 6), (2, .int 0)]) hx hb dX12_letter_96 hl (by decide) rfl (fun ls hl => ?_)
                  refine lv_iload hx hb dX12_letter_98 (lv_at hl 0 rfl) ?_
                  refine lv_bipush (v := 27) hx hb dX12_letter_100 (by decide) ?_
                  refine lv_icmp_ge (tgt := 115) hx hb dX12_letter_102 (by decide) (fun c_102 => absurd c_102 (by decide)) (fun c_102 => ?_)
                  refine lv_bipush (v := 97) hx hb dX12_letter_105 (by decide) ?_
                  refine lv_iload hx hb dX12_letter_107 (lv_at hl 0 rfl) ?_
                  refine lv_iadd hx hb dX12_letter_109 ?_
                  refine my_ti (v := 101) (by decide) ?_
                  refine lv_iconst (v := 1) hx hb dX12_letter_110 (by decide) ?_
                  refine lv_isub hx hb dX12_letter_111 ?_
                  refine my_ti (v := 100) (by decide) ?_
                  refine lv_goto (tgt := 123) hx hb dX12_letter_112 (by decide) ?_
                  exact W.iret (v := 100) hx hb hr (fun t ht hW => ⟨⟨100, (), rfl, by decide +kernel, trivial⟩, hS.F ht⟩) hS.2.2 dX12_letter_123
          · refine lv_iconst (v := (-1)) hx hb dX12_letter_64 (by decide) ?_
            exact W.iret (v := (-1)) hx hb hr (fun t ht hW => ⟨⟨(-1), (), rfl, lt_hi (Int32.not_lt.mpr c_19) c_61 (by decide +kernel), trivial⟩, hS.F ht⟩) hS.2.2 dX12_letter_65
        · have _ := hf
          refine lv_aload_n hx hb dX12_letter_24 rfl (lv_at hl 0 rfl) ?_
          refine va_get (D := (dC, dI)) (ci := 11) (v := .ref z_names) (C := RX12) (T := TX12) (N := 106) hx hb hts in_wqX12_letter_RX12 hown hK hP 0 rfl rfl 3 (by decide) (hts (.fieldLink RX12 13 "FourTonguesModel" "names" "[J") (by decide +kernel)) (fun _ h9 => h9) rfl dX12_letter_25 ?_
          refine lv_iload_n hx hb dX12_letter_28 rfl (lv_at hl 1 rfl) ?_
          refine va_lald hx hb hK hP 1 0 rfl rfl (by unfold vp_in; decide) dX12_letter_29 ?_
          refine my_tl (v := 1037755) (by rw [hf]; decide +kernel) ?_
          refine lv_lstore_n (lv' := [(3, .long 1037755), (0, .ref h0), (1, .int 7), (2, .int x2)]) hx hb dX12_letter_30 rfl hl (by decide) rfl (fun ls hl => ?_)
          refine lv_iconst (v := 0) hx hb dX12_letter_31 (by decide) ?_
          refine lv_istore (lv' := [(5, .int 0), (3, .long 1037755), (0, .ref h0), (1, .int 7), (2, .int x2)]) hx hb dX12_letter_32 hl (by decide) rfl (fun ls hl => ?_)
          refine lv_lload_n hx hb dX12_letter_34 rfl (lv_at hl 1 rfl) ?_
          refine lv_lstore (lv' := [(6, .long 1037755), (5, .int 0), (3, .long 1037755), (0, .ref h0), (1, .int 7), (2, .int x2)]) hx hb dX12_letter_35 hl (by decide) rfl (fun ls hl => ?_)
          refine lv_lload hx hb dX12_letter_37 (lv_at hl 0 rfl) ?_
          refine lv_lconst (v := 0) hx hb dX12_letter_39 (by decide) ?_
          refine W.lcmp hx hb dX12_letter_40 ?_
          refine my_ti (v := 1) (by decide) ?_
          refine lv_if_le (tgt := 58) hx hb dX12_letter_41 (by decide) (fun c_41 => absurd c_41 (by decide)) (fun c_41 => ?_)
          refine lv_iinc (v := 1) (lv' := [(5, .int 1), (6, .long 1037755), (3, .long 1037755), (0, .ref h0), (1, .int 7), (2, .int x2)]) hx hb dX12_letter_44 hl (k := 1) rfl (by decide) (by decide) rfl (fun ls hl => ?_)
          refine lv_lload hx hb dX12_letter_47 (lv_at hl 1 rfl) ?_
          refine lv_ldc2 hx hb hown (hts (.constantLong RX12 194 (37)) (by decide +kernel)) dX12_letter_49 ?_
          refine lv_ldiv hx hb dX12_letter_52 (by decide) ?_
          refine my_tl (v := 28047) (by decide) ?_
          refine lv_lstore (lv' := [(6, .long 28047), (5, .int 1), (3, .long 1037755), (0, .ref h0), (1, .int 7), (2, .int x2)]) hx hb dX12_letter_53 hl (by decide) rfl (fun ls hl => ?_)
          refine lv_goto (tgt := 37) hx hb dX12_letter_55 (by decide) ?_
          refine lv_lload hx hb dX12_letter_37 (lv_at hl 0 rfl) ?_
          refine lv_lconst (v := 0) hx hb dX12_letter_39 (by decide) ?_
          refine W.lcmp hx hb dX12_letter_40 ?_
          refine my_ti (v := 1) (by decide) ?_
          refine lv_if_le (tgt := 58) hx hb dX12_letter_41 (by decide) (fun c_41 => absurd c_41 (by decide)) (fun c_41 => ?_)
          refine lv_iinc (v := 2) (lv' := [(5, .int 2), (6, .long 28047), (3, .long 1037755), (0, .ref h0), (1, .int 7), (2, .int x2)]) hx hb dX12_letter_44 hl (k := 1) rfl (by decide) (by decide) rfl (fun ls hl => ?_)
          refine lv_lload hx hb dX12_letter_47 (lv_at hl 1 rfl) ?_
          refine lv_ldc2 hx hb hown (hts (.constantLong RX12 194 (37)) (by decide +kernel)) dX12_letter_49 ?_
          refine lv_ldiv hx hb dX12_letter_52 (by decide) ?_
          refine my_tl (v := 758) (by decide) ?_
          refine lv_lstore (lv' := [(6, .long 758), (5, .int 2), (3, .long 1037755), (0, .ref h0), (1, .int 7), (2, .int x2)]) hx hb dX12_letter_53 hl (by decide) rfl (fun ls hl => ?_)
          refine lv_goto (tgt := 37) hx hb dX12_letter_55 (by decide) ?_
          refine lv_lload hx hb dX12_letter_37 (lv_at hl 0 rfl) ?_
          refine lv_lconst (v := 0) hx hb dX12_letter_39 (by decide) ?_
          refine W.lcmp hx hb dX12_letter_40 ?_
          refine my_ti (v := 1) (by decide) ?_
          refine lv_if_le (tgt := 58) hx hb dX12_letter_41 (by decide) (fun c_41 => absurd c_41 (by decide)) (fun c_41 => ?_)
          refine lv_iinc (v := 3) (lv' := [(5, .int 3), (6, .long 758), (3, .long 1037755), (0, .ref h0), (1, .int 7), (2, .int x2)]) hx hb dX12_letter_44 hl (k := 1) rfl (by decide) (by decide) rfl (fun ls hl => ?_)
          refine lv_lload hx hb dX12_letter_47 (lv_at hl 1 rfl) ?_
          refine lv_ldc2 hx hb hown (hts (.constantLong RX12 194 (37)) (by decide +kernel)) dX12_letter_49 ?_
          refine lv_ldiv hx hb dX12_letter_52 (by decide) ?_
          refine my_tl (v := 20) (by decide) ?_
          refine lv_lstore (lv' := [(6, .long 20), (5, .int 3), (3, .long 1037755), (0, .ref h0), (1, .int 7), (2, .int x2)]) hx hb dX12_letter_53 hl (by decide) rfl (fun ls hl => ?_)
          refine lv_goto (tgt := 37) hx hb dX12_letter_55 (by decide) ?_
          refine lv_lload hx hb dX12_letter_37 (lv_at hl 0 rfl) ?_
          refine lv_lconst (v := 0) hx hb dX12_letter_39 (by decide) ?_
          refine W.lcmp hx hb dX12_letter_40 ?_
          refine my_ti (v := 1) (by decide) ?_
          refine lv_if_le (tgt := 58) hx hb dX12_letter_41 (by decide) (fun c_41 => absurd c_41 (by decide)) (fun c_41 => ?_)
          refine lv_iinc (v := 4) (lv' := [(5, .int 4), (6, .long 20), (3, .long 1037755), (0, .ref h0), (1, .int 7), (2, .int x2)]) hx hb dX12_letter_44 hl (k := 1) rfl (by decide) (by decide) rfl (fun ls hl => ?_)
          refine lv_lload hx hb dX12_letter_47 (lv_at hl 1 rfl) ?_
          refine lv_ldc2 hx hb hown (hts (.constantLong RX12 194 (37)) (by decide +kernel)) dX12_letter_49 ?_
          refine lv_ldiv hx hb dX12_letter_52 (by decide) ?_
          refine my_tl (v := 0) (by decide) ?_
          refine lv_lstore (lv' := [(6, .long 0), (5, .int 4), (3, .long 1037755), (0, .ref h0), (1, .int 7), (2, .int x2)]) hx hb dX12_letter_53 hl (by decide) rfl (fun ls hl => ?_)
          refine lv_goto (tgt := 37) hx hb dX12_letter_55 (by decide) ?_
          refine lv_lload hx hb dX12_letter_37 (lv_at hl 0 rfl) ?_
          refine lv_lconst (v := 0) hx hb dX12_letter_39 (by decide) ?_
          refine W.lcmp hx hb dX12_letter_40 ?_
          refine my_ti (v := 0) (by decide) ?_
          refine lv_if_le (tgt := 58) hx hb dX12_letter_41 (by decide) (fun c_41 => ?_) (fun c_41 => absurd c_41 (by decide))
          refine lv_iload_n hx hb dX12_letter_58 rfl (lv_at hl 5 rfl) ?_
          refine lv_iload hx hb dX12_letter_59 (lv_at hl 1 rfl) ?_
          refine lv_icmp_lt (tgt := 66) hx hb dX12_letter_61 (by decide) (fun c_61 => ?_) (fun c_61 => ?_)
          · refine lv_iload hx hb dX12_letter_66 (lv_at hl 1 rfl) ?_
            refine lv_iconst (v := 1) hx hb dX12_letter_68 (by decide) ?_
            refine lv_isub hx hb dX12_letter_69 ?_
            refine my_ti (v := 3) (by decide) ?_
            refine lv_istore (lv' := [(6, .int 3), (5, .int 4), (3, .long 1037755), (0, .ref h0), (1, .int 7), (2, .int x2)]) hx hb dX12_letter_70 hl (by decide) rfl (fun ls hl => ?_)
            refine lv_iload hx hb dX12_letter_72 (lv_at hl 0 rfl) ?_
            refine lv_iload_n hx hb dX12_letter_74 rfl (lv_at hl 5 rfl) ?_
            refine lv_icmp_le (tgt := 90) hx hb dX12_letter_75 (by decide) (fun c_75 => ?_) (fun c_75 => ?_)
            · obtain rfl : x2 = 3 := eq_of c_75 (Int32.not_le.mpr c_61) (by decide)
              refine lv_lload_n hx hb dX12_letter_90 rfl (lv_at hl 2 rfl) ?_
              refine lv_ldc2 hx hb hown (hts (.constantLong RX12 194 (37)) (by decide +kernel)) dX12_letter_91 ?_
              refine lv_lrem hx hb dX12_letter_94 (by decide) ?_
              refine my_tl (v := 16) (by decide) ?_
              refine lv_l2i (v := 16) hx hb dX12_letter_95 (by decide) ?_
              refine lv_istore (lv' := [(6, .int 16), (5, .int 4), (3, .long 1037755), (0, .ref h0), (1, .int 7), (2, .int 3)]) hx hb dX12_letter_96 hl (by decide) rfl (fun ls hl => ?_)
              refine lv_iload hx hb dX12_letter_98 (lv_at hl 0 rfl) ?_
              refine lv_bipush (v := 27) hx hb dX12_letter_100 (by decide) ?_
              refine lv_icmp_ge (tgt := 115) hx hb dX12_letter_102 (by decide) (fun c_102 => absurd c_102 (by decide)) (fun c_102 => ?_)
              refine lv_bipush (v := 97) hx hb dX12_letter_105 (by decide) ?_
              refine lv_iload hx hb dX12_letter_107 (lv_at hl 0 rfl) ?_
              refine lv_iadd hx hb dX12_letter_109 ?_
              refine my_ti (v := 113) (by decide) ?_
              refine lv_iconst (v := 1) hx hb dX12_letter_110 (by decide) ?_
              refine lv_isub hx hb dX12_letter_111 ?_
              refine my_ti (v := 112) (by decide) ?_
              refine lv_goto (tgt := 123) hx hb dX12_letter_112 (by decide) ?_
              exact W.iret (v := 112) hx hb hr (fun t ht hW => ⟨⟨112, (), rfl, by decide +kernel, trivial⟩, hS.F ht⟩) hS.2.2 dX12_letter_123
            · have hb_3 := c_75
              refine lv_lload_n hx hb dX12_letter_78 rfl (lv_at hl 2 rfl) ?_
              refine lv_ldc2 hx hb hown (hts (.constantLong RX12 194 (37)) (by decide +kernel)) dX12_letter_79 ?_
              refine lv_ldiv hx hb dX12_letter_82 (by decide) ?_
              refine my_tl (v := 28047) (by decide) ?_
              refine lv_lstore_n (lv' := [(3, .long 28047), (6, .int 3), (5, .int 4), (0, .ref h0), (1, .int 7), (2, .int x2)]) hx hb dX12_letter_83 rfl hl (by decide) rfl (fun ls hl => ?_)
              refine lv_iinc (v := 2) (lv' := [(6, .int 2), (3, .long 28047), (5, .int 4), (0, .ref h0), (1, .int 7), (2, .int x2)]) hx hb dX12_letter_84 hl (k := 1) rfl (by decide) (by decide) rfl (fun ls hl => ?_)
              refine lv_goto (tgt := 72) hx hb dX12_letter_87 (by decide) ?_
              refine lv_iload hx hb dX12_letter_72 (lv_at hl 0 rfl) ?_
              refine lv_iload_n hx hb dX12_letter_74 rfl (lv_at hl 5 rfl) ?_
              refine lv_icmp_le (tgt := 90) hx hb dX12_letter_75 (by decide) (fun c_75 => ?_) (fun c_75 => ?_)
              · obtain rfl : x2 = 2 := eq_of c_75 hb_3 (by decide)
                refine lv_lload_n hx hb dX12_letter_90 rfl (lv_at hl 1 rfl) ?_
                refine lv_ldc2 hx hb hown (hts (.constantLong RX12 194 (37)) (by decide +kernel)) dX12_letter_91 ?_
                refine lv_lrem hx hb dX12_letter_94 (by decide) ?_
                refine my_tl (v := 1) (by decide) ?_
                refine lv_l2i (v := 1) hx hb dX12_letter_95 (by decide) ?_
                refine lv_istore (lv' := [(6, .int 1), (3, .long 28047), (5, .int 4), (0, .ref h0), (1, .int 7), (2, .int 2)]) hx hb dX12_letter_96 hl (by decide) rfl (fun ls hl => ?_)
                refine lv_iload hx hb dX12_letter_98 (lv_at hl 0 rfl) ?_
                refine lv_bipush (v := 27) hx hb dX12_letter_100 (by decide) ?_
                refine lv_icmp_ge (tgt := 115) hx hb dX12_letter_102 (by decide) (fun c_102 => absurd c_102 (by decide)) (fun c_102 => ?_)
                refine lv_bipush (v := 97) hx hb dX12_letter_105 (by decide) ?_
                refine lv_iload hx hb dX12_letter_107 (lv_at hl 0 rfl) ?_
                refine lv_iadd hx hb dX12_letter_109 ?_
                refine my_ti (v := 98) (by decide) ?_
                refine lv_iconst (v := 1) hx hb dX12_letter_110 (by decide) ?_
                refine lv_isub hx hb dX12_letter_111 ?_
                refine my_ti (v := 97) (by decide) ?_
                refine lv_goto (tgt := 123) hx hb dX12_letter_112 (by decide) ?_
                exact W.iret (v := 97) hx hb hr (fun t ht hW => ⟨⟨97, (), rfl, by decide +kernel, trivial⟩, hS.F ht⟩) hS.2.2 dX12_letter_123
              · have hb_2 := c_75
                refine lv_lload_n hx hb dX12_letter_78 rfl (lv_at hl 1 rfl) ?_
                refine lv_ldc2 hx hb hown (hts (.constantLong RX12 194 (37)) (by decide +kernel)) dX12_letter_79 ?_
                refine lv_ldiv hx hb dX12_letter_82 (by decide) ?_
                refine my_tl (v := 758) (by decide) ?_
                refine lv_lstore_n (lv' := [(3, .long 758), (6, .int 2), (5, .int 4), (0, .ref h0), (1, .int 7), (2, .int x2)]) hx hb dX12_letter_83 rfl hl (by decide) rfl (fun ls hl => ?_)
                refine lv_iinc (v := 1) (lv' := [(6, .int 1), (3, .long 758), (5, .int 4), (0, .ref h0), (1, .int 7), (2, .int x2)]) hx hb dX12_letter_84 hl (k := 1) rfl (by decide) (by decide) rfl (fun ls hl => ?_)
                refine lv_goto (tgt := 72) hx hb dX12_letter_87 (by decide) ?_
                refine lv_iload hx hb dX12_letter_72 (lv_at hl 0 rfl) ?_
                refine lv_iload_n hx hb dX12_letter_74 rfl (lv_at hl 5 rfl) ?_
                refine lv_icmp_le (tgt := 90) hx hb dX12_letter_75 (by decide) (fun c_75 => ?_) (fun c_75 => ?_)
                · obtain rfl : x2 = 1 := eq_of c_75 hb_2 (by decide)
                  refine lv_lload_n hx hb dX12_letter_90 rfl (lv_at hl 1 rfl) ?_
                  refine lv_ldc2 hx hb hown (hts (.constantLong RX12 194 (37)) (by decide +kernel)) dX12_letter_91 ?_
                  refine lv_lrem hx hb dX12_letter_94 (by decide) ?_
                  refine my_tl (v := 18) (by decide) ?_
                  refine lv_l2i (v := 18) hx hb dX12_letter_95 (by decide) ?_
                  refine lv_istore (lv' := [(6, .int 18), (3, .long 758), (5, .int 4), (0, .ref h0), (1, .int 7), (2, .int 1)]) hx hb dX12_letter_96 hl (by decide) rfl (fun ls hl => ?_)
                  refine lv_iload hx hb dX12_letter_98 (lv_at hl 0 rfl) ?_
                  refine lv_bipush (v := 27) hx hb dX12_letter_100 (by decide) ?_
                  refine lv_icmp_ge (tgt := 115) hx hb dX12_letter_102 (by decide) (fun c_102 => absurd c_102 (by decide)) (fun c_102 => ?_)
                  refine lv_bipush (v := 97) hx hb dX12_letter_105 (by decide) ?_
                  refine lv_iload hx hb dX12_letter_107 (lv_at hl 0 rfl) ?_
                  refine lv_iadd hx hb dX12_letter_109 ?_
                  refine my_ti (v := 115) (by decide) ?_
                  refine lv_iconst (v := 1) hx hb dX12_letter_110 (by decide) ?_
                  refine lv_isub hx hb dX12_letter_111 ?_
                  refine my_ti (v := 114) (by decide) ?_
                  refine lv_goto (tgt := 123) hx hb dX12_letter_112 (by decide) ?_
                  exact W.iret (v := 114) hx hb hr (fun t ht hW => ⟨⟨114, (), rfl, by decide +kernel, trivial⟩, hS.F ht⟩) hS.2.2 dX12_letter_123
                · have hb_1 := c_75
                  refine lv_lload_n hx hb dX12_letter_78 rfl (lv_at hl 1 rfl) ?_
                  refine lv_ldc2 hx hb hown (hts (.constantLong RX12 194 (37)) (by decide +kernel)) dX12_letter_79 ?_
                  refine lv_ldiv hx hb dX12_letter_82 (by decide) ?_
                  refine my_tl (v := 20) (by decide) ?_
                  refine lv_lstore_n (lv' := [(3, .long 20), (6, .int 1), (5, .int 4), (0, .ref h0), (1, .int 7), (2, .int x2)]) hx hb dX12_letter_83 rfl hl (by decide) rfl (fun ls hl => ?_)
                  refine lv_iinc (v := 0) (lv' := [(6, .int 0), (3, .long 20), (5, .int 4), (0, .ref h0), (1, .int 7), (2, .int x2)]) hx hb dX12_letter_84 hl (k := 1) rfl (by decide) (by decide) rfl (fun ls hl => ?_)
                  refine lv_goto (tgt := 72) hx hb dX12_letter_87 (by decide) ?_
                  refine lv_iload hx hb dX12_letter_72 (lv_at hl 0 rfl) ?_
                  refine lv_iload_n hx hb dX12_letter_74 rfl (lv_at hl 5 rfl) ?_
                  refine lv_icmp_le (tgt := 90) hx hb dX12_letter_75 (by decide) (fun c_75 => ?_) (fun c_75 => absurd (c_19) c_75)
                  obtain rfl : x2 = 0 := eq_of c_75 hb_1 (by decide)
                  refine lv_lload_n hx hb dX12_letter_90 rfl (lv_at hl 1 rfl) ?_
                  refine lv_ldc2 hx hb hown (hts (.constantLong RX12 194 (37)) (by decide +kernel)) dX12_letter_91 ?_
                  refine lv_lrem hx hb dX12_letter_94 (by decide) ?_
                  refine my_tl (v := 20) (by decide) ?_
                  refine lv_l2i (v := 20) hx hb dX12_letter_95 (by decide) ?_
                  refine lv_istore (lv' := [(6, .int 20), (3, .long 20), (5, .int 4), (0, .ref h0), (1, .int 7), (2, .int 0)]) hx hb dX12_letter_96 hl (by decide) rfl (fun ls hl => ?_)
                  refine lv_iload hx hb dX12_letter_98 (lv_at hl 0 rfl) ?_
                  refine lv_bipush (v := 27) hx hb dX12_letter_100 (by decide) ?_
                  refine lv_icmp_ge (tgt := 115) hx hb dX12_letter_102 (by decide) (fun c_102 => absurd c_102 (by decide)) (fun c_102 => ?_)
                  refine lv_bipush (v := 97) hx hb dX12_letter_105 (by decide) ?_
                  refine lv_iload hx hb dX12_letter_107 (lv_at hl 0 rfl) ?_
                  refine lv_iadd hx hb dX12_letter_109 ?_
                  refine my_ti (v := 117) (by decide) ?_
                  refine lv_iconst (v := 1) hx hb dX12_letter_110 (by decide) ?_
                  refine lv_isub hx hb dX12_letter_111 ?_
                  refine my_ti (v := 116) (by decide) ?_
                  refine lv_goto (tgt := 123) hx hb dX12_letter_112 (by decide) ?_
                  exact W.iret (v := 116) hx hb hr (fun t ht hW => ⟨⟨116, (), rfl, by decide +kernel, trivial⟩, hS.F ht⟩) hS.2.2 dX12_letter_123
          · refine lv_iconst (v := (-1)) hx hb dX12_letter_64 (by decide) ?_
            exact W.iret (v := (-1)) hx hb hr (fun t ht hW => ⟨⟨(-1), (), rfl, lt_hi (Int32.not_lt.mpr c_19) c_61 (by decide +kernel), trivial⟩, hS.F ht⟩) hS.2.2 dX12_letter_65
        · have _ := hf
          refine lv_aload_n hx hb dX12_letter_24 rfl (lv_at hl 0 rfl) ?_
          refine va_get (D := (dC, dI)) (ci := 11) (v := .ref z_names) (C := RX12) (T := TX12) (N := 106) hx hb hts in_wqX12_letter_RX12 hown hK hP 0 rfl rfl 3 (by decide) (hts (.fieldLink RX12 13 "FourTonguesModel" "names" "[J") (by decide +kernel)) (fun _ h9 => h9) rfl dX12_letter_25 ?_
          refine lv_iload_n hx hb dX12_letter_28 rfl (lv_at hl 1 rfl) ?_
          refine va_lald hx hb hK hP 1 0 rfl rfl (by unfold vp_in; decide) dX12_letter_29 ?_
          refine my_tl (v := 629094) (by rw [hf]; decide +kernel) ?_
          refine lv_lstore_n (lv' := [(3, .long 629094), (0, .ref h0), (1, .int 8), (2, .int x2)]) hx hb dX12_letter_30 rfl hl (by decide) rfl (fun ls hl => ?_)
          refine lv_iconst (v := 0) hx hb dX12_letter_31 (by decide) ?_
          refine lv_istore (lv' := [(5, .int 0), (3, .long 629094), (0, .ref h0), (1, .int 8), (2, .int x2)]) hx hb dX12_letter_32 hl (by decide) rfl (fun ls hl => ?_)
          refine lv_lload_n hx hb dX12_letter_34 rfl (lv_at hl 1 rfl) ?_
          refine lv_lstore (lv' := [(6, .long 629094), (5, .int 0), (3, .long 629094), (0, .ref h0), (1, .int 8), (2, .int x2)]) hx hb dX12_letter_35 hl (by decide) rfl (fun ls hl => ?_)
          refine lv_lload hx hb dX12_letter_37 (lv_at hl 0 rfl) ?_
          refine lv_lconst (v := 0) hx hb dX12_letter_39 (by decide) ?_
          refine W.lcmp hx hb dX12_letter_40 ?_
          refine my_ti (v := 1) (by decide) ?_
          refine lv_if_le (tgt := 58) hx hb dX12_letter_41 (by decide) (fun c_41 => absurd c_41 (by decide)) (fun c_41 => ?_)
          refine lv_iinc (v := 1) (lv' := [(5, .int 1), (6, .long 629094), (3, .long 629094), (0, .ref h0), (1, .int 8), (2, .int x2)]) hx hb dX12_letter_44 hl (k := 1) rfl (by decide) (by decide) rfl (fun ls hl => ?_)
          refine lv_lload hx hb dX12_letter_47 (lv_at hl 1 rfl) ?_
          refine lv_ldc2 hx hb hown (hts (.constantLong RX12 194 (37)) (by decide +kernel)) dX12_letter_49 ?_
          refine lv_ldiv hx hb dX12_letter_52 (by decide) ?_
          refine my_tl (v := 17002) (by decide) ?_
          refine lv_lstore (lv' := [(6, .long 17002), (5, .int 1), (3, .long 629094), (0, .ref h0), (1, .int 8), (2, .int x2)]) hx hb dX12_letter_53 hl (by decide) rfl (fun ls hl => ?_)
          refine lv_goto (tgt := 37) hx hb dX12_letter_55 (by decide) ?_
          refine lv_lload hx hb dX12_letter_37 (lv_at hl 0 rfl) ?_
          refine lv_lconst (v := 0) hx hb dX12_letter_39 (by decide) ?_
          refine W.lcmp hx hb dX12_letter_40 ?_
          refine my_ti (v := 1) (by decide) ?_
          refine lv_if_le (tgt := 58) hx hb dX12_letter_41 (by decide) (fun c_41 => absurd c_41 (by decide)) (fun c_41 => ?_)
          refine lv_iinc (v := 2) (lv' := [(5, .int 2), (6, .long 17002), (3, .long 629094), (0, .ref h0), (1, .int 8), (2, .int x2)]) hx hb dX12_letter_44 hl (k := 1) rfl (by decide) (by decide) rfl (fun ls hl => ?_)
          refine lv_lload hx hb dX12_letter_47 (lv_at hl 1 rfl) ?_
          refine lv_ldc2 hx hb hown (hts (.constantLong RX12 194 (37)) (by decide +kernel)) dX12_letter_49 ?_
          refine lv_ldiv hx hb dX12_letter_52 (by decide) ?_
          refine my_tl (v := 459) (by decide) ?_
          refine lv_lstore (lv' := [(6, .long 459), (5, .int 2), (3, .long 629094), (0, .ref h0), (1, .int 8), (2, .int x2)]) hx hb dX12_letter_53 hl (by decide) rfl (fun ls hl => ?_)
          refine lv_goto (tgt := 37) hx hb dX12_letter_55 (by decide) ?_
          refine lv_lload hx hb dX12_letter_37 (lv_at hl 0 rfl) ?_
          refine lv_lconst (v := 0) hx hb dX12_letter_39 (by decide) ?_
          refine W.lcmp hx hb dX12_letter_40 ?_
          refine my_ti (v := 1) (by decide) ?_
          refine lv_if_le (tgt := 58) hx hb dX12_letter_41 (by decide) (fun c_41 => absurd c_41 (by decide)) (fun c_41 => ?_)
          refine lv_iinc (v := 3) (lv' := [(5, .int 3), (6, .long 459), (3, .long 629094), (0, .ref h0), (1, .int 8), (2, .int x2)]) hx hb dX12_letter_44 hl (k := 1) rfl (by decide) (by decide) rfl (fun ls hl => ?_)
          refine lv_lload hx hb dX12_letter_47 (lv_at hl 1 rfl) ?_
          refine lv_ldc2 hx hb hown (hts (.constantLong RX12 194 (37)) (by decide +kernel)) dX12_letter_49 ?_
          refine lv_ldiv hx hb dX12_letter_52 (by decide) ?_
          refine my_tl (v := 12) (by decide) ?_
          refine lv_lstore (lv' := [(6, .long 12), (5, .int 3), (3, .long 629094), (0, .ref h0), (1, .int 8), (2, .int x2)]) hx hb dX12_letter_53 hl (by decide) rfl (fun ls hl => ?_)
          refine lv_goto (tgt := 37) hx hb dX12_letter_55 (by decide) ?_
          refine lv_lload hx hb dX12_letter_37 (lv_at hl 0 rfl) ?_
          refine lv_lconst (v := 0) hx hb dX12_letter_39 (by decide) ?_
          refine W.lcmp hx hb dX12_letter_40 ?_
          refine my_ti (v := 1) (by decide) ?_
          refine lv_if_le (tgt := 58) hx hb dX12_letter_41 (by decide) (fun c_41 => absurd c_41 (by decide)) (fun c_41 => ?_)
          refine lv_iinc (v := 4) (lv' := [(5, .int 4), (6, .long 12), (3, .long 629094), (0, .ref h0), (1, .int 8), (2, .int x2)]) hx hb dX12_letter_44 hl (k := 1) rfl (by decide) (by decide) rfl (fun ls hl => ?_)
          refine lv_lload hx hb dX12_letter_47 (lv_at hl 1 rfl) ?_
          refine lv_ldc2 hx hb hown (hts (.constantLong RX12 194 (37)) (by decide +kernel)) dX12_letter_49 ?_
          refine lv_ldiv hx hb dX12_letter_52 (by decide) ?_
          refine my_tl (v := 0) (by decide) ?_
          refine lv_lstore (lv' := [(6, .long 0), (5, .int 4), (3, .long 629094), (0, .ref h0), (1, .int 8), (2, .int x2)]) hx hb dX12_letter_53 hl (by decide) rfl (fun ls hl => ?_)
          refine lv_goto (tgt := 37) hx hb dX12_letter_55 (by decide) ?_
          refine lv_lload hx hb dX12_letter_37 (lv_at hl 0 rfl) ?_
          refine lv_lconst (v := 0) hx hb dX12_letter_39 (by decide) ?_
          refine W.lcmp hx hb dX12_letter_40 ?_
          refine my_ti (v := 0) (by decide) ?_
          refine lv_if_le (tgt := 58) hx hb dX12_letter_41 (by decide) (fun c_41 => ?_) (fun c_41 => absurd c_41 (by decide))
          refine lv_iload_n hx hb dX12_letter_58 rfl (lv_at hl 5 rfl) ?_
          refine lv_iload hx hb dX12_letter_59 (lv_at hl 1 rfl) ?_
          refine lv_icmp_lt (tgt := 66) hx hb dX12_letter_61 (by decide) (fun c_61 => ?_) (fun c_61 => ?_)
          · refine lv_iload hx hb dX12_letter_66 (lv_at hl 1 rfl) ?_
            refine lv_iconst (v := 1) hx hb dX12_letter_68 (by decide) ?_
            refine lv_isub hx hb dX12_letter_69 ?_
            refine my_ti (v := 3) (by decide) ?_
            refine lv_istore (lv' := [(6, .int 3), (5, .int 4), (3, .long 629094), (0, .ref h0), (1, .int 8), (2, .int x2)]) hx hb dX12_letter_70 hl (by decide) rfl (fun ls hl => ?_)
            refine lv_iload hx hb dX12_letter_72 (lv_at hl 0 rfl) ?_
            refine lv_iload_n hx hb dX12_letter_74 rfl (lv_at hl 5 rfl) ?_
            refine lv_icmp_le (tgt := 90) hx hb dX12_letter_75 (by decide) (fun c_75 => ?_) (fun c_75 => ?_)
            · obtain rfl : x2 = 3 := eq_of c_75 (Int32.not_le.mpr c_61) (by decide)
              refine lv_lload_n hx hb dX12_letter_90 rfl (lv_at hl 2 rfl) ?_
              refine lv_ldc2 hx hb hown (hts (.constantLong RX12 194 (37)) (by decide +kernel)) dX12_letter_91 ?_
              refine lv_lrem hx hb dX12_letter_94 (by decide) ?_
              refine my_tl (v := 20) (by decide) ?_
              refine lv_l2i (v := 20) hx hb dX12_letter_95 (by decide) ?_
              refine lv_istore (lv' := [(6, .int 20), (5, .int 4), (3, .long 629094), (0, .ref h0), (1, .int 8), (2, .int 3)]) hx hb dX12_letter_96 hl (by decide) rfl (fun ls hl => ?_)
              refine lv_iload hx hb dX12_letter_98 (lv_at hl 0 rfl) ?_
              refine lv_bipush (v := 27) hx hb dX12_letter_100 (by decide) ?_
              refine lv_icmp_ge (tgt := 115) hx hb dX12_letter_102 (by decide) (fun c_102 => absurd c_102 (by decide)) (fun c_102 => ?_)
              refine lv_bipush (v := 97) hx hb dX12_letter_105 (by decide) ?_
              refine lv_iload hx hb dX12_letter_107 (lv_at hl 0 rfl) ?_
              refine lv_iadd hx hb dX12_letter_109 ?_
              refine my_ti (v := 117) (by decide) ?_
              refine lv_iconst (v := 1) hx hb dX12_letter_110 (by decide) ?_
              refine lv_isub hx hb dX12_letter_111 ?_
              refine my_ti (v := 116) (by decide) ?_
              refine lv_goto (tgt := 123) hx hb dX12_letter_112 (by decide) ?_
              exact W.iret (v := 116) hx hb hr (fun t ht hW => ⟨⟨116, (), rfl, by decide +kernel, trivial⟩, hS.F ht⟩) hS.2.2 dX12_letter_123
            · have hb_3 := c_75
              refine lv_lload_n hx hb dX12_letter_78 rfl (lv_at hl 2 rfl) ?_
              refine lv_ldc2 hx hb hown (hts (.constantLong RX12 194 (37)) (by decide +kernel)) dX12_letter_79 ?_
              refine lv_ldiv hx hb dX12_letter_82 (by decide) ?_
              refine my_tl (v := 17002) (by decide) ?_
              refine lv_lstore_n (lv' := [(3, .long 17002), (6, .int 3), (5, .int 4), (0, .ref h0), (1, .int 8), (2, .int x2)]) hx hb dX12_letter_83 rfl hl (by decide) rfl (fun ls hl => ?_)
              refine lv_iinc (v := 2) (lv' := [(6, .int 2), (3, .long 17002), (5, .int 4), (0, .ref h0), (1, .int 8), (2, .int x2)]) hx hb dX12_letter_84 hl (k := 1) rfl (by decide) (by decide) rfl (fun ls hl => ?_)
              refine lv_goto (tgt := 72) hx hb dX12_letter_87 (by decide) ?_
              refine lv_iload hx hb dX12_letter_72 (lv_at hl 0 rfl) ?_
              refine lv_iload_n hx hb dX12_letter_74 rfl (lv_at hl 5 rfl) ?_
              refine lv_icmp_le (tgt := 90) hx hb dX12_letter_75 (by decide) (fun c_75 => ?_) (fun c_75 => ?_)
              · obtain rfl : x2 = 2 := eq_of c_75 hb_3 (by decide)
                refine lv_lload_n hx hb dX12_letter_90 rfl (lv_at hl 1 rfl) ?_
                refine lv_ldc2 hx hb hown (hts (.constantLong RX12 194 (37)) (by decide +kernel)) dX12_letter_91 ?_
                refine lv_lrem hx hb dX12_letter_94 (by decide) ?_
                refine my_tl (v := 19) (by decide) ?_
                refine lv_l2i (v := 19) hx hb dX12_letter_95 (by decide) ?_
                refine lv_istore (lv' := [(6, .int 19), (3, .long 17002), (5, .int 4), (0, .ref h0), (1, .int 8), (2, .int 2)]) hx hb dX12_letter_96 hl (by decide) rfl (fun ls hl => ?_)
                refine lv_iload hx hb dX12_letter_98 (lv_at hl 0 rfl) ?_
                refine lv_bipush (v := 27) hx hb dX12_letter_100 (by decide) ?_
                refine lv_icmp_ge (tgt := 115) hx hb dX12_letter_102 (by decide) (fun c_102 => absurd c_102 (by decide)) (fun c_102 => ?_)
                refine lv_bipush (v := 97) hx hb dX12_letter_105 (by decide) ?_
                refine lv_iload hx hb dX12_letter_107 (lv_at hl 0 rfl) ?_
                refine lv_iadd hx hb dX12_letter_109 ?_
                refine my_ti (v := 116) (by decide) ?_
                refine lv_iconst (v := 1) hx hb dX12_letter_110 (by decide) ?_
                refine lv_isub hx hb dX12_letter_111 ?_
                refine my_ti (v := 115) (by decide) ?_
                refine lv_goto (tgt := 123) hx hb dX12_letter_112 (by decide) ?_
                exact W.iret (v := 115) hx hb hr (fun t ht hW => ⟨⟨115, (), rfl, by decide +kernel, trivial⟩, hS.F ht⟩) hS.2.2 dX12_letter_123
              · have hb_2 := c_75
                refine lv_lload_n hx hb dX12_letter_78 rfl (lv_at hl 1 rfl) ?_
                refine lv_ldc2 hx hb hown (hts (.constantLong RX12 194 (37)) (by decide +kernel)) dX12_letter_79 ?_
                refine lv_ldiv hx hb dX12_letter_82 (by decide) ?_
                refine my_tl (v := 459) (by decide) ?_
                refine lv_lstore_n (lv' := [(3, .long 459), (6, .int 2), (5, .int 4), (0, .ref h0), (1, .int 8), (2, .int x2)]) hx hb dX12_letter_83 rfl hl (by decide) rfl (fun ls hl => ?_)
                refine lv_iinc (v := 1) (lv' := [(6, .int 1), (3, .long 459), (5, .int 4), (0, .ref h0), (1, .int 8), (2, .int x2)]) hx hb dX12_letter_84 hl (k := 1) rfl (by decide) (by decide) rfl (fun ls hl => ?_)
                refine lv_goto (tgt := 72) hx hb dX12_letter_87 (by decide) ?_
                refine lv_iload hx hb dX12_letter_72 (lv_at hl 0 rfl) ?_
                refine lv_iload_n hx hb dX12_letter_74 rfl (lv_at hl 5 rfl) ?_
                refine lv_icmp_le (tgt := 90) hx hb dX12_letter_75 (by decide) (fun c_75 => ?_) (fun c_75 => ?_)
                · obtain rfl : x2 = 1 := eq_of c_75 hb_2 (by decide)
                  refine lv_lload_n hx hb dX12_letter_90 rfl (lv_at hl 1 rfl) ?_
                  refine lv_ldc2 hx hb hown (hts (.constantLong RX12 194 (37)) (by decide +kernel)) dX12_letter_91 ?_
                  refine lv_lrem hx hb dX12_letter_94 (by decide) ?_
                  refine my_tl (v := 15) (by decide) ?_
                  refine lv_l2i (v := 15) hx hb dX12_letter_95 (by decide) ?_
                  refine lv_istore (lv' := [(6, .int 15), (3, .long 459), (5, .int 4), (0, .ref h0), (1, .int 8), (2, .int 1)]) hx hb dX12_letter_96 hl (by decide) rfl (fun ls hl => ?_)
                  refine lv_iload hx hb dX12_letter_98 (lv_at hl 0 rfl) ?_
                  refine lv_bipush (v := 27) hx hb dX12_letter_100 (by decide) ?_
                  refine lv_icmp_ge (tgt := 115) hx hb dX12_letter_102 (by decide) (fun c_102 => absurd c_102 (by decide)) (fun c_102 => ?_)
                  refine lv_bipush (v := 97) hx hb dX12_letter_105 (by decide) ?_
                  refine lv_iload hx hb dX12_letter_107 (lv_at hl 0 rfl) ?_
                  refine lv_iadd hx hb dX12_letter_109 ?_
                  refine my_ti (v := 112) (by decide) ?_
                  refine lv_iconst (v := 1) hx hb dX12_letter_110 (by decide) ?_
                  refine lv_isub hx hb dX12_letter_111 ?_
                  refine my_ti (v := 111) (by decide) ?_
                  refine lv_goto (tgt := 123) hx hb dX12_letter_112 (by decide) ?_
                  exact W.iret (v := 111) hx hb hr (fun t ht hW => ⟨⟨111, (), rfl, by decide +kernel, trivial⟩, hS.F ht⟩) hS.2.2 dX12_letter_123
                · have hb_1 := c_75
                  refine lv_lload_n hx hb dX12_letter_78 rfl (lv_at hl 1 rfl) ?_
                  refine lv_ldc2 hx hb hown (hts (.constantLong RX12 194 (37)) (by decide +kernel)) dX12_letter_79 ?_
                  refine lv_ldiv hx hb dX12_letter_82 (by decide) ?_
                  refine my_tl (v := 12) (by decide) ?_
                  refine lv_lstore_n (lv' := [(3, .long 12), (6, .int 1), (5, .int 4), (0, .ref h0), (1, .int 8), (2, .int x2)]) hx hb dX12_letter_83 rfl hl (by decide) rfl (fun ls hl => ?_)
                  refine lv_iinc (v := 0) (lv' := [(6, .int 0), (3, .long 12), (5, .int 4), (0, .ref h0), (1, .int 8), (2, .int x2)]) hx hb dX12_letter_84 hl (k := 1) rfl (by decide) (by decide) rfl (fun ls hl => ?_)
                  refine lv_goto (tgt := 72) hx hb dX12_letter_87 (by decide) ?_
                  refine lv_iload hx hb dX12_letter_72 (lv_at hl 0 rfl) ?_
                  refine lv_iload_n hx hb dX12_letter_74 rfl (lv_at hl 5 rfl) ?_
                  refine lv_icmp_le (tgt := 90) hx hb dX12_letter_75 (by decide) (fun c_75 => ?_) (fun c_75 => absurd (c_19) c_75)
                  obtain rfl : x2 = 0 := eq_of c_75 hb_1 (by decide)
                  refine lv_lload_n hx hb dX12_letter_90 rfl (lv_at hl 1 rfl) ?_
                  refine lv_ldc2 hx hb hown (hts (.constantLong RX12 194 (37)) (by decide +kernel)) dX12_letter_91 ?_
                  refine lv_lrem hx hb dX12_letter_94 (by decide) ?_
                  refine my_tl (v := 12) (by decide) ?_
                  refine lv_l2i (v := 12) hx hb dX12_letter_95 (by decide) ?_
                  refine lv_istore (lv' := [(6, .int 12), (3, .long 12), (5, .int 4), (0, .ref h0), (1, .int 8), (2, .int 0)]) hx hb dX12_letter_96 hl (by decide) rfl (fun ls hl => ?_)
                  refine lv_iload hx hb dX12_letter_98 (lv_at hl 0 rfl) ?_
                  refine lv_bipush (v := 27) hx hb dX12_letter_100 (by decide) ?_
                  refine lv_icmp_ge (tgt := 115) hx hb dX12_letter_102 (by decide) (fun c_102 => absurd c_102 (by decide)) (fun c_102 => ?_)
                  refine lv_bipush (v := 97) hx hb dX12_letter_105 (by decide) ?_
                  refine lv_iload hx hb dX12_letter_107 (lv_at hl 0 rfl) ?_
                  refine lv_iadd hx hb dX12_letter_109 ?_
                  refine my_ti (v := 109) (by decide) ?_
                  refine lv_iconst (v := 1) hx hb dX12_letter_110 (by decide) ?_
                  refine lv_isub hx hb dX12_letter_111 ?_
                  refine my_ti (v := 108) (by decide) ?_
                  refine lv_goto (tgt := 123) hx hb dX12_letter_112 (by decide) ?_
                  exact W.iret (v := 108) hx hb hr (fun t ht hW => ⟨⟨108, (), rfl, by decide +kernel, trivial⟩, hS.F ht⟩) hS.2.2 dX12_letter_123
          · refine lv_iconst (v := (-1)) hx hb dX12_letter_64 (by decide) ?_
            exact W.iret (v := (-1)) hx hb hr (fun t ht hW => ⟨⟨(-1), (), rfl, lt_hi (Int32.not_lt.mpr c_19) c_61 (by decide +kernel), trivial⟩, hS.F ht⟩) hS.2.2 dX12_letter_65
        · have _ := hf
          refine lv_aload_n hx hb dX12_letter_24 rfl (lv_at hl 0 rfl) ?_
          refine va_get (D := (dC, dI)) (ci := 11) (v := .ref z_names) (C := RX12) (T := TX12) (N := 106) hx hb hts in_wqX12_letter_RX12 hown hK hP 0 rfl rfl 3 (by decide) (hts (.fieldLink RX12 13 "FourTonguesModel" "names" "[J") (by decide +kernel)) (fun _ h9 => h9) rfl dX12_letter_25 ?_
          refine lv_iload_n hx hb dX12_letter_28 rfl (lv_at hl 1 rfl) ?_
          refine va_lald hx hb hK hP 1 0 rfl rfl (by unfold vp_in; decide) dX12_letter_29 ?_
          refine my_tl (v := 167717762) (by rw [hf]; decide +kernel) ?_
          refine lv_lstore_n (lv' := [(3, .long 167717762), (0, .ref h0), (1, .int 9), (2, .int x2)]) hx hb dX12_letter_30 rfl hl (by decide) rfl (fun ls hl => ?_)
          refine lv_iconst (v := 0) hx hb dX12_letter_31 (by decide) ?_
          refine lv_istore (lv' := [(5, .int 0), (3, .long 167717762), (0, .ref h0), (1, .int 9), (2, .int x2)]) hx hb dX12_letter_32 hl (by decide) rfl (fun ls hl => ?_)
          refine lv_lload_n hx hb dX12_letter_34 rfl (lv_at hl 1 rfl) ?_
          refine lv_lstore (lv' := [(6, .long 167717762), (5, .int 0), (3, .long 167717762), (0, .ref h0), (1, .int 9), (2, .int x2)]) hx hb dX12_letter_35 hl (by decide) rfl (fun ls hl => ?_)
          refine lv_lload hx hb dX12_letter_37 (lv_at hl 0 rfl) ?_
          refine lv_lconst (v := 0) hx hb dX12_letter_39 (by decide) ?_
          refine W.lcmp hx hb dX12_letter_40 ?_
          refine my_ti (v := 1) (by decide) ?_
          refine lv_if_le (tgt := 58) hx hb dX12_letter_41 (by decide) (fun c_41 => absurd c_41 (by decide)) (fun c_41 => ?_)
          refine lv_iinc (v := 1) (lv' := [(5, .int 1), (6, .long 167717762), (3, .long 167717762), (0, .ref h0), (1, .int 9), (2, .int x2)]) hx hb dX12_letter_44 hl (k := 1) rfl (by decide) (by decide) rfl (fun ls hl => ?_)
          refine lv_lload hx hb dX12_letter_47 (lv_at hl 1 rfl) ?_
          refine lv_ldc2 hx hb hown (hts (.constantLong RX12 194 (37)) (by decide +kernel)) dX12_letter_49 ?_
          refine lv_ldiv hx hb dX12_letter_52 (by decide) ?_
          refine my_tl (v := 4532912) (by decide) ?_
          refine lv_lstore (lv' := [(6, .long 4532912), (5, .int 1), (3, .long 167717762), (0, .ref h0), (1, .int 9), (2, .int x2)]) hx hb dX12_letter_53 hl (by decide) rfl (fun ls hl => ?_)
          refine lv_goto (tgt := 37) hx hb dX12_letter_55 (by decide) ?_
          refine lv_lload hx hb dX12_letter_37 (lv_at hl 0 rfl) ?_
          refine lv_lconst (v := 0) hx hb dX12_letter_39 (by decide) ?_
          refine W.lcmp hx hb dX12_letter_40 ?_
          refine my_ti (v := 1) (by decide) ?_
          refine lv_if_le (tgt := 58) hx hb dX12_letter_41 (by decide) (fun c_41 => absurd c_41 (by decide)) (fun c_41 => ?_)
          refine lv_iinc (v := 2) (lv' := [(5, .int 2), (6, .long 4532912), (3, .long 167717762), (0, .ref h0), (1, .int 9), (2, .int x2)]) hx hb dX12_letter_44 hl (k := 1) rfl (by decide) (by decide) rfl (fun ls hl => ?_)
          refine lv_lload hx hb dX12_letter_47 (lv_at hl 1 rfl) ?_
          refine lv_ldc2 hx hb hown (hts (.constantLong RX12 194 (37)) (by decide +kernel)) dX12_letter_49 ?_
          refine lv_ldiv hx hb dX12_letter_52 (by decide) ?_
          refine my_tl (v := 122511) (by decide) ?_
          refine lv_lstore (lv' := [(6, .long 122511), (5, .int 2), (3, .long 167717762), (0, .ref h0), (1, .int 9), (2, .int x2)]) hx hb dX12_letter_53 hl (by decide) rfl (fun ls hl => ?_)
          refine lv_goto (tgt := 37) hx hb dX12_letter_55 (by decide) ?_
          refine lv_lload hx hb dX12_letter_37 (lv_at hl 0 rfl) ?_
          refine lv_lconst (v := 0) hx hb dX12_letter_39 (by decide) ?_
          refine W.lcmp hx hb dX12_letter_40 ?_
          refine my_ti (v := 1) (by decide) ?_
          refine lv_if_le (tgt := 58) hx hb dX12_letter_41 (by decide) (fun c_41 => absurd c_41 (by decide)) (fun c_41 => ?_)
          refine lv_iinc (v := 3) (lv' := [(5, .int 3), (6, .long 122511), (3, .long 167717762), (0, .ref h0), (1, .int 9), (2, .int x2)]) hx hb dX12_letter_44 hl (k := 1) rfl (by decide) (by decide) rfl (fun ls hl => ?_)
          refine lv_lload hx hb dX12_letter_47 (lv_at hl 1 rfl) ?_
          refine lv_ldc2 hx hb hown (hts (.constantLong RX12 194 (37)) (by decide +kernel)) dX12_letter_49 ?_
          refine lv_ldiv hx hb dX12_letter_52 (by decide) ?_
          refine my_tl (v := 3311) (by decide) ?_
          refine lv_lstore (lv' := [(6, .long 3311), (5, .int 3), (3, .long 167717762), (0, .ref h0), (1, .int 9), (2, .int x2)]) hx hb dX12_letter_53 hl (by decide) rfl (fun ls hl => ?_)
          refine lv_goto (tgt := 37) hx hb dX12_letter_55 (by decide) ?_
          refine lv_lload hx hb dX12_letter_37 (lv_at hl 0 rfl) ?_
          refine lv_lconst (v := 0) hx hb dX12_letter_39 (by decide) ?_
          refine W.lcmp hx hb dX12_letter_40 ?_
          refine my_ti (v := 1) (by decide) ?_
          refine lv_if_le (tgt := 58) hx hb dX12_letter_41 (by decide) (fun c_41 => absurd c_41 (by decide)) (fun c_41 => ?_)
          refine lv_iinc (v := 4) (lv' := [(5, .int 4), (6, .long 3311), (3, .long 167717762), (0, .ref h0), (1, .int 9), (2, .int x2)]) hx hb dX12_letter_44 hl (k := 1) rfl (by decide) (by decide) rfl (fun ls hl => ?_)
          refine lv_lload hx hb dX12_letter_47 (lv_at hl 1 rfl) ?_
          refine lv_ldc2 hx hb hown (hts (.constantLong RX12 194 (37)) (by decide +kernel)) dX12_letter_49 ?_
          refine lv_ldiv hx hb dX12_letter_52 (by decide) ?_
          refine my_tl (v := 89) (by decide) ?_
          refine lv_lstore (lv' := [(6, .long 89), (5, .int 4), (3, .long 167717762), (0, .ref h0), (1, .int 9), (2, .int x2)]) hx hb dX12_letter_53 hl (by decide) rfl (fun ls hl => ?_)
          refine lv_goto (tgt := 37) hx hb dX12_letter_55 (by decide) ?_
          refine lv_lload hx hb dX12_letter_37 (lv_at hl 0 rfl) ?_
          refine lv_lconst (v := 0) hx hb dX12_letter_39 (by decide) ?_
          refine W.lcmp hx hb dX12_letter_40 ?_
          refine my_ti (v := 1) (by decide) ?_
          refine lv_if_le (tgt := 58) hx hb dX12_letter_41 (by decide) (fun c_41 => absurd c_41 (by decide)) (fun c_41 => ?_)
          refine lv_iinc (v := 5) (lv' := [(5, .int 5), (6, .long 89), (3, .long 167717762), (0, .ref h0), (1, .int 9), (2, .int x2)]) hx hb dX12_letter_44 hl (k := 1) rfl (by decide) (by decide) rfl (fun ls hl => ?_)
          refine lv_lload hx hb dX12_letter_47 (lv_at hl 1 rfl) ?_
          refine lv_ldc2 hx hb hown (hts (.constantLong RX12 194 (37)) (by decide +kernel)) dX12_letter_49 ?_
          refine lv_ldiv hx hb dX12_letter_52 (by decide) ?_
          refine my_tl (v := 2) (by decide) ?_
          refine lv_lstore (lv' := [(6, .long 2), (5, .int 5), (3, .long 167717762), (0, .ref h0), (1, .int 9), (2, .int x2)]) hx hb dX12_letter_53 hl (by decide) rfl (fun ls hl => ?_)
          refine lv_goto (tgt := 37) hx hb dX12_letter_55 (by decide) ?_
          refine lv_lload hx hb dX12_letter_37 (lv_at hl 0 rfl) ?_
          refine lv_lconst (v := 0) hx hb dX12_letter_39 (by decide) ?_
          refine W.lcmp hx hb dX12_letter_40 ?_
          refine my_ti (v := 1) (by decide) ?_
          refine lv_if_le (tgt := 58) hx hb dX12_letter_41 (by decide) (fun c_41 => absurd c_41 (by decide)) (fun c_41 => ?_)
          refine lv_iinc (v := 6) (lv' := [(5, .int 6), (6, .long 2), (3, .long 167717762), (0, .ref h0), (1, .int 9), (2, .int x2)]) hx hb dX12_letter_44 hl (k := 1) rfl (by decide) (by decide) rfl (fun ls hl => ?_)
          refine lv_lload hx hb dX12_letter_47 (lv_at hl 1 rfl) ?_
          refine lv_ldc2 hx hb hown (hts (.constantLong RX12 194 (37)) (by decide +kernel)) dX12_letter_49 ?_
          refine lv_ldiv hx hb dX12_letter_52 (by decide) ?_
          refine my_tl (v := 0) (by decide) ?_
          refine lv_lstore (lv' := [(6, .long 0), (5, .int 6), (3, .long 167717762), (0, .ref h0), (1, .int 9), (2, .int x2)]) hx hb dX12_letter_53 hl (by decide) rfl (fun ls hl => ?_)
          refine lv_goto (tgt := 37) hx hb dX12_letter_55 (by decide) ?_
          refine lv_lload hx hb dX12_letter_37 (lv_at hl 0 rfl) ?_
          refine lv_lconst (v := 0) hx hb dX12_letter_39 (by decide) ?_
          refine W.lcmp hx hb dX12_letter_40 ?_
          refine my_ti (v := 0) (by decide) ?_
          refine lv_if_le (tgt := 58) hx hb dX12_letter_41 (by decide) (fun c_41 => ?_) (fun c_41 => absurd c_41 (by decide))
          refine lv_iload_n hx hb dX12_letter_58 rfl (lv_at hl 5 rfl) ?_
          refine lv_iload hx hb dX12_letter_59 (lv_at hl 1 rfl) ?_
          refine lv_icmp_lt (tgt := 66) hx hb dX12_letter_61 (by decide) (fun c_61 => ?_) (fun c_61 => ?_)
          · refine lv_iload hx hb dX12_letter_66 (lv_at hl 1 rfl) ?_
            refine lv_iconst (v := 1) hx hb dX12_letter_68 (by decide) ?_
            refine lv_isub hx hb dX12_letter_69 ?_
            refine my_ti (v := 5) (by decide) ?_
            refine lv_istore (lv' := [(6, .int 5), (5, .int 6), (3, .long 167717762), (0, .ref h0), (1, .int 9), (2, .int x2)]) hx hb dX12_letter_70 hl (by decide) rfl (fun ls hl => ?_)
            refine lv_iload hx hb dX12_letter_72 (lv_at hl 0 rfl) ?_
            refine lv_iload_n hx hb dX12_letter_74 rfl (lv_at hl 5 rfl) ?_
            refine lv_icmp_le (tgt := 90) hx hb dX12_letter_75 (by decide) (fun c_75 => ?_) (fun c_75 => ?_)
            · obtain rfl : x2 = 5 := eq_of c_75 (Int32.not_le.mpr c_61) (by decide)
              refine lv_lload_n hx hb dX12_letter_90 rfl (lv_at hl 2 rfl) ?_
              refine lv_ldc2 hx hb hown (hts (.constantLong RX12 194 (37)) (by decide +kernel)) dX12_letter_91 ?_
              refine lv_lrem hx hb dX12_letter_94 (by decide) ?_
              refine my_tl (v := 18) (by decide) ?_
              refine lv_l2i (v := 18) hx hb dX12_letter_95 (by decide) ?_
              refine lv_istore (lv' := [(6, .int 18), (5, .int 6), (3, .long 167717762), (0, .ref h0), (1, .int 9), (2, .int 5)]) hx hb dX12_letter_96 hl (by decide) rfl (fun ls hl => ?_)
              refine lv_iload hx hb dX12_letter_98 (lv_at hl 0 rfl) ?_
              refine lv_bipush (v := 27) hx hb dX12_letter_100 (by decide) ?_
              refine lv_icmp_ge (tgt := 115) hx hb dX12_letter_102 (by decide) (fun c_102 => absurd c_102 (by decide)) (fun c_102 => ?_)
              refine lv_bipush (v := 97) hx hb dX12_letter_105 (by decide) ?_
              refine lv_iload hx hb dX12_letter_107 (lv_at hl 0 rfl) ?_
              refine lv_iadd hx hb dX12_letter_109 ?_
              refine my_ti (v := 115) (by decide) ?_
              refine lv_iconst (v := 1) hx hb dX12_letter_110 (by decide) ?_
              refine lv_isub hx hb dX12_letter_111 ?_
              refine my_ti (v := 114) (by decide) ?_
              refine lv_goto (tgt := 123) hx hb dX12_letter_112 (by decide) ?_
              exact W.iret (v := 114) hx hb hr (fun t ht hW => ⟨⟨114, (), rfl, by decide +kernel, trivial⟩, hS.F ht⟩) hS.2.2 dX12_letter_123
            · have hb_5 := c_75
              refine lv_lload_n hx hb dX12_letter_78 rfl (lv_at hl 2 rfl) ?_
              refine lv_ldc2 hx hb hown (hts (.constantLong RX12 194 (37)) (by decide +kernel)) dX12_letter_79 ?_
              refine lv_ldiv hx hb dX12_letter_82 (by decide) ?_
              refine my_tl (v := 4532912) (by decide) ?_
              refine lv_lstore_n (lv' := [(3, .long 4532912), (6, .int 5), (5, .int 6), (0, .ref h0), (1, .int 9), (2, .int x2)]) hx hb dX12_letter_83 rfl hl (by decide) rfl (fun ls hl => ?_)
              refine lv_iinc (v := 4) (lv' := [(6, .int 4), (3, .long 4532912), (5, .int 6), (0, .ref h0), (1, .int 9), (2, .int x2)]) hx hb dX12_letter_84 hl (k := 1) rfl (by decide) (by decide) rfl (fun ls hl => ?_)
              refine lv_goto (tgt := 72) hx hb dX12_letter_87 (by decide) ?_
              refine lv_iload hx hb dX12_letter_72 (lv_at hl 0 rfl) ?_
              refine lv_iload_n hx hb dX12_letter_74 rfl (lv_at hl 5 rfl) ?_
              refine lv_icmp_le (tgt := 90) hx hb dX12_letter_75 (by decide) (fun c_75 => ?_) (fun c_75 => ?_)
              · obtain rfl : x2 = 4 := eq_of c_75 hb_5 (by decide)
                refine lv_lload_n hx hb dX12_letter_90 rfl (lv_at hl 1 rfl) ?_
                refine lv_ldc2 hx hb hown (hts (.constantLong RX12 194 (37)) (by decide +kernel)) dX12_letter_91 ?_
                refine lv_lrem hx hb dX12_letter_94 (by decide) ?_
                refine my_tl (v := 5) (by decide) ?_
                refine lv_l2i (v := 5) hx hb dX12_letter_95 (by decide) ?_
                refine lv_istore (lv' := [(6, .int 5), (3, .long 4532912), (5, .int 6), (0, .ref h0), (1, .int 9), (2, .int 4)]) hx hb dX12_letter_96 hl (by decide) rfl (fun ls hl => ?_)
                refine lv_iload hx hb dX12_letter_98 (lv_at hl 0 rfl) ?_
                refine lv_bipush (v := 27) hx hb dX12_letter_100 (by decide) ?_
                refine lv_icmp_ge (tgt := 115) hx hb dX12_letter_102 (by decide) (fun c_102 => absurd c_102 (by decide)) (fun c_102 => ?_)
                refine lv_bipush (v := 97) hx hb dX12_letter_105 (by decide) ?_
                refine lv_iload hx hb dX12_letter_107 (lv_at hl 0 rfl) ?_
                refine lv_iadd hx hb dX12_letter_109 ?_
                refine my_ti (v := 102) (by decide) ?_
                refine lv_iconst (v := 1) hx hb dX12_letter_110 (by decide) ?_
                refine lv_isub hx hb dX12_letter_111 ?_
                refine my_ti (v := 101) (by decide) ?_
                refine lv_goto (tgt := 123) hx hb dX12_letter_112 (by decide) ?_
                exact W.iret (v := 101) hx hb hr (fun t ht hW => ⟨⟨101, (), rfl, by decide +kernel, trivial⟩, hS.F ht⟩) hS.2.2 dX12_letter_123
              · have hb_4 := c_75
                refine lv_lload_n hx hb dX12_letter_78 rfl (lv_at hl 1 rfl) ?_
                refine lv_ldc2 hx hb hown (hts (.constantLong RX12 194 (37)) (by decide +kernel)) dX12_letter_79 ?_
                refine lv_ldiv hx hb dX12_letter_82 (by decide) ?_
                refine my_tl (v := 122511) (by decide) ?_
                refine lv_lstore_n (lv' := [(3, .long 122511), (6, .int 4), (5, .int 6), (0, .ref h0), (1, .int 9), (2, .int x2)]) hx hb dX12_letter_83 rfl hl (by decide) rfl (fun ls hl => ?_)
                refine lv_iinc (v := 3) (lv' := [(6, .int 3), (3, .long 122511), (5, .int 6), (0, .ref h0), (1, .int 9), (2, .int x2)]) hx hb dX12_letter_84 hl (k := 1) rfl (by decide) (by decide) rfl (fun ls hl => ?_)
                refine lv_goto (tgt := 72) hx hb dX12_letter_87 (by decide) ?_
                refine lv_iload hx hb dX12_letter_72 (lv_at hl 0 rfl) ?_
                refine lv_iload_n hx hb dX12_letter_74 rfl (lv_at hl 5 rfl) ?_
                refine lv_icmp_le (tgt := 90) hx hb dX12_letter_75 (by decide) (fun c_75 => ?_) (fun c_75 => ?_)
                · obtain rfl : x2 = 3 := eq_of c_75 hb_4 (by decide)
                  refine lv_lload_n hx hb dX12_letter_90 rfl (lv_at hl 1 rfl) ?_
                  refine lv_ldc2 hx hb hown (hts (.constantLong RX12 194 (37)) (by decide +kernel)) dX12_letter_91 ?_
                  refine lv_lrem hx hb dX12_letter_94 (by decide) ?_
                  refine my_tl (v := 4) (by decide) ?_
                  refine lv_l2i (v := 4) hx hb dX12_letter_95 (by decide) ?_
                  refine lv_istore (lv' := [(6, .int 4), (3, .long 122511), (5, .int 6), (0, .ref h0), (1, .int 9), (2, .int 3)]) hx hb dX12_letter_96 hl (by decide) rfl (fun ls hl => ?_)
                  refine lv_iload hx hb dX12_letter_98 (lv_at hl 0 rfl) ?_
                  refine lv_bipush (v := 27) hx hb dX12_letter_100 (by decide) ?_
                  refine lv_icmp_ge (tgt := 115) hx hb dX12_letter_102 (by decide) (fun c_102 => absurd c_102 (by decide)) (fun c_102 => ?_)
                  refine lv_bipush (v := 97) hx hb dX12_letter_105 (by decide) ?_
                  refine lv_iload hx hb dX12_letter_107 (lv_at hl 0 rfl) ?_
                  refine lv_iadd hx hb dX12_letter_109 ?_
                  refine my_ti (v := 101) (by decide) ?_
                  refine lv_iconst (v := 1) hx hb dX12_letter_110 (by decide) ?_
                  refine lv_isub hx hb dX12_letter_111 ?_
                  refine my_ti (v := 100) (by decide) ?_
                  refine lv_goto (tgt := 123) hx hb dX12_letter_112 (by decide) ?_
                  exact W.iret (v := 100) hx hb hr (fun t ht hW => ⟨⟨100, (), rfl, by decide +kernel, trivial⟩, hS.F ht⟩) hS.2.2 dX12_letter_123
                · have hb_3 := c_75
                  refine lv_lload_n hx hb dX12_letter_78 rfl (lv_at hl 1 rfl) ?_
                  refine lv_ldc2 hx hb hown (hts (.constantLong RX12 194 (37)) (by decide +kernel)) dX12_letter_79 ?_
                  refine lv_ldiv hx hb dX12_letter_82 (by decide) ?_
                  refine my_tl (v := 3311) (by decide) ?_
                  refine lv_lstore_n (lv' := [(3, .long 3311), (6, .int 3), (5, .int 6), (0, .ref h0), (1, .int 9), (2, .int x2)]) hx hb dX12_letter_83 rfl hl (by decide) rfl (fun ls hl => ?_)
                  refine lv_iinc (v := 2) (lv' := [(6, .int 2), (3, .long 3311), (5, .int 6), (0, .ref h0), (1, .int 9), (2, .int x2)]) hx hb dX12_letter_84 hl (k := 1) rfl (by decide) (by decide) rfl (fun ls hl => ?_)
                  refine lv_goto (tgt := 72) hx hb dX12_letter_87 (by decide) ?_
                  refine lv_iload hx hb dX12_letter_72 (lv_at hl 0 rfl) ?_
                  refine lv_iload_n hx hb dX12_letter_74 rfl (lv_at hl 5 rfl) ?_
                  refine lv_icmp_le (tgt := 90) hx hb dX12_letter_75 (by decide) (fun c_75 => ?_) (fun c_75 => ?_)
                  · obtain rfl : x2 = 2 := eq_of c_75 hb_3 (by decide)
                    refine lv_lload_n hx hb dX12_letter_90 rfl (lv_at hl 1 rfl) ?_
                    refine lv_ldc2 hx hb hown (hts (.constantLong RX12 194 (37)) (by decide +kernel)) dX12_letter_91 ?_
                    refine lv_lrem hx hb dX12_letter_94 (by decide) ?_
                    refine my_tl (v := 18) (by decide) ?_
                    refine lv_l2i (v := 18) hx hb dX12_letter_95 (by decide) ?_
                    refine lv_istore (lv' := [(6, .int 18), (3, .long 3311), (5, .int 6), (0, .ref h0), (1, .int 9), (2, .int 2)]) hx hb dX12_letter_96 hl (by decide) rfl (fun ls hl => ?_)
                    refine lv_iload hx hb dX12_letter_98 (lv_at hl 0 rfl) ?_
                    refine lv_bipush (v := 27) hx hb dX12_letter_100 (by decide) ?_
                    refine lv_icmp_ge (tgt := 115) hx hb dX12_letter_102 (by decide) (fun c_102 => absurd c_102 (by decide)) (fun c_102 => ?_)
                    refine lv_bipush (v := 97) hx hb dX12_letter_105 (by decide) ?_
                    refine lv_iload hx hb dX12_letter_107 (lv_at hl 0 rfl) ?_
                    refine lv_iadd hx hb dX12_letter_109 ?_
                    refine my_ti (v := 115) (by decide) ?_
                    refine lv_iconst (v := 1) hx hb dX12_letter_110 (by decide) ?_
                    refine lv_isub hx hb dX12_letter_111 ?_
                    refine my_ti (v := 114) (by decide) ?_
                    refine lv_goto (tgt := 123) hx hb dX12_letter_112 (by decide) ?_
                    exact W.iret (v := 114) hx hb hr (fun t ht hW => ⟨⟨114, (), rfl, by decide +kernel, trivial⟩, hS.F ht⟩) hS.2.2 dX12_letter_123
                  · have hb_2 := c_75
                    refine lv_lload_n hx hb dX12_letter_78 rfl (lv_at hl 1 rfl) ?_
                    refine lv_ldc2 hx hb hown (hts (.constantLong RX12 194 (37)) (by decide +kernel)) dX12_letter_79 ?_
                    refine lv_ldiv hx hb dX12_letter_82 (by decide) ?_
                    refine my_tl (v := 89) (by decide) ?_
                    refine lv_lstore_n (lv' := [(3, .long 89), (6, .int 2), (5, .int 6), (0, .ref h0), (1, .int 9), (2, .int x2)]) hx hb dX12_letter_83 rfl hl (by decide) rfl (fun ls hl => ?_)
                    refine lv_iinc (v := 1) (lv' := [(6, .int 1), (3, .long 89), (5, .int 6), (0, .ref h0), (1, .int 9), (2, .int x2)]) hx hb dX12_letter_84 hl (k := 1) rfl (by decide) (by decide) rfl (fun ls hl => ?_)
                    refine lv_goto (tgt := 72) hx hb dX12_letter_87 (by decide) ?_
                    refine lv_iload hx hb dX12_letter_72 (lv_at hl 0 rfl) ?_
                    refine lv_iload_n hx hb dX12_letter_74 rfl (lv_at hl 5 rfl) ?_
                    refine lv_icmp_le (tgt := 90) hx hb dX12_letter_75 (by decide) (fun c_75 => ?_) (fun c_75 => ?_)
                    · obtain rfl : x2 = 1 := eq_of c_75 hb_2 (by decide)
                      refine lv_lload_n hx hb dX12_letter_90 rfl (lv_at hl 1 rfl) ?_
                      refine lv_ldc2 hx hb hown (hts (.constantLong RX12 194 (37)) (by decide +kernel)) dX12_letter_91 ?_
                      refine lv_lrem hx hb dX12_letter_94 (by decide) ?_
                      refine my_tl (v := 15) (by decide) ?_
                      refine lv_l2i (v := 15) hx hb dX12_letter_95 (by decide) ?_
                      refine lv_istore (lv' := [(6, .int 15), (3, .long 89), (5, .int 6), (0, .ref h0), (1, .int 9), (2, .int 1)]) hx hb dX12_letter_96 hl (by decide) rfl (fun ls hl => ?_)
                      refine lv_iload hx hb dX12_letter_98 (lv_at hl 0 rfl) ?_
                      refine lv_bipush (v := 27) hx hb dX12_letter_100 (by decide) ?_
                      refine lv_icmp_ge (tgt := 115) hx hb dX12_letter_102 (by decide) (fun c_102 => absurd c_102 (by decide)) (fun c_102 => ?_)
                      refine lv_bipush (v := 97) hx hb dX12_letter_105 (by decide) ?_
                      refine lv_iload hx hb dX12_letter_107 (lv_at hl 0 rfl) ?_
                      refine lv_iadd hx hb dX12_letter_109 ?_
                      refine my_ti (v := 112) (by decide) ?_
                      refine lv_iconst (v := 1) hx hb dX12_letter_110 (by decide) ?_
                      refine lv_isub hx hb dX12_letter_111 ?_
                      refine my_ti (v := 111) (by decide) ?_
                      refine lv_goto (tgt := 123) hx hb dX12_letter_112 (by decide) ?_
                      exact W.iret (v := 111) hx hb hr (fun t ht hW => ⟨⟨111, (), rfl, by decide +kernel, trivial⟩, hS.F ht⟩) hS.2.2 dX12_letter_123
                    · have hb_1 := c_75
                      refine lv_lload_n hx hb dX12_letter_78 rfl (lv_at hl 1 rfl) ?_
                      refine lv_ldc2 hx hb hown (hts (.constantLong RX12 194 (37)) (by decide +kernel)) dX12_letter_79 ?_
                      refine lv_ldiv hx hb dX12_letter_82 (by decide) ?_
                      refine my_tl (v := 2) (by decide) ?_
                      refine lv_lstore_n (lv' := [(3, .long 2), (6, .int 1), (5, .int 6), (0, .ref h0), (1, .int 9), (2, .int x2)]) hx hb dX12_letter_83 rfl hl (by decide) rfl (fun ls hl => ?_)
                      refine lv_iinc (v := 0) (lv' := [(6, .int 0), (3, .long 2), (5, .int 6), (0, .ref h0), (1, .int 9), (2, .int x2)]) hx hb dX12_letter_84 hl (k := 1) rfl (by decide) (by decide) rfl (fun ls hl => ?_)
                      refine lv_goto (tgt := 72) hx hb dX12_letter_87 (by decide) ?_
                      refine lv_iload hx hb dX12_letter_72 (lv_at hl 0 rfl) ?_
                      refine lv_iload_n hx hb dX12_letter_74 rfl (lv_at hl 5 rfl) ?_
                      refine lv_icmp_le (tgt := 90) hx hb dX12_letter_75 (by decide) (fun c_75 => ?_) (fun c_75 => absurd (c_19) c_75)
                      obtain rfl : x2 = 0 := eq_of c_75 hb_1 (by decide)
                      refine lv_lload_n hx hb dX12_letter_90 rfl (lv_at hl 1 rfl) ?_
                      refine lv_ldc2 hx hb hown (hts (.constantLong RX12 194 (37)) (by decide +kernel)) dX12_letter_91 ?_
                      refine lv_lrem hx hb dX12_letter_94 (by decide) ?_
                      refine my_tl (v := 2) (by decide) ?_
                      refine lv_l2i (v := 2) hx hb dX12_letter_95 (by decide) ?_
                      refine lv_istore (lv' := [(6, .int 2), (3, .long 2), (5, .int 6), (0, .ref h0), (1, .int 9), (2, .int 0)]) hx hb dX12_letter_96 hl (by decide) rfl (fun ls hl => ?_)
                      refine lv_iload hx hb dX12_letter_98 (lv_at hl 0 rfl) ?_
                      refine lv_bipush (v := 27) hx hb dX12_letter_100 (by decide) ?_
                      refine lv_icmp_ge (tgt := 115) hx hb dX12_letter_102 (by decide) (fun c_102 => absurd c_102 (by decide)) (fun c_102 => ?_)
                      refine lv_bipush (v := 97) hx hb dX12_letter_105 (by decide) ?_
                      refine lv_iload hx hb dX12_letter_107 (lv_at hl 0 rfl) ?_
                      refine lv_iadd hx hb dX12_letter_109 ?_
                      refine my_ti (v := 99) (by decide) ?_
                      refine lv_iconst (v := 1) hx hb dX12_letter_110 (by decide) ?_
                      refine lv_isub hx hb dX12_letter_111 ?_
                      refine my_ti (v := 98) (by decide) ?_
                      refine lv_goto (tgt := 123) hx hb dX12_letter_112 (by decide) ?_
                      exact W.iret (v := 98) hx hb hr (fun t ht hW => ⟨⟨98, (), rfl, by decide +kernel, trivial⟩, hS.F ht⟩) hS.2.2 dX12_letter_123
          · refine lv_iconst (v := (-1)) hx hb dX12_letter_64 (by decide) ?_
            exact W.iret (v := (-1)) hx hb hr (fun t ht hW => ⟨⟨(-1), (), rfl, lt_hi (Int32.not_lt.mpr c_19) c_61 (by decide +kernel), trivial⟩, hS.F ht⟩) hS.2.2 dX12_letter_65
        · have _ := hf
          refine lv_aload_n hx hb dX12_letter_24 rfl (lv_at hl 0 rfl) ?_
          refine va_get (D := (dC, dI)) (ci := 11) (v := .ref z_names) (C := RX12) (T := TX12) (N := 106) hx hb hts in_wqX12_letter_RX12 hown hK hP 0 rfl rfl 3 (by decide) (hts (.fieldLink RX12 13 "FourTonguesModel" "names" "[J") (by decide +kernel)) (fun _ h9 => h9) rfl dX12_letter_25 ?_
          refine lv_iload_n hx hb dX12_letter_28 rfl (lv_at hl 1 rfl) ?_
          refine va_lald hx hb hK hP 1 0 rfl rfl (by unfold vp_in; decide) dX12_letter_29 ?_
          refine my_tl (v := 1912) (by rw [hf]; decide +kernel) ?_
          refine lv_lstore_n (lv' := [(3, .long 1912), (0, .ref h0), (1, .int 10), (2, .int x2)]) hx hb dX12_letter_30 rfl hl (by decide) rfl (fun ls hl => ?_)
          refine lv_iconst (v := 0) hx hb dX12_letter_31 (by decide) ?_
          refine lv_istore (lv' := [(5, .int 0), (3, .long 1912), (0, .ref h0), (1, .int 10), (2, .int x2)]) hx hb dX12_letter_32 hl (by decide) rfl (fun ls hl => ?_)
          refine lv_lload_n hx hb dX12_letter_34 rfl (lv_at hl 1 rfl) ?_
          refine lv_lstore (lv' := [(6, .long 1912), (5, .int 0), (3, .long 1912), (0, .ref h0), (1, .int 10), (2, .int x2)]) hx hb dX12_letter_35 hl (by decide) rfl (fun ls hl => ?_)
          refine lv_lload hx hb dX12_letter_37 (lv_at hl 0 rfl) ?_
          refine lv_lconst (v := 0) hx hb dX12_letter_39 (by decide) ?_
          refine W.lcmp hx hb dX12_letter_40 ?_
          refine my_ti (v := 1) (by decide) ?_
          refine lv_if_le (tgt := 58) hx hb dX12_letter_41 (by decide) (fun c_41 => absurd c_41 (by decide)) (fun c_41 => ?_)
          refine lv_iinc (v := 1) (lv' := [(5, .int 1), (6, .long 1912), (3, .long 1912), (0, .ref h0), (1, .int 10), (2, .int x2)]) hx hb dX12_letter_44 hl (k := 1) rfl (by decide) (by decide) rfl (fun ls hl => ?_)
          refine lv_lload hx hb dX12_letter_47 (lv_at hl 1 rfl) ?_
          refine lv_ldc2 hx hb hown (hts (.constantLong RX12 194 (37)) (by decide +kernel)) dX12_letter_49 ?_
          refine lv_ldiv hx hb dX12_letter_52 (by decide) ?_
          refine my_tl (v := 51) (by decide) ?_
          refine lv_lstore (lv' := [(6, .long 51), (5, .int 1), (3, .long 1912), (0, .ref h0), (1, .int 10), (2, .int x2)]) hx hb dX12_letter_53 hl (by decide) rfl (fun ls hl => ?_)
          refine lv_goto (tgt := 37) hx hb dX12_letter_55 (by decide) ?_
          refine lv_lload hx hb dX12_letter_37 (lv_at hl 0 rfl) ?_
          refine lv_lconst (v := 0) hx hb dX12_letter_39 (by decide) ?_
          refine W.lcmp hx hb dX12_letter_40 ?_
          refine my_ti (v := 1) (by decide) ?_
          refine lv_if_le (tgt := 58) hx hb dX12_letter_41 (by decide) (fun c_41 => absurd c_41 (by decide)) (fun c_41 => ?_)
          refine lv_iinc (v := 2) (lv' := [(5, .int 2), (6, .long 51), (3, .long 1912), (0, .ref h0), (1, .int 10), (2, .int x2)]) hx hb dX12_letter_44 hl (k := 1) rfl (by decide) (by decide) rfl (fun ls hl => ?_)
          refine lv_lload hx hb dX12_letter_47 (lv_at hl 1 rfl) ?_
          refine lv_ldc2 hx hb hown (hts (.constantLong RX12 194 (37)) (by decide +kernel)) dX12_letter_49 ?_
          refine lv_ldiv hx hb dX12_letter_52 (by decide) ?_
          refine my_tl (v := 1) (by decide) ?_
          refine lv_lstore (lv' := [(6, .long 1), (5, .int 2), (3, .long 1912), (0, .ref h0), (1, .int 10), (2, .int x2)]) hx hb dX12_letter_53 hl (by decide) rfl (fun ls hl => ?_)
          refine lv_goto (tgt := 37) hx hb dX12_letter_55 (by decide) ?_
          refine lv_lload hx hb dX12_letter_37 (lv_at hl 0 rfl) ?_
          refine lv_lconst (v := 0) hx hb dX12_letter_39 (by decide) ?_
          refine W.lcmp hx hb dX12_letter_40 ?_
          refine my_ti (v := 1) (by decide) ?_
          refine lv_if_le (tgt := 58) hx hb dX12_letter_41 (by decide) (fun c_41 => absurd c_41 (by decide)) (fun c_41 => ?_)
          refine lv_iinc (v := 3) (lv' := [(5, .int 3), (6, .long 1), (3, .long 1912), (0, .ref h0), (1, .int 10), (2, .int x2)]) hx hb dX12_letter_44 hl (k := 1) rfl (by decide) (by decide) rfl (fun ls hl => ?_)
          refine lv_lload hx hb dX12_letter_47 (lv_at hl 1 rfl) ?_
          refine lv_ldc2 hx hb hown (hts (.constantLong RX12 194 (37)) (by decide +kernel)) dX12_letter_49 ?_
          refine lv_ldiv hx hb dX12_letter_52 (by decide) ?_
          refine my_tl (v := 0) (by decide) ?_
          refine lv_lstore (lv' := [(6, .long 0), (5, .int 3), (3, .long 1912), (0, .ref h0), (1, .int 10), (2, .int x2)]) hx hb dX12_letter_53 hl (by decide) rfl (fun ls hl => ?_)
          refine lv_goto (tgt := 37) hx hb dX12_letter_55 (by decide) ?_
          refine lv_lload hx hb dX12_letter_37 (lv_at hl 0 rfl) ?_
          refine lv_lconst (v := 0) hx hb dX12_letter_39 (by decide) ?_
          refine W.lcmp hx hb dX12_letter_40 ?_
          refine my_ti (v := 0) (by decide) ?_
          refine lv_if_le (tgt := 58) hx hb dX12_letter_41 (by decide) (fun c_41 => ?_) (fun c_41 => absurd c_41 (by decide))
          refine lv_iload_n hx hb dX12_letter_58 rfl (lv_at hl 5 rfl) ?_
          refine lv_iload hx hb dX12_letter_59 (lv_at hl 1 rfl) ?_
          refine lv_icmp_lt (tgt := 66) hx hb dX12_letter_61 (by decide) (fun c_61 => ?_) (fun c_61 => ?_)
          · refine lv_iload hx hb dX12_letter_66 (lv_at hl 1 rfl) ?_
            refine lv_iconst (v := 1) hx hb dX12_letter_68 (by decide) ?_
            refine lv_isub hx hb dX12_letter_69 ?_
            refine my_ti (v := 2) (by decide) ?_
            refine lv_istore (lv' := [(6, .int 2), (5, .int 3), (3, .long 1912), (0, .ref h0), (1, .int 10), (2, .int x2)]) hx hb dX12_letter_70 hl (by decide) rfl (fun ls hl => ?_)
            refine lv_iload hx hb dX12_letter_72 (lv_at hl 0 rfl) ?_
            refine lv_iload_n hx hb dX12_letter_74 rfl (lv_at hl 5 rfl) ?_
            refine lv_icmp_le (tgt := 90) hx hb dX12_letter_75 (by decide) (fun c_75 => ?_) (fun c_75 => ?_)
            · obtain rfl : x2 = 2 := eq_of c_75 (Int32.not_le.mpr c_61) (by decide)
              refine lv_lload_n hx hb dX12_letter_90 rfl (lv_at hl 2 rfl) ?_
              refine lv_ldc2 hx hb hown (hts (.constantLong RX12 194 (37)) (by decide +kernel)) dX12_letter_91 ?_
              refine lv_lrem hx hb dX12_letter_94 (by decide) ?_
              refine my_tl (v := 25) (by decide) ?_
              refine lv_l2i (v := 25) hx hb dX12_letter_95 (by decide) ?_
              refine lv_istore (lv' := [(6, .int 25), (5, .int 3), (3, .long 1912), (0, .ref h0), (1, .int 10), (2, .int 2)]) hx hb dX12_letter_96 hl (by decide) rfl (fun ls hl => ?_)
              refine lv_iload hx hb dX12_letter_98 (lv_at hl 0 rfl) ?_
              refine lv_bipush (v := 27) hx hb dX12_letter_100 (by decide) ?_
              refine lv_icmp_ge (tgt := 115) hx hb dX12_letter_102 (by decide) (fun c_102 => absurd c_102 (by decide)) (fun c_102 => ?_)
              refine lv_bipush (v := 97) hx hb dX12_letter_105 (by decide) ?_
              refine lv_iload hx hb dX12_letter_107 (lv_at hl 0 rfl) ?_
              refine lv_iadd hx hb dX12_letter_109 ?_
              refine my_ti (v := 122) (by decide) ?_
              refine lv_iconst (v := 1) hx hb dX12_letter_110 (by decide) ?_
              refine lv_isub hx hb dX12_letter_111 ?_
              refine my_ti (v := 121) (by decide) ?_
              refine lv_goto (tgt := 123) hx hb dX12_letter_112 (by decide) ?_
              exact W.iret (v := 121) hx hb hr (fun t ht hW => ⟨⟨121, (), rfl, by decide +kernel, trivial⟩, hS.F ht⟩) hS.2.2 dX12_letter_123
            · have hb_2 := c_75
              refine lv_lload_n hx hb dX12_letter_78 rfl (lv_at hl 2 rfl) ?_
              refine lv_ldc2 hx hb hown (hts (.constantLong RX12 194 (37)) (by decide +kernel)) dX12_letter_79 ?_
              refine lv_ldiv hx hb dX12_letter_82 (by decide) ?_
              refine my_tl (v := 51) (by decide) ?_
              refine lv_lstore_n (lv' := [(3, .long 51), (6, .int 2), (5, .int 3), (0, .ref h0), (1, .int 10), (2, .int x2)]) hx hb dX12_letter_83 rfl hl (by decide) rfl (fun ls hl => ?_)
              refine lv_iinc (v := 1) (lv' := [(6, .int 1), (3, .long 51), (5, .int 3), (0, .ref h0), (1, .int 10), (2, .int x2)]) hx hb dX12_letter_84 hl (k := 1) rfl (by decide) (by decide) rfl (fun ls hl => ?_)
              refine lv_goto (tgt := 72) hx hb dX12_letter_87 (by decide) ?_
              refine lv_iload hx hb dX12_letter_72 (lv_at hl 0 rfl) ?_
              refine lv_iload_n hx hb dX12_letter_74 rfl (lv_at hl 5 rfl) ?_
              refine lv_icmp_le (tgt := 90) hx hb dX12_letter_75 (by decide) (fun c_75 => ?_) (fun c_75 => ?_)
              · obtain rfl : x2 = 1 := eq_of c_75 hb_2 (by decide)
                refine lv_lload_n hx hb dX12_letter_90 rfl (lv_at hl 1 rfl) ?_
                refine lv_ldc2 hx hb hown (hts (.constantLong RX12 194 (37)) (by decide +kernel)) dX12_letter_91 ?_
                refine lv_lrem hx hb dX12_letter_94 (by decide) ?_
                refine my_tl (v := 14) (by decide) ?_
                refine lv_l2i (v := 14) hx hb dX12_letter_95 (by decide) ?_
                refine lv_istore (lv' := [(6, .int 14), (3, .long 51), (5, .int 3), (0, .ref h0), (1, .int 10), (2, .int 1)]) hx hb dX12_letter_96 hl (by decide) rfl (fun ls hl => ?_)
                refine lv_iload hx hb dX12_letter_98 (lv_at hl 0 rfl) ?_
                refine lv_bipush (v := 27) hx hb dX12_letter_100 (by decide) ?_
                refine lv_icmp_ge (tgt := 115) hx hb dX12_letter_102 (by decide) (fun c_102 => absurd c_102 (by decide)) (fun c_102 => ?_)
                refine lv_bipush (v := 97) hx hb dX12_letter_105 (by decide) ?_
                refine lv_iload hx hb dX12_letter_107 (lv_at hl 0 rfl) ?_
                refine lv_iadd hx hb dX12_letter_109 ?_
                refine my_ti (v := 111) (by decide) ?_
                refine lv_iconst (v := 1) hx hb dX12_letter_110 (by decide) ?_
                refine lv_isub hx hb dX12_letter_111 ?_
                refine my_ti (v := 110) (by decide) ?_
                refine lv_goto (tgt := 123) hx hb dX12_letter_112 (by decide) ?_
                exact W.iret (v := 110) hx hb hr (fun t ht hW => ⟨⟨110, (), rfl, by decide +kernel, trivial⟩, hS.F ht⟩) hS.2.2 dX12_letter_123
              · have hb_1 := c_75
                refine lv_lload_n hx hb dX12_letter_78 rfl (lv_at hl 1 rfl) ?_
                refine lv_ldc2 hx hb hown (hts (.constantLong RX12 194 (37)) (by decide +kernel)) dX12_letter_79 ?_
                refine lv_ldiv hx hb dX12_letter_82 (by decide) ?_
                refine my_tl (v := 1) (by decide) ?_
                refine lv_lstore_n (lv' := [(3, .long 1), (6, .int 1), (5, .int 3), (0, .ref h0), (1, .int 10), (2, .int x2)]) hx hb dX12_letter_83 rfl hl (by decide) rfl (fun ls hl => ?_)
                refine lv_iinc (v := 0) (lv' := [(6, .int 0), (3, .long 1), (5, .int 3), (0, .ref h0), (1, .int 10), (2, .int x2)]) hx hb dX12_letter_84 hl (k := 1) rfl (by decide) (by decide) rfl (fun ls hl => ?_)
                refine lv_goto (tgt := 72) hx hb dX12_letter_87 (by decide) ?_
                refine lv_iload hx hb dX12_letter_72 (lv_at hl 0 rfl) ?_
                refine lv_iload_n hx hb dX12_letter_74 rfl (lv_at hl 5 rfl) ?_
                refine lv_icmp_le (tgt := 90) hx hb dX12_letter_75 (by decide) (fun c_75 => ?_) (fun c_75 => absurd (c_19) c_75)
                obtain rfl : x2 = 0 := eq_of c_75 hb_1 (by decide)
                refine lv_lload_n hx hb dX12_letter_90 rfl (lv_at hl 1 rfl) ?_
                refine lv_ldc2 hx hb hown (hts (.constantLong RX12 194 (37)) (by decide +kernel)) dX12_letter_91 ?_
                refine lv_lrem hx hb dX12_letter_94 (by decide) ?_
                refine my_tl (v := 1) (by decide) ?_
                refine lv_l2i (v := 1) hx hb dX12_letter_95 (by decide) ?_
                refine lv_istore (lv' := [(6, .int 1), (3, .long 1), (5, .int 3), (0, .ref h0), (1, .int 10), (2, .int 0)]) hx hb dX12_letter_96 hl (by decide) rfl (fun ls hl => ?_)
                refine lv_iload hx hb dX12_letter_98 (lv_at hl 0 rfl) ?_
                refine lv_bipush (v := 27) hx hb dX12_letter_100 (by decide) ?_
                refine lv_icmp_ge (tgt := 115) hx hb dX12_letter_102 (by decide) (fun c_102 => absurd c_102 (by decide)) (fun c_102 => ?_)
                refine lv_bipush (v := 97) hx hb dX12_letter_105 (by decide) ?_
                refine lv_iload hx hb dX12_letter_107 (lv_at hl 0 rfl) ?_
                refine lv_iadd hx hb dX12_letter_109 ?_
                refine my_ti (v := 98) (by decide) ?_
                refine lv_iconst (v := 1) hx hb dX12_letter_110 (by decide) ?_
                refine lv_isub hx hb dX12_letter_111 ?_
                refine my_ti (v := 97) (by decide) ?_
                refine lv_goto (tgt := 123) hx hb dX12_letter_112 (by decide) ?_
                exact W.iret (v := 97) hx hb hr (fun t ht hW => ⟨⟨97, (), rfl, by decide +kernel, trivial⟩, hS.F ht⟩) hS.2.2 dX12_letter_123
          · refine lv_iconst (v := (-1)) hx hb dX12_letter_64 (by decide) ?_
            exact W.iret (v := (-1)) hx hb hr (fun t ht hW => ⟨⟨(-1), (), rfl, lt_hi (Int32.not_lt.mpr c_19) c_61 (by decide +kernel), trivial⟩, hS.F ht⟩) hS.2.2 dX12_letter_65
        · have _ := hf
          refine lv_aload_n hx hb dX12_letter_24 rfl (lv_at hl 0 rfl) ?_
          refine va_get (D := (dC, dI)) (ci := 11) (v := .ref z_names) (C := RX12) (T := TX12) (N := 106) hx hb hts in_wqX12_letter_RX12 hown hK hP 0 rfl rfl 3 (by decide) (hts (.fieldLink RX12 13 "FourTonguesModel" "names" "[J") (by decide +kernel)) (fun _ h9 => h9) rfl dX12_letter_25 ?_
          refine lv_iload_n hx hb dX12_letter_28 rfl (lv_at hl 1 rfl) ?_
          refine va_lald hx hb hK hP 1 0 rfl rfl (by unfold vp_in; decide) dX12_letter_29 ?_
          refine my_tl (v := 33429827825) (by rw [hf]; decide +kernel) ?_
          refine lv_lstore_n (lv' := [(3, .long 33429827825), (0, .ref h0), (1, .int 11), (2, .int x2)]) hx hb dX12_letter_30 rfl hl (by decide) rfl (fun ls hl => ?_)
          refine lv_iconst (v := 0) hx hb dX12_letter_31 (by decide) ?_
          refine lv_istore (lv' := [(5, .int 0), (3, .long 33429827825), (0, .ref h0), (1, .int 11), (2, .int x2)]) hx hb dX12_letter_32 hl (by decide) rfl (fun ls hl => ?_)
          refine lv_lload_n hx hb dX12_letter_34 rfl (lv_at hl 1 rfl) ?_
          refine lv_lstore (lv' := [(6, .long 33429827825), (5, .int 0), (3, .long 33429827825), (0, .ref h0), (1, .int 11), (2, .int x2)]) hx hb dX12_letter_35 hl (by decide) rfl (fun ls hl => ?_)
          refine lv_lload hx hb dX12_letter_37 (lv_at hl 0 rfl) ?_
          refine lv_lconst (v := 0) hx hb dX12_letter_39 (by decide) ?_
          refine W.lcmp hx hb dX12_letter_40 ?_
          refine my_ti (v := 1) (by decide) ?_
          refine lv_if_le (tgt := 58) hx hb dX12_letter_41 (by decide) (fun c_41 => absurd c_41 (by decide)) (fun c_41 => ?_)
          refine lv_iinc (v := 1) (lv' := [(5, .int 1), (6, .long 33429827825), (3, .long 33429827825), (0, .ref h0), (1, .int 11), (2, .int x2)]) hx hb dX12_letter_44 hl (k := 1) rfl (by decide) (by decide) rfl (fun ls hl => ?_)
          refine lv_lload hx hb dX12_letter_47 (lv_at hl 1 rfl) ?_
          refine lv_ldc2 hx hb hown (hts (.constantLong RX12 194 (37)) (by decide +kernel)) dX12_letter_49 ?_
          refine lv_ldiv hx hb dX12_letter_52 (by decide) ?_
          refine my_tl (v := 903508860) (by decide) ?_
          refine lv_lstore (lv' := [(6, .long 903508860), (5, .int 1), (3, .long 33429827825), (0, .ref h0), (1, .int 11), (2, .int x2)]) hx hb dX12_letter_53 hl (by decide) rfl (fun ls hl => ?_)
          refine lv_goto (tgt := 37) hx hb dX12_letter_55 (by decide) ?_
          refine lv_lload hx hb dX12_letter_37 (lv_at hl 0 rfl) ?_
          refine lv_lconst (v := 0) hx hb dX12_letter_39 (by decide) ?_
          refine W.lcmp hx hb dX12_letter_40 ?_
          refine my_ti (v := 1) (by decide) ?_
          refine lv_if_le (tgt := 58) hx hb dX12_letter_41 (by decide) (fun c_41 => absurd c_41 (by decide)) (fun c_41 => ?_)
          refine lv_iinc (v := 2) (lv' := [(5, .int 2), (6, .long 903508860), (3, .long 33429827825), (0, .ref h0), (1, .int 11), (2, .int x2)]) hx hb dX12_letter_44 hl (k := 1) rfl (by decide) (by decide) rfl (fun ls hl => ?_)
          refine lv_lload hx hb dX12_letter_47 (lv_at hl 1 rfl) ?_
          refine lv_ldc2 hx hb hown (hts (.constantLong RX12 194 (37)) (by decide +kernel)) dX12_letter_49 ?_
          refine lv_ldiv hx hb dX12_letter_52 (by decide) ?_
          refine my_tl (v := 24419158) (by decide) ?_
          refine lv_lstore (lv' := [(6, .long 24419158), (5, .int 2), (3, .long 33429827825), (0, .ref h0), (1, .int 11), (2, .int x2)]) hx hb dX12_letter_53 hl (by decide) rfl (fun ls hl => ?_)
          refine lv_goto (tgt := 37) hx hb dX12_letter_55 (by decide) ?_
          refine lv_lload hx hb dX12_letter_37 (lv_at hl 0 rfl) ?_
          refine lv_lconst (v := 0) hx hb dX12_letter_39 (by decide) ?_
          refine W.lcmp hx hb dX12_letter_40 ?_
          refine my_ti (v := 1) (by decide) ?_
          refine lv_if_le (tgt := 58) hx hb dX12_letter_41 (by decide) (fun c_41 => absurd c_41 (by decide)) (fun c_41 => ?_)
          refine lv_iinc (v := 3) (lv' := [(5, .int 3), (6, .long 24419158), (3, .long 33429827825), (0, .ref h0), (1, .int 11), (2, .int x2)]) hx hb dX12_letter_44 hl (k := 1) rfl (by decide) (by decide) rfl (fun ls hl => ?_)
          refine lv_lload hx hb dX12_letter_47 (lv_at hl 1 rfl) ?_
          refine lv_ldc2 hx hb hown (hts (.constantLong RX12 194 (37)) (by decide +kernel)) dX12_letter_49 ?_
          refine lv_ldiv hx hb dX12_letter_52 (by decide) ?_
          refine my_tl (v := 659977) (by decide) ?_
          refine lv_lstore (lv' := [(6, .long 659977), (5, .int 3), (3, .long 33429827825), (0, .ref h0), (1, .int 11), (2, .int x2)]) hx hb dX12_letter_53 hl (by decide) rfl (fun ls hl => ?_)
          refine lv_goto (tgt := 37) hx hb dX12_letter_55 (by decide) ?_
          refine lv_lload hx hb dX12_letter_37 (lv_at hl 0 rfl) ?_
          refine lv_lconst (v := 0) hx hb dX12_letter_39 (by decide) ?_
          refine W.lcmp hx hb dX12_letter_40 ?_
          refine my_ti (v := 1) (by decide) ?_
          refine lv_if_le (tgt := 58) hx hb dX12_letter_41 (by decide) (fun c_41 => absurd c_41 (by decide)) (fun c_41 => ?_)
          refine lv_iinc (v := 4) (lv' := [(5, .int 4), (6, .long 659977), (3, .long 33429827825), (0, .ref h0), (1, .int 11), (2, .int x2)]) hx hb dX12_letter_44 hl (k := 1) rfl (by decide) (by decide) rfl (fun ls hl => ?_)
          refine lv_lload hx hb dX12_letter_47 (lv_at hl 1 rfl) ?_
          refine lv_ldc2 hx hb hown (hts (.constantLong RX12 194 (37)) (by decide +kernel)) dX12_letter_49 ?_
          refine lv_ldiv hx hb dX12_letter_52 (by decide) ?_
          refine my_tl (v := 17837) (by decide) ?_
          refine lv_lstore (lv' := [(6, .long 17837), (5, .int 4), (3, .long 33429827825), (0, .ref h0), (1, .int 11), (2, .int x2)]) hx hb dX12_letter_53 hl (by decide) rfl (fun ls hl => ?_)
          refine lv_goto (tgt := 37) hx hb dX12_letter_55 (by decide) ?_
          refine lv_lload hx hb dX12_letter_37 (lv_at hl 0 rfl) ?_
          refine lv_lconst (v := 0) hx hb dX12_letter_39 (by decide) ?_
          refine W.lcmp hx hb dX12_letter_40 ?_
          refine my_ti (v := 1) (by decide) ?_
          refine lv_if_le (tgt := 58) hx hb dX12_letter_41 (by decide) (fun c_41 => absurd c_41 (by decide)) (fun c_41 => ?_)
          refine lv_iinc (v := 5) (lv' := [(5, .int 5), (6, .long 17837), (3, .long 33429827825), (0, .ref h0), (1, .int 11), (2, .int x2)]) hx hb dX12_letter_44 hl (k := 1) rfl (by decide) (by decide) rfl (fun ls hl => ?_)
          refine lv_lload hx hb dX12_letter_47 (lv_at hl 1 rfl) ?_
          refine lv_ldc2 hx hb hown (hts (.constantLong RX12 194 (37)) (by decide +kernel)) dX12_letter_49 ?_
          refine lv_ldiv hx hb dX12_letter_52 (by decide) ?_
          refine my_tl (v := 482) (by decide) ?_
          refine lv_lstore (lv' := [(6, .long 482), (5, .int 5), (3, .long 33429827825), (0, .ref h0), (1, .int 11), (2, .int x2)]) hx hb dX12_letter_53 hl (by decide) rfl (fun ls hl => ?_)
          refine lv_goto (tgt := 37) hx hb dX12_letter_55 (by decide) ?_
          refine lv_lload hx hb dX12_letter_37 (lv_at hl 0 rfl) ?_
          refine lv_lconst (v := 0) hx hb dX12_letter_39 (by decide) ?_
          refine W.lcmp hx hb dX12_letter_40 ?_
          refine my_ti (v := 1) (by decide) ?_
          refine lv_if_le (tgt := 58) hx hb dX12_letter_41 (by decide) (fun c_41 => absurd c_41 (by decide)) (fun c_41 => ?_)
          refine lv_iinc (v := 6) (lv' := [(5, .int 6), (6, .long 482), (3, .long 33429827825), (0, .ref h0), (1, .int 11), (2, .int x2)]) hx hb dX12_letter_44 hl (k := 1) rfl (by decide) (by decide) rfl (fun ls hl => ?_)
          refine lv_lload hx hb dX12_letter_47 (lv_at hl 1 rfl) ?_
          refine lv_ldc2 hx hb hown (hts (.constantLong RX12 194 (37)) (by decide +kernel)) dX12_letter_49 ?_
          refine lv_ldiv hx hb dX12_letter_52 (by decide) ?_
          refine my_tl (v := 13) (by decide) ?_
          refine lv_lstore (lv' := [(6, .long 13), (5, .int 6), (3, .long 33429827825), (0, .ref h0), (1, .int 11), (2, .int x2)]) hx hb dX12_letter_53 hl (by decide) rfl (fun ls hl => ?_)
          refine lv_goto (tgt := 37) hx hb dX12_letter_55 (by decide) ?_
          refine lv_lload hx hb dX12_letter_37 (lv_at hl 0 rfl) ?_
          refine lv_lconst (v := 0) hx hb dX12_letter_39 (by decide) ?_
          refine W.lcmp hx hb dX12_letter_40 ?_
          refine my_ti (v := 1) (by decide) ?_
          refine lv_if_le (tgt := 58) hx hb dX12_letter_41 (by decide) (fun c_41 => absurd c_41 (by decide)) (fun c_41 => ?_)
          refine lv_iinc (v := 7) (lv' := [(5, .int 7), (6, .long 13), (3, .long 33429827825), (0, .ref h0), (1, .int 11), (2, .int x2)]) hx hb dX12_letter_44 hl (k := 1) rfl (by decide) (by decide) rfl (fun ls hl => ?_)
          refine lv_lload hx hb dX12_letter_47 (lv_at hl 1 rfl) ?_
          refine lv_ldc2 hx hb hown (hts (.constantLong RX12 194 (37)) (by decide +kernel)) dX12_letter_49 ?_
          refine lv_ldiv hx hb dX12_letter_52 (by decide) ?_
          refine my_tl (v := 0) (by decide) ?_
          refine lv_lstore (lv' := [(6, .long 0), (5, .int 7), (3, .long 33429827825), (0, .ref h0), (1, .int 11), (2, .int x2)]) hx hb dX12_letter_53 hl (by decide) rfl (fun ls hl => ?_)
          refine lv_goto (tgt := 37) hx hb dX12_letter_55 (by decide) ?_
          refine lv_lload hx hb dX12_letter_37 (lv_at hl 0 rfl) ?_
          refine lv_lconst (v := 0) hx hb dX12_letter_39 (by decide) ?_
          refine W.lcmp hx hb dX12_letter_40 ?_
          refine my_ti (v := 0) (by decide) ?_
          refine lv_if_le (tgt := 58) hx hb dX12_letter_41 (by decide) (fun c_41 => ?_) (fun c_41 => absurd c_41 (by decide))
          refine lv_iload_n hx hb dX12_letter_58 rfl (lv_at hl 5 rfl) ?_
          refine lv_iload hx hb dX12_letter_59 (lv_at hl 1 rfl) ?_
          refine lv_icmp_lt (tgt := 66) hx hb dX12_letter_61 (by decide) (fun c_61 => ?_) (fun c_61 => ?_)
          · refine lv_iload hx hb dX12_letter_66 (lv_at hl 1 rfl) ?_
            refine lv_iconst (v := 1) hx hb dX12_letter_68 (by decide) ?_
            refine lv_isub hx hb dX12_letter_69 ?_
            refine my_ti (v := 6) (by decide) ?_
            refine lv_istore (lv' := [(6, .int 6), (5, .int 7), (3, .long 33429827825), (0, .ref h0), (1, .int 11), (2, .int x2)]) hx hb dX12_letter_70 hl (by decide) rfl (fun ls hl => ?_)
            refine lv_iload hx hb dX12_letter_72 (lv_at hl 0 rfl) ?_
            refine lv_iload_n hx hb dX12_letter_74 rfl (lv_at hl 5 rfl) ?_
            refine lv_icmp_le (tgt := 90) hx hb dX12_letter_75 (by decide) (fun c_75 => ?_) (fun c_75 => ?_)
            · obtain rfl : x2 = 6 := eq_of c_75 (Int32.not_le.mpr c_61) (by decide)
              refine lv_lload_n hx hb dX12_letter_90 rfl (lv_at hl 2 rfl) ?_
              refine lv_ldc2 hx hb hown (hts (.constantLong RX12 194 (37)) (by decide +kernel)) dX12_letter_91 ?_
              refine lv_lrem hx hb dX12_letter_94 (by decide) ?_
              refine my_tl (v := 5) (by decide) ?_
              refine lv_l2i (v := 5) hx hb dX12_letter_95 (by decide) ?_
              refine lv_istore (lv' := [(6, .int 5), (5, .int 7), (3, .long 33429827825), (0, .ref h0), (1, .int 11), (2, .int 6)]) hx hb dX12_letter_96 hl (by decide) rfl (fun ls hl => ?_)
              refine lv_iload hx hb dX12_letter_98 (lv_at hl 0 rfl) ?_
              refine lv_bipush (v := 27) hx hb dX12_letter_100 (by decide) ?_
              refine lv_icmp_ge (tgt := 115) hx hb dX12_letter_102 (by decide) (fun c_102 => absurd c_102 (by decide)) (fun c_102 => ?_)
              refine lv_bipush (v := 97) hx hb dX12_letter_105 (by decide) ?_
              refine lv_iload hx hb dX12_letter_107 (lv_at hl 0 rfl) ?_
              refine lv_iadd hx hb dX12_letter_109 ?_
              refine my_ti (v := 102) (by decide) ?_
              refine lv_iconst (v := 1) hx hb dX12_letter_110 (by decide) ?_
              refine lv_isub hx hb dX12_letter_111 ?_
              refine my_ti (v := 101) (by decide) ?_
              refine lv_goto (tgt := 123) hx hb dX12_letter_112 (by decide) ?_
              exact W.iret (v := 101) hx hb hr (fun t ht hW => ⟨⟨101, (), rfl, by decide +kernel, trivial⟩, hS.F ht⟩) hS.2.2 dX12_letter_123
            · have hb_6 := c_75
              refine lv_lload_n hx hb dX12_letter_78 rfl (lv_at hl 2 rfl) ?_
              refine lv_ldc2 hx hb hown (hts (.constantLong RX12 194 (37)) (by decide +kernel)) dX12_letter_79 ?_
              refine lv_ldiv hx hb dX12_letter_82 (by decide) ?_
              refine my_tl (v := 903508860) (by decide) ?_
              refine lv_lstore_n (lv' := [(3, .long 903508860), (6, .int 6), (5, .int 7), (0, .ref h0), (1, .int 11), (2, .int x2)]) hx hb dX12_letter_83 rfl hl (by decide) rfl (fun ls hl => ?_)
              refine lv_iinc (v := 5) (lv' := [(6, .int 5), (3, .long 903508860), (5, .int 7), (0, .ref h0), (1, .int 11), (2, .int x2)]) hx hb dX12_letter_84 hl (k := 1) rfl (by decide) (by decide) rfl (fun ls hl => ?_)
              refine lv_goto (tgt := 72) hx hb dX12_letter_87 (by decide) ?_
              refine lv_iload hx hb dX12_letter_72 (lv_at hl 0 rfl) ?_
              refine lv_iload_n hx hb dX12_letter_74 rfl (lv_at hl 5 rfl) ?_
              refine lv_icmp_le (tgt := 90) hx hb dX12_letter_75 (by decide) (fun c_75 => ?_) (fun c_75 => ?_)
              · obtain rfl : x2 = 5 := eq_of c_75 hb_6 (by decide)
                refine lv_lload_n hx hb dX12_letter_90 rfl (lv_at hl 1 rfl) ?_
                refine lv_ldc2 hx hb hown (hts (.constantLong RX12 194 (37)) (by decide +kernel)) dX12_letter_91 ?_
                refine lv_lrem hx hb dX12_letter_94 (by decide) ?_
                refine my_tl (v := 14) (by decide) ?_
                refine lv_l2i (v := 14) hx hb dX12_letter_95 (by decide) ?_
                refine lv_istore (lv' := [(6, .int 14), (3, .long 903508860), (5, .int 7), (0, .ref h0), (1, .int 11), (2, .int 5)]) hx hb dX12_letter_96 hl (by decide) rfl (fun ls hl => ?_)
                refine lv_iload hx hb dX12_letter_98 (lv_at hl 0 rfl) ?_
                refine lv_bipush (v := 27) hx hb dX12_letter_100 (by decide) ?_
                refine lv_icmp_ge (tgt := 115) hx hb dX12_letter_102 (by decide) (fun c_102 => absurd c_102 (by decide)) (fun c_102 => ?_)
                refine lv_bipush (v := 97) hx hb dX12_letter_105 (by decide) ?_
                refine lv_iload hx hb dX12_letter_107 (lv_at hl 0 rfl) ?_
                refine lv_iadd hx hb dX12_letter_109 ?_
                refine my_ti (v := 111) (by decide) ?_
                refine lv_iconst (v := 1) hx hb dX12_letter_110 (by decide) ?_
                refine lv_isub hx hb dX12_letter_111 ?_
                refine my_ti (v := 110) (by decide) ?_
                refine lv_goto (tgt := 123) hx hb dX12_letter_112 (by decide) ?_
                exact W.iret (v := 110) hx hb hr (fun t ht hW => ⟨⟨110, (), rfl, by decide +kernel, trivial⟩, hS.F ht⟩) hS.2.2 dX12_letter_123
              · have hb_5 := c_75
                refine lv_lload_n hx hb dX12_letter_78 rfl (lv_at hl 1 rfl) ?_
                refine lv_ldc2 hx hb hown (hts (.constantLong RX12 194 (37)) (by decide +kernel)) dX12_letter_79 ?_
                refine lv_ldiv hx hb dX12_letter_82 (by decide) ?_
                refine my_tl (v := 24419158) (by decide) ?_
                refine lv_lstore_n (lv' := [(3, .long 24419158), (6, .int 5), (5, .int 7), (0, .ref h0), (1, .int 11), (2, .int x2)]) hx hb dX12_letter_83 rfl hl (by decide) rfl (fun ls hl => ?_)
                refine lv_iinc (v := 4) (lv' := [(6, .int 4), (3, .long 24419158), (5, .int 7), (0, .ref h0), (1, .int 11), (2, .int x2)]) hx hb dX12_letter_84 hl (k := 1) rfl (by decide) (by decide) rfl (fun ls hl => ?_)
                refine lv_goto (tgt := 72) hx hb dX12_letter_87 (by decide) ?_
                refine lv_iload hx hb dX12_letter_72 (lv_at hl 0 rfl) ?_
                refine lv_iload_n hx hb dX12_letter_74 rfl (lv_at hl 5 rfl) ?_
                refine lv_icmp_le (tgt := 90) hx hb dX12_letter_75 (by decide) (fun c_75 => ?_) (fun c_75 => ?_)
                · obtain rfl : x2 = 4 := eq_of c_75 hb_5 (by decide)
                  refine lv_lload_n hx hb dX12_letter_90 rfl (lv_at hl 1 rfl) ?_
                  refine lv_ldc2 hx hb hown (hts (.constantLong RX12 194 (37)) (by decide +kernel)) dX12_letter_91 ?_
                  refine lv_lrem hx hb dX12_letter_94 (by decide) ?_
                  refine my_tl (v := 9) (by decide) ?_
                  refine lv_l2i (v := 9) hx hb dX12_letter_95 (by decide) ?_
                  refine lv_istore (lv' := [(6, .int 9), (3, .long 24419158), (5, .int 7), (0, .ref h0), (1, .int 11), (2, .int 4)]) hx hb dX12_letter_96 hl (by decide) rfl (fun ls hl => ?_)
                  refine lv_iload hx hb dX12_letter_98 (lv_at hl 0 rfl) ?_
                  refine lv_bipush (v := 27) hx hb dX12_letter_100 (by decide) ?_
                  refine lv_icmp_ge (tgt := 115) hx hb dX12_letter_102 (by decide) (fun c_102 => absurd c_102 (by decide)) (fun c_102 => ?_)
                  refine lv_bipush (v := 97) hx hb dX12_letter_105 (by decide) ?_
                  refine lv_iload hx hb dX12_letter_107 (lv_at hl 0 rfl) ?_
                  refine lv_iadd hx hb dX12_letter_109 ?_
                  refine my_ti (v := 106) (by decide) ?_
                  refine lv_iconst (v := 1) hx hb dX12_letter_110 (by decide) ?_
                  refine lv_isub hx hb dX12_letter_111 ?_
                  refine my_ti (v := 105) (by decide) ?_
                  refine lv_goto (tgt := 123) hx hb dX12_letter_112 (by decide) ?_
                  exact W.iret (v := 105) hx hb hr (fun t ht hW => ⟨⟨105, (), rfl, by decide +kernel, trivial⟩, hS.F ht⟩) hS.2.2 dX12_letter_123
                · have hb_4 := c_75
                  refine lv_lload_n hx hb dX12_letter_78 rfl (lv_at hl 1 rfl) ?_
                  refine lv_ldc2 hx hb hown (hts (.constantLong RX12 194 (37)) (by decide +kernel)) dX12_letter_79 ?_
                  refine lv_ldiv hx hb dX12_letter_82 (by decide) ?_
                  refine my_tl (v := 659977) (by decide) ?_
                  refine lv_lstore_n (lv' := [(3, .long 659977), (6, .int 4), (5, .int 7), (0, .ref h0), (1, .int 11), (2, .int x2)]) hx hb dX12_letter_83 rfl hl (by decide) rfl (fun ls hl => ?_)
                  refine lv_iinc (v := 3) (lv' := [(6, .int 3), (3, .long 659977), (5, .int 7), (0, .ref h0), (1, .int 11), (2, .int x2)]) hx hb dX12_letter_84 hl (k := 1) rfl (by decide) (by decide) rfl (fun ls hl => ?_)
                  refine lv_goto (tgt := 72) hx hb dX12_letter_87 (by decide) ?_
                  refine lv_iload hx hb dX12_letter_72 (lv_at hl 0 rfl) ?_
                  refine lv_iload_n hx hb dX12_letter_74 rfl (lv_at hl 5 rfl) ?_
                  refine lv_icmp_le (tgt := 90) hx hb dX12_letter_75 (by decide) (fun c_75 => ?_) (fun c_75 => ?_)
                  · obtain rfl : x2 = 3 := eq_of c_75 hb_4 (by decide)
                    refine lv_lload_n hx hb dX12_letter_90 rfl (lv_at hl 1 rfl) ?_
                    refine lv_ldc2 hx hb hown (hts (.constantLong RX12 194 (37)) (by decide +kernel)) dX12_letter_91 ?_
                    refine lv_lrem hx hb dX12_letter_94 (by decide) ?_
                    refine my_tl (v := 8) (by decide) ?_
                    refine lv_l2i (v := 8) hx hb dX12_letter_95 (by decide) ?_
                    refine lv_istore (lv' := [(6, .int 8), (3, .long 659977), (5, .int 7), (0, .ref h0), (1, .int 11), (2, .int 3)]) hx hb dX12_letter_96 hl (by decide) rfl (fun ls hl => ?_)
                    refine lv_iload hx hb dX12_letter_98 (lv_at hl 0 rfl) ?_
                    refine lv_bipush (v := 27) hx hb dX12_letter_100 (by decide) ?_
                    refine lv_icmp_ge (tgt := 115) hx hb dX12_letter_102 (by decide) (fun c_102 => absurd c_102 (by decide)) (fun c_102 => ?_)
                    refine lv_bipush (v := 97) hx hb dX12_letter_105 (by decide) ?_
                    refine lv_iload hx hb dX12_letter_107 (lv_at hl 0 rfl) ?_
                    refine lv_iadd hx hb dX12_letter_109 ?_
                    refine my_ti (v := 105) (by decide) ?_
                    refine lv_iconst (v := 1) hx hb dX12_letter_110 (by decide) ?_
                    refine lv_isub hx hb dX12_letter_111 ?_
                    refine my_ti (v := 104) (by decide) ?_
                    refine lv_goto (tgt := 123) hx hb dX12_letter_112 (by decide) ?_
                    exact W.iret (v := 104) hx hb hr (fun t ht hW => ⟨⟨104, (), rfl, by decide +kernel, trivial⟩, hS.F ht⟩) hS.2.2 dX12_letter_123
                  · have hb_3 := c_75
                    refine lv_lload_n hx hb dX12_letter_78 rfl (lv_at hl 1 rfl) ?_
                    refine lv_ldc2 hx hb hown (hts (.constantLong RX12 194 (37)) (by decide +kernel)) dX12_letter_79 ?_
                    refine lv_ldiv hx hb dX12_letter_82 (by decide) ?_
                    refine my_tl (v := 17837) (by decide) ?_
                    refine lv_lstore_n (lv' := [(3, .long 17837), (6, .int 3), (5, .int 7), (0, .ref h0), (1, .int 11), (2, .int x2)]) hx hb dX12_letter_83 rfl hl (by decide) rfl (fun ls hl => ?_)
                    refine lv_iinc (v := 2) (lv' := [(6, .int 2), (3, .long 17837), (5, .int 7), (0, .ref h0), (1, .int 11), (2, .int x2)]) hx hb dX12_letter_84 hl (k := 1) rfl (by decide) (by decide) rfl (fun ls hl => ?_)
                    refine lv_goto (tgt := 72) hx hb dX12_letter_87 (by decide) ?_
                    refine lv_iload hx hb dX12_letter_72 (lv_at hl 0 rfl) ?_
                    refine lv_iload_n hx hb dX12_letter_74 rfl (lv_at hl 5 rfl) ?_
                    refine lv_icmp_le (tgt := 90) hx hb dX12_letter_75 (by decide) (fun c_75 => ?_) (fun c_75 => ?_)
                    · obtain rfl : x2 = 2 := eq_of c_75 hb_3 (by decide)
                      refine lv_lload_n hx hb dX12_letter_90 rfl (lv_at hl 1 rfl) ?_
                      refine lv_ldc2 hx hb hown (hts (.constantLong RX12 194 (37)) (by decide +kernel)) dX12_letter_91 ?_
                      refine lv_lrem hx hb dX12_letter_94 (by decide) ?_
                      refine my_tl (v := 3) (by decide) ?_
                      refine lv_l2i (v := 3) hx hb dX12_letter_95 (by decide) ?_
                      refine lv_istore (lv' := [(6, .int 3), (3, .long 17837), (5, .int 7), (0, .ref h0), (1, .int 11), (2, .int 2)]) hx hb dX12_letter_96 hl (by decide) rfl (fun ls hl => ?_)
                      refine lv_iload hx hb dX12_letter_98 (lv_at hl 0 rfl) ?_
                      refine lv_bipush (v := 27) hx hb dX12_letter_100 (by decide) ?_
                      refine lv_icmp_ge (tgt := 115) hx hb dX12_letter_102 (by decide) (fun c_102 => absurd c_102 (by decide)) (fun c_102 => ?_)
                      refine lv_bipush (v := 97) hx hb dX12_letter_105 (by decide) ?_
                      refine lv_iload hx hb dX12_letter_107 (lv_at hl 0 rfl) ?_
                      refine lv_iadd hx hb dX12_letter_109 ?_
                      refine my_ti (v := 100) (by decide) ?_
                      refine lv_iconst (v := 1) hx hb dX12_letter_110 (by decide) ?_
                      refine lv_isub hx hb dX12_letter_111 ?_
                      refine my_ti (v := 99) (by decide) ?_
                      refine lv_goto (tgt := 123) hx hb dX12_letter_112 (by decide) ?_
                      exact W.iret (v := 99) hx hb hr (fun t ht hW => ⟨⟨99, (), rfl, by decide +kernel, trivial⟩, hS.F ht⟩) hS.2.2 dX12_letter_123
                    · have hb_2 := c_75
                      refine lv_lload_n hx hb dX12_letter_78 rfl (lv_at hl 1 rfl) ?_
                      refine lv_ldc2 hx hb hown (hts (.constantLong RX12 194 (37)) (by decide +kernel)) dX12_letter_79 ?_
                      refine lv_ldiv hx hb dX12_letter_82 (by decide) ?_
                      refine my_tl (v := 482) (by decide) ?_
                      refine lv_lstore_n (lv' := [(3, .long 482), (6, .int 2), (5, .int 7), (0, .ref h0), (1, .int 11), (2, .int x2)]) hx hb dX12_letter_83 rfl hl (by decide) rfl (fun ls hl => ?_)
                      refine lv_iinc (v := 1) (lv' := [(6, .int 1), (3, .long 482), (5, .int 7), (0, .ref h0), (1, .int 11), (2, .int x2)]) hx hb dX12_letter_84 hl (k := 1) rfl (by decide) (by decide) rfl (fun ls hl => ?_)
                      refine lv_goto (tgt := 72) hx hb dX12_letter_87 (by decide) ?_
                      refine lv_iload hx hb dX12_letter_72 (lv_at hl 0 rfl) ?_
                      refine lv_iload_n hx hb dX12_letter_74 rfl (lv_at hl 5 rfl) ?_
                      refine lv_icmp_le (tgt := 90) hx hb dX12_letter_75 (by decide) (fun c_75 => ?_) (fun c_75 => ?_)
                      · obtain rfl : x2 = 1 := eq_of c_75 hb_2 (by decide)
                        refine lv_lload_n hx hb dX12_letter_90 rfl (lv_at hl 1 rfl) ?_
                        refine lv_ldc2 hx hb hown (hts (.constantLong RX12 194 (37)) (by decide +kernel)) dX12_letter_91 ?_
                        refine lv_lrem hx hb dX12_letter_94 (by decide) ?_
                        refine my_tl (v := 1) (by decide) ?_
                        refine lv_l2i (v := 1) hx hb dX12_letter_95 (by decide) ?_
                        refine lv_istore (lv' := [(6, .int 1), (3, .long 482), (5, .int 7), (0, .ref h0), (1, .int 11), (2, .int 1)]) hx hb dX12_letter_96 hl (by decide) rfl (fun ls hl => ?_)
                        refine lv_iload hx hb dX12_letter_98 (lv_at hl 0 rfl) ?_
                        refine lv_bipush (v := 27) hx hb dX12_letter_100 (by decide) ?_
                        refine lv_icmp_ge (tgt := 115) hx hb dX12_letter_102 (by decide) (fun c_102 => absurd c_102 (by decide)) (fun c_102 => ?_)
                        refine lv_bipush (v := 97) hx hb dX12_letter_105 (by decide) ?_
                        refine lv_iload hx hb dX12_letter_107 (lv_at hl 0 rfl) ?_
                        refine lv_iadd hx hb dX12_letter_109 ?_
                        refine my_ti (v := 98) (by decide) ?_
                        refine lv_iconst (v := 1) hx hb dX12_letter_110 (by decide) ?_
                        refine lv_isub hx hb dX12_letter_111 ?_
                        refine my_ti (v := 97) (by decide) ?_
                        refine lv_goto (tgt := 123) hx hb dX12_letter_112 (by decide) ?_
                        exact W.iret (v := 97) hx hb hr (fun t ht hW => ⟨⟨97, (), rfl, by decide +kernel, trivial⟩, hS.F ht⟩) hS.2.2 dX12_letter_123
                      · have hb_1 := c_75
                        refine lv_lload_n hx hb dX12_letter_78 rfl (lv_at hl 1 rfl) ?_
                        refine lv_ldc2 hx hb hown (hts (.constantLong RX12 194 (37)) (by decide +kernel)) dX12_letter_79 ?_
                        refine lv_ldiv hx hb dX12_letter_82 (by decide) ?_
                        refine my_tl (v := 13) (by decide) ?_
                        refine lv_lstore_n (lv' := [(3, .long 13), (6, .int 1), (5, .int 7), (0, .ref h0), (1, .int 11), (2, .int x2)]) hx hb dX12_letter_83 rfl hl (by decide) rfl (fun ls hl => ?_)
                        refine lv_iinc (v := 0) (lv' := [(6, .int 0), (3, .long 13), (5, .int 7), (0, .ref h0), (1, .int 11), (2, .int x2)]) hx hb dX12_letter_84 hl (k := 1) rfl (by decide) (by decide) rfl (fun ls hl => ?_)
                        refine lv_goto (tgt := 72) hx hb dX12_letter_87 (by decide) ?_
                        refine lv_iload hx hb dX12_letter_72 (lv_at hl 0 rfl) ?_
                        refine lv_iload_n hx hb dX12_letter_74 rfl (lv_at hl 5 rfl) ?_
                        refine lv_icmp_le (tgt := 90) hx hb dX12_letter_75 (by decide) (fun c_75 => ?_) (fun c_75 => absurd (c_19) c_75)
                        obtain rfl : x2 = 0 := eq_of c_75 hb_1 (by decide)
                        refine lv_lload_n hx hb dX12_letter_90 rfl (lv_at hl 1 rfl) ?_
                        refine lv_ldc2 hx hb hown (hts (.constantLong RX12 194 (37)) (by decide +kernel)) dX12_letter_91 ?_
                        refine lv_lrem hx hb dX12_letter_94 (by decide) ?_
                        refine my_tl (v := 13) (by decide) ?_
                        refine lv_l2i (v := 13) hx hb dX12_letter_95 (by decide) ?_
                        refine lv_istore (lv' := [(6, .int 13), (3, .long 13), (5, .int 7), (0, .ref h0), (1, .int 11), (2, .int 0)]) hx hb dX12_letter_96 hl (by decide) rfl (fun ls hl => ?_)
                        refine lv_iload hx hb dX12_letter_98 (lv_at hl 0 rfl) ?_
                        refine lv_bipush (v := 27) hx hb dX12_letter_100 (by decide) ?_
                        refine lv_icmp_ge (tgt := 115) hx hb dX12_letter_102 (by decide) (fun c_102 => absurd c_102 (by decide)) (fun c_102 => ?_)
                        refine lv_bipush (v := 97) hx hb dX12_letter_105 (by decide) ?_
                        refine lv_iload hx hb dX12_letter_107 (lv_at hl 0 rfl) ?_
                        refine lv_iadd hx hb dX12_letter_109 ?_
                        refine my_ti (v := 110) (by decide) ?_
                        refine lv_iconst (v := 1) hx hb dX12_letter_110 (by decide) ?_
                        refine lv_isub hx hb dX12_letter_111 ?_
                        refine my_ti (v := 109) (by decide) ?_
                        refine lv_goto (tgt := 123) hx hb dX12_letter_112 (by decide) ?_
                        exact W.iret (v := 109) hx hb hr (fun t ht hW => ⟨⟨109, (), rfl, by decide +kernel, trivial⟩, hS.F ht⟩) hS.2.2 dX12_letter_123
          · refine lv_iconst (v := (-1)) hx hb dX12_letter_64 (by decide) ?_
            exact W.iret (v := (-1)) hx hb hr (fun t ht hW => ⟨⟨(-1), (), rfl, lt_hi (Int32.not_lt.mpr c_19) c_61 (by decide +kernel), trivial⟩, hS.F ht⟩) hS.2.2 dX12_letter_65
      · refine lv_iconst (v := (-1)) hx hb dX12_letter_22 (by decide) ?_
        exact W.iret (v := (-1)) hx hb hr (fun t ht hW => ⟨⟨(-1), (), rfl, ltF_out (Or.inr (Or.inr (Or.inl (Int32.not_le.mp c_19)))), trivial⟩, hS.F ht⟩) hS.2.2 dX12_letter_23
