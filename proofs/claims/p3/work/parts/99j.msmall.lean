abbrev cX12_letter : ByteArray := prog_14_method_5_code
def yX12_letter : MethodName := ⟨RX12, "letter", "(II)I"⟩
abbrev cX12_feed : ByteArray := prog_14_method_6_code
def yX12_feed : MethodName := ⟨RX12, "feed", "(IIIII)I"⟩
abbrev cX12_fault : ByteArray := prog_14_method_78_code
def yX12_fault : MethodName := ⟨RX12, "fault", "()I"⟩
abbrev cX12_rule : ByteArray := prog_14_method_84_code
def yX12_rule : MethodName := ⟨RX12, "rule", "(III)Z"⟩
abbrev cX12_entry : ByteArray := prog_14_method_88_code
def yX12_entry : MethodName := ⟨RX12, "entry", "(IIII)Z"⟩
abbrev cX12_look : ByteArray := prog_14_method_134_code
def yX12_look : MethodName := ⟨RX12, "look", "(I)I"⟩
abbrev cX12_answer : ByteArray := prog_14_method_135_code
def yX12_answer : MethodName := ⟨RX12, "answer", "()J"⟩
abbrev cX12_mark : ByteArray := prog_14_method_136_code
def yX12_mark : MethodName := ⟨RX12, "mark", "(I)J"⟩
abbrev cX12_markTongue : ByteArray := prog_14_method_137_code
def yX12_markTongue : MethodName := ⟨RX12, "markTongue", "(I)I"⟩
abbrev cX12_underMany : ByteArray := prog_14_method_138_code
def yX12_underMany : MethodName := ⟨RX12, "underMany", "(I)I"⟩
abbrev cX12_told : ByteArray := prog_14_method_139_code
def yX12_told : MethodName := ⟨RX12, "told", "(II)I"⟩
abbrev cX12_failureAt : ByteArray := prog_14_method_140_code
def yX12_failureAt : MethodName := ⟨RX12, "failureAt", "(I)I"⟩
abbrev cX12_failure : ByteArray := prog_14_method_141_code
def yX12_failure : MethodName := ⟨RX12, "failure", "(II)I"⟩
abbrev cX12_under : ByteArray := prog_14_method_142_code
def yX12_under : MethodName := ⟨RX12, "under", "(III)I"⟩
theorem dX12_letter_0 : decode cX12_letter 0 = .ok (.aload_n 0, 1) := by decide +kernel
theorem dX12_letter_1 : decode cX12_letter 1 = .ok (.iconst 0, 1) := by decide +kernel
theorem dX12_letter_2 : decode cX12_letter 2 = .ok (.putfield 200, 3) := by decide +kernel
theorem dX12_letter_5 : decode cX12_letter 5 = .ok (.iload_n 1, 1) := by decide +kernel
theorem dX12_letter_6 : decode cX12_letter 6 = .ok (.iconst 1, 1) := by decide +kernel
theorem dX12_letter_7 : decode cX12_letter 7 = .ok (.if_icmp .lt 15, 3) := by decide +kernel
theorem dX12_letter_10 : decode cX12_letter 10 = .ok (.iload_n 1, 1) := by decide +kernel
theorem dX12_letter_11 : decode cX12_letter 11 = .ok (.aload_n 0, 1) := by decide +kernel
theorem dX12_letter_12 : decode cX12_letter 12 = .ok (.getfield 178, 3) := by decide +kernel
theorem dX12_letter_15 : decode cX12_letter 15 = .ok (.if_icmp .ge 7, 3) := by decide +kernel
theorem dX12_letter_18 : decode cX12_letter 18 = .ok (.iload_n 2, 1) := by decide +kernel
theorem dX12_letter_19 : decode cX12_letter 19 = .ok (.ifCond .ge 5, 3) := by decide +kernel
theorem dX12_letter_22 : decode cX12_letter 22 = .ok (.iconst (-1), 1) := by decide +kernel
theorem dX12_letter_23 : decode cX12_letter 23 = .ok (.ireturn, 1) := by decide +kernel
theorem dX12_letter_24 : decode cX12_letter 24 = .ok (.aload_n 0, 1) := by decide +kernel
theorem dX12_letter_25 : decode cX12_letter 25 = .ok (.getfield 13, 3) := by decide +kernel
theorem dX12_letter_28 : decode cX12_letter 28 = .ok (.iload_n 1, 1) := by decide +kernel
theorem dX12_letter_29 : decode cX12_letter 29 = .ok (.laload, 1) := by decide +kernel
theorem dX12_letter_30 : decode cX12_letter 30 = .ok (.lstore_n 3, 1) := by decide +kernel
theorem dX12_letter_31 : decode cX12_letter 31 = .ok (.iconst 0, 1) := by decide +kernel
theorem dX12_letter_32 : decode cX12_letter 32 = .ok (.istore 5, 2) := by decide +kernel
theorem dX12_letter_34 : decode cX12_letter 34 = .ok (.lload_n 3, 1) := by decide +kernel
theorem dX12_letter_35 : decode cX12_letter 35 = .ok (.lstore 6, 2) := by decide +kernel
theorem dX12_letter_37 : decode cX12_letter 37 = .ok (.lload 6, 2) := by decide +kernel
theorem dX12_letter_39 : decode cX12_letter 39 = .ok (.lconst 0, 1) := by decide +kernel
theorem dX12_letter_40 : decode cX12_letter 40 = .ok (.lcmp, 1) := by decide +kernel
theorem dX12_letter_41 : decode cX12_letter 41 = .ok (.ifCond .le 17, 3) := by decide +kernel
theorem dX12_letter_44 : decode cX12_letter 44 = .ok (.iinc 5 1, 3) := by decide +kernel
theorem dX12_letter_47 : decode cX12_letter 47 = .ok (.lload 6, 2) := by decide +kernel
theorem dX12_letter_49 : decode cX12_letter 49 = .ok (.ldc2_w 194, 3) := by decide +kernel
theorem dX12_letter_52 : decode cX12_letter 52 = .ok (.ldiv, 1) := by decide +kernel
theorem dX12_letter_53 : decode cX12_letter 53 = .ok (.lstore 6, 2) := by decide +kernel
theorem dX12_letter_55 : decode cX12_letter 55 = .ok (.goto (-18), 3) := by decide +kernel
theorem dX12_letter_58 : decode cX12_letter 58 = .ok (.iload_n 2, 1) := by decide +kernel
theorem dX12_letter_59 : decode cX12_letter 59 = .ok (.iload 5, 2) := by decide +kernel
theorem dX12_letter_61 : decode cX12_letter 61 = .ok (.if_icmp .lt 5, 3) := by decide +kernel
theorem dX12_letter_64 : decode cX12_letter 64 = .ok (.iconst (-1), 1) := by decide +kernel
theorem dX12_letter_65 : decode cX12_letter 65 = .ok (.ireturn, 1) := by decide +kernel
theorem dX12_letter_66 : decode cX12_letter 66 = .ok (.iload 5, 2) := by decide +kernel
theorem dX12_letter_68 : decode cX12_letter 68 = .ok (.iconst 1, 1) := by decide +kernel
theorem dX12_letter_69 : decode cX12_letter 69 = .ok (.isub, 1) := by decide +kernel
theorem dX12_letter_70 : decode cX12_letter 70 = .ok (.istore 6, 2) := by decide +kernel
theorem dX12_letter_72 : decode cX12_letter 72 = .ok (.iload 6, 2) := by decide +kernel
theorem dX12_letter_74 : decode cX12_letter 74 = .ok (.iload_n 2, 1) := by decide +kernel
theorem dX12_letter_75 : decode cX12_letter 75 = .ok (.if_icmp .le 15, 3) := by decide +kernel
theorem dX12_letter_78 : decode cX12_letter 78 = .ok (.lload_n 3, 1) := by decide +kernel
theorem dX12_letter_79 : decode cX12_letter 79 = .ok (.ldc2_w 194, 3) := by decide +kernel
theorem dX12_letter_82 : decode cX12_letter 82 = .ok (.ldiv, 1) := by decide +kernel
theorem dX12_letter_83 : decode cX12_letter 83 = .ok (.lstore_n 3, 1) := by decide +kernel
theorem dX12_letter_84 : decode cX12_letter 84 = .ok (.iinc 6 (-1), 3) := by decide +kernel
theorem dX12_letter_87 : decode cX12_letter 87 = .ok (.goto (-15), 3) := by decide +kernel
theorem dX12_letter_90 : decode cX12_letter 90 = .ok (.lload_n 3, 1) := by decide +kernel
theorem dX12_letter_91 : decode cX12_letter 91 = .ok (.ldc2_w 194, 3) := by decide +kernel
theorem dX12_letter_94 : decode cX12_letter 94 = .ok (.lrem, 1) := by decide +kernel
theorem dX12_letter_95 : decode cX12_letter 95 = .ok (.l2i, 1) := by decide +kernel
theorem dX12_letter_96 : decode cX12_letter 96 = .ok (.istore 6, 2) := by decide +kernel
theorem dX12_letter_98 : decode cX12_letter 98 = .ok (.iload 6, 2) := by decide +kernel
theorem dX12_letter_100 : decode cX12_letter 100 = .ok (.bipush 27, 2) := by decide +kernel
theorem dX12_letter_102 : decode cX12_letter 102 = .ok (.if_icmp .ge 13, 3) := by decide +kernel
theorem dX12_letter_105 : decode cX12_letter 105 = .ok (.bipush 97, 2) := by decide +kernel
theorem dX12_letter_107 : decode cX12_letter 107 = .ok (.iload 6, 2) := by decide +kernel
theorem dX12_letter_109 : decode cX12_letter 109 = .ok (.iadd, 1) := by decide +kernel
theorem dX12_letter_110 : decode cX12_letter 110 = .ok (.iconst 1, 1) := by decide +kernel
theorem dX12_letter_111 : decode cX12_letter 111 = .ok (.isub, 1) := by decide +kernel
theorem dX12_letter_112 : decode cX12_letter 112 = .ok (.goto 11, 3) := by decide +kernel
theorem dX12_letter_115 : decode cX12_letter 115 = .ok (.bipush 48, 2) := by decide +kernel
theorem dX12_letter_117 : decode cX12_letter 117 = .ok (.iload 6, 2) := by decide +kernel
theorem dX12_letter_119 : decode cX12_letter 119 = .ok (.iadd, 1) := by decide +kernel
theorem dX12_letter_120 : decode cX12_letter 120 = .ok (.bipush 27, 2) := by decide +kernel
theorem dX12_letter_122 : decode cX12_letter 122 = .ok (.isub, 1) := by decide +kernel
theorem dX12_letter_123 : decode cX12_letter 123 = .ok (.ireturn, 1) := by decide +kernel
theorem dX12_feed_0 : decode cX12_feed 0 = .ok (.aload_n 0, 1) := by decide +kernel
theorem dX12_feed_1 : decode cX12_feed 1 = .ok (.iconst 0, 1) := by decide +kernel
theorem dX12_feed_2 : decode cX12_feed 2 = .ok (.putfield 200, 3) := by decide +kernel
theorem dX12_feed_5 : decode cX12_feed 5 = .ok (.aload_n 0, 1) := by decide +kernel
theorem dX12_feed_6 : decode cX12_feed 6 = .ok (.getfield 203, 3) := by decide +kernel
theorem dX12_feed_9 : decode cX12_feed 9 = .ok (.sipush 2980, 3) := by decide +kernel
theorem dX12_feed_12 : decode cX12_feed 12 = .ok (.if_icmp .le 5, 3) := by decide +kernel
theorem dX12_feed_15 : decode cX12_feed 15 = .ok (.iconst (-1), 1) := by decide +kernel
theorem dX12_feed_16 : decode cX12_feed 16 = .ok (.ireturn, 1) := by decide +kernel
theorem dX12_feed_17 : decode cX12_feed 17 = .ok (.iconst 0, 1) := by decide +kernel
theorem dX12_feed_18 : decode cX12_feed 18 = .ok (.istore 6, 2) := by decide +kernel
theorem dX12_feed_20 : decode cX12_feed 20 = .ok (.iload 6, 2) := by decide +kernel
theorem dX12_feed_22 : decode cX12_feed 22 = .ok (.bipush 20, 2) := by decide +kernel
theorem dX12_feed_24 : decode cX12_feed 24 = .ok (.if_icmp .ge 86, 3) := by decide +kernel
theorem dX12_feed_27 : decode cX12_feed 27 = .ok (.iload 6, 2) := by decide +kernel
theorem dX12_feed_29 : decode cX12_feed 29 = .ok (.iconst 4, 1) := by decide +kernel
theorem dX12_feed_30 : decode cX12_feed 30 = .ok (.if_icmp .ge 7, 3) := by decide +kernel
theorem dX12_feed_33 : decode cX12_feed 33 = .ok (.iload_n 1, 1) := by decide +kernel
theorem dX12_feed_34 : decode cX12_feed 34 = .ok (.goto 39, 3) := by decide +kernel
theorem dX12_feed_37 : decode cX12_feed 37 = .ok (.iload 6, 2) := by decide +kernel
theorem dX12_feed_39 : decode cX12_feed 39 = .ok (.bipush 8, 2) := by decide +kernel
theorem dX12_feed_41 : decode cX12_feed 41 = .ok (.if_icmp .ge 7, 3) := by decide +kernel
theorem dX12_feed_44 : decode cX12_feed 44 = .ok (.iload_n 2, 1) := by decide +kernel
theorem dX12_feed_45 : decode cX12_feed 45 = .ok (.goto 28, 3) := by decide +kernel
theorem dX12_feed_48 : decode cX12_feed 48 = .ok (.iload 6, 2) := by decide +kernel
theorem dX12_feed_50 : decode cX12_feed 50 = .ok (.bipush 12, 2) := by decide +kernel
theorem dX12_feed_52 : decode cX12_feed 52 = .ok (.if_icmp .ge 7, 3) := by decide +kernel
theorem dX12_feed_55 : decode cX12_feed 55 = .ok (.iload_n 3, 1) := by decide +kernel
theorem dX12_feed_56 : decode cX12_feed 56 = .ok (.goto 17, 3) := by decide +kernel
theorem dX12_feed_59 : decode cX12_feed 59 = .ok (.iload 6, 2) := by decide +kernel
theorem dX12_feed_61 : decode cX12_feed 61 = .ok (.bipush 16, 2) := by decide +kernel
theorem dX12_feed_63 : decode cX12_feed 63 = .ok (.if_icmp .ge 8, 3) := by decide +kernel
theorem dX12_feed_66 : decode cX12_feed 66 = .ok (.iload 4, 2) := by decide +kernel
theorem dX12_feed_68 : decode cX12_feed 68 = .ok (.goto 5, 3) := by decide +kernel
theorem dX12_feed_71 : decode cX12_feed 71 = .ok (.iload 5, 2) := by decide +kernel
theorem dX12_feed_73 : decode cX12_feed 73 = .ok (.istore 7, 2) := by decide +kernel
theorem dX12_feed_75 : decode cX12_feed 75 = .ok (.aload_n 0, 1) := by decide +kernel
theorem dX12_feed_76 : decode cX12_feed 76 = .ok (.getfield 7, 3) := by decide +kernel
theorem dX12_feed_79 : decode cX12_feed 79 = .ok (.aload_n 0, 1) := by decide +kernel
theorem dX12_feed_80 : decode cX12_feed 80 = .ok (.getfield 203, 3) := by decide +kernel
theorem dX12_feed_83 : decode cX12_feed 83 = .ok (.iload 6, 2) := by decide +kernel
theorem dX12_feed_85 : decode cX12_feed 85 = .ok (.iadd, 1) := by decide +kernel
theorem dX12_feed_86 : decode cX12_feed 86 = .ok (.iload 7, 2) := by decide +kernel
theorem dX12_feed_88 : decode cX12_feed 88 = .ok (.bipush 24, 2) := by decide +kernel
theorem dX12_feed_90 : decode cX12_feed 90 = .ok (.bipush 8, 2) := by decide +kernel
theorem dX12_feed_92 : decode cX12_feed 92 = .ok (.iload 6, 2) := by decide +kernel
theorem dX12_feed_94 : decode cX12_feed 94 = .ok (.iconst 4, 1) := by decide +kernel
theorem dX12_feed_95 : decode cX12_feed 95 = .ok (.irem, 1) := by decide +kernel
theorem dX12_feed_96 : decode cX12_feed 96 = .ok (.imul, 1) := by decide +kernel
theorem dX12_feed_97 : decode cX12_feed 97 = .ok (.isub, 1) := by decide +kernel
theorem dX12_feed_98 : decode cX12_feed 98 = .ok (.ishr, 1) := by decide +kernel
theorem dX12_feed_99 : decode cX12_feed 99 = .ok (.sipush 255, 3) := by decide +kernel
theorem dX12_feed_102 : decode cX12_feed 102 = .ok (.iand, 1) := by decide +kernel
theorem dX12_feed_103 : decode cX12_feed 103 = .ok (.iastore, 1) := by decide +kernel
theorem dX12_feed_104 : decode cX12_feed 104 = .ok (.iinc 6 1, 3) := by decide +kernel
theorem dX12_feed_107 : decode cX12_feed 107 = .ok (.goto (-87), 3) := by decide +kernel
theorem dX12_feed_110 : decode cX12_feed 110 = .ok (.aload_n 0, 1) := by decide +kernel
theorem dX12_feed_111 : decode cX12_feed 111 = .ok (.dup, 1) := by decide +kernel
theorem dX12_feed_112 : decode cX12_feed 112 = .ok (.getfield 203, 3) := by decide +kernel
theorem dX12_feed_115 : decode cX12_feed 115 = .ok (.bipush 20, 2) := by decide +kernel
theorem dX12_feed_117 : decode cX12_feed 117 = .ok (.iadd, 1) := by decide +kernel
theorem dX12_feed_118 : decode cX12_feed 118 = .ok (.putfield 203, 3) := by decide +kernel
theorem dX12_feed_121 : decode cX12_feed 121 = .ok (.aload_n 0, 1) := by decide +kernel
theorem dX12_feed_122 : decode cX12_feed 122 = .ok (.getfield 203, 3) := by decide +kernel
theorem dX12_feed_125 : decode cX12_feed 125 = .ok (.ireturn, 1) := by decide +kernel
theorem dX12_fault_0 : decode cX12_fault 0 = .ok (.aload_n 0, 1) := by decide +kernel
theorem dX12_fault_1 : decode cX12_fault 1 = .ok (.iconst 0, 1) := by decide +kernel
theorem dX12_fault_2 : decode cX12_fault 2 = .ok (.putfield 200, 3) := by decide +kernel
theorem dX12_fault_5 : decode cX12_fault 5 = .ok (.aload_n 0, 1) := by decide +kernel
theorem dX12_fault_6 : decode cX12_fault 6 = .ok (.getfield 521, 3) := by decide +kernel
theorem dX12_fault_9 : decode cX12_fault 9 = .ok (.ireturn, 1) := by decide +kernel
theorem dX12_rule_0 : decode cX12_rule 0 = .ok (.aload_n 0, 1) := by decide +kernel
theorem dX12_rule_1 : decode cX12_rule 1 = .ok (.iconst 0, 1) := by decide +kernel
theorem dX12_rule_2 : decode cX12_rule 2 = .ok (.putfield 200, 3) := by decide +kernel
theorem dX12_rule_5 : decode cX12_rule 5 = .ok (.iload_n 1, 1) := by decide +kernel
theorem dX12_rule_6 : decode cX12_rule 6 = .ok (.ifCond .lt 31, 3) := by decide +kernel
theorem dX12_rule_9 : decode cX12_rule 9 = .ok (.iload_n 1, 1) := by decide +kernel
theorem dX12_rule_10 : decode cX12_rule 10 = .ok (.iconst 3, 1) := by decide +kernel
theorem dX12_rule_11 : decode cX12_rule 11 = .ok (.if_icmp .gt 26, 3) := by decide +kernel
theorem dX12_rule_14 : decode cX12_rule 14 = .ok (.iload_n 2, 1) := by decide +kernel
theorem dX12_rule_15 : decode cX12_rule 15 = .ok (.ifCond .lt 22, 3) := by decide +kernel
theorem dX12_rule_18 : decode cX12_rule 18 = .ok (.iload_n 2, 1) := by decide +kernel
theorem dX12_rule_19 : decode cX12_rule 19 = .ok (.iconst 3, 1) := by decide +kernel
theorem dX12_rule_20 : decode cX12_rule 20 = .ok (.if_icmp .gt 17, 3) := by decide +kernel
theorem dX12_rule_23 : decode cX12_rule 23 = .ok (.iload_n 1, 1) := by decide +kernel
theorem dX12_rule_24 : decode cX12_rule 24 = .ok (.iload_n 2, 1) := by decide +kernel
theorem dX12_rule_25 : decode cX12_rule 25 = .ok (.if_icmp .eq 12, 3) := by decide +kernel
theorem dX12_rule_28 : decode cX12_rule 28 = .ok (.iload_n 3, 1) := by decide +kernel
theorem dX12_rule_29 : decode cX12_rule 29 = .ok (.ifCond .lt 8, 3) := by decide +kernel
theorem dX12_rule_32 : decode cX12_rule 32 = .ok (.iload_n 3, 1) := by decide +kernel
theorem dX12_rule_33 : decode cX12_rule 33 = .ok (.iconst 2, 1) := by decide +kernel
theorem dX12_rule_34 : decode cX12_rule 34 = .ok (.if_icmp .le 5, 3) := by decide +kernel
theorem dX12_rule_37 : decode cX12_rule 37 = .ok (.iconst 0, 1) := by decide +kernel
theorem dX12_rule_38 : decode cX12_rule 38 = .ok (.ireturn, 1) := by decide +kernel
theorem dX12_rule_39 : decode cX12_rule 39 = .ok (.aload_n 0, 1) := by decide +kernel
theorem dX12_rule_40 : decode cX12_rule 40 = .ok (.getfield 163, 3) := by decide +kernel
theorem dX12_rule_43 : decode cX12_rule 43 = .ok (.iconst 4, 1) := by decide +kernel
theorem dX12_rule_44 : decode cX12_rule 44 = .ok (.iload_n 1, 1) := by decide +kernel
theorem dX12_rule_45 : decode cX12_rule 45 = .ok (.imul, 1) := by decide +kernel
theorem dX12_rule_46 : decode cX12_rule 46 = .ok (.iload_n 2, 1) := by decide +kernel
theorem dX12_rule_47 : decode cX12_rule 47 = .ok (.iadd, 1) := by decide +kernel
theorem dX12_rule_48 : decode cX12_rule 48 = .ok (.iload_n 3, 1) := by decide +kernel
theorem dX12_rule_49 : decode cX12_rule 49 = .ok (.iastore, 1) := by decide +kernel
theorem dX12_rule_50 : decode cX12_rule 50 = .ok (.iconst 1, 1) := by decide +kernel
theorem dX12_rule_51 : decode cX12_rule 51 = .ok (.ireturn, 1) := by decide +kernel
theorem dX12_entry_0 : decode cX12_entry 0 = .ok (.aload_n 0, 1) := by decide +kernel
theorem dX12_entry_1 : decode cX12_entry 1 = .ok (.iconst 0, 1) := by decide +kernel
theorem dX12_entry_2 : decode cX12_entry 2 = .ok (.putfield 200, 3) := by decide +kernel
theorem dX12_entry_5 : decode cX12_entry 5 = .ok (.iload_n 1, 1) := by decide +kernel
theorem dX12_entry_6 : decode cX12_entry 6 = .ok (.ifCond .lt 32, 3) := by decide +kernel
theorem dX12_entry_9 : decode cX12_entry 9 = .ok (.iload_n 1, 1) := by decide +kernel
theorem dX12_entry_10 : decode cX12_entry 10 = .ok (.iconst 3, 1) := by decide +kernel
theorem dX12_entry_11 : decode cX12_entry 11 = .ok (.if_icmp .gt 27, 3) := by decide +kernel
theorem dX12_entry_14 : decode cX12_entry 14 = .ok (.iload_n 2, 1) := by decide +kernel
theorem dX12_entry_15 : decode cX12_entry 15 = .ok (.ifCond .lt 23, 3) := by decide +kernel
theorem dX12_entry_18 : decode cX12_entry 18 = .ok (.iload_n 2, 1) := by decide +kernel
theorem dX12_entry_19 : decode cX12_entry 19 = .ok (.iconst 3, 1) := by decide +kernel
theorem dX12_entry_20 : decode cX12_entry 20 = .ok (.if_icmp .gt 18, 3) := by decide +kernel
theorem dX12_entry_23 : decode cX12_entry 23 = .ok (.iload_n 1, 1) := by decide +kernel
theorem dX12_entry_24 : decode cX12_entry 24 = .ok (.iload_n 2, 1) := by decide +kernel
theorem dX12_entry_25 : decode cX12_entry 25 = .ok (.if_icmp .eq 13, 3) := by decide +kernel
theorem dX12_entry_28 : decode cX12_entry 28 = .ok (.aload_n 0, 1) := by decide +kernel
theorem dX12_entry_29 : decode cX12_entry 29 = .ok (.iload_n 2, 1) := by decide +kernel
theorem dX12_entry_30 : decode cX12_entry 30 = .ok (.iload 4, 2) := by decide +kernel
theorem dX12_entry_32 : decode cX12_entry 32 = .ok (.invokevirtual 567, 3) := by decide +kernel
theorem dX12_entry_35 : decode cX12_entry 35 = .ok (.ifCond .ne 5, 3) := by decide +kernel
theorem dX12_entry_38 : decode cX12_entry 38 = .ok (.iconst 0, 1) := by decide +kernel
theorem dX12_entry_39 : decode cX12_entry 39 = .ok (.ireturn, 1) := by decide +kernel
theorem dX12_entry_40 : decode cX12_entry 40 = .ok (.iconst 4, 1) := by decide +kernel
theorem dX12_entry_41 : decode cX12_entry 41 = .ok (.iload_n 1, 1) := by decide +kernel
theorem dX12_entry_42 : decode cX12_entry 42 = .ok (.imul, 1) := by decide +kernel
theorem dX12_entry_43 : decode cX12_entry 43 = .ok (.iload_n 2, 1) := by decide +kernel
theorem dX12_entry_44 : decode cX12_entry 44 = .ok (.iadd, 1) := by decide +kernel
theorem dX12_entry_45 : decode cX12_entry 45 = .ok (.istore 5, 2) := by decide +kernel
theorem dX12_entry_47 : decode cX12_entry 47 = .ok (.iload_n 3, 1) := by decide +kernel
theorem dX12_entry_48 : decode cX12_entry 48 = .ok (.ifCond .ne 14, 3) := by decide +kernel
theorem dX12_entry_51 : decode cX12_entry 51 = .ok (.aload_n 0, 1) := by decide +kernel
theorem dX12_entry_52 : decode cX12_entry 52 = .ok (.getfield 175, 3) := by decide +kernel
theorem dX12_entry_55 : decode cX12_entry 55 = .ok (.iload 5, 2) := by decide +kernel
theorem dX12_entry_57 : decode cX12_entry 57 = .ok (.iload 4, 2) := by decide +kernel
theorem dX12_entry_59 : decode cX12_entry 59 = .ok (.iastore, 1) := by decide +kernel
theorem dX12_entry_60 : decode cX12_entry 60 = .ok (.iconst 1, 1) := by decide +kernel
theorem dX12_entry_61 : decode cX12_entry 61 = .ok (.ireturn, 1) := by decide +kernel
theorem dX12_entry_62 : decode cX12_entry 62 = .ok (.aload_n 0, 1) := by decide +kernel
theorem dX12_entry_63 : decode cX12_entry 63 = .ok (.iload_n 1, 1) := by decide +kernel
theorem dX12_entry_64 : decode cX12_entry 64 = .ok (.iload_n 3, 1) := by decide +kernel
theorem dX12_entry_65 : decode cX12_entry 65 = .ok (.invokevirtual 567, 3) := by decide +kernel
theorem dX12_entry_68 : decode cX12_entry 68 = .ok (.ifCond .ne 5, 3) := by decide +kernel
theorem dX12_entry_71 : decode cX12_entry 71 = .ok (.iconst 0, 1) := by decide +kernel
theorem dX12_entry_72 : decode cX12_entry 72 = .ok (.ireturn, 1) := by decide +kernel
theorem dX12_entry_73 : decode cX12_entry 73 = .ok (.aload_n 0, 1) := by decide +kernel
theorem dX12_entry_74 : decode cX12_entry 74 = .ok (.iload 5, 2) := by decide +kernel
theorem dX12_entry_76 : decode cX12_entry 76 = .ok (.iload_n 3, 1) := by decide +kernel
theorem dX12_entry_77 : decode cX12_entry 77 = .ok (.invokevirtual 570, 3) := by decide +kernel
theorem dX12_entry_80 : decode cX12_entry 80 = .ok (.istore 6, 2) := by decide +kernel
theorem dX12_entry_82 : decode cX12_entry 82 = .ok (.iload 6, 2) := by decide +kernel
theorem dX12_entry_84 : decode cX12_entry 84 = .ok (.iconst (-1), 1) := by decide +kernel
theorem dX12_entry_85 : decode cX12_entry 85 = .ok (.if_icmp .ne 47, 3) := by decide +kernel
theorem dX12_entry_88 : decode cX12_entry 88 = .ok (.aload_n 0, 1) := by decide +kernel
theorem dX12_entry_89 : decode cX12_entry 89 = .ok (.getfield 564, 3) := by decide +kernel
theorem dX12_entry_92 : decode cX12_entry 92 = .ok (.bipush 100, 2) := by decide +kernel
theorem dX12_entry_94 : decode cX12_entry 94 = .ok (.if_icmp .ne 5, 3) := by decide +kernel
theorem dX12_entry_97 : decode cX12_entry 97 = .ok (.iconst 0, 1) := by decide +kernel
theorem dX12_entry_98 : decode cX12_entry 98 = .ok (.ireturn, 1) := by decide +kernel
theorem dX12_entry_99 : decode cX12_entry 99 = .ok (.aload_n 0, 1) := by decide +kernel
theorem dX12_entry_100 : decode cX12_entry 100 = .ok (.getfield 564, 3) := by decide +kernel
theorem dX12_entry_103 : decode cX12_entry 103 = .ok (.istore 6, 2) := by decide +kernel
theorem dX12_entry_105 : decode cX12_entry 105 = .ok (.aload_n 0, 1) := by decide +kernel
theorem dX12_entry_106 : decode cX12_entry 106 = .ok (.dup, 1) := by decide +kernel
theorem dX12_entry_107 : decode cX12_entry 107 = .ok (.getfield 564, 3) := by decide +kernel
theorem dX12_entry_110 : decode cX12_entry 110 = .ok (.iconst 1, 1) := by decide +kernel
theorem dX12_entry_111 : decode cX12_entry 111 = .ok (.iadd, 1) := by decide +kernel
theorem dX12_entry_112 : decode cX12_entry 112 = .ok (.putfield 564, 3) := by decide +kernel
theorem dX12_entry_115 : decode cX12_entry 115 = .ok (.aload_n 0, 1) := by decide +kernel
theorem dX12_entry_116 : decode cX12_entry 116 = .ok (.getfield 166, 3) := by decide +kernel
theorem dX12_entry_119 : decode cX12_entry 119 = .ok (.iload 6, 2) := by decide +kernel
theorem dX12_entry_121 : decode cX12_entry 121 = .ok (.iload 5, 2) := by decide +kernel
theorem dX12_entry_123 : decode cX12_entry 123 = .ok (.iastore, 1) := by decide +kernel
theorem dX12_entry_124 : decode cX12_entry 124 = .ok (.aload_n 0, 1) := by decide +kernel
theorem dX12_entry_125 : decode cX12_entry 125 = .ok (.getfield 169, 3) := by decide +kernel
theorem dX12_entry_128 : decode cX12_entry 128 = .ok (.iload 6, 2) := by decide +kernel
theorem dX12_entry_130 : decode cX12_entry 130 = .ok (.iload_n 3, 1) := by decide +kernel
theorem dX12_entry_131 : decode cX12_entry 131 = .ok (.iastore, 1) := by decide +kernel
theorem dX12_entry_132 : decode cX12_entry 132 = .ok (.aload_n 0, 1) := by decide +kernel
theorem dX12_entry_133 : decode cX12_entry 133 = .ok (.getfield 172, 3) := by decide +kernel
theorem dX12_entry_136 : decode cX12_entry 136 = .ok (.iload 6, 2) := by decide +kernel
theorem dX12_entry_138 : decode cX12_entry 138 = .ok (.iload 4, 2) := by decide +kernel
theorem dX12_entry_140 : decode cX12_entry 140 = .ok (.iastore, 1) := by decide +kernel
theorem dX12_entry_141 : decode cX12_entry 141 = .ok (.iconst 1, 1) := by decide +kernel
theorem dX12_entry_142 : decode cX12_entry 142 = .ok (.ireturn, 1) := by decide +kernel
theorem dX12_look_0 : decode cX12_look 0 = .ok (.aload_n 0, 1) := by decide +kernel
theorem dX12_look_1 : decode cX12_look 1 = .ok (.iconst 0, 1) := by decide +kernel
theorem dX12_look_2 : decode cX12_look 2 = .ok (.putfield 200, 3) := by decide +kernel
theorem dX12_look_5 : decode cX12_look 5 = .ok (.iload_n 1, 1) := by decide +kernel
theorem dX12_look_6 : decode cX12_look 6 = .ok (.ifCond .lt 18, 3) := by decide +kernel
theorem dX12_look_9 : decode cX12_look 9 = .ok (.iload_n 1, 1) := by decide +kernel
theorem dX12_look_10 : decode cX12_look 10 = .ok (.bipush 8, 2) := by decide +kernel
theorem dX12_look_12 : decode cX12_look 12 = .ok (.if_icmp .ge 12, 3) := by decide +kernel
theorem dX12_look_15 : decode cX12_look 15 = .ok (.aload_n 0, 1) := by decide +kernel
theorem dX12_look_16 : decode cX12_look 16 = .ok (.getfield 786, 3) := by decide +kernel
theorem dX12_look_19 : decode cX12_look 19 = .ok (.ifCond .ne 5, 3) := by decide +kernel
theorem dX12_look_22 : decode cX12_look 22 = .ok (.iconst 0, 1) := by decide +kernel
theorem dX12_look_23 : decode cX12_look 23 = .ok (.ireturn, 1) := by decide +kernel
theorem dX12_look_24 : decode cX12_look 24 = .ok (.iload_n 1, 1) := by decide +kernel
theorem dX12_look_25 : decode cX12_look 25 = .ok (.tableswitch 116 0 10 #[59, 64, 69, 74, 79, 84, 89, 94, 99, 104, 109], 59) := by decide +kernel
theorem dX12_look_84 : decode cX12_look 84 = .ok (.aload_n 0, 1) := by decide +kernel
theorem dX12_look_85 : decode cX12_look 85 = .ok (.getfield 590, 3) := by decide +kernel
theorem dX12_look_88 : decode cX12_look 88 = .ok (.ireturn, 1) := by decide +kernel
theorem dX12_look_89 : decode cX12_look 89 = .ok (.aload_n 0, 1) := by decide +kernel
theorem dX12_look_90 : decode cX12_look 90 = .ok (.getfield 657, 3) := by decide +kernel
theorem dX12_look_93 : decode cX12_look 93 = .ok (.ireturn, 1) := by decide +kernel
theorem dX12_look_94 : decode cX12_look 94 = .ok (.aload_n 0, 1) := by decide +kernel
theorem dX12_look_95 : decode cX12_look 95 = .ok (.getfield 583, 3) := by decide +kernel
theorem dX12_look_98 : decode cX12_look 98 = .ok (.ireturn, 1) := by decide +kernel
theorem dX12_look_99 : decode cX12_look 99 = .ok (.aload_n 0, 1) := by decide +kernel
theorem dX12_look_100 : decode cX12_look 100 = .ok (.getfield 708, 3) := by decide +kernel
theorem dX12_look_103 : decode cX12_look 103 = .ok (.ireturn, 1) := by decide +kernel
theorem dX12_look_104 : decode cX12_look 104 = .ok (.aload_n 0, 1) := by decide +kernel
theorem dX12_look_105 : decode cX12_look 105 = .ok (.getfield 699, 3) := by decide +kernel
theorem dX12_look_108 : decode cX12_look 108 = .ok (.ireturn, 1) := by decide +kernel
theorem dX12_look_109 : decode cX12_look 109 = .ok (.aload_n 0, 1) := by decide +kernel
theorem dX12_look_110 : decode cX12_look 110 = .ok (.getfield 757, 3) := by decide +kernel
theorem dX12_look_113 : decode cX12_look 113 = .ok (.ireturn, 1) := by decide +kernel
theorem dX12_look_114 : decode cX12_look 114 = .ok (.aload_n 0, 1) := by decide +kernel
theorem dX12_look_115 : decode cX12_look 115 = .ok (.getfield 681, 3) := by decide +kernel
theorem dX12_look_118 : decode cX12_look 118 = .ok (.ireturn, 1) := by decide +kernel
theorem dX12_look_119 : decode cX12_look 119 = .ok (.aload_n 0, 1) := by decide +kernel
theorem dX12_look_120 : decode cX12_look 120 = .ok (.getfield 763, 3) := by decide +kernel
theorem dX12_look_123 : decode cX12_look 123 = .ok (.ireturn, 1) := by decide +kernel
theorem dX12_look_124 : decode cX12_look 124 = .ok (.aload_n 0, 1) := by decide +kernel
theorem dX12_look_125 : decode cX12_look 125 = .ok (.getfield 586, 3) := by decide +kernel
theorem dX12_look_128 : decode cX12_look 128 = .ok (.ireturn, 1) := by decide +kernel
theorem dX12_look_129 : decode cX12_look 129 = .ok (.aload_n 0, 1) := by decide +kernel
theorem dX12_look_130 : decode cX12_look 130 = .ok (.getfield 626, 3) := by decide +kernel
theorem dX12_look_133 : decode cX12_look 133 = .ok (.ireturn, 1) := by decide +kernel
theorem dX12_look_134 : decode cX12_look 134 = .ok (.aload_n 0, 1) := by decide +kernel
theorem dX12_look_135 : decode cX12_look 135 = .ok (.getfield 178, 3) := by decide +kernel
theorem dX12_look_138 : decode cX12_look 138 = .ok (.iconst 1, 1) := by decide +kernel
theorem dX12_look_139 : decode cX12_look 139 = .ok (.isub, 1) := by decide +kernel
theorem dX12_look_140 : decode cX12_look 140 = .ok (.ireturn, 1) := by decide +kernel
theorem dX12_look_141 : decode cX12_look 141 = .ok (.iconst (-1), 1) := by decide +kernel
theorem dX12_look_142 : decode cX12_look 142 = .ok (.ireturn, 1) := by decide +kernel
theorem dX12_answer_0 : decode cX12_answer 0 = .ok (.aload_n 0, 1) := by decide +kernel
theorem dX12_answer_1 : decode cX12_answer 1 = .ok (.iconst 0, 1) := by decide +kernel
theorem dX12_answer_2 : decode cX12_answer 2 = .ok (.putfield 200, 3) := by decide +kernel
theorem dX12_answer_5 : decode cX12_answer 5 = .ok (.aload_n 0, 1) := by decide +kernel
theorem dX12_answer_6 : decode cX12_answer 6 = .ok (.getfield 657, 3) := by decide +kernel
theorem dX12_answer_9 : decode cX12_answer 9 = .ok (.iconst 2, 1) := by decide +kernel
theorem dX12_answer_10 : decode cX12_answer 10 = .ok (.if_icmp .ne 17, 3) := by decide +kernel
theorem dX12_answer_13 : decode cX12_answer 13 = .ok (.aload_n 0, 1) := by decide +kernel
theorem dX12_answer_14 : decode cX12_answer 14 = .ok (.getfield 112, 3) := by decide +kernel
theorem dX12_answer_17 : decode cX12_answer 17 = .ok (.aload_n 0, 1) := by decide +kernel
theorem dX12_answer_18 : decode cX12_answer 18 = .ok (.getfield 660, 3) := by decide +kernel
theorem dX12_answer_21 : decode cX12_answer 21 = .ok (.l2i, 1) := by decide +kernel
theorem dX12_answer_22 : decode cX12_answer 22 = .ok (.iaload, 1) := by decide +kernel
theorem dX12_answer_23 : decode cX12_answer 23 = .ok (.i2l, 1) := by decide +kernel
theorem dX12_answer_24 : decode cX12_answer 24 = .ok (.goto 18, 3) := by decide +kernel
theorem dX12_answer_27 : decode cX12_answer 27 = .ok (.aload_n 0, 1) := by decide +kernel
theorem dX12_answer_28 : decode cX12_answer 28 = .ok (.getfield 657, 3) := by decide +kernel
theorem dX12_answer_31 : decode cX12_answer 31 = .ok (.ifCond .ne 7, 3) := by decide +kernel
theorem dX12_answer_34 : decode cX12_answer 34 = .ok (.lconst 0, 1) := by decide +kernel
theorem dX12_answer_35 : decode cX12_answer 35 = .ok (.goto 7, 3) := by decide +kernel
theorem dX12_answer_38 : decode cX12_answer 38 = .ok (.aload_n 0, 1) := by decide +kernel
theorem dX12_answer_39 : decode cX12_answer 39 = .ok (.getfield 660, 3) := by decide +kernel
theorem dX12_answer_42 : decode cX12_answer 42 = .ok (.lreturn, 1) := by decide +kernel
theorem dX12_mark_0 : decode cX12_mark 0 = .ok (.aload_n 0, 1) := by decide +kernel
theorem dX12_mark_1 : decode cX12_mark 1 = .ok (.iconst 0, 1) := by decide +kernel
theorem dX12_mark_2 : decode cX12_mark 2 = .ok (.putfield 200, 3) := by decide +kernel
theorem dX12_mark_5 : decode cX12_mark 5 = .ok (.iload_n 1, 1) := by decide +kernel
theorem dX12_mark_6 : decode cX12_mark 6 = .ok (.ifCond .lt 18, 3) := by decide +kernel
theorem dX12_mark_9 : decode cX12_mark 9 = .ok (.iload_n 1, 1) := by decide +kernel
theorem dX12_mark_10 : decode cX12_mark 10 = .ok (.aload_n 0, 1) := by decide +kernel
theorem dX12_mark_11 : decode cX12_mark 11 = .ok (.getfield 708, 3) := by decide +kernel
theorem dX12_mark_14 : decode cX12_mark 14 = .ok (.if_icmp .ge 10, 3) := by decide +kernel
theorem dX12_mark_17 : decode cX12_mark 17 = .ok (.iload_n 1, 1) := by decide +kernel
theorem dX12_mark_18 : decode cX12_mark 18 = .ok (.sipush 200, 3) := by decide +kernel
theorem dX12_mark_21 : decode cX12_mark 21 = .ok (.if_icmp .lt 7, 3) := by decide +kernel
theorem dX12_mark_24 : decode cX12_mark 24 = .ok (.lconst 0, 1) := by decide +kernel
theorem dX12_mark_25 : decode cX12_mark 25 = .ok (.goto 9, 3) := by decide +kernel
theorem dX12_mark_28 : decode cX12_mark 28 = .ok (.aload_n 0, 1) := by decide +kernel
theorem dX12_mark_29 : decode cX12_mark 29 = .ok (.getfield 157, 3) := by decide +kernel
theorem dX12_mark_32 : decode cX12_mark 32 = .ok (.iload_n 1, 1) := by decide +kernel
theorem dX12_mark_33 : decode cX12_mark 33 = .ok (.laload, 1) := by decide +kernel
theorem dX12_mark_34 : decode cX12_mark 34 = .ok (.lreturn, 1) := by decide +kernel
theorem dX12_markTongue_0 : decode cX12_markTongue 0 = .ok (.aload_n 0, 1) := by decide +kernel
theorem dX12_markTongue_1 : decode cX12_markTongue 1 = .ok (.iconst 0, 1) := by decide +kernel
theorem dX12_markTongue_2 : decode cX12_markTongue 2 = .ok (.putfield 200, 3) := by decide +kernel
theorem dX12_markTongue_5 : decode cX12_markTongue 5 = .ok (.iload_n 1, 1) := by decide +kernel
theorem dX12_markTongue_6 : decode cX12_markTongue 6 = .ok (.ifCond .lt 18, 3) := by decide +kernel
theorem dX12_markTongue_9 : decode cX12_markTongue 9 = .ok (.iload_n 1, 1) := by decide +kernel
theorem dX12_markTongue_10 : decode cX12_markTongue 10 = .ok (.aload_n 0, 1) := by decide +kernel
theorem dX12_markTongue_11 : decode cX12_markTongue 11 = .ok (.getfield 708, 3) := by decide +kernel
theorem dX12_markTongue_14 : decode cX12_markTongue 14 = .ok (.if_icmp .ge 10, 3) := by decide +kernel
theorem dX12_markTongue_17 : decode cX12_markTongue 17 = .ok (.iload_n 1, 1) := by decide +kernel
theorem dX12_markTongue_18 : decode cX12_markTongue 18 = .ok (.sipush 200, 3) := by decide +kernel
theorem dX12_markTongue_21 : decode cX12_markTongue 21 = .ok (.if_icmp .lt 7, 3) := by decide +kernel
theorem dX12_markTongue_24 : decode cX12_markTongue 24 = .ok (.iconst (-1), 1) := by decide +kernel
theorem dX12_markTongue_25 : decode cX12_markTongue 25 = .ok (.goto 9, 3) := by decide +kernel
theorem dX12_markTongue_28 : decode cX12_markTongue 28 = .ok (.aload_n 0, 1) := by decide +kernel
theorem dX12_markTongue_29 : decode cX12_markTongue 29 = .ok (.getfield 160, 3) := by decide +kernel
theorem dX12_markTongue_32 : decode cX12_markTongue 32 = .ok (.iload_n 1, 1) := by decide +kernel
theorem dX12_markTongue_33 : decode cX12_markTongue 33 = .ok (.iaload, 1) := by decide +kernel
theorem dX12_markTongue_34 : decode cX12_markTongue 34 = .ok (.ireturn, 1) := by decide +kernel
theorem dX12_underMany_0 : decode cX12_underMany 0 = .ok (.iconst 0, 1) := by decide +kernel
theorem dX12_underMany_1 : decode cX12_underMany 1 = .ok (.istore_n 2, 1) := by decide +kernel
theorem dX12_underMany_2 : decode cX12_underMany 2 = .ok (.aload_n 0, 1) := by decide +kernel
theorem dX12_underMany_3 : decode cX12_underMany 3 = .ok (.getfield 148, 3) := by decide +kernel
theorem dX12_underMany_6 : decode cX12_underMany 6 = .ok (.iload_n 1, 1) := by decide +kernel
theorem dX12_underMany_7 : decode cX12_underMany 7 = .ok (.iaload, 1) := by decide +kernel
theorem dX12_underMany_8 : decode cX12_underMany 8 = .ok (.istore_n 3, 1) := by decide +kernel
theorem dX12_underMany_9 : decode cX12_underMany 9 = .ok (.iload_n 3, 1) := by decide +kernel
theorem dX12_underMany_10 : decode cX12_underMany 10 = .ok (.iconst (-1), 1) := by decide +kernel
theorem dX12_underMany_11 : decode cX12_underMany 11 = .ok (.if_icmp .eq 16, 3) := by decide +kernel
theorem dX12_underMany_14 : decode cX12_underMany 14 = .ok (.iinc 2 1, 3) := by decide +kernel
theorem dX12_underMany_17 : decode cX12_underMany 17 = .ok (.aload_n 0, 1) := by decide +kernel
theorem dX12_underMany_18 : decode cX12_underMany 18 = .ok (.getfield 154, 3) := by decide +kernel
theorem dX12_underMany_21 : decode cX12_underMany 21 = .ok (.iload_n 3, 1) := by decide +kernel
theorem dX12_underMany_22 : decode cX12_underMany 22 = .ok (.iaload, 1) := by decide +kernel
theorem dX12_underMany_23 : decode cX12_underMany 23 = .ok (.istore_n 3, 1) := by decide +kernel
theorem dX12_underMany_24 : decode cX12_underMany 24 = .ok (.goto (-15), 3) := by decide +kernel
theorem dX12_underMany_27 : decode cX12_underMany 27 = .ok (.iload_n 2, 1) := by decide +kernel
theorem dX12_underMany_28 : decode cX12_underMany 28 = .ok (.ireturn, 1) := by decide +kernel
theorem dX12_told_0 : decode cX12_told 0 = .ok (.iload_n 1, 1) := by decide +kernel
theorem dX12_told_1 : decode cX12_told 1 = .ok (.iconst (-1), 1) := by decide +kernel
theorem dX12_told_2 : decode cX12_told 2 = .ok (.if_icmp .ne 5, 3) := by decide +kernel
theorem dX12_told_5 : decode cX12_told 5 = .ok (.iconst (-1), 1) := by decide +kernel
theorem dX12_told_6 : decode cX12_told 6 = .ok (.ireturn, 1) := by decide +kernel
theorem dX12_told_7 : decode cX12_told 7 = .ok (.iload_n 2, 1) := by decide +kernel
theorem dX12_told_8 : decode cX12_told 8 = .ok (.tableswitch 92 0 6 #[44, 51, 58, 65, 72, 78, 85], 44) := by decide +kernel
theorem dX12_told_52 : decode cX12_told 52 = .ok (.aload_n 0, 1) := by decide +kernel
theorem dX12_told_53 : decode cX12_told 53 = .ok (.getfield 124, 3) := by decide +kernel
theorem dX12_told_56 : decode cX12_told 56 = .ok (.iload_n 1, 1) := by decide +kernel
theorem dX12_told_57 : decode cX12_told 57 = .ok (.iaload, 1) := by decide +kernel
theorem dX12_told_58 : decode cX12_told 58 = .ok (.ireturn, 1) := by decide +kernel
theorem dX12_told_59 : decode cX12_told 59 = .ok (.aload_n 0, 1) := by decide +kernel
theorem dX12_told_60 : decode cX12_told 60 = .ok (.getfield 127, 3) := by decide +kernel
theorem dX12_told_63 : decode cX12_told 63 = .ok (.iload_n 1, 1) := by decide +kernel
theorem dX12_told_64 : decode cX12_told 64 = .ok (.iaload, 1) := by decide +kernel
theorem dX12_told_65 : decode cX12_told 65 = .ok (.ireturn, 1) := by decide +kernel
theorem dX12_told_66 : decode cX12_told 66 = .ok (.aload_n 0, 1) := by decide +kernel
theorem dX12_told_67 : decode cX12_told 67 = .ok (.getfield 136, 3) := by decide +kernel
theorem dX12_told_70 : decode cX12_told 70 = .ok (.iload_n 1, 1) := by decide +kernel
theorem dX12_told_71 : decode cX12_told 71 = .ok (.iaload, 1) := by decide +kernel
theorem dX12_told_72 : decode cX12_told 72 = .ok (.ireturn, 1) := by decide +kernel
theorem dX12_told_73 : decode cX12_told 73 = .ok (.aload_n 0, 1) := by decide +kernel
theorem dX12_told_74 : decode cX12_told 74 = .ok (.getfield 142, 3) := by decide +kernel
theorem dX12_told_77 : decode cX12_told 77 = .ok (.iload_n 1, 1) := by decide +kernel
theorem dX12_told_78 : decode cX12_told 78 = .ok (.iaload, 1) := by decide +kernel
theorem dX12_told_79 : decode cX12_told 79 = .ok (.ireturn, 1) := by decide +kernel
theorem dX12_told_80 : decode cX12_told 80 = .ok (.aload_n 0, 1) := by decide +kernel
theorem dX12_told_81 : decode cX12_told 81 = .ok (.iload_n 1, 1) := by decide +kernel
theorem dX12_told_82 : decode cX12_told 82 = .ok (.invokevirtual 792, 3) := by decide +kernel
theorem dX12_told_85 : decode cX12_told 85 = .ok (.ireturn, 1) := by decide +kernel
theorem dX12_told_86 : decode cX12_told 86 = .ok (.aload_n 0, 1) := by decide +kernel
theorem dX12_told_87 : decode cX12_told 87 = .ok (.getfield 130, 3) := by decide +kernel
theorem dX12_told_90 : decode cX12_told 90 = .ok (.iload_n 1, 1) := by decide +kernel
theorem dX12_told_91 : decode cX12_told 91 = .ok (.baload, 1) := by decide +kernel
theorem dX12_told_92 : decode cX12_told 92 = .ok (.ireturn, 1) := by decide +kernel
theorem dX12_told_93 : decode cX12_told 93 = .ok (.aload_n 0, 1) := by decide +kernel
theorem dX12_told_94 : decode cX12_told 94 = .ok (.getfield 139, 3) := by decide +kernel
theorem dX12_told_97 : decode cX12_told 97 = .ok (.iload_n 1, 1) := by decide +kernel
theorem dX12_told_98 : decode cX12_told 98 = .ok (.iaload, 1) := by decide +kernel
theorem dX12_told_99 : decode cX12_told 99 = .ok (.ireturn, 1) := by decide +kernel
theorem dX12_told_100 : decode cX12_told 100 = .ok (.iconst (-1), 1) := by decide +kernel
theorem dX12_told_101 : decode cX12_told 101 = .ok (.ireturn, 1) := by decide +kernel
theorem dX12_failureAt_0 : decode cX12_failureAt 0 = .ok (.aload_n 0, 1) := by decide +kernel
theorem dX12_failureAt_1 : decode cX12_failureAt 1 = .ok (.getfield 786, 3) := by decide +kernel
theorem dX12_failureAt_4 : decode cX12_failureAt 4 = .ok (.ifCond .eq 7, 3) := by decide +kernel
theorem dX12_failureAt_7 : decode cX12_failureAt 7 = .ok (.iload_n 1, 1) := by decide +kernel
theorem dX12_failureAt_8 : decode cX12_failureAt 8 = .ok (.ifCond .ge 5, 3) := by decide +kernel
theorem dX12_failureAt_11 : decode cX12_failureAt 11 = .ok (.iconst (-1), 1) := by decide +kernel
theorem dX12_failureAt_12 : decode cX12_failureAt 12 = .ok (.ireturn, 1) := by decide +kernel
theorem dX12_failureAt_13 : decode cX12_failureAt 13 = .ok (.aload_n 0, 1) := by decide +kernel
theorem dX12_failureAt_14 : decode cX12_failureAt 14 = .ok (.getfield 663, 3) := by decide +kernel
theorem dX12_failureAt_17 : decode cX12_failureAt 17 = .ok (.istore_n 2, 1) := by decide +kernel
theorem dX12_failureAt_18 : decode cX12_failureAt 18 = .ok (.iconst 0, 1) := by decide +kernel
theorem dX12_failureAt_19 : decode cX12_failureAt 19 = .ok (.istore_n 3, 1) := by decide +kernel
theorem dX12_failureAt_20 : decode cX12_failureAt 20 = .ok (.iload_n 3, 1) := by decide +kernel
theorem dX12_failureAt_21 : decode cX12_failureAt 21 = .ok (.iload_n 1, 1) := by decide +kernel
theorem dX12_failureAt_22 : decode cX12_failureAt 22 = .ok (.if_icmp .ge 21, 3) := by decide +kernel
theorem dX12_failureAt_25 : decode cX12_failureAt 25 = .ok (.iload_n 2, 1) := by decide +kernel
theorem dX12_failureAt_26 : decode cX12_failureAt 26 = .ok (.iconst (-1), 1) := by decide +kernel
theorem dX12_failureAt_27 : decode cX12_failureAt 27 = .ok (.if_icmp .eq 16, 3) := by decide +kernel
theorem dX12_failureAt_30 : decode cX12_failureAt 30 = .ok (.aload_n 0, 1) := by decide +kernel
theorem dX12_failureAt_31 : decode cX12_failureAt 31 = .ok (.getfield 145, 3) := by decide +kernel
theorem dX12_failureAt_34 : decode cX12_failureAt 34 = .ok (.iload_n 2, 1) := by decide +kernel
theorem dX12_failureAt_35 : decode cX12_failureAt 35 = .ok (.iaload, 1) := by decide +kernel
theorem dX12_failureAt_36 : decode cX12_failureAt 36 = .ok (.istore_n 2, 1) := by decide +kernel
theorem dX12_failureAt_37 : decode cX12_failureAt 37 = .ok (.iinc 3 1, 3) := by decide +kernel
theorem dX12_failureAt_40 : decode cX12_failureAt 40 = .ok (.goto (-20), 3) := by decide +kernel
theorem dX12_failureAt_43 : decode cX12_failureAt 43 = .ok (.iload_n 2, 1) := by decide +kernel
theorem dX12_failureAt_44 : decode cX12_failureAt 44 = .ok (.ireturn, 1) := by decide +kernel
theorem dX12_failure_0 : decode cX12_failure 0 = .ok (.aload_n 0, 1) := by decide +kernel
theorem dX12_failure_1 : decode cX12_failure 1 = .ok (.iconst 0, 1) := by decide +kernel
theorem dX12_failure_2 : decode cX12_failure 2 = .ok (.putfield 200, 3) := by decide +kernel
theorem dX12_failure_5 : decode cX12_failure 5 = .ok (.aload_n 0, 1) := by decide +kernel
theorem dX12_failure_6 : decode cX12_failure 6 = .ok (.aload_n 0, 1) := by decide +kernel
theorem dX12_failure_7 : decode cX12_failure 7 = .ok (.iload_n 1, 1) := by decide +kernel
theorem dX12_failure_8 : decode cX12_failure 8 = .ok (.invokevirtual 795, 3) := by decide +kernel
theorem dX12_failure_11 : decode cX12_failure 11 = .ok (.iload_n 2, 1) := by decide +kernel
theorem dX12_failure_12 : decode cX12_failure 12 = .ok (.invokevirtual 798, 3) := by decide +kernel
theorem dX12_failure_15 : decode cX12_failure 15 = .ok (.ireturn, 1) := by decide +kernel
theorem dX12_under_0 : decode cX12_under 0 = .ok (.aload_n 0, 1) := by decide +kernel
theorem dX12_under_1 : decode cX12_under 1 = .ok (.iconst 0, 1) := by decide +kernel
theorem dX12_under_2 : decode cX12_under 2 = .ok (.putfield 200, 3) := by decide +kernel
theorem dX12_under_5 : decode cX12_under 5 = .ok (.aload_n 0, 1) := by decide +kernel
theorem dX12_under_6 : decode cX12_under 6 = .ok (.iload_n 1, 1) := by decide +kernel
theorem dX12_under_7 : decode cX12_under 7 = .ok (.invokevirtual 795, 3) := by decide +kernel
theorem dX12_under_10 : decode cX12_under 10 = .ok (.istore 4, 2) := by decide +kernel
theorem dX12_under_12 : decode cX12_under 12 = .ok (.iload 4, 2) := by decide +kernel
theorem dX12_under_14 : decode cX12_under 14 = .ok (.iconst (-1), 1) := by decide +kernel
theorem dX12_under_15 : decode cX12_under 15 = .ok (.if_icmp .eq 7, 3) := by decide +kernel
theorem dX12_under_18 : decode cX12_under 18 = .ok (.iload_n 2, 1) := by decide +kernel
theorem dX12_under_19 : decode cX12_under 19 = .ok (.ifCond .ge 5, 3) := by decide +kernel
theorem dX12_under_22 : decode cX12_under 22 = .ok (.iconst (-1), 1) := by decide +kernel
theorem dX12_under_23 : decode cX12_under 23 = .ok (.ireturn, 1) := by decide +kernel
theorem dX12_under_24 : decode cX12_under 24 = .ok (.aload_n 0, 1) := by decide +kernel
theorem dX12_under_25 : decode cX12_under 25 = .ok (.getfield 148, 3) := by decide +kernel
theorem dX12_under_28 : decode cX12_under 28 = .ok (.iload 4, 2) := by decide +kernel
theorem dX12_under_30 : decode cX12_under 30 = .ok (.iaload, 1) := by decide +kernel
theorem dX12_under_31 : decode cX12_under 31 = .ok (.istore 5, 2) := by decide +kernel
theorem dX12_under_33 : decode cX12_under 33 = .ok (.iconst 0, 1) := by decide +kernel
theorem dX12_under_34 : decode cX12_under 34 = .ok (.istore 6, 2) := by decide +kernel
theorem dX12_under_36 : decode cX12_under 36 = .ok (.iload 6, 2) := by decide +kernel
theorem dX12_under_38 : decode cX12_under 38 = .ok (.iload_n 2, 1) := by decide +kernel
theorem dX12_under_39 : decode cX12_under 39 = .ok (.if_icmp .ge 24, 3) := by decide +kernel
theorem dX12_under_42 : decode cX12_under 42 = .ok (.iload 5, 2) := by decide +kernel
theorem dX12_under_44 : decode cX12_under 44 = .ok (.iconst (-1), 1) := by decide +kernel
theorem dX12_under_45 : decode cX12_under 45 = .ok (.if_icmp .eq 18, 3) := by decide +kernel
theorem dX12_under_48 : decode cX12_under 48 = .ok (.aload_n 0, 1) := by decide +kernel
theorem dX12_under_49 : decode cX12_under 49 = .ok (.getfield 154, 3) := by decide +kernel
theorem dX12_under_52 : decode cX12_under 52 = .ok (.iload 5, 2) := by decide +kernel
theorem dX12_under_54 : decode cX12_under 54 = .ok (.iaload, 1) := by decide +kernel
theorem dX12_under_55 : decode cX12_under 55 = .ok (.istore 5, 2) := by decide +kernel
theorem dX12_under_57 : decode cX12_under 57 = .ok (.iinc 6 1, 3) := by decide +kernel
theorem dX12_under_60 : decode cX12_under 60 = .ok (.goto (-24), 3) := by decide +kernel
theorem dX12_under_63 : decode cX12_under 63 = .ok (.aload_n 0, 1) := by decide +kernel
theorem dX12_under_64 : decode cX12_under 64 = .ok (.iload 5, 2) := by decide +kernel
theorem dX12_under_66 : decode cX12_under 66 = .ok (.iconst (-1), 1) := by decide +kernel
theorem dX12_under_67 : decode cX12_under 67 = .ok (.if_icmp .ne 7, 3) := by decide +kernel
theorem dX12_under_70 : decode cX12_under 70 = .ok (.iconst (-1), 1) := by decide +kernel
theorem dX12_under_71 : decode cX12_under 71 = .ok (.goto 10, 3) := by decide +kernel
theorem dX12_under_74 : decode cX12_under 74 = .ok (.aload_n 0, 1) := by decide +kernel
theorem dX12_under_75 : decode cX12_under 75 = .ok (.getfield 151, 3) := by decide +kernel
theorem dX12_under_78 : decode cX12_under 78 = .ok (.iload 5, 2) := by decide +kernel
theorem dX12_under_80 : decode cX12_under 80 = .ok (.iaload, 1) := by decide +kernel
theorem dX12_under_81 : decode cX12_under 81 = .ok (.iload_n 3, 1) := by decide +kernel
theorem dX12_under_82 : decode cX12_under 82 = .ok (.invokevirtual 798, 3) := by decide +kernel
theorem dX12_under_85 : decode cX12_under 85 = .ok (.ireturn, 1) := by decide +kernel
/-! the reference's small calls -/
theorem CIr.en {μ ν : M3} (h : CIr μ) (A : Eqa [114, 115, 116, 117, 119, 120, 121, 122, 144, 145, 146, 147, 148, 149, 150, 151, 152, 156, 157, 158, 159] μ ν) (F : Eqf [4, 11, 31, 65, 68, 69, 81, 82, 83, 84, 92, 95, 96, 97] μ ν) (h2 : 0 ≤ ν.1 111 2 ∧ ν.1 111 2 ≤ 3000) (e : EN ν) : CIr ν := by
  obtain ⟨l, b⟩ := h
  have c : Cs μ ν := A.cs (by decide) (F 4 (by decide))
  have n := b.1.cs c
  have m := b.2.1.cs c
  have z : BASEi ν := b.gn n m (A.sb (by decide)) (fun k hk => F k (by revert k; decide)) (Int.le_of_eq (F 4 (by decide)).symm) e
  exact ⟨⟨n.1, n.2, by rw [F 31 (by decide)]; exact l.2.2.1, by rw [F 11 (by decide)]; exact l.2.2.2.1, h2, m⟩, z⟩
theorem CIr.mv {μ ν : M3} (h : CIr μ) (A : Eqa [114, 115, 116, 117, 119, 120, 121, 122, 144, 145, 146, 147, 148, 149, 150, 151, 152, 156, 157, 158, 159, 163, 165, 166] μ ν) (F : Eqf [4, 11, 31, 65, 68, 69, 81, 82, 83, 84, 92, 95, 96, 97, 104] μ ν) (h2 : 0 ≤ ν.1 111 2 ∧ ν.1 111 2 ≤ 3000) : CIr ν :=
  h.en (A.sb (by decide)) (fun k hk => F k (by revert k; decide)) h2 (h.2.2.2.2.2.1.up (A.sb (by decide)) (F 104 (by decide)) (Int.le_of_eq (F 4 (by decide)).symm))
theorem CIr.ld {μ ν : M3} (h : CIr μ) (l : mLI ν) (A : Eqa [144, 145, 146, 147, 148, 149, 150, 151, 152, 156, 157, 158, 159, 163, 165, 166] μ ν) (F : Eqf [65, 68, 69, 81, 82, 83, 84, 92, 95, 96, 97, 104] μ ν) (h4 : μ.1 111 4 ≤ ν.1 111 4) : CIr ν :=
  ⟨l, h.2.gn ⟨l.1, l.2.1⟩ l.2.2.2.2.2 (A.sb (by decide)) (fun k hk => F k (by revert k; decide)) h4 (h.2.2.2.2.2.1.up (A.sb (by decide)) (F 104 (by decide)) h4)⟩
theorem CIr.n {μ : M3} (h : CIr μ) : (12 ≤ μ.1 111 4 ∧ μ.1 111 4 ≤ 52) ∧ (0 ≤ μ.1 111 2 ∧ μ.1 111 2 ≤ 3000) ∧ (0 ≤ μ.1 111 82 ∧ μ.1 111 82 ≤ 5000) ∧ (0 ≤ μ.1 111 81 ∧ μ.1 111 81 ≤ 10000) ∧ (μ.1 111 92 = 0 ∨ (-1 ≤ μ.1 111 97 ∧ μ.1 111 97 < μ.1 111 82)) ∧ (0 ≤ μ.1 111 104 ∧ μ.1 111 104 ≤ 100) ∧ (μ.1 111 95 = 2 → 0 ≤ μ.1 111 96 ∧ μ.1 111 96 < 20100) := by
  obtain ⟨l, b⟩ := h
  have q := b.2.2.2.1.1
  have r := b.2.2.2.2.2.1
  have t := b.2.2.1.1
  exact ⟨l.1, l.2.2.2.2.1, by omega, by omega, r.2, b.2.2.2.2.1.1, fun z => by have := r.1.2.1 z; omega⟩
theorem EN.df {μ ν : M3} {x1 x2 a : Int} (h : EN μ) (hx : 0 ≤ x1 ∧ x1 ≤ 3 ∧ 0 ≤ x2 ∧ x2 ≤ 3) (ha : x2 ≠ 1 → 1 ≤ a ∧ a < μ.1 111 4) (e4 : ν.1 111 4 = μ.1 111 4) (e : ν.1 111 104 = μ.1 111 104) (e63 : ∀ j, ν.1 163 j = μ.1 163 j) (e65 : ∀ j, ν.1 165 j = μ.1 165 j) (eb : ν.1 166 (4 * x1 + x2) = a) (eo : ∀ j, j ≠ 4 * x1 + x2 → ν.1 166 j = μ.1 166 j) : EN ν := by
  obtain ⟨h1, h2, h3⟩ := h
  unfold EN
  rw [e, e4]
  refine ⟨h1, fun k t u k0 k1 q => ?_, fun t u t0 t1 u0 u1 u2 => ?_⟩
  · rw [e63] at q
    rw [e65]
    exact h2 k t u k0 k1 q
  · by_cases z : 4 * t + u = 4 * x1 + x2
    · rw [z, eb]; exact ha (by omega)
    · rw [eo _ z]; exact h3 t u t0 t1 u0 u1 u2
theorem EN.st {μ ν : M3} {x1 x2 a k : Int} (h : EN μ) (hx : 0 ≤ x1 ∧ x1 ≤ 3 ∧ 0 ≤ x2 ∧ x2 ≤ 3) (ha : x2 ≠ 1 → 1 ≤ a ∧ a < μ.1 111 4) (e4 : ν.1 111 4 = μ.1 111 4) (hn : μ.1 111 104 ≤ ν.1 111 104 ∧ ν.1 111 104 ≤ 100) (hk : ∀ j, j < ν.1 111 104 → j ≠ k → j < μ.1 111 104) (k63 : ν.1 163 k = 4 * x1 + x2) (e63 : ∀ j, j ≠ k → ν.1 163 j = μ.1 163 j) (k65 : ν.1 165 k = a) (e65 : ∀ j, j ≠ k → ν.1 165 j = μ.1 165 j) (e66 : ∀ j, ν.1 166 j = μ.1 166 j) : EN ν := by
  obtain ⟨h1, h2, h3⟩ := h
  unfold EN
  rw [e4]
  refine ⟨by omega, fun j t u j0 j1 q u0 u1 u2 => ?_, fun t u => ?_⟩
  · by_cases z : j = k
    · rw [z] at q ⊢
      rw [k65]; exact ha (by omega)
    · rw [e63 j z] at q
      rw [e65 j z]
      exact h2 j t u j0 (hk j j1 z) q u0 u1 u2
  · rw [e66]; exact h3 t u
theorem jv_div {x : Int} (hx : jr x) : jv x / jv 37 = jv (x.tdiv 37) := by
  unfold jr at hx
  exact (Int64.ofInt_tdiv (by rw [show Int64.minValue.toInt = -9223372036854775808 from rfl]; omega) (by rw [show Int64.maxValue.toInt = 9223372036854775807 from rfl]; omega) (by decide) (by decide)).symm
theorem td37 {x : Int} (h : jr x) : (-9223372036854775808 ≤ x.tdiv 37 ∧ x.tdiv 37 ≤ 9223372036854775807) ∧ (0 < x → 0 ≤ x.tdiv 37 ∧ x.tdiv 37 < x) := by
  unfold jr at h
  have h1 : (x.tdiv 37).natAbs ≤ x.natAbs := by rw [Int.natAbs_tdiv]; exact Nat.div_le_self _ _
  rcases Int.lt_or_le 0 x with q | q
  · have e : x.tdiv 37 = x / 37 := Int.tdiv_eq_ediv_of_nonneg (by omega)
    rw [e]; omega
  · refine ⟨?_, fun z => absurd z (by omega)⟩
    have e : (-x).tdiv 37 = (-x) / 37 := Int.tdiv_eq_ediv_of_nonneg (by omega)
    rw [Int.neg_tdiv] at e
    omega
section DIVS
variable {p : Program} {l : Launch} {e : Env} {R : Room} {s : State} {d0 : Drawn} {m : MethodId} {args : Array Value} {below : List Frame} {meth : Method} {c : Code} {H : Heap} {locs : List Loc} {Q : State → Prop} {cc : ByteArray} {nL pc : Nat} {own : String} {ls : Array Slot} {rest : List Value} {ω : Om} {ρ : Int → Nat} {μ : M3}
theorem xb_ldiv37 (hx : p.tables.exec = Jvm.exec) (hb : c.code = cc) {x : Int} (hxr : jr x) (hdg : decode cc pc = .ok (.ldiv, 1)) (k : WT p l e R s d0 m args below meth c H locs Q (F0 m (pc + 1) ls (.long (jv (x.tdiv 37)) :: rest))) : WT p l e R s d0 m args below meth c H locs Q (F0 m pc ls (.long (jv 37) :: .long (jv x) :: rest)) := by
  refine lv_ldiv hx hb hdg (by decide) ?_
  rw [jv_div hxr]
  exact k
end DIVS
def lb37 (n v : Int) : Prop := (n = 0 ∧ v ≤ 9223372036854775807) ∨ (n = 1 ∧ v ≤ 249280325320399346) ∨ (n = 2 ∧ v ≤ 6737306089740522) ∨ (n = 3 ∧ v ≤ 182089353776770) ∨ (n = 4 ∧ v ≤ 4921333885858) ∨ (n = 5 ∧ v ≤ 133009023942) ∨ (n = 6 ∧ v ≤ 3594838484) ∨ (n = 7 ∧ v ≤ 97157796) ∨ (n = 8 ∧ v ≤ 2625886) ∨ (n = 9 ∧ v ≤ 70969) ∨ (n = 10 ∧ v ≤ 1918) ∨ (n = 11 ∧ v ≤ 51) ∨ (n = 12 ∧ v ≤ 1) ∨ (n = 13 ∧ v ≤ 0)
theorem lb37_0 {v : Int} (h : jr v) : lb37 0 v := Or.inl ⟨rfl, h.2⟩
theorem lb37_n {n v : Int} (h : lb37 n v) : 0 ≤ n ∧ n ≤ 13 := by
  rcases h with h | h | h | h | h | h | h | h | h | h | h | h | h | h <;> omega
theorem lb37_s {n v : Int} (h : lb37 n v) (hv : 0 < v) : lb37 (n + 1) (v.tdiv 37) := by
  have e : v.tdiv 37 = v / 37 := Int.tdiv_eq_ediv_of_nonneg (by omega)
  rw [e]
  rcases h with h | h | h | h | h | h | h | h | h | h | h | h | h | h
  · exact Or.inr (Or.inl ⟨by omega, by omega⟩)
  · exact Or.inr (Or.inr (Or.inl ⟨by omega, by omega⟩))
  · exact Or.inr (Or.inr (Or.inr (Or.inl ⟨by omega, by omega⟩)))
  · exact Or.inr (Or.inr (Or.inr (Or.inr (Or.inl ⟨by omega, by omega⟩))))
  · exact Or.inr (Or.inr (Or.inr (Or.inr (Or.inr (Or.inl ⟨by omega, by omega⟩)))))
  · exact Or.inr (Or.inr (Or.inr (Or.inr (Or.inr (Or.inr (Or.inl ⟨by omega, by omega⟩))))))
  · exact Or.inr (Or.inr (Or.inr (Or.inr (Or.inr (Or.inr (Or.inr (Or.inl ⟨by omega, by omega⟩)))))))
  · exact Or.inr (Or.inr (Or.inr (Or.inr (Or.inr (Or.inr (Or.inr (Or.inr (Or.inl ⟨by omega, by omega⟩))))))))
  · exact Or.inr (Or.inr (Or.inr (Or.inr (Or.inr (Or.inr (Or.inr (Or.inr (Or.inr (Or.inl ⟨by omega, by omega⟩)))))))))
  · exact Or.inr (Or.inr (Or.inr (Or.inr (Or.inr (Or.inr (Or.inr (Or.inr (Or.inr (Or.inr (Or.inl ⟨by omega, by omega⟩))))))))))
  · exact Or.inr (Or.inr (Or.inr (Or.inr (Or.inr (Or.inr (Or.inr (Or.inr (Or.inr (Or.inr (Or.inr (Or.inl ⟨by omega, by omega⟩)))))))))))
  · exact Or.inr (Or.inr (Or.inr (Or.inr (Or.inr (Or.inr (Or.inr (Or.inr (Or.inr (Or.inr (Or.inr (Or.inr (Or.inl ⟨by omega, by omega⟩))))))))))))
  · exact Or.inr (Or.inr (Or.inr (Or.inr (Or.inr (Or.inr (Or.inr (Or.inr (Or.inr (Or.inr (Or.inr (Or.inr (Or.inr (⟨by omega, by omega⟩)))))))))))))
  · omega
set_option maxHeartbeats 4000000 in
set_option maxRecDepth 100000 in
theorem c_X12_fault (ω : Om) (l : Launch) (μ : M3) (hC : CIr μ) : CtI ω l yX12_fault cX12_fault 1 .int 0 0 [.ref (oP ω 111)] μ (fun (r : Int) (μ' : M3) => (FrM [111] μ μ') ∧ (∀ j, j ∉ ([0] : List Int) → μ'.1 111 j = μ.1 111 j) ∧ (CIr μ')) := by
  refine CtI.go (by decide) (Nat.le_of_ble_eq_true rfl) (fun ρ p e s m below meth c R ls G hR hret hlk hl => ?_)
  have hx := G.1.1
  have hb := G.1.2.1
  have hl : lv_has ls 1 [(0, .ref (oP ω 111))] := hl
  generalize s.drawn = d0 at G ⊢
  have hcn_ := hC.n
  refine lv_aload_n hx hb dX12_fault_0 rfl (lv_at hl 0 rfl) ?_
  refine lv_iconst (v := iv 0) hx hb dX12_fault_1 rfl ?_
  refine xa_puti G fd_X12 (a := 111) (x := 0) 0 (kz := 0) rfl rfl (by decide) rfl (by unfold ir; omega) (wm 7 149 rfl rfl) ⟨rfl, rfl, rfl, rfl⟩ rfl dX12_fault_2 rfl (fun H locs G => ?_)
  refine lv_aload_n hx hb dX12_fault_5 rfl (lv_at hl 0 rfl) ?_
  refine xa_geti G fd_X12 (a := 111) (x := μ.1 111 40) 40 rfl (by decide) rfl (wm 7 189 rfl rfl) ⟨rfl, rfl, rfl⟩ dX12_fault_6 rfl (sv_n _ (by decide)) ?_
  have hr_1 : -2147483648 ≤ μ.1 111 40 ∧ μ.1 111 40 ≤ 2147483647 := by have h9 := G.hr (a := 111) (k := 40) rfl; rw [show (sv μ 111 0 0).1 111 40 = μ.1 111 40 from (sv_n _ (by decide))] at h9; exact h9
  have e_2 : (sv μ 111 0 0).1 111 2 = μ.1 111 2 := (sv_n _ (by decide))
  have hci_3 : CIr (sv μ 111 0 0) := CIr.mv hC (Eqa.fr (L := [111]) (FrM.put FrM.rf (by decide)) (by decide)) (Eqf.fd (L := [0]) (fun j hj => (sv_n _ (fun h9 => hj (by rw [h9.2]; decide)))) (by decide)) (by have h9 : (sv μ 111 0 0).1 111 2 = μ.1 111 2 := (sv_n _ (by decide)); omega)
  exact xr_i G (x := μ.1 111 40) hret hlk (by unfold ir; omega) rfl dX12_fault_9 ⟨(FrM.put FrM.rf (by decide)), (fun j hj => (sv_n _ (fun h9 => hj (by rw [h9.2]; decide)))), hci_3⟩

set_option maxHeartbeats 4000000 in
set_option maxRecDepth 100000 in
theorem c_X12_look (ω : Om) (l : Launch) (μ : M3) (x1 : Int) (hx1 : ir x1) (hC : CIr μ) : CtI ω l yX12_look cX12_look 2 .int 0 0 [.ref (oP ω 111), .int (iv x1)] μ (fun (r : Int) (μ' : M3) => (FrM [111] μ μ') ∧ (∀ j, j ∉ ([0] : List Int) → μ'.1 111 j = μ.1 111 j) ∧ (CIr μ')) := by
  refine CtI.go (by decide) (Nat.le_of_ble_eq_true rfl) (fun ρ p e s m below meth c R ls G hR hret hlk hl => ?_)
  have hx := G.1.1
  have hb := G.1.2.1
  have hl : lv_has ls 2 [(0, .ref (oP ω 111)), (1, .int (iv x1))] := hl
  generalize s.drawn = d0 at G ⊢
  have hr_x1 : -2147483648 ≤ x1 ∧ x1 ≤ 2147483647 := hx1
  have hcn_ := hC.n
  refine lv_aload_n hx hb dX12_look_0 rfl (lv_at hl 0 rfl) ?_
  refine lv_iconst (v := iv 0) hx hb dX12_look_1 rfl ?_
  refine xa_puti G fd_X12 (a := 111) (x := 0) 0 (kz := 0) rfl rfl (by decide) rfl (by unfold ir; omega) (wm 7 149 rfl rfl) ⟨rfl, rfl, rfl, rfl⟩ rfl dX12_look_2 rfl (fun H locs G => ?_)
  refine lv_iload_n hx hb dX12_look_5 rfl (lv_at hl 1 rfl) ?_
  refine xb_if_lt (tgt := 24) hx hb (by unfold ir; omega) dX12_look_6 (by decide) (fun c_6 => ?_) (fun c_6 => ?_)
  · refine lv_iload_n hx hb dX12_look_24 rfl (lv_at hl 1 rfl) ?_
    by_cases c_25_out : x1 < 0 ∨ 10 < x1
    · refine xb_tout (tgt := 141) hx hb (by unfold ir; omega) dX12_look_25 c_25_out (by decide) ?_
      refine lv_iconst (v := iv (-1)) hx hb dX12_look_141 rfl ?_
      have e_1 : (sv μ 111 0 0).1 111 2 = μ.1 111 2 := (sv_n _ (by decide))
      have hci_2 : CIr (sv μ 111 0 0) := CIr.mv hC (Eqa.fr (L := [111]) (FrM.put FrM.rf (by decide)) (by decide)) (Eqf.fd (L := [0]) (fun j hj => (sv_n _ (fun h9 => hj (by rw [h9.2]; decide)))) (by decide)) (by have h9 : (sv μ 111 0 0).1 111 2 = μ.1 111 2 := (sv_n _ (by decide)); omega)
      exact xr_i G (x := (-1)) hret hlk (by unfold ir; omega) rfl dX12_look_142 ⟨(FrM.put FrM.rf (by decide)), (fun j hj => (sv_n _ (fun h9 => hj (by rw [h9.2]; decide)))), hci_2⟩
    by_cases c_25_0 : x1 = 0
    · refine xb_tin (tgt := 84) hx hb (by unfold ir; omega) dX12_look_25 (by omega) (off := 59) (by rw [c_25_0]; rfl) (by decide) ?_
      refine lv_aload_n hx hb dX12_look_84 rfl (lv_at hl 0 rfl) ?_
      refine xa_geti G fd_X12 (a := 111) (x := μ.1 111 93) 93 rfl (by decide) rfl (wm 8 2 rfl rfl) ⟨rfl, rfl, rfl⟩ dX12_look_85 rfl (sv_n _ (by decide)) ?_
      have hr_3 : -2147483648 ≤ μ.1 111 93 ∧ μ.1 111 93 ≤ 2147483647 := by have h9 := G.hr (a := 111) (k := 93) rfl; rw [show (sv μ 111 0 0).1 111 93 = μ.1 111 93 from (sv_n _ (by decide))] at h9; exact h9
      have e_4 : (sv μ 111 0 0).1 111 2 = μ.1 111 2 := (sv_n _ (by decide))
      have hci_5 : CIr (sv μ 111 0 0) := CIr.mv hC (Eqa.fr (L := [111]) (FrM.put FrM.rf (by decide)) (by decide)) (Eqf.fd (L := [0]) (fun j hj => (sv_n _ (fun h9 => hj (by rw [h9.2]; decide)))) (by decide)) (by have h9 : (sv μ 111 0 0).1 111 2 = μ.1 111 2 := (sv_n _ (by decide)); omega)
      exact xr_i G (x := μ.1 111 93) hret hlk (by unfold ir; omega) rfl dX12_look_88 ⟨(FrM.put FrM.rf (by decide)), (fun j hj => (sv_n _ (fun h9 => hj (by rw [h9.2]; decide)))), hci_5⟩
    by_cases c_25_1 : x1 = 1
    · refine xb_tin (tgt := 89) hx hb (by unfold ir; omega) dX12_look_25 (by omega) (off := 64) (by rw [c_25_1]; rfl) (by decide) ?_
      refine lv_aload_n hx hb dX12_look_89 rfl (lv_at hl 0 rfl) ?_
      refine xa_geti G fd_X12 (a := 111) (x := μ.1 111 95) 95 rfl (by decide) rfl (wm 8 4 rfl rfl) ⟨rfl, rfl, rfl⟩ dX12_look_90 rfl (sv_n _ (by decide)) ?_
      have hr_6 : -2147483648 ≤ μ.1 111 95 ∧ μ.1 111 95 ≤ 2147483647 := by have h9 := G.hr (a := 111) (k := 95) rfl; rw [show (sv μ 111 0 0).1 111 95 = μ.1 111 95 from (sv_n _ (by decide))] at h9; exact h9
      have e_7 : (sv μ 111 0 0).1 111 2 = μ.1 111 2 := (sv_n _ (by decide))
      have hci_8 : CIr (sv μ 111 0 0) := CIr.mv hC (Eqa.fr (L := [111]) (FrM.put FrM.rf (by decide)) (by decide)) (Eqf.fd (L := [0]) (fun j hj => (sv_n _ (fun h9 => hj (by rw [h9.2]; decide)))) (by decide)) (by have h9 : (sv μ 111 0 0).1 111 2 = μ.1 111 2 := (sv_n _ (by decide)); omega)
      exact xr_i G (x := μ.1 111 95) hret hlk (by unfold ir; omega) rfl dX12_look_93 ⟨(FrM.put FrM.rf (by decide)), (fun j hj => (sv_n _ (fun h9 => hj (by rw [h9.2]; decide)))), hci_8⟩
    by_cases c_25_2 : x1 = 2
    · refine xb_tin (tgt := 94) hx hb (by unfold ir; omega) dX12_look_25 (by omega) (off := 69) (by rw [c_25_2]; rfl) (by decide) ?_
      refine lv_aload_n hx hb dX12_look_94 rfl (lv_at hl 0 rfl) ?_
      refine xa_geti G fd_X12 (a := 111) (x := μ.1 111 83) 83 rfl (by decide) rfl (wm 7 232 rfl rfl) ⟨rfl, rfl, rfl⟩ dX12_look_95 rfl (sv_n _ (by decide)) ?_
      have hr_9 : -2147483648 ≤ μ.1 111 83 ∧ μ.1 111 83 ≤ 2147483647 := by have h9 := G.hr (a := 111) (k := 83) rfl; rw [show (sv μ 111 0 0).1 111 83 = μ.1 111 83 from (sv_n _ (by decide))] at h9; exact h9
      have e_10 : (sv μ 111 0 0).1 111 2 = μ.1 111 2 := (sv_n _ (by decide))
      have hci_11 : CIr (sv μ 111 0 0) := CIr.mv hC (Eqa.fr (L := [111]) (FrM.put FrM.rf (by decide)) (by decide)) (Eqf.fd (L := [0]) (fun j hj => (sv_n _ (fun h9 => hj (by rw [h9.2]; decide)))) (by decide)) (by have h9 : (sv μ 111 0 0).1 111 2 = μ.1 111 2 := (sv_n _ (by decide)); omega)
      exact xr_i G (x := μ.1 111 83) hret hlk (by unfold ir; omega) rfl dX12_look_98 ⟨(FrM.put FrM.rf (by decide)), (fun j hj => (sv_n _ (fun h9 => hj (by rw [h9.2]; decide)))), hci_11⟩
    by_cases c_25_3 : x1 = 3
    · refine xb_tin (tgt := 99) hx hb (by unfold ir; omega) dX12_look_25 (by omega) (off := 74) (by rw [c_25_3]; rfl) (by decide) ?_
      refine lv_aload_n hx hb dX12_look_99 rfl (lv_at hl 0 rfl) ?_
      refine xa_geti G fd_X12 (a := 111) (x := μ.1 111 85) 85 rfl (by decide) rfl (wm 7 234 rfl rfl) ⟨rfl, rfl, rfl⟩ dX12_look_100 rfl (sv_n _ (by decide)) ?_
      have hr_12 : -2147483648 ≤ μ.1 111 85 ∧ μ.1 111 85 ≤ 2147483647 := by have h9 := G.hr (a := 111) (k := 85) rfl; rw [show (sv μ 111 0 0).1 111 85 = μ.1 111 85 from (sv_n _ (by decide))] at h9; exact h9
      have e_13 : (sv μ 111 0 0).1 111 2 = μ.1 111 2 := (sv_n _ (by decide))
      have hci_14 : CIr (sv μ 111 0 0) := CIr.mv hC (Eqa.fr (L := [111]) (FrM.put FrM.rf (by decide)) (by decide)) (Eqf.fd (L := [0]) (fun j hj => (sv_n _ (fun h9 => hj (by rw [h9.2]; decide)))) (by decide)) (by have h9 : (sv μ 111 0 0).1 111 2 = μ.1 111 2 := (sv_n _ (by decide)); omega)
      exact xr_i G (x := μ.1 111 85) hret hlk (by unfold ir; omega) rfl dX12_look_103 ⟨(FrM.put FrM.rf (by decide)), (fun j hj => (sv_n _ (fun h9 => hj (by rw [h9.2]; decide)))), hci_14⟩
    by_cases c_25_4 : x1 = 4
    · refine xb_tin (tgt := 104) hx hb (by unfold ir; omega) dX12_look_25 (by omega) (off := 79) (by rw [c_25_4]; rfl) (by decide) ?_
      refine lv_aload_n hx hb dX12_look_104 rfl (lv_at hl 0 rfl) ?_
      refine xa_geti G fd_X12 (a := 111) (x := μ.1 111 88) 88 rfl (by decide) rfl (wm 7 237 rfl rfl) ⟨rfl, rfl, rfl⟩ dX12_look_105 rfl (sv_n _ (by decide)) ?_
      have hr_15 : -2147483648 ≤ μ.1 111 88 ∧ μ.1 111 88 ≤ 2147483647 := by have h9 := G.hr (a := 111) (k := 88) rfl; rw [show (sv μ 111 0 0).1 111 88 = μ.1 111 88 from (sv_n _ (by decide))] at h9; exact h9
      have e_16 : (sv μ 111 0 0).1 111 2 = μ.1 111 2 := (sv_n _ (by decide))
      have hci_17 : CIr (sv μ 111 0 0) := CIr.mv hC (Eqa.fr (L := [111]) (FrM.put FrM.rf (by decide)) (by decide)) (Eqf.fd (L := [0]) (fun j hj => (sv_n _ (fun h9 => hj (by rw [h9.2]; decide)))) (by decide)) (by have h9 : (sv μ 111 0 0).1 111 2 = μ.1 111 2 := (sv_n _ (by decide)); omega)
      exact xr_i G (x := μ.1 111 88) hret hlk (by unfold ir; omega) rfl dX12_look_108 ⟨(FrM.put FrM.rf (by decide)), (fun j hj => (sv_n _ (fun h9 => hj (by rw [h9.2]; decide)))), hci_17⟩
    by_cases c_25_5 : x1 = 5
    · refine xb_tin (tgt := 109) hx hb (by unfold ir; omega) dX12_look_25 (by omega) (off := 84) (by rw [c_25_5]; rfl) (by decide) ?_
      refine lv_aload_n hx hb dX12_look_109 rfl (lv_at hl 0 rfl) ?_
      refine xa_geti G fd_X12 (a := 111) (x := μ.1 111 89) 89 rfl (by decide) rfl (wm 7 238 rfl rfl) ⟨rfl, rfl, rfl⟩ dX12_look_110 rfl (sv_n _ (by decide)) ?_
      have hr_18 : -2147483648 ≤ μ.1 111 89 ∧ μ.1 111 89 ≤ 2147483647 := by have h9 := G.hr (a := 111) (k := 89) rfl; rw [show (sv μ 111 0 0).1 111 89 = μ.1 111 89 from (sv_n _ (by decide))] at h9; exact h9
      have e_19 : (sv μ 111 0 0).1 111 2 = μ.1 111 2 := (sv_n _ (by decide))
      have hci_20 : CIr (sv μ 111 0 0) := CIr.mv hC (Eqa.fr (L := [111]) (FrM.put FrM.rf (by decide)) (by decide)) (Eqf.fd (L := [0]) (fun j hj => (sv_n _ (fun h9 => hj (by rw [h9.2]; decide)))) (by decide)) (by have h9 : (sv μ 111 0 0).1 111 2 = μ.1 111 2 := (sv_n _ (by decide)); omega)
      exact xr_i G (x := μ.1 111 89) hret hlk (by unfold ir; omega) rfl dX12_look_113 ⟨(FrM.put FrM.rf (by decide)), (fun j hj => (sv_n _ (fun h9 => hj (by rw [h9.2]; decide)))), hci_20⟩
    by_cases c_25_6 : x1 = 6
    · refine xb_tin (tgt := 114) hx hb (by unfold ir; omega) dX12_look_25 (by omega) (off := 89) (by rw [c_25_6]; rfl) (by decide) ?_
      refine lv_aload_n hx hb dX12_look_114 rfl (lv_at hl 0 rfl) ?_
      refine xa_geti G fd_X12 (a := 111) (x := μ.1 111 90) 90 rfl (by decide) rfl (wm 7 239 rfl rfl) ⟨rfl, rfl, rfl⟩ dX12_look_115 rfl (sv_n _ (by decide)) ?_
      have hr_21 : -2147483648 ≤ μ.1 111 90 ∧ μ.1 111 90 ≤ 2147483647 := by have h9 := G.hr (a := 111) (k := 90) rfl; rw [show (sv μ 111 0 0).1 111 90 = μ.1 111 90 from (sv_n _ (by decide))] at h9; exact h9
      have e_22 : (sv μ 111 0 0).1 111 2 = μ.1 111 2 := (sv_n _ (by decide))
      have hci_23 : CIr (sv μ 111 0 0) := CIr.mv hC (Eqa.fr (L := [111]) (FrM.put FrM.rf (by decide)) (by decide)) (Eqf.fd (L := [0]) (fun j hj => (sv_n _ (fun h9 => hj (by rw [h9.2]; decide)))) (by decide)) (by have h9 : (sv μ 111 0 0).1 111 2 = μ.1 111 2 := (sv_n _ (by decide)); omega)
      exact xr_i G (x := μ.1 111 90) hret hlk (by unfold ir; omega) rfl dX12_look_118 ⟨(FrM.put FrM.rf (by decide)), (fun j hj => (sv_n _ (fun h9 => hj (by rw [h9.2]; decide)))), hci_23⟩
    by_cases c_25_7 : x1 = 7
    · refine xb_tin (tgt := 119) hx hb (by unfold ir; omega) dX12_look_25 (by omega) (off := 94) (by rw [c_25_7]; rfl) (by decide) ?_
      refine lv_aload_n hx hb dX12_look_119 rfl (lv_at hl 0 rfl) ?_
      refine xa_geti G fd_X12 (a := 111) (x := μ.1 111 48) 48 rfl (by decide) rfl (wm 7 197 rfl rfl) ⟨rfl, rfl, rfl⟩ dX12_look_120 rfl (sv_n _ (by decide)) ?_
      have hr_24 : -2147483648 ≤ μ.1 111 48 ∧ μ.1 111 48 ≤ 2147483647 := by have h9 := G.hr (a := 111) (k := 48) rfl; rw [show (sv μ 111 0 0).1 111 48 = μ.1 111 48 from (sv_n _ (by decide))] at h9; exact h9
      have e_25 : (sv μ 111 0 0).1 111 2 = μ.1 111 2 := (sv_n _ (by decide))
      have hci_26 : CIr (sv μ 111 0 0) := CIr.mv hC (Eqa.fr (L := [111]) (FrM.put FrM.rf (by decide)) (by decide)) (Eqf.fd (L := [0]) (fun j hj => (sv_n _ (fun h9 => hj (by rw [h9.2]; decide)))) (by decide)) (by have h9 : (sv μ 111 0 0).1 111 2 = μ.1 111 2 := (sv_n _ (by decide)); omega)
      exact xr_i G (x := μ.1 111 48) hret hlk (by unfold ir; omega) rfl dX12_look_123 ⟨(FrM.put FrM.rf (by decide)), (fun j hj => (sv_n _ (fun h9 => hj (by rw [h9.2]; decide)))), hci_26⟩
    by_cases c_25_8 : x1 = 8
    · refine xb_tin (tgt := 124) hx hb (by unfold ir; omega) dX12_look_25 (by omega) (off := 99) (by rw [c_25_8]; rfl) (by decide) ?_
      refine lv_aload_n hx hb dX12_look_124 rfl (lv_at hl 0 rfl) ?_
      refine xa_geti G fd_X12 (a := 111) (x := μ.1 111 84) 84 rfl (by decide) rfl (wm 7 233 rfl rfl) ⟨rfl, rfl, rfl⟩ dX12_look_125 rfl (sv_n _ (by decide)) ?_
      have hr_27 : -2147483648 ≤ μ.1 111 84 ∧ μ.1 111 84 ≤ 2147483647 := by have h9 := G.hr (a := 111) (k := 84) rfl; rw [show (sv μ 111 0 0).1 111 84 = μ.1 111 84 from (sv_n _ (by decide))] at h9; exact h9
      have e_28 : (sv μ 111 0 0).1 111 2 = μ.1 111 2 := (sv_n _ (by decide))
      have hci_29 : CIr (sv μ 111 0 0) := CIr.mv hC (Eqa.fr (L := [111]) (FrM.put FrM.rf (by decide)) (by decide)) (Eqf.fd (L := [0]) (fun j hj => (sv_n _ (fun h9 => hj (by rw [h9.2]; decide)))) (by decide)) (by have h9 : (sv μ 111 0 0).1 111 2 = μ.1 111 2 := (sv_n _ (by decide)); omega)
      exact xr_i G (x := μ.1 111 84) hret hlk (by unfold ir; omega) rfl dX12_look_128 ⟨(FrM.put FrM.rf (by decide)), (fun j hj => (sv_n _ (fun h9 => hj (by rw [h9.2]; decide)))), hci_29⟩
    by_cases c_25_9 : x1 = 9
    · refine xb_tin (tgt := 129) hx hb (by unfold ir; omega) dX12_look_25 (by omega) (off := 104) (by rw [c_25_9]; rfl) (by decide) ?_
      refine lv_aload_n hx hb dX12_look_129 rfl (lv_at hl 0 rfl) ?_
      refine xa_geti G fd_X12 (a := 111) (x := μ.1 111 91) 91 rfl (by decide) rfl (wm 8 0 rfl rfl) ⟨rfl, rfl, rfl⟩ dX12_look_130 rfl (sv_n _ (by decide)) ?_
      have hr_30 : -2147483648 ≤ μ.1 111 91 ∧ μ.1 111 91 ≤ 2147483647 := by have h9 := G.hr (a := 111) (k := 91) rfl; rw [show (sv μ 111 0 0).1 111 91 = μ.1 111 91 from (sv_n _ (by decide))] at h9; exact h9
      have e_31 : (sv μ 111 0 0).1 111 2 = μ.1 111 2 := (sv_n _ (by decide))
      have hci_32 : CIr (sv μ 111 0 0) := CIr.mv hC (Eqa.fr (L := [111]) (FrM.put FrM.rf (by decide)) (by decide)) (Eqf.fd (L := [0]) (fun j hj => (sv_n _ (fun h9 => hj (by rw [h9.2]; decide)))) (by decide)) (by have h9 : (sv μ 111 0 0).1 111 2 = μ.1 111 2 := (sv_n _ (by decide)); omega)
      exact xr_i G (x := μ.1 111 91) hret hlk (by unfold ir; omega) rfl dX12_look_133 ⟨(FrM.put FrM.rf (by decide)), (fun j hj => (sv_n _ (fun h9 => hj (by rw [h9.2]; decide)))), hci_32⟩
    have c_25_10 : x1 = 10 := by omega
    refine xb_tin (tgt := 134) hx hb (by unfold ir; omega) dX12_look_25 (by omega) (off := 109) (by rw [c_25_10]; rfl) (by decide) ?_
    refine lv_aload_n hx hb dX12_look_134 rfl (lv_at hl 0 rfl) ?_
    refine xa_geti G fd_X12 (a := 111) (x := μ.1 111 4) 4 rfl (by decide) rfl (wm 7 153 rfl rfl) ⟨rfl, rfl, rfl⟩ dX12_look_135 rfl (sv_n _ (by decide)) ?_
    have hr_33 : -2147483648 ≤ μ.1 111 4 ∧ μ.1 111 4 ≤ 2147483647 := by have h9 := G.hr (a := 111) (k := 4) rfl; rw [show (sv μ 111 0 0).1 111 4 = μ.1 111 4 from (sv_n _ (by decide))] at h9; exact h9
    refine lv_iconst (v := iv 1) hx hb dX12_look_138 rfl ?_
    refine xb_isub hx hb dX12_look_139 ?_
    have e_34 : (sv μ 111 0 0).1 111 2 = μ.1 111 2 := (sv_n _ (by decide))
    have hci_35 : CIr (sv μ 111 0 0) := CIr.mv hC (Eqa.fr (L := [111]) (FrM.put FrM.rf (by decide)) (by decide)) (Eqf.fd (L := [0]) (fun j hj => (sv_n _ (fun h9 => hj (by rw [h9.2]; decide)))) (by decide)) (by have h9 : (sv μ 111 0 0).1 111 2 = μ.1 111 2 := (sv_n _ (by decide)); omega)
    exact xr_i G (x := (μ.1 111 4) - 1) hret hlk (by unfold ir; omega) rfl dX12_look_140 ⟨(FrM.put FrM.rf (by decide)), (fun j hj => (sv_n _ (fun h9 => hj (by rw [h9.2]; decide)))), hci_35⟩
  · refine lv_iload_n hx hb dX12_look_9 rfl (lv_at hl 1 rfl) ?_
    refine lv_bipush (v := iv 8) hx hb dX12_look_10 rfl ?_
    refine xb_icmp_ge (tgt := 24) hx hb (by unfold ir; omega) (by unfold ir; omega) dX12_look_12 (by decide) (fun c_12 => ?_) (fun c_12 => ?_)
    · refine lv_iload_n hx hb dX12_look_24 rfl (lv_at hl 1 rfl) ?_
      by_cases c_25_out : x1 < 0 ∨ 10 < x1
      · refine xb_tout (tgt := 141) hx hb (by unfold ir; omega) dX12_look_25 c_25_out (by decide) ?_
        refine lv_iconst (v := iv (-1)) hx hb dX12_look_141 rfl ?_
        have e_36 : (sv μ 111 0 0).1 111 2 = μ.1 111 2 := (sv_n _ (by decide))
        have hci_37 : CIr (sv μ 111 0 0) := CIr.mv hC (Eqa.fr (L := [111]) (FrM.put FrM.rf (by decide)) (by decide)) (Eqf.fd (L := [0]) (fun j hj => (sv_n _ (fun h9 => hj (by rw [h9.2]; decide)))) (by decide)) (by have h9 : (sv μ 111 0 0).1 111 2 = μ.1 111 2 := (sv_n _ (by decide)); omega)
        exact xr_i G (x := (-1)) hret hlk (by unfold ir; omega) rfl dX12_look_142 ⟨(FrM.put FrM.rf (by decide)), (fun j hj => (sv_n _ (fun h9 => hj (by rw [h9.2]; decide)))), hci_37⟩
      by_cases c_25_0 : x1 = 0
      · refine xb_tin (tgt := 84) hx hb (by unfold ir; omega) dX12_look_25 (by omega) (off := 59) (by rw [c_25_0]; rfl) (by decide) ?_
        refine lv_aload_n hx hb dX12_look_84 rfl (lv_at hl 0 rfl) ?_
        refine xa_geti G fd_X12 (a := 111) (x := μ.1 111 93) 93 rfl (by decide) rfl (wm 8 2 rfl rfl) ⟨rfl, rfl, rfl⟩ dX12_look_85 rfl (sv_n _ (by decide)) ?_
        have hr_38 : -2147483648 ≤ μ.1 111 93 ∧ μ.1 111 93 ≤ 2147483647 := by have h9 := G.hr (a := 111) (k := 93) rfl; rw [show (sv μ 111 0 0).1 111 93 = μ.1 111 93 from (sv_n _ (by decide))] at h9; exact h9
        have e_39 : (sv μ 111 0 0).1 111 2 = μ.1 111 2 := (sv_n _ (by decide))
        have hci_40 : CIr (sv μ 111 0 0) := CIr.mv hC (Eqa.fr (L := [111]) (FrM.put FrM.rf (by decide)) (by decide)) (Eqf.fd (L := [0]) (fun j hj => (sv_n _ (fun h9 => hj (by rw [h9.2]; decide)))) (by decide)) (by have h9 : (sv μ 111 0 0).1 111 2 = μ.1 111 2 := (sv_n _ (by decide)); omega)
        exact xr_i G (x := μ.1 111 93) hret hlk (by unfold ir; omega) rfl dX12_look_88 ⟨(FrM.put FrM.rf (by decide)), (fun j hj => (sv_n _ (fun h9 => hj (by rw [h9.2]; decide)))), hci_40⟩
      by_cases c_25_1 : x1 = 1
      · refine xb_tin (tgt := 89) hx hb (by unfold ir; omega) dX12_look_25 (by omega) (off := 64) (by rw [c_25_1]; rfl) (by decide) ?_
        refine lv_aload_n hx hb dX12_look_89 rfl (lv_at hl 0 rfl) ?_
        refine xa_geti G fd_X12 (a := 111) (x := μ.1 111 95) 95 rfl (by decide) rfl (wm 8 4 rfl rfl) ⟨rfl, rfl, rfl⟩ dX12_look_90 rfl (sv_n _ (by decide)) ?_
        have hr_41 : -2147483648 ≤ μ.1 111 95 ∧ μ.1 111 95 ≤ 2147483647 := by have h9 := G.hr (a := 111) (k := 95) rfl; rw [show (sv μ 111 0 0).1 111 95 = μ.1 111 95 from (sv_n _ (by decide))] at h9; exact h9
        have e_42 : (sv μ 111 0 0).1 111 2 = μ.1 111 2 := (sv_n _ (by decide))
        have hci_43 : CIr (sv μ 111 0 0) := CIr.mv hC (Eqa.fr (L := [111]) (FrM.put FrM.rf (by decide)) (by decide)) (Eqf.fd (L := [0]) (fun j hj => (sv_n _ (fun h9 => hj (by rw [h9.2]; decide)))) (by decide)) (by have h9 : (sv μ 111 0 0).1 111 2 = μ.1 111 2 := (sv_n _ (by decide)); omega)
        exact xr_i G (x := μ.1 111 95) hret hlk (by unfold ir; omega) rfl dX12_look_93 ⟨(FrM.put FrM.rf (by decide)), (fun j hj => (sv_n _ (fun h9 => hj (by rw [h9.2]; decide)))), hci_43⟩
      by_cases c_25_2 : x1 = 2
      · refine xb_tin (tgt := 94) hx hb (by unfold ir; omega) dX12_look_25 (by omega) (off := 69) (by rw [c_25_2]; rfl) (by decide) ?_
        refine lv_aload_n hx hb dX12_look_94 rfl (lv_at hl 0 rfl) ?_
        refine xa_geti G fd_X12 (a := 111) (x := μ.1 111 83) 83 rfl (by decide) rfl (wm 7 232 rfl rfl) ⟨rfl, rfl, rfl⟩ dX12_look_95 rfl (sv_n _ (by decide)) ?_
        have hr_44 : -2147483648 ≤ μ.1 111 83 ∧ μ.1 111 83 ≤ 2147483647 := by have h9 := G.hr (a := 111) (k := 83) rfl; rw [show (sv μ 111 0 0).1 111 83 = μ.1 111 83 from (sv_n _ (by decide))] at h9; exact h9
        have e_45 : (sv μ 111 0 0).1 111 2 = μ.1 111 2 := (sv_n _ (by decide))
        have hci_46 : CIr (sv μ 111 0 0) := CIr.mv hC (Eqa.fr (L := [111]) (FrM.put FrM.rf (by decide)) (by decide)) (Eqf.fd (L := [0]) (fun j hj => (sv_n _ (fun h9 => hj (by rw [h9.2]; decide)))) (by decide)) (by have h9 : (sv μ 111 0 0).1 111 2 = μ.1 111 2 := (sv_n _ (by decide)); omega)
        exact xr_i G (x := μ.1 111 83) hret hlk (by unfold ir; omega) rfl dX12_look_98 ⟨(FrM.put FrM.rf (by decide)), (fun j hj => (sv_n _ (fun h9 => hj (by rw [h9.2]; decide)))), hci_46⟩
      by_cases c_25_3 : x1 = 3
      · refine xb_tin (tgt := 99) hx hb (by unfold ir; omega) dX12_look_25 (by omega) (off := 74) (by rw [c_25_3]; rfl) (by decide) ?_
        refine lv_aload_n hx hb dX12_look_99 rfl (lv_at hl 0 rfl) ?_
        refine xa_geti G fd_X12 (a := 111) (x := μ.1 111 85) 85 rfl (by decide) rfl (wm 7 234 rfl rfl) ⟨rfl, rfl, rfl⟩ dX12_look_100 rfl (sv_n _ (by decide)) ?_
        have hr_47 : -2147483648 ≤ μ.1 111 85 ∧ μ.1 111 85 ≤ 2147483647 := by have h9 := G.hr (a := 111) (k := 85) rfl; rw [show (sv μ 111 0 0).1 111 85 = μ.1 111 85 from (sv_n _ (by decide))] at h9; exact h9
        have e_48 : (sv μ 111 0 0).1 111 2 = μ.1 111 2 := (sv_n _ (by decide))
        have hci_49 : CIr (sv μ 111 0 0) := CIr.mv hC (Eqa.fr (L := [111]) (FrM.put FrM.rf (by decide)) (by decide)) (Eqf.fd (L := [0]) (fun j hj => (sv_n _ (fun h9 => hj (by rw [h9.2]; decide)))) (by decide)) (by have h9 : (sv μ 111 0 0).1 111 2 = μ.1 111 2 := (sv_n _ (by decide)); omega)
        exact xr_i G (x := μ.1 111 85) hret hlk (by unfold ir; omega) rfl dX12_look_103 ⟨(FrM.put FrM.rf (by decide)), (fun j hj => (sv_n _ (fun h9 => hj (by rw [h9.2]; decide)))), hci_49⟩
      by_cases c_25_4 : x1 = 4
      · refine xb_tin (tgt := 104) hx hb (by unfold ir; omega) dX12_look_25 (by omega) (off := 79) (by rw [c_25_4]; rfl) (by decide) ?_
        refine lv_aload_n hx hb dX12_look_104 rfl (lv_at hl 0 rfl) ?_
        refine xa_geti G fd_X12 (a := 111) (x := μ.1 111 88) 88 rfl (by decide) rfl (wm 7 237 rfl rfl) ⟨rfl, rfl, rfl⟩ dX12_look_105 rfl (sv_n _ (by decide)) ?_
        have hr_50 : -2147483648 ≤ μ.1 111 88 ∧ μ.1 111 88 ≤ 2147483647 := by have h9 := G.hr (a := 111) (k := 88) rfl; rw [show (sv μ 111 0 0).1 111 88 = μ.1 111 88 from (sv_n _ (by decide))] at h9; exact h9
        have e_51 : (sv μ 111 0 0).1 111 2 = μ.1 111 2 := (sv_n _ (by decide))
        have hci_52 : CIr (sv μ 111 0 0) := CIr.mv hC (Eqa.fr (L := [111]) (FrM.put FrM.rf (by decide)) (by decide)) (Eqf.fd (L := [0]) (fun j hj => (sv_n _ (fun h9 => hj (by rw [h9.2]; decide)))) (by decide)) (by have h9 : (sv μ 111 0 0).1 111 2 = μ.1 111 2 := (sv_n _ (by decide)); omega)
        exact xr_i G (x := μ.1 111 88) hret hlk (by unfold ir; omega) rfl dX12_look_108 ⟨(FrM.put FrM.rf (by decide)), (fun j hj => (sv_n _ (fun h9 => hj (by rw [h9.2]; decide)))), hci_52⟩
      by_cases c_25_5 : x1 = 5
      · refine xb_tin (tgt := 109) hx hb (by unfold ir; omega) dX12_look_25 (by omega) (off := 84) (by rw [c_25_5]; rfl) (by decide) ?_
        refine lv_aload_n hx hb dX12_look_109 rfl (lv_at hl 0 rfl) ?_
        refine xa_geti G fd_X12 (a := 111) (x := μ.1 111 89) 89 rfl (by decide) rfl (wm 7 238 rfl rfl) ⟨rfl, rfl, rfl⟩ dX12_look_110 rfl (sv_n _ (by decide)) ?_
        have hr_53 : -2147483648 ≤ μ.1 111 89 ∧ μ.1 111 89 ≤ 2147483647 := by have h9 := G.hr (a := 111) (k := 89) rfl; rw [show (sv μ 111 0 0).1 111 89 = μ.1 111 89 from (sv_n _ (by decide))] at h9; exact h9
        have e_54 : (sv μ 111 0 0).1 111 2 = μ.1 111 2 := (sv_n _ (by decide))
        have hci_55 : CIr (sv μ 111 0 0) := CIr.mv hC (Eqa.fr (L := [111]) (FrM.put FrM.rf (by decide)) (by decide)) (Eqf.fd (L := [0]) (fun j hj => (sv_n _ (fun h9 => hj (by rw [h9.2]; decide)))) (by decide)) (by have h9 : (sv μ 111 0 0).1 111 2 = μ.1 111 2 := (sv_n _ (by decide)); omega)
        exact xr_i G (x := μ.1 111 89) hret hlk (by unfold ir; omega) rfl dX12_look_113 ⟨(FrM.put FrM.rf (by decide)), (fun j hj => (sv_n _ (fun h9 => hj (by rw [h9.2]; decide)))), hci_55⟩
      by_cases c_25_6 : x1 = 6
      · refine xb_tin (tgt := 114) hx hb (by unfold ir; omega) dX12_look_25 (by omega) (off := 89) (by rw [c_25_6]; rfl) (by decide) ?_
        refine lv_aload_n hx hb dX12_look_114 rfl (lv_at hl 0 rfl) ?_
        refine xa_geti G fd_X12 (a := 111) (x := μ.1 111 90) 90 rfl (by decide) rfl (wm 7 239 rfl rfl) ⟨rfl, rfl, rfl⟩ dX12_look_115 rfl (sv_n _ (by decide)) ?_
        have hr_56 : -2147483648 ≤ μ.1 111 90 ∧ μ.1 111 90 ≤ 2147483647 := by have h9 := G.hr (a := 111) (k := 90) rfl; rw [show (sv μ 111 0 0).1 111 90 = μ.1 111 90 from (sv_n _ (by decide))] at h9; exact h9
        have e_57 : (sv μ 111 0 0).1 111 2 = μ.1 111 2 := (sv_n _ (by decide))
        have hci_58 : CIr (sv μ 111 0 0) := CIr.mv hC (Eqa.fr (L := [111]) (FrM.put FrM.rf (by decide)) (by decide)) (Eqf.fd (L := [0]) (fun j hj => (sv_n _ (fun h9 => hj (by rw [h9.2]; decide)))) (by decide)) (by have h9 : (sv μ 111 0 0).1 111 2 = μ.1 111 2 := (sv_n _ (by decide)); omega)
        exact xr_i G (x := μ.1 111 90) hret hlk (by unfold ir; omega) rfl dX12_look_118 ⟨(FrM.put FrM.rf (by decide)), (fun j hj => (sv_n _ (fun h9 => hj (by rw [h9.2]; decide)))), hci_58⟩
      by_cases c_25_7 : x1 = 7
      · refine xb_tin (tgt := 119) hx hb (by unfold ir; omega) dX12_look_25 (by omega) (off := 94) (by rw [c_25_7]; rfl) (by decide) ?_
        refine lv_aload_n hx hb dX12_look_119 rfl (lv_at hl 0 rfl) ?_
        refine xa_geti G fd_X12 (a := 111) (x := μ.1 111 48) 48 rfl (by decide) rfl (wm 7 197 rfl rfl) ⟨rfl, rfl, rfl⟩ dX12_look_120 rfl (sv_n _ (by decide)) ?_
        have hr_59 : -2147483648 ≤ μ.1 111 48 ∧ μ.1 111 48 ≤ 2147483647 := by have h9 := G.hr (a := 111) (k := 48) rfl; rw [show (sv μ 111 0 0).1 111 48 = μ.1 111 48 from (sv_n _ (by decide))] at h9; exact h9
        have e_60 : (sv μ 111 0 0).1 111 2 = μ.1 111 2 := (sv_n _ (by decide))
        have hci_61 : CIr (sv μ 111 0 0) := CIr.mv hC (Eqa.fr (L := [111]) (FrM.put FrM.rf (by decide)) (by decide)) (Eqf.fd (L := [0]) (fun j hj => (sv_n _ (fun h9 => hj (by rw [h9.2]; decide)))) (by decide)) (by have h9 : (sv μ 111 0 0).1 111 2 = μ.1 111 2 := (sv_n _ (by decide)); omega)
        exact xr_i G (x := μ.1 111 48) hret hlk (by unfold ir; omega) rfl dX12_look_123 ⟨(FrM.put FrM.rf (by decide)), (fun j hj => (sv_n _ (fun h9 => hj (by rw [h9.2]; decide)))), hci_61⟩
      by_cases c_25_8 : x1 = 8
      · refine xb_tin (tgt := 124) hx hb (by unfold ir; omega) dX12_look_25 (by omega) (off := 99) (by rw [c_25_8]; rfl) (by decide) ?_
        refine lv_aload_n hx hb dX12_look_124 rfl (lv_at hl 0 rfl) ?_
        refine xa_geti G fd_X12 (a := 111) (x := μ.1 111 84) 84 rfl (by decide) rfl (wm 7 233 rfl rfl) ⟨rfl, rfl, rfl⟩ dX12_look_125 rfl (sv_n _ (by decide)) ?_
        have hr_62 : -2147483648 ≤ μ.1 111 84 ∧ μ.1 111 84 ≤ 2147483647 := by have h9 := G.hr (a := 111) (k := 84) rfl; rw [show (sv μ 111 0 0).1 111 84 = μ.1 111 84 from (sv_n _ (by decide))] at h9; exact h9
        have e_63 : (sv μ 111 0 0).1 111 2 = μ.1 111 2 := (sv_n _ (by decide))
        have hci_64 : CIr (sv μ 111 0 0) := CIr.mv hC (Eqa.fr (L := [111]) (FrM.put FrM.rf (by decide)) (by decide)) (Eqf.fd (L := [0]) (fun j hj => (sv_n _ (fun h9 => hj (by rw [h9.2]; decide)))) (by decide)) (by have h9 : (sv μ 111 0 0).1 111 2 = μ.1 111 2 := (sv_n _ (by decide)); omega)
        exact xr_i G (x := μ.1 111 84) hret hlk (by unfold ir; omega) rfl dX12_look_128 ⟨(FrM.put FrM.rf (by decide)), (fun j hj => (sv_n _ (fun h9 => hj (by rw [h9.2]; decide)))), hci_64⟩
      by_cases c_25_9 : x1 = 9
      · refine xb_tin (tgt := 129) hx hb (by unfold ir; omega) dX12_look_25 (by omega) (off := 104) (by rw [c_25_9]; rfl) (by decide) ?_
        refine lv_aload_n hx hb dX12_look_129 rfl (lv_at hl 0 rfl) ?_
        refine xa_geti G fd_X12 (a := 111) (x := μ.1 111 91) 91 rfl (by decide) rfl (wm 8 0 rfl rfl) ⟨rfl, rfl, rfl⟩ dX12_look_130 rfl (sv_n _ (by decide)) ?_
        have hr_65 : -2147483648 ≤ μ.1 111 91 ∧ μ.1 111 91 ≤ 2147483647 := by have h9 := G.hr (a := 111) (k := 91) rfl; rw [show (sv μ 111 0 0).1 111 91 = μ.1 111 91 from (sv_n _ (by decide))] at h9; exact h9
        have e_66 : (sv μ 111 0 0).1 111 2 = μ.1 111 2 := (sv_n _ (by decide))
        have hci_67 : CIr (sv μ 111 0 0) := CIr.mv hC (Eqa.fr (L := [111]) (FrM.put FrM.rf (by decide)) (by decide)) (Eqf.fd (L := [0]) (fun j hj => (sv_n _ (fun h9 => hj (by rw [h9.2]; decide)))) (by decide)) (by have h9 : (sv μ 111 0 0).1 111 2 = μ.1 111 2 := (sv_n _ (by decide)); omega)
        exact xr_i G (x := μ.1 111 91) hret hlk (by unfold ir; omega) rfl dX12_look_133 ⟨(FrM.put FrM.rf (by decide)), (fun j hj => (sv_n _ (fun h9 => hj (by rw [h9.2]; decide)))), hci_67⟩
      have c_25_10 : x1 = 10 := by omega
      refine xb_tin (tgt := 134) hx hb (by unfold ir; omega) dX12_look_25 (by omega) (off := 109) (by rw [c_25_10]; rfl) (by decide) ?_
      refine lv_aload_n hx hb dX12_look_134 rfl (lv_at hl 0 rfl) ?_
      refine xa_geti G fd_X12 (a := 111) (x := μ.1 111 4) 4 rfl (by decide) rfl (wm 7 153 rfl rfl) ⟨rfl, rfl, rfl⟩ dX12_look_135 rfl (sv_n _ (by decide)) ?_
      have hr_68 : -2147483648 ≤ μ.1 111 4 ∧ μ.1 111 4 ≤ 2147483647 := by have h9 := G.hr (a := 111) (k := 4) rfl; rw [show (sv μ 111 0 0).1 111 4 = μ.1 111 4 from (sv_n _ (by decide))] at h9; exact h9
      refine lv_iconst (v := iv 1) hx hb dX12_look_138 rfl ?_
      refine xb_isub hx hb dX12_look_139 ?_
      have e_69 : (sv μ 111 0 0).1 111 2 = μ.1 111 2 := (sv_n _ (by decide))
      have hci_70 : CIr (sv μ 111 0 0) := CIr.mv hC (Eqa.fr (L := [111]) (FrM.put FrM.rf (by decide)) (by decide)) (Eqf.fd (L := [0]) (fun j hj => (sv_n _ (fun h9 => hj (by rw [h9.2]; decide)))) (by decide)) (by have h9 : (sv μ 111 0 0).1 111 2 = μ.1 111 2 := (sv_n _ (by decide)); omega)
      exact xr_i G (x := (μ.1 111 4) - 1) hret hlk (by unfold ir; omega) rfl dX12_look_140 ⟨(FrM.put FrM.rf (by decide)), (fun j hj => (sv_n _ (fun h9 => hj (by rw [h9.2]; decide)))), hci_70⟩
    · refine lv_aload_n hx hb dX12_look_15 rfl (lv_at hl 0 rfl) ?_
      refine xa_geti G fd_X12 (a := 111) (x := μ.1 111 92) 92 rfl (by decide) rfl (wm 8 1 rfl rfl) ⟨rfl, rfl, rfl⟩ dX12_look_16 rfl (sv_n _ (by decide)) ?_
      have hr_71 : -2147483648 ≤ μ.1 111 92 ∧ μ.1 111 92 ≤ 2147483647 := by have h9 := G.hr (a := 111) (k := 92) rfl; rw [show (sv μ 111 0 0).1 111 92 = μ.1 111 92 from (sv_n _ (by decide))] at h9; exact h9
      refine xb_if_ne (tgt := 24) hx hb (by unfold ir; omega) dX12_look_19 (by decide) (fun c_19 => ?_) (fun c_19 => ?_)
      · refine lv_iload_n hx hb dX12_look_24 rfl (lv_at hl 1 rfl) ?_
        by_cases c_25_out : x1 < 0 ∨ 10 < x1
        · refine xb_tout (tgt := 141) hx hb (by unfold ir; omega) dX12_look_25 c_25_out (by decide) ?_
          refine lv_iconst (v := iv (-1)) hx hb dX12_look_141 rfl ?_
          have e_72 : (sv μ 111 0 0).1 111 2 = μ.1 111 2 := (sv_n _ (by decide))
          have hci_73 : CIr (sv μ 111 0 0) := CIr.mv hC (Eqa.fr (L := [111]) (FrM.put FrM.rf (by decide)) (by decide)) (Eqf.fd (L := [0]) (fun j hj => (sv_n _ (fun h9 => hj (by rw [h9.2]; decide)))) (by decide)) (by have h9 : (sv μ 111 0 0).1 111 2 = μ.1 111 2 := (sv_n _ (by decide)); omega)
          exact xr_i G (x := (-1)) hret hlk (by unfold ir; omega) rfl dX12_look_142 ⟨(FrM.put FrM.rf (by decide)), (fun j hj => (sv_n _ (fun h9 => hj (by rw [h9.2]; decide)))), hci_73⟩
        by_cases c_25_0 : x1 = 0
        · refine xb_tin (tgt := 84) hx hb (by unfold ir; omega) dX12_look_25 (by omega) (off := 59) (by rw [c_25_0]; rfl) (by decide) ?_
          refine lv_aload_n hx hb dX12_look_84 rfl (lv_at hl 0 rfl) ?_
          refine xa_geti G fd_X12 (a := 111) (x := μ.1 111 93) 93 rfl (by decide) rfl (wm 8 2 rfl rfl) ⟨rfl, rfl, rfl⟩ dX12_look_85 rfl (sv_n _ (by decide)) ?_
          have hr_74 : -2147483648 ≤ μ.1 111 93 ∧ μ.1 111 93 ≤ 2147483647 := by have h9 := G.hr (a := 111) (k := 93) rfl; rw [show (sv μ 111 0 0).1 111 93 = μ.1 111 93 from (sv_n _ (by decide))] at h9; exact h9
          have e_75 : (sv μ 111 0 0).1 111 2 = μ.1 111 2 := (sv_n _ (by decide))
          have hci_76 : CIr (sv μ 111 0 0) := CIr.mv hC (Eqa.fr (L := [111]) (FrM.put FrM.rf (by decide)) (by decide)) (Eqf.fd (L := [0]) (fun j hj => (sv_n _ (fun h9 => hj (by rw [h9.2]; decide)))) (by decide)) (by have h9 : (sv μ 111 0 0).1 111 2 = μ.1 111 2 := (sv_n _ (by decide)); omega)
          exact xr_i G (x := μ.1 111 93) hret hlk (by unfold ir; omega) rfl dX12_look_88 ⟨(FrM.put FrM.rf (by decide)), (fun j hj => (sv_n _ (fun h9 => hj (by rw [h9.2]; decide)))), hci_76⟩
        by_cases c_25_1 : x1 = 1
        · refine xb_tin (tgt := 89) hx hb (by unfold ir; omega) dX12_look_25 (by omega) (off := 64) (by rw [c_25_1]; rfl) (by decide) ?_
          refine lv_aload_n hx hb dX12_look_89 rfl (lv_at hl 0 rfl) ?_
          refine xa_geti G fd_X12 (a := 111) (x := μ.1 111 95) 95 rfl (by decide) rfl (wm 8 4 rfl rfl) ⟨rfl, rfl, rfl⟩ dX12_look_90 rfl (sv_n _ (by decide)) ?_
          have hr_77 : -2147483648 ≤ μ.1 111 95 ∧ μ.1 111 95 ≤ 2147483647 := by have h9 := G.hr (a := 111) (k := 95) rfl; rw [show (sv μ 111 0 0).1 111 95 = μ.1 111 95 from (sv_n _ (by decide))] at h9; exact h9
          have e_78 : (sv μ 111 0 0).1 111 2 = μ.1 111 2 := (sv_n _ (by decide))
          have hci_79 : CIr (sv μ 111 0 0) := CIr.mv hC (Eqa.fr (L := [111]) (FrM.put FrM.rf (by decide)) (by decide)) (Eqf.fd (L := [0]) (fun j hj => (sv_n _ (fun h9 => hj (by rw [h9.2]; decide)))) (by decide)) (by have h9 : (sv μ 111 0 0).1 111 2 = μ.1 111 2 := (sv_n _ (by decide)); omega)
          exact xr_i G (x := μ.1 111 95) hret hlk (by unfold ir; omega) rfl dX12_look_93 ⟨(FrM.put FrM.rf (by decide)), (fun j hj => (sv_n _ (fun h9 => hj (by rw [h9.2]; decide)))), hci_79⟩
        by_cases c_25_2 : x1 = 2
        · refine xb_tin (tgt := 94) hx hb (by unfold ir; omega) dX12_look_25 (by omega) (off := 69) (by rw [c_25_2]; rfl) (by decide) ?_
          refine lv_aload_n hx hb dX12_look_94 rfl (lv_at hl 0 rfl) ?_
          refine xa_geti G fd_X12 (a := 111) (x := μ.1 111 83) 83 rfl (by decide) rfl (wm 7 232 rfl rfl) ⟨rfl, rfl, rfl⟩ dX12_look_95 rfl (sv_n _ (by decide)) ?_
          have hr_80 : -2147483648 ≤ μ.1 111 83 ∧ μ.1 111 83 ≤ 2147483647 := by have h9 := G.hr (a := 111) (k := 83) rfl; rw [show (sv μ 111 0 0).1 111 83 = μ.1 111 83 from (sv_n _ (by decide))] at h9; exact h9
          have e_81 : (sv μ 111 0 0).1 111 2 = μ.1 111 2 := (sv_n _ (by decide))
          have hci_82 : CIr (sv μ 111 0 0) := CIr.mv hC (Eqa.fr (L := [111]) (FrM.put FrM.rf (by decide)) (by decide)) (Eqf.fd (L := [0]) (fun j hj => (sv_n _ (fun h9 => hj (by rw [h9.2]; decide)))) (by decide)) (by have h9 : (sv μ 111 0 0).1 111 2 = μ.1 111 2 := (sv_n _ (by decide)); omega)
          exact xr_i G (x := μ.1 111 83) hret hlk (by unfold ir; omega) rfl dX12_look_98 ⟨(FrM.put FrM.rf (by decide)), (fun j hj => (sv_n _ (fun h9 => hj (by rw [h9.2]; decide)))), hci_82⟩
        by_cases c_25_3 : x1 = 3
        · refine xb_tin (tgt := 99) hx hb (by unfold ir; omega) dX12_look_25 (by omega) (off := 74) (by rw [c_25_3]; rfl) (by decide) ?_
          refine lv_aload_n hx hb dX12_look_99 rfl (lv_at hl 0 rfl) ?_
          refine xa_geti G fd_X12 (a := 111) (x := μ.1 111 85) 85 rfl (by decide) rfl (wm 7 234 rfl rfl) ⟨rfl, rfl, rfl⟩ dX12_look_100 rfl (sv_n _ (by decide)) ?_
          have hr_83 : -2147483648 ≤ μ.1 111 85 ∧ μ.1 111 85 ≤ 2147483647 := by have h9 := G.hr (a := 111) (k := 85) rfl; rw [show (sv μ 111 0 0).1 111 85 = μ.1 111 85 from (sv_n _ (by decide))] at h9; exact h9
          have e_84 : (sv μ 111 0 0).1 111 2 = μ.1 111 2 := (sv_n _ (by decide))
          have hci_85 : CIr (sv μ 111 0 0) := CIr.mv hC (Eqa.fr (L := [111]) (FrM.put FrM.rf (by decide)) (by decide)) (Eqf.fd (L := [0]) (fun j hj => (sv_n _ (fun h9 => hj (by rw [h9.2]; decide)))) (by decide)) (by have h9 : (sv μ 111 0 0).1 111 2 = μ.1 111 2 := (sv_n _ (by decide)); omega)
          exact xr_i G (x := μ.1 111 85) hret hlk (by unfold ir; omega) rfl dX12_look_103 ⟨(FrM.put FrM.rf (by decide)), (fun j hj => (sv_n _ (fun h9 => hj (by rw [h9.2]; decide)))), hci_85⟩
        by_cases c_25_4 : x1 = 4
        · refine xb_tin (tgt := 104) hx hb (by unfold ir; omega) dX12_look_25 (by omega) (off := 79) (by rw [c_25_4]; rfl) (by decide) ?_
          refine lv_aload_n hx hb dX12_look_104 rfl (lv_at hl 0 rfl) ?_
          refine xa_geti G fd_X12 (a := 111) (x := μ.1 111 88) 88 rfl (by decide) rfl (wm 7 237 rfl rfl) ⟨rfl, rfl, rfl⟩ dX12_look_105 rfl (sv_n _ (by decide)) ?_
          have hr_86 : -2147483648 ≤ μ.1 111 88 ∧ μ.1 111 88 ≤ 2147483647 := by have h9 := G.hr (a := 111) (k := 88) rfl; rw [show (sv μ 111 0 0).1 111 88 = μ.1 111 88 from (sv_n _ (by decide))] at h9; exact h9
          have e_87 : (sv μ 111 0 0).1 111 2 = μ.1 111 2 := (sv_n _ (by decide))
          have hci_88 : CIr (sv μ 111 0 0) := CIr.mv hC (Eqa.fr (L := [111]) (FrM.put FrM.rf (by decide)) (by decide)) (Eqf.fd (L := [0]) (fun j hj => (sv_n _ (fun h9 => hj (by rw [h9.2]; decide)))) (by decide)) (by have h9 : (sv μ 111 0 0).1 111 2 = μ.1 111 2 := (sv_n _ (by decide)); omega)
          exact xr_i G (x := μ.1 111 88) hret hlk (by unfold ir; omega) rfl dX12_look_108 ⟨(FrM.put FrM.rf (by decide)), (fun j hj => (sv_n _ (fun h9 => hj (by rw [h9.2]; decide)))), hci_88⟩
        by_cases c_25_5 : x1 = 5
        · refine xb_tin (tgt := 109) hx hb (by unfold ir; omega) dX12_look_25 (by omega) (off := 84) (by rw [c_25_5]; rfl) (by decide) ?_
          refine lv_aload_n hx hb dX12_look_109 rfl (lv_at hl 0 rfl) ?_
          refine xa_geti G fd_X12 (a := 111) (x := μ.1 111 89) 89 rfl (by decide) rfl (wm 7 238 rfl rfl) ⟨rfl, rfl, rfl⟩ dX12_look_110 rfl (sv_n _ (by decide)) ?_
          have hr_89 : -2147483648 ≤ μ.1 111 89 ∧ μ.1 111 89 ≤ 2147483647 := by have h9 := G.hr (a := 111) (k := 89) rfl; rw [show (sv μ 111 0 0).1 111 89 = μ.1 111 89 from (sv_n _ (by decide))] at h9; exact h9
          have e_90 : (sv μ 111 0 0).1 111 2 = μ.1 111 2 := (sv_n _ (by decide))
          have hci_91 : CIr (sv μ 111 0 0) := CIr.mv hC (Eqa.fr (L := [111]) (FrM.put FrM.rf (by decide)) (by decide)) (Eqf.fd (L := [0]) (fun j hj => (sv_n _ (fun h9 => hj (by rw [h9.2]; decide)))) (by decide)) (by have h9 : (sv μ 111 0 0).1 111 2 = μ.1 111 2 := (sv_n _ (by decide)); omega)
          exact xr_i G (x := μ.1 111 89) hret hlk (by unfold ir; omega) rfl dX12_look_113 ⟨(FrM.put FrM.rf (by decide)), (fun j hj => (sv_n _ (fun h9 => hj (by rw [h9.2]; decide)))), hci_91⟩
        by_cases c_25_6 : x1 = 6
        · refine xb_tin (tgt := 114) hx hb (by unfold ir; omega) dX12_look_25 (by omega) (off := 89) (by rw [c_25_6]; rfl) (by decide) ?_
          refine lv_aload_n hx hb dX12_look_114 rfl (lv_at hl 0 rfl) ?_
          refine xa_geti G fd_X12 (a := 111) (x := μ.1 111 90) 90 rfl (by decide) rfl (wm 7 239 rfl rfl) ⟨rfl, rfl, rfl⟩ dX12_look_115 rfl (sv_n _ (by decide)) ?_
          have hr_92 : -2147483648 ≤ μ.1 111 90 ∧ μ.1 111 90 ≤ 2147483647 := by have h9 := G.hr (a := 111) (k := 90) rfl; rw [show (sv μ 111 0 0).1 111 90 = μ.1 111 90 from (sv_n _ (by decide))] at h9; exact h9
          have e_93 : (sv μ 111 0 0).1 111 2 = μ.1 111 2 := (sv_n _ (by decide))
          have hci_94 : CIr (sv μ 111 0 0) := CIr.mv hC (Eqa.fr (L := [111]) (FrM.put FrM.rf (by decide)) (by decide)) (Eqf.fd (L := [0]) (fun j hj => (sv_n _ (fun h9 => hj (by rw [h9.2]; decide)))) (by decide)) (by have h9 : (sv μ 111 0 0).1 111 2 = μ.1 111 2 := (sv_n _ (by decide)); omega)
          exact xr_i G (x := μ.1 111 90) hret hlk (by unfold ir; omega) rfl dX12_look_118 ⟨(FrM.put FrM.rf (by decide)), (fun j hj => (sv_n _ (fun h9 => hj (by rw [h9.2]; decide)))), hci_94⟩
        by_cases c_25_7 : x1 = 7
        · refine xb_tin (tgt := 119) hx hb (by unfold ir; omega) dX12_look_25 (by omega) (off := 94) (by rw [c_25_7]; rfl) (by decide) ?_
          refine lv_aload_n hx hb dX12_look_119 rfl (lv_at hl 0 rfl) ?_
          refine xa_geti G fd_X12 (a := 111) (x := μ.1 111 48) 48 rfl (by decide) rfl (wm 7 197 rfl rfl) ⟨rfl, rfl, rfl⟩ dX12_look_120 rfl (sv_n _ (by decide)) ?_
          have hr_95 : -2147483648 ≤ μ.1 111 48 ∧ μ.1 111 48 ≤ 2147483647 := by have h9 := G.hr (a := 111) (k := 48) rfl; rw [show (sv μ 111 0 0).1 111 48 = μ.1 111 48 from (sv_n _ (by decide))] at h9; exact h9
          have e_96 : (sv μ 111 0 0).1 111 2 = μ.1 111 2 := (sv_n _ (by decide))
          have hci_97 : CIr (sv μ 111 0 0) := CIr.mv hC (Eqa.fr (L := [111]) (FrM.put FrM.rf (by decide)) (by decide)) (Eqf.fd (L := [0]) (fun j hj => (sv_n _ (fun h9 => hj (by rw [h9.2]; decide)))) (by decide)) (by have h9 : (sv μ 111 0 0).1 111 2 = μ.1 111 2 := (sv_n _ (by decide)); omega)
          exact xr_i G (x := μ.1 111 48) hret hlk (by unfold ir; omega) rfl dX12_look_123 ⟨(FrM.put FrM.rf (by decide)), (fun j hj => (sv_n _ (fun h9 => hj (by rw [h9.2]; decide)))), hci_97⟩
        by_cases c_25_8 : x1 = 8
        · refine xb_tin (tgt := 124) hx hb (by unfold ir; omega) dX12_look_25 (by omega) (off := 99) (by rw [c_25_8]; rfl) (by decide) ?_
          refine lv_aload_n hx hb dX12_look_124 rfl (lv_at hl 0 rfl) ?_
          refine xa_geti G fd_X12 (a := 111) (x := μ.1 111 84) 84 rfl (by decide) rfl (wm 7 233 rfl rfl) ⟨rfl, rfl, rfl⟩ dX12_look_125 rfl (sv_n _ (by decide)) ?_
          have hr_98 : -2147483648 ≤ μ.1 111 84 ∧ μ.1 111 84 ≤ 2147483647 := by have h9 := G.hr (a := 111) (k := 84) rfl; rw [show (sv μ 111 0 0).1 111 84 = μ.1 111 84 from (sv_n _ (by decide))] at h9; exact h9
          have e_99 : (sv μ 111 0 0).1 111 2 = μ.1 111 2 := (sv_n _ (by decide))
          have hci_100 : CIr (sv μ 111 0 0) := CIr.mv hC (Eqa.fr (L := [111]) (FrM.put FrM.rf (by decide)) (by decide)) (Eqf.fd (L := [0]) (fun j hj => (sv_n _ (fun h9 => hj (by rw [h9.2]; decide)))) (by decide)) (by have h9 : (sv μ 111 0 0).1 111 2 = μ.1 111 2 := (sv_n _ (by decide)); omega)
          exact xr_i G (x := μ.1 111 84) hret hlk (by unfold ir; omega) rfl dX12_look_128 ⟨(FrM.put FrM.rf (by decide)), (fun j hj => (sv_n _ (fun h9 => hj (by rw [h9.2]; decide)))), hci_100⟩
        by_cases c_25_9 : x1 = 9
        · refine xb_tin (tgt := 129) hx hb (by unfold ir; omega) dX12_look_25 (by omega) (off := 104) (by rw [c_25_9]; rfl) (by decide) ?_
          refine lv_aload_n hx hb dX12_look_129 rfl (lv_at hl 0 rfl) ?_
          refine xa_geti G fd_X12 (a := 111) (x := μ.1 111 91) 91 rfl (by decide) rfl (wm 8 0 rfl rfl) ⟨rfl, rfl, rfl⟩ dX12_look_130 rfl (sv_n _ (by decide)) ?_
          have hr_101 : -2147483648 ≤ μ.1 111 91 ∧ μ.1 111 91 ≤ 2147483647 := by have h9 := G.hr (a := 111) (k := 91) rfl; rw [show (sv μ 111 0 0).1 111 91 = μ.1 111 91 from (sv_n _ (by decide))] at h9; exact h9
          have e_102 : (sv μ 111 0 0).1 111 2 = μ.1 111 2 := (sv_n _ (by decide))
          have hci_103 : CIr (sv μ 111 0 0) := CIr.mv hC (Eqa.fr (L := [111]) (FrM.put FrM.rf (by decide)) (by decide)) (Eqf.fd (L := [0]) (fun j hj => (sv_n _ (fun h9 => hj (by rw [h9.2]; decide)))) (by decide)) (by have h9 : (sv μ 111 0 0).1 111 2 = μ.1 111 2 := (sv_n _ (by decide)); omega)
          exact xr_i G (x := μ.1 111 91) hret hlk (by unfold ir; omega) rfl dX12_look_133 ⟨(FrM.put FrM.rf (by decide)), (fun j hj => (sv_n _ (fun h9 => hj (by rw [h9.2]; decide)))), hci_103⟩
        have c_25_10 : x1 = 10 := by omega
        refine xb_tin (tgt := 134) hx hb (by unfold ir; omega) dX12_look_25 (by omega) (off := 109) (by rw [c_25_10]; rfl) (by decide) ?_
        refine lv_aload_n hx hb dX12_look_134 rfl (lv_at hl 0 rfl) ?_
        refine xa_geti G fd_X12 (a := 111) (x := μ.1 111 4) 4 rfl (by decide) rfl (wm 7 153 rfl rfl) ⟨rfl, rfl, rfl⟩ dX12_look_135 rfl (sv_n _ (by decide)) ?_
        have hr_104 : -2147483648 ≤ μ.1 111 4 ∧ μ.1 111 4 ≤ 2147483647 := by have h9 := G.hr (a := 111) (k := 4) rfl; rw [show (sv μ 111 0 0).1 111 4 = μ.1 111 4 from (sv_n _ (by decide))] at h9; exact h9
        refine lv_iconst (v := iv 1) hx hb dX12_look_138 rfl ?_
        refine xb_isub hx hb dX12_look_139 ?_
        have e_105 : (sv μ 111 0 0).1 111 2 = μ.1 111 2 := (sv_n _ (by decide))
        have hci_106 : CIr (sv μ 111 0 0) := CIr.mv hC (Eqa.fr (L := [111]) (FrM.put FrM.rf (by decide)) (by decide)) (Eqf.fd (L := [0]) (fun j hj => (sv_n _ (fun h9 => hj (by rw [h9.2]; decide)))) (by decide)) (by have h9 : (sv μ 111 0 0).1 111 2 = μ.1 111 2 := (sv_n _ (by decide)); omega)
        exact xr_i G (x := (μ.1 111 4) - 1) hret hlk (by unfold ir; omega) rfl dX12_look_140 ⟨(FrM.put FrM.rf (by decide)), (fun j hj => (sv_n _ (fun h9 => hj (by rw [h9.2]; decide)))), hci_106⟩
      · refine lv_iconst (v := iv 0) hx hb dX12_look_22 rfl ?_
        have e_107 : (sv μ 111 0 0).1 111 2 = μ.1 111 2 := (sv_n _ (by decide))
        have hci_108 : CIr (sv μ 111 0 0) := CIr.mv hC (Eqa.fr (L := [111]) (FrM.put FrM.rf (by decide)) (by decide)) (Eqf.fd (L := [0]) (fun j hj => (sv_n _ (fun h9 => hj (by rw [h9.2]; decide)))) (by decide)) (by have h9 : (sv μ 111 0 0).1 111 2 = μ.1 111 2 := (sv_n _ (by decide)); omega)
        exact xr_i G (x := 0) hret hlk (by unfold ir; omega) rfl dX12_look_23 ⟨(FrM.put FrM.rf (by decide)), (fun j hj => (sv_n _ (fun h9 => hj (by rw [h9.2]; decide)))), hci_108⟩

set_option maxHeartbeats 4000000 in
set_option maxRecDepth 100000 in
theorem c_X12_mark (ω : Om) (l : Launch) (μ : M3) (x1 : Int) (hx1 : ir x1) (hC : CIr μ) : CtL ω l yX12_mark cX12_mark 2 0 0 [.ref (oP ω 111), .int (iv x1)] μ (fun (r : Int) (μ' : M3) => (FrM [111] μ μ') ∧ (∀ j, j ∉ ([0] : List Int) → μ'.1 111 j = μ.1 111 j) ∧ (CIr μ')) := by
  refine CtL.go (by decide) (Nat.le_of_ble_eq_true rfl) (fun ρ p e s m below meth c R ls G hR hret hlk hl => ?_)
  have hx := G.1.1
  have hb := G.1.2.1
  have hl : lv_has ls 2 [(0, .ref (oP ω 111)), (1, .int (iv x1))] := hl
  generalize s.drawn = d0 at G ⊢
  have hr_x1 : -2147483648 ≤ x1 ∧ x1 ≤ 2147483647 := hx1
  have hcn_ := hC.n
  refine lv_aload_n hx hb dX12_mark_0 rfl (lv_at hl 0 rfl) ?_
  refine lv_iconst (v := iv 0) hx hb dX12_mark_1 rfl ?_
  refine xa_puti G fd_X12 (a := 111) (x := 0) 0 (kz := 0) rfl rfl (by decide) rfl (by unfold ir; omega) (wm 7 149 rfl rfl) ⟨rfl, rfl, rfl, rfl⟩ rfl dX12_mark_2 rfl (fun H locs G => ?_)
  refine lv_iload_n hx hb dX12_mark_5 rfl (lv_at hl 1 rfl) ?_
  refine xb_if_lt (tgt := 24) hx hb (by unfold ir; omega) dX12_mark_6 (by decide) (fun c_6 => ?_) (fun c_6 => ?_)
  · refine lv_lconst (v := jv 0) hx hb dX12_mark_24 rfl ?_
    refine lv_goto (tgt := 34) hx hb dX12_mark_25 (by decide) ?_
    have e_1 : (sv μ 111 0 0).1 111 2 = μ.1 111 2 := (sv_n _ (by decide))
    have hci_2 : CIr (sv μ 111 0 0) := CIr.mv hC (Eqa.fr (L := [111]) (FrM.put FrM.rf (by decide)) (by decide)) (Eqf.fd (L := [0]) (fun j hj => (sv_n _ (fun h9 => hj (by rw [h9.2]; decide)))) (by decide)) (by have h9 : (sv μ 111 0 0).1 111 2 = μ.1 111 2 := (sv_n _ (by decide)); omega)
    exact xr_l G (x := 0) hret hlk (by unfold jr; omega) dX12_mark_34 ⟨(FrM.put FrM.rf (by decide)), (fun j hj => (sv_n _ (fun h9 => hj (by rw [h9.2]; decide)))), hci_2⟩
  · refine lv_iload_n hx hb dX12_mark_9 rfl (lv_at hl 1 rfl) ?_
    refine lv_aload_n hx hb dX12_mark_10 rfl (lv_at hl 0 rfl) ?_
    refine xa_geti G fd_X12 (a := 111) (x := μ.1 111 85) 85 rfl (by decide) rfl (wm 7 234 rfl rfl) ⟨rfl, rfl, rfl⟩ dX12_mark_11 rfl (sv_n _ (by decide)) ?_
    have hr_3 : -2147483648 ≤ μ.1 111 85 ∧ μ.1 111 85 ≤ 2147483647 := by have h9 := G.hr (a := 111) (k := 85) rfl; rw [show (sv μ 111 0 0).1 111 85 = μ.1 111 85 from (sv_n _ (by decide))] at h9; exact h9
    refine xb_icmp_ge (tgt := 24) hx hb (by unfold ir; omega) (by unfold ir; omega) dX12_mark_14 (by decide) (fun c_14 => ?_) (fun c_14 => ?_)
    · refine lv_lconst (v := jv 0) hx hb dX12_mark_24 rfl ?_
      refine lv_goto (tgt := 34) hx hb dX12_mark_25 (by decide) ?_
      have e_4 : (sv μ 111 0 0).1 111 2 = μ.1 111 2 := (sv_n _ (by decide))
      have hci_5 : CIr (sv μ 111 0 0) := CIr.mv hC (Eqa.fr (L := [111]) (FrM.put FrM.rf (by decide)) (by decide)) (Eqf.fd (L := [0]) (fun j hj => (sv_n _ (fun h9 => hj (by rw [h9.2]; decide)))) (by decide)) (by have h9 : (sv μ 111 0 0).1 111 2 = μ.1 111 2 := (sv_n _ (by decide)); omega)
      exact xr_l G (x := 0) hret hlk (by unfold jr; omega) dX12_mark_34 ⟨(FrM.put FrM.rf (by decide)), (fun j hj => (sv_n _ (fun h9 => hj (by rw [h9.2]; decide)))), hci_5⟩
    · refine lv_iload_n hx hb dX12_mark_17 rfl (lv_at hl 1 rfl) ?_
      refine lv_sipush (v := iv 200) hx hb dX12_mark_18 rfl ?_
      refine xb_icmp_lt (tgt := 28) hx hb (by unfold ir; omega) (by unfold ir; omega) dX12_mark_21 (by decide) (fun c_21 => ?_) (fun c_21 => ?_)
      · refine lv_aload_n hx hb dX12_mark_28 rfl (lv_at hl 0 rfl) ?_
        refine xa_getr G fd_X12 (a := 111) (x := 160) 86 rfl (by decide) rfl (wm 7 235 rfl rfl) ⟨rfl, rfl, rfl⟩ dX12_mark_29 rfl (G.sk 158 rfl) (by decide) rfl ?_
        refine lv_iload_n hx hb dX12_mark_32 rfl (lv_at hl 1 rfl) ?_
        refine xa_lald G (a := 160) (i := x1) rfl (by have h9 := G.lc (a := 160) (n := 200) 98 rfl; omega) dX12_mark_33 rfl ?_
        refine xb_tl (y := μ.1 160 x1) (sv_n _ (fun h9 => absurd h9.1 (by decide))) ?_
        have hj_6 : jr (μ.1 160 x1) := (by have h9 := G.hj (a := 160) (k := x1) rfl; rw [(sv_n _ (fun h9 => absurd h9.1 (by decide)))] at h9; exact h9)
        have e_7 : (sv μ 111 0 0).1 111 2 = μ.1 111 2 := (sv_n _ (by decide))
        have hci_8 : CIr (sv μ 111 0 0) := CIr.mv hC (Eqa.fr (L := [111]) (FrM.put FrM.rf (by decide)) (by decide)) (Eqf.fd (L := [0]) (fun j hj => (sv_n _ (fun h9 => hj (by rw [h9.2]; decide)))) (by decide)) (by have h9 : (sv μ 111 0 0).1 111 2 = μ.1 111 2 := (sv_n _ (by decide)); omega)
        exact xr_l G (x := μ.1 160 x1) hret hlk hj_6 dX12_mark_34 ⟨(FrM.put FrM.rf (by decide)), (fun j hj => (sv_n _ (fun h9 => hj (by rw [h9.2]; decide)))), hci_8⟩
      · refine lv_lconst (v := jv 0) hx hb dX12_mark_24 rfl ?_
        refine lv_goto (tgt := 34) hx hb dX12_mark_25 (by decide) ?_
        have e_9 : (sv μ 111 0 0).1 111 2 = μ.1 111 2 := (sv_n _ (by decide))
        have hci_10 : CIr (sv μ 111 0 0) := CIr.mv hC (Eqa.fr (L := [111]) (FrM.put FrM.rf (by decide)) (by decide)) (Eqf.fd (L := [0]) (fun j hj => (sv_n _ (fun h9 => hj (by rw [h9.2]; decide)))) (by decide)) (by have h9 : (sv μ 111 0 0).1 111 2 = μ.1 111 2 := (sv_n _ (by decide)); omega)
        exact xr_l G (x := 0) hret hlk (by unfold jr; omega) dX12_mark_34 ⟨(FrM.put FrM.rf (by decide)), (fun j hj => (sv_n _ (fun h9 => hj (by rw [h9.2]; decide)))), hci_10⟩

set_option maxHeartbeats 4000000 in
set_option maxRecDepth 100000 in
theorem c_X12_markTongue (ω : Om) (l : Launch) (μ : M3) (x1 : Int) (hx1 : ir x1) (hC : CIr μ) : CtI ω l yX12_markTongue cX12_markTongue 2 .int 0 0 [.ref (oP ω 111), .int (iv x1)] μ (fun (r : Int) (μ' : M3) => (FrM [111] μ μ') ∧ (∀ j, j ∉ ([0] : List Int) → μ'.1 111 j = μ.1 111 j) ∧ (CIr μ')) := by
  refine CtI.go (by decide) (Nat.le_of_ble_eq_true rfl) (fun ρ p e s m below meth c R ls G hR hret hlk hl => ?_)
  have hx := G.1.1
  have hb := G.1.2.1
  have hl : lv_has ls 2 [(0, .ref (oP ω 111)), (1, .int (iv x1))] := hl
  generalize s.drawn = d0 at G ⊢
  have hr_x1 : -2147483648 ≤ x1 ∧ x1 ≤ 2147483647 := hx1
  have hcn_ := hC.n
  refine lv_aload_n hx hb dX12_markTongue_0 rfl (lv_at hl 0 rfl) ?_
  refine lv_iconst (v := iv 0) hx hb dX12_markTongue_1 rfl ?_
  refine xa_puti G fd_X12 (a := 111) (x := 0) 0 (kz := 0) rfl rfl (by decide) rfl (by unfold ir; omega) (wm 7 149 rfl rfl) ⟨rfl, rfl, rfl, rfl⟩ rfl dX12_markTongue_2 rfl (fun H locs G => ?_)
  refine lv_iload_n hx hb dX12_markTongue_5 rfl (lv_at hl 1 rfl) ?_
  refine xb_if_lt (tgt := 24) hx hb (by unfold ir; omega) dX12_markTongue_6 (by decide) (fun c_6 => ?_) (fun c_6 => ?_)
  · refine lv_iconst (v := iv (-1)) hx hb dX12_markTongue_24 rfl ?_
    refine lv_goto (tgt := 34) hx hb dX12_markTongue_25 (by decide) ?_
    have e_1 : (sv μ 111 0 0).1 111 2 = μ.1 111 2 := (sv_n _ (by decide))
    have hci_2 : CIr (sv μ 111 0 0) := CIr.mv hC (Eqa.fr (L := [111]) (FrM.put FrM.rf (by decide)) (by decide)) (Eqf.fd (L := [0]) (fun j hj => (sv_n _ (fun h9 => hj (by rw [h9.2]; decide)))) (by decide)) (by have h9 : (sv μ 111 0 0).1 111 2 = μ.1 111 2 := (sv_n _ (by decide)); omega)
    exact xr_i G (x := (-1)) hret hlk (by unfold ir; omega) rfl dX12_markTongue_34 ⟨(FrM.put FrM.rf (by decide)), (fun j hj => (sv_n _ (fun h9 => hj (by rw [h9.2]; decide)))), hci_2⟩
  · refine lv_iload_n hx hb dX12_markTongue_9 rfl (lv_at hl 1 rfl) ?_
    refine lv_aload_n hx hb dX12_markTongue_10 rfl (lv_at hl 0 rfl) ?_
    refine xa_geti G fd_X12 (a := 111) (x := μ.1 111 85) 85 rfl (by decide) rfl (wm 7 234 rfl rfl) ⟨rfl, rfl, rfl⟩ dX12_markTongue_11 rfl (sv_n _ (by decide)) ?_
    have hr_3 : -2147483648 ≤ μ.1 111 85 ∧ μ.1 111 85 ≤ 2147483647 := by have h9 := G.hr (a := 111) (k := 85) rfl; rw [show (sv μ 111 0 0).1 111 85 = μ.1 111 85 from (sv_n _ (by decide))] at h9; exact h9
    refine xb_icmp_ge (tgt := 24) hx hb (by unfold ir; omega) (by unfold ir; omega) dX12_markTongue_14 (by decide) (fun c_14 => ?_) (fun c_14 => ?_)
    · refine lv_iconst (v := iv (-1)) hx hb dX12_markTongue_24 rfl ?_
      refine lv_goto (tgt := 34) hx hb dX12_markTongue_25 (by decide) ?_
      have e_4 : (sv μ 111 0 0).1 111 2 = μ.1 111 2 := (sv_n _ (by decide))
      have hci_5 : CIr (sv μ 111 0 0) := CIr.mv hC (Eqa.fr (L := [111]) (FrM.put FrM.rf (by decide)) (by decide)) (Eqf.fd (L := [0]) (fun j hj => (sv_n _ (fun h9 => hj (by rw [h9.2]; decide)))) (by decide)) (by have h9 : (sv μ 111 0 0).1 111 2 = μ.1 111 2 := (sv_n _ (by decide)); omega)
      exact xr_i G (x := (-1)) hret hlk (by unfold ir; omega) rfl dX12_markTongue_34 ⟨(FrM.put FrM.rf (by decide)), (fun j hj => (sv_n _ (fun h9 => hj (by rw [h9.2]; decide)))), hci_5⟩
    · refine lv_iload_n hx hb dX12_markTongue_17 rfl (lv_at hl 1 rfl) ?_
      refine lv_sipush (v := iv 200) hx hb dX12_markTongue_18 rfl ?_
      refine xb_icmp_lt (tgt := 28) hx hb (by unfold ir; omega) (by unfold ir; omega) dX12_markTongue_21 (by decide) (fun c_21 => ?_) (fun c_21 => ?_)
      · refine lv_aload_n hx hb dX12_markTongue_28 rfl (lv_at hl 0 rfl) ?_
        refine xa_getr G fd_X12 (a := 111) (x := 161) 87 rfl (by decide) rfl (wm 7 236 rfl rfl) ⟨rfl, rfl, rfl⟩ dX12_markTongue_29 rfl (G.sk 159 rfl) (by decide) rfl ?_
        refine lv_iload_n hx hb dX12_markTongue_32 rfl (lv_at hl 1 rfl) ?_
        refine xa_iald G (a := 161) (i := x1) rfl (by have h9 := G.lc (a := 161) (n := 200) 99 rfl; omega) dX12_markTongue_33 rfl ?_
        refine xb_ti (y := μ.1 161 x1) (sv_n _ (fun h9 => absurd h9.1 (by decide))) ?_
        have hr_6 : -2147483648 ≤ μ.1 161 x1 ∧ μ.1 161 x1 ≤ 2147483647 := by have h9 := G.hr (a := 161) (k := x1) rfl; rw [(sv_n _ (fun h9 => absurd h9.1 (by decide)))] at h9; exact h9
        have e_7 : (sv μ 111 0 0).1 111 2 = μ.1 111 2 := (sv_n _ (by decide))
        have hci_8 : CIr (sv μ 111 0 0) := CIr.mv hC (Eqa.fr (L := [111]) (FrM.put FrM.rf (by decide)) (by decide)) (Eqf.fd (L := [0]) (fun j hj => (sv_n _ (fun h9 => hj (by rw [h9.2]; decide)))) (by decide)) (by have h9 : (sv μ 111 0 0).1 111 2 = μ.1 111 2 := (sv_n _ (by decide)); omega)
        exact xr_i G (x := μ.1 161 x1) hret hlk (by unfold ir; omega) rfl dX12_markTongue_34 ⟨(FrM.put FrM.rf (by decide)), (fun j hj => (sv_n _ (fun h9 => hj (by rw [h9.2]; decide)))), hci_8⟩
      · refine lv_iconst (v := iv (-1)) hx hb dX12_markTongue_24 rfl ?_
        refine lv_goto (tgt := 34) hx hb dX12_markTongue_25 (by decide) ?_
        have e_9 : (sv μ 111 0 0).1 111 2 = μ.1 111 2 := (sv_n _ (by decide))
        have hci_10 : CIr (sv μ 111 0 0) := CIr.mv hC (Eqa.fr (L := [111]) (FrM.put FrM.rf (by decide)) (by decide)) (Eqf.fd (L := [0]) (fun j hj => (sv_n _ (fun h9 => hj (by rw [h9.2]; decide)))) (by decide)) (by have h9 : (sv μ 111 0 0).1 111 2 = μ.1 111 2 := (sv_n _ (by decide)); omega)
        exact xr_i G (x := (-1)) hret hlk (by unfold ir; omega) rfl dX12_markTongue_34 ⟨(FrM.put FrM.rf (by decide)), (fun j hj => (sv_n _ (fun h9 => hj (by rw [h9.2]; decide)))), hci_10⟩

set_option maxHeartbeats 4000000 in
set_option maxRecDepth 100000 in
theorem c_X12_answer (ω : Om) (l : Launch) (μ : M3) (hC : CIr μ) : CtL ω l yX12_answer cX12_answer 1 0 0 [.ref (oP ω 111)] μ (fun (r : Int) (μ' : M3) => (FrM [111] μ μ') ∧ (∀ j, j ∉ ([0] : List Int) → μ'.1 111 j = μ.1 111 j) ∧ (CIr μ')) := by
  refine CtL.go (by decide) (Nat.le_of_ble_eq_true rfl) (fun ρ p e s m below meth c R ls G hR hret hlk hl => ?_)
  have hx := G.1.1
  have hb := G.1.2.1
  have hl : lv_has ls 1 [(0, .ref (oP ω 111))] := hl
  generalize s.drawn = d0 at G ⊢
  have hcn_ := hC.n
  refine lv_aload_n hx hb dX12_answer_0 rfl (lv_at hl 0 rfl) ?_
  refine lv_iconst (v := iv 0) hx hb dX12_answer_1 rfl ?_
  refine xa_puti G fd_X12 (a := 111) (x := 0) 0 (kz := 0) rfl rfl (by decide) rfl (by unfold ir; omega) (wm 7 149 rfl rfl) ⟨rfl, rfl, rfl, rfl⟩ rfl dX12_answer_2 rfl (fun H locs G => ?_)
  refine lv_aload_n hx hb dX12_answer_5 rfl (lv_at hl 0 rfl) ?_
  refine xa_geti G fd_X12 (a := 111) (x := μ.1 111 95) 95 rfl (by decide) rfl (wm 8 4 rfl rfl) ⟨rfl, rfl, rfl⟩ dX12_answer_6 rfl (sv_n _ (by decide)) ?_
  have hr_1 : -2147483648 ≤ μ.1 111 95 ∧ μ.1 111 95 ≤ 2147483647 := by have h9 := G.hr (a := 111) (k := 95) rfl; rw [show (sv μ 111 0 0).1 111 95 = μ.1 111 95 from (sv_n _ (by decide))] at h9; exact h9
  refine lv_iconst (v := iv 2) hx hb dX12_answer_9 rfl ?_
  refine xb_icmp_ne (tgt := 27) hx hb (by unfold ir; omega) (by unfold ir; omega) dX12_answer_10 (by decide) (fun c_10 => ?_) (fun c_10 => ?_)
  · refine lv_aload_n hx hb dX12_answer_27 rfl (lv_at hl 0 rfl) ?_
    refine xa_geti G fd_X12 (a := 111) (x := μ.1 111 95) 95 rfl (by decide) rfl (wm 8 4 rfl rfl) ⟨rfl, rfl, rfl⟩ dX12_answer_28 rfl (sv_n _ (by decide)) ?_
    refine xb_if_ne (tgt := 38) hx hb (by unfold ir; omega) dX12_answer_31 (by decide) (fun c_31 => ?_) (fun c_31 => ?_)
    · refine lv_aload_n hx hb dX12_answer_38 rfl (lv_at hl 0 rfl) ?_
      refine xa_getl G fd_X12 (a := 111) (x := μ.1 111 96) 96 rfl (by decide) rfl (wm 8 5 rfl rfl) ⟨rfl, rfl, rfl⟩ dX12_answer_39 rfl (sv_n _ (by decide)) ?_
      have hj_2 : jr (μ.1 111 96) := by have h9 := G.hj (a := 111) (k := 96) rfl; rw [show (sv μ 111 0 0).1 111 96 = μ.1 111 96 from (sv_n _ (by decide))] at h9; exact h9
      have e_3 : (sv μ 111 0 0).1 111 2 = μ.1 111 2 := (sv_n _ (by decide))
      have hci_4 : CIr (sv μ 111 0 0) := CIr.mv hC (Eqa.fr (L := [111]) (FrM.put FrM.rf (by decide)) (by decide)) (Eqf.fd (L := [0]) (fun j hj => (sv_n _ (fun h9 => hj (by rw [h9.2]; decide)))) (by decide)) (by have h9 : (sv μ 111 0 0).1 111 2 = μ.1 111 2 := (sv_n _ (by decide)); omega)
      exact xr_l G (x := μ.1 111 96) hret hlk hj_2 dX12_answer_42 ⟨(FrM.put FrM.rf (by decide)), (fun j hj => (sv_n _ (fun h9 => hj (by rw [h9.2]; decide)))), hci_4⟩
    · refine lv_lconst (v := jv 0) hx hb dX12_answer_34 rfl ?_
      refine lv_goto (tgt := 42) hx hb dX12_answer_35 (by decide) ?_
      have e_5 : (sv μ 111 0 0).1 111 2 = μ.1 111 2 := (sv_n _ (by decide))
      have hci_6 : CIr (sv μ 111 0 0) := CIr.mv hC (Eqa.fr (L := [111]) (FrM.put FrM.rf (by decide)) (by decide)) (Eqf.fd (L := [0]) (fun j hj => (sv_n _ (fun h9 => hj (by rw [h9.2]; decide)))) (by decide)) (by have h9 : (sv μ 111 0 0).1 111 2 = μ.1 111 2 := (sv_n _ (by decide)); omega)
      exact xr_l G (x := 0) hret hlk (by unfold jr; omega) dX12_answer_42 ⟨(FrM.put FrM.rf (by decide)), (fun j hj => (sv_n _ (fun h9 => hj (by rw [h9.2]; decide)))), hci_6⟩
  · refine lv_aload_n hx hb dX12_answer_13 rfl (lv_at hl 0 rfl) ?_
    refine xa_getr G fd_X12 (a := 111) (x := 145) 63 rfl (by decide) rfl (wm 7 212 rfl rfl) ⟨rfl, rfl, rfl⟩ dX12_answer_14 rfl (G.sk 143 rfl) (by decide) rfl ?_
    refine lv_aload_n hx hb dX12_answer_17 rfl (lv_at hl 0 rfl) ?_
    refine xa_getl G fd_X12 (a := 111) (x := μ.1 111 96) 96 rfl (by decide) rfl (wm 8 5 rfl rfl) ⟨rfl, rfl, rfl⟩ dX12_answer_18 rfl (sv_n _ (by decide)) ?_
    have hj_7 : jr (μ.1 111 96) := by have h9 := G.hj (a := 111) (k := 96) rfl; rw [show (sv μ 111 0 0).1 111 96 = μ.1 111 96 from (sv_n _ (by decide))] at h9; exact h9
    refine xb_l2i hx hb dX12_answer_21 ?_
    refine xb_topi (fun y_8 hr_y_8 he_y_8 => ?_)
    have hr_y_8 : -2147483648 ≤ y_8 ∧ y_8 ≤ 2147483647 := hr_y_8
    have hli_y_8 : ir (μ.1 111 96) → y_8 = μ.1 111 96 := fun h9 => (iv_eq hr_y_8 h9).mp he_y_8
    unfold ir at hli_y_8
    refine xb_ti (y := μ.1 111 96) (hli_y_8 (by omega)) ?_
    have hr_9 : -2147483648 ≤ μ.1 111 96 ∧ μ.1 111 96 ≤ 2147483647 := by omega
    refine xa_iald G (a := 145) (i := μ.1 111 96) rfl (by have h9 := G.lc (a := 145) (n := 20100) 83 rfl; omega) dX12_answer_22 rfl ?_
    refine xb_ti (y := μ.1 145 (μ.1 111 96)) (sv_n _ (fun h9 => absurd h9.1 (by decide))) ?_
    have hr_10 : -2147483648 ≤ μ.1 145 (μ.1 111 96) ∧ μ.1 145 (μ.1 111 96) ≤ 2147483647 := by have h9 := G.hr (a := 145) (k := μ.1 111 96) rfl; rw [(sv_n _ (fun h9 => absurd h9.1 (by decide)))] at h9; exact h9
    refine xb_i2l hx hb (by unfold ir; omega) dX12_answer_23 ?_
    refine lv_goto (tgt := 42) hx hb dX12_answer_24 (by decide) ?_
    have e_11 : (sv μ 111 0 0).1 111 2 = μ.1 111 2 := (sv_n _ (by decide))
    have hci_12 : CIr (sv μ 111 0 0) := CIr.mv hC (Eqa.fr (L := [111]) (FrM.put FrM.rf (by decide)) (by decide)) (Eqf.fd (L := [0]) (fun j hj => (sv_n _ (fun h9 => hj (by rw [h9.2]; decide)))) (by decide)) (by have h9 : (sv μ 111 0 0).1 111 2 = μ.1 111 2 := (sv_n _ (by decide)); omega)
    exact xr_l G (x := μ.1 145 (μ.1 111 96)) hret hlk (by unfold jr; omega) dX12_answer_42 ⟨(FrM.put FrM.rf (by decide)), (fun j hj => (sv_n _ (fun h9 => hj (by rw [h9.2]; decide)))), hci_12⟩

set_option maxHeartbeats 4000000 in
set_option maxRecDepth 100000 in
theorem c_X12_letter (ω : Om) (l : Launch) (μ : M3) (x1 : Int) (x2 : Int) (hx1 : ir x1) (hx2 : ir x2) (hC : CIr μ) : CtI ω l yX12_letter cX12_letter 8 .int 0 0 [.ref (oP ω 111), .int (iv x1), .int (iv x2)] μ (fun (r : Int) (μ' : M3) => (FrM [111] μ μ') ∧ (∀ j, j ∉ ([0] : List Int) → μ'.1 111 j = μ.1 111 j) ∧ (CIr μ')) := by
  refine CtI.go (by decide) (Nat.le_of_ble_eq_true rfl) (fun ρ p e s m below meth c R ls G hR hret hlk hl => ?_)
  have hx := G.1.1
  have hb := G.1.2.1
  have hl : lv_has ls 8 [(0, .ref (oP ω 111)), (1, .int (iv x1)), (2, .int (iv x2))] := hl
  generalize s.drawn = d0 at G ⊢
  have hr_x1 : -2147483648 ≤ x1 ∧ x1 ≤ 2147483647 := hx1
  have hr_x2 : -2147483648 ≤ x2 ∧ x2 ≤ 2147483647 := hx2
  have hcn_ := hC.n
  refine lv_aload_n hx hb dX12_letter_0 rfl (lv_at hl 0 rfl) ?_
  refine lv_iconst (v := iv 0) hx hb dX12_letter_1 rfl ?_
  refine xa_puti G fd_X12 (a := 111) (x := 0) 0 (kz := 0) rfl rfl (by decide) rfl (by unfold ir; omega) (wm 7 149 rfl rfl) ⟨rfl, rfl, rfl, rfl⟩ rfl dX12_letter_2 rfl (fun H locs G => ?_)
  refine lv_iload_n hx hb dX12_letter_5 rfl (lv_at hl 1 rfl) ?_
  refine lv_iconst (v := iv 1) hx hb dX12_letter_6 rfl ?_
  refine xb_icmp_lt (tgt := 22) hx hb (by unfold ir; omega) (by unfold ir; omega) dX12_letter_7 (by decide) (fun c_7 => ?_) (fun c_7 => ?_)
  · refine lv_iconst (v := iv (-1)) hx hb dX12_letter_22 rfl ?_
    have e_1 : (sv μ 111 0 0).1 111 2 = μ.1 111 2 := (sv_n _ (by decide))
    have hci_2 : CIr (sv μ 111 0 0) := CIr.mv hC (Eqa.fr (L := [111]) (FrM.put FrM.rf (by decide)) (by decide)) (Eqf.fd (L := [0]) (fun j hj => (sv_n _ (fun h9 => hj (by rw [h9.2]; decide)))) (by decide)) (by have h9 : (sv μ 111 0 0).1 111 2 = μ.1 111 2 := (sv_n _ (by decide)); omega)
    exact xr_i G (x := (-1)) hret hlk (by unfold ir; omega) rfl dX12_letter_23 ⟨(FrM.put FrM.rf (by decide)), (fun j hj => (sv_n _ (fun h9 => hj (by rw [h9.2]; decide)))), hci_2⟩
  · refine lv_iload_n hx hb dX12_letter_10 rfl (lv_at hl 1 rfl) ?_
    refine lv_aload_n hx hb dX12_letter_11 rfl (lv_at hl 0 rfl) ?_
    refine xa_geti G fd_X12 (a := 111) (x := μ.1 111 4) 4 rfl (by decide) rfl (wm 7 153 rfl rfl) ⟨rfl, rfl, rfl⟩ dX12_letter_12 rfl (sv_n _ (by decide)) ?_
    have hr_3 : -2147483648 ≤ μ.1 111 4 ∧ μ.1 111 4 ≤ 2147483647 := by have h9 := G.hr (a := 111) (k := 4) rfl; rw [show (sv μ 111 0 0).1 111 4 = μ.1 111 4 from (sv_n _ (by decide))] at h9; exact h9
    refine xb_icmp_ge (tgt := 22) hx hb (by unfold ir; omega) (by unfold ir; omega) dX12_letter_15 (by decide) (fun c_15 => ?_) (fun c_15 => ?_)
    · refine lv_iconst (v := iv (-1)) hx hb dX12_letter_22 rfl ?_
      have e_4 : (sv μ 111 0 0).1 111 2 = μ.1 111 2 := (sv_n _ (by decide))
      have hci_5 : CIr (sv μ 111 0 0) := CIr.mv hC (Eqa.fr (L := [111]) (FrM.put FrM.rf (by decide)) (by decide)) (Eqf.fd (L := [0]) (fun j hj => (sv_n _ (fun h9 => hj (by rw [h9.2]; decide)))) (by decide)) (by have h9 : (sv μ 111 0 0).1 111 2 = μ.1 111 2 := (sv_n _ (by decide)); omega)
      exact xr_i G (x := (-1)) hret hlk (by unfold ir; omega) rfl dX12_letter_23 ⟨(FrM.put FrM.rf (by decide)), (fun j hj => (sv_n _ (fun h9 => hj (by rw [h9.2]; decide)))), hci_5⟩
    · refine lv_iload_n hx hb dX12_letter_18 rfl (lv_at hl 2 rfl) ?_
      refine xb_if_ge (tgt := 24) hx hb (by unfold ir; omega) dX12_letter_19 (by decide) (fun c_19 => ?_) (fun c_19 => ?_)
      · refine lv_aload_n hx hb dX12_letter_24 rfl (lv_at hl 0 rfl) ?_
        refine xa_getr G fd_X12 (a := 111) (x := 113) 3 rfl (by decide) rfl (wm 7 152 rfl rfl) ⟨rfl, rfl, rfl⟩ dX12_letter_25 rfl (G.sk 111 rfl) (by decide) rfl ?_
        refine lv_iload_n hx hb dX12_letter_28 rfl (lv_at hl 1 rfl) ?_
        refine xa_lald G (a := 113) (i := x1) rfl (by have h9 := G.lc (a := 113) (n := 64) 51 rfl; omega) dX12_letter_29 rfl ?_
        refine xb_tl (y := μ.1 113 x1) (sv_n _ (fun h9 => absurd h9.1 (by decide))) ?_
        have hj_6 : jr (μ.1 113 x1) := (by have h9 := G.hj (a := 113) (k := x1) rfl; rw [(sv_n _ (fun h9 => absurd h9.1 (by decide)))] at h9; exact h9)
        refine lv_lstore_n (lv' := [(3, .long (jv (μ.1 113 x1))), (0, .ref (oP ω 111)), (1, .int (iv x1)), (2, .int (iv x2))]) hx hb dX12_letter_30 rfl hl (by decide) rfl (fun ls hl => ?_)
        refine lv_iconst (v := iv 0) hx hb dX12_letter_31 rfl ?_
        refine lv_istore (lv' := [(5, .int (iv 0)), (3, .long (jv (μ.1 113 x1))), (0, .ref (oP ω 111)), (1, .int (iv x1)), (2, .int (iv x2))]) hx hb dX12_letter_32 hl (by decide) rfl (fun ls hl => ?_)
        refine lv_lload_n hx hb dX12_letter_34 rfl (lv_at hl 1 rfl) ?_
        refine lv_lstore (lv' := [(6, .long (jv (μ.1 113 x1))), (5, .int (iv 0)), (3, .long (jv (μ.1 113 x1))), (0, .ref (oP ω 111)), (1, .int (iv x1)), (2, .int (iv x2))]) hx hb dX12_letter_35 hl (by decide) rfl (fun ls hl => ?_)
        refine xl (fun n_9 μ' ls => ∃ (n9 : Int), ∃ (v9 : Int), (μ' = (sv μ 111 0 0)) ∧ (-2147483648 ≤ n9 ∧ n9 ≤ 2147483647) ∧ (jr v9) ∧ (lb37 n9 v9) ∧ n_9 = Int.toNat (v9) ∧ lv_has ls 8 [(6, .long (jv v9)), (5, .int (iv n9)), (3, .long (jv (μ.1 113 x1))), (0, .ref (oP ω 111)), (1, .int (iv x1)), (2, .int (iv x2))]) (fun n_9 ρ μL7 d0 H locs ls hI_l G ih => ?_) _ _ _ _ _ _ _ ⟨0, μ.1 113 x1, rfl, (by omega), hj_6, (lb37_0 hj_6), rfl, lv_sub hl [0, 1, 2, 3, 4, 5] rfl⟩ G
        obtain ⟨n9, v9, FL8, hi_10, hi_11, hi_12, hn9, hl⟩ := hI_l
        have FL8 := Eq.symm FL8
        subst FL8
        have hln_ := lb37_n hi_12
        refine lv_lload hx hb dX12_letter_37 (lv_at hl 0 rfl) ?_
        refine lv_lconst (v := jv 0) hx hb dX12_letter_39 rfl ?_
        refine xb_lcmp hx hb hi_11 (by unfold jr; omega) dX12_letter_40 ?_
        have hr_13 : -2147483648 ≤ lcm v9 0 ∧ lcm v9 0 ≤ 2147483647 := lcm_ir _ _
        have hlc_14 := lcm_f v9 0
        refine xb_if_le (tgt := 58) hx hb (by unfold ir; omega) dX12_letter_41 (by decide) (fun c_41 => ?_) (fun c_41 => ?_)
        · refine lv_iload_n hx hb dX12_letter_58 rfl (lv_at hl 5 rfl) ?_
          refine lv_iload hx hb dX12_letter_59 (lv_at hl 1 rfl) ?_
          refine xb_icmp_lt (tgt := 66) hx hb (by unfold ir; omega) (by unfold ir; omega) dX12_letter_61 (by decide) (fun c_61 => ?_) (fun c_61 => ?_)
          · refine lv_iload hx hb dX12_letter_66 (lv_at hl 1 rfl) ?_
            refine lv_iconst (v := iv 1) hx hb dX12_letter_68 rfl ?_
            refine xb_isub hx hb dX12_letter_69 ?_
            refine lv_istore (lv' := [(6, .int (iv (n9 - 1))), (5, .int (iv n9)), (3, .long (jv (μ.1 113 x1))), (0, .ref (oP ω 111)), (1, .int (iv x1)), (2, .int (iv x2))]) hx hb dX12_letter_70 hl (by decide) rfl (fun ls hl => ?_)
            refine xl (fun n_9 μ' ls => ∃ (z9 : Int), ∃ (i9 : Int), (μ' = (sv μ 111 0 0)) ∧ (jr z9) ∧ (-2147483648 ≤ i9 ∧ i9 ≤ 2147483647) ∧ (i9 ≤ 13) ∧ n_9 = Int.toNat (i9 - x2) ∧ lv_has ls 8 [(6, .int (iv i9)), (3, .long (jv z9)), (0, .ref (oP ω 111)), (1, .int (iv x1)), (2, .int (iv x2))]) (fun n_9 ρ μL15 d0 H locs ls hI_l G ih => ?_) _ _ _ _ _ _ _ ⟨μ.1 113 x1, n9 - 1, rfl, hj_6, (by omega), (by omega), rfl, lv_sub hl [0, 2, 3, 4, 5] rfl⟩ G
            obtain ⟨z9, i9, FL16, hi_18, hi_19, hi_20, hn17, hl⟩ := hI_l
            have FL16 := Eq.symm FL16
            subst FL16
            refine lv_iload hx hb dX12_letter_72 (lv_at hl 0 rfl) ?_
            refine lv_iload_n hx hb dX12_letter_74 rfl (lv_at hl 4 rfl) ?_
            refine xb_icmp_le (tgt := 90) hx hb (by unfold ir; omega) (by unfold ir; omega) dX12_letter_75 (by decide) (fun c_75 => ?_) (fun c_75 => ?_)
            · refine lv_lload_n hx hb dX12_letter_90 rfl (lv_at hl 1 rfl) ?_
              refine lv_ldc2 (s := s.setDrawn d0) hx hb G.1.2.2.2.1 (dr_words G.1.2.2.2.2 d0 _ (wm 7 145 rfl rfl)) dX12_letter_91 ?_
              refine xb_litl (x := 37) (by decide) ?_
              refine lv_lrem hx hb dX12_letter_94 (by decide) ?_
              refine xb_topl (fun z_21 hr_z_21 he_z_21 => ?_)
              refine xb_l2i hx hb dX12_letter_95 ?_
              refine xb_topi (fun y_22 hr_y_22 he_y_22 => ?_)
              have hr_y_22 : -2147483648 ≤ y_22 ∧ y_22 ≤ 2147483647 := hr_y_22
              have hli_y_22 : ir z_21 → y_22 = z_21 := fun h9 => (iv_eq hr_y_22 h9).mp he_y_22
              unfold ir at hli_y_22
              refine lv_istore (lv' := [(6, .int (iv y_22)), (3, .long (jv z9)), (0, .ref (oP ω 111)), (1, .int (iv x1)), (2, .int (iv x2))]) hx hb dX12_letter_96 hl (by decide) rfl (fun ls hl => ?_)
              refine lv_iload hx hb dX12_letter_98 (lv_at hl 0 rfl) ?_
              refine lv_bipush (v := iv 27) hx hb dX12_letter_100 rfl ?_
              refine xb_icmp_ge (tgt := 115) hx hb (by unfold ir; omega) (by unfold ir; omega) dX12_letter_102 (by decide) (fun c_102 => ?_) (fun c_102 => ?_)
              · refine lv_bipush (v := iv 48) hx hb dX12_letter_115 rfl ?_
                refine lv_iload hx hb dX12_letter_117 (lv_at hl 0 rfl) ?_
                refine xb_iadd hx hb dX12_letter_119 ?_
                refine lv_bipush (v := iv 27) hx hb dX12_letter_120 rfl ?_
                refine xb_isub hx hb dX12_letter_122 ?_
                refine xb_topi (fun y_23 hr_y_23 he_y_23 => ?_)
                have hr_y_23 : -2147483648 ≤ y_23 ∧ y_23 ≤ 2147483647 := hr_y_23
                have e_24 : (sv μ 111 0 0).1 111 2 = μ.1 111 2 := (sv_n _ (by decide))
                have hci_25 : CIr (sv μ 111 0 0) := CIr.mv hC (Eqa.fr (L := [111]) (FrM.put FrM.rf (by decide)) (by decide)) (Eqf.fd (L := [0]) (fun j hj => (sv_n _ (fun h9 => hj (by rw [h9.2]; decide)))) (by decide)) (by have h9 : (sv μ 111 0 0).1 111 2 = μ.1 111 2 := (sv_n _ (by decide)); omega)
                exact xr_i G (x := y_23) hret hlk (by unfold ir; omega) rfl dX12_letter_123 ⟨(FrM.put FrM.rf (by decide)), (fun j hj => (sv_n _ (fun h9 => hj (by rw [h9.2]; decide)))), hci_25⟩
              · refine lv_bipush (v := iv 97) hx hb dX12_letter_105 rfl ?_
                refine lv_iload hx hb dX12_letter_107 (lv_at hl 0 rfl) ?_
                refine xb_iadd hx hb dX12_letter_109 ?_
                refine lv_iconst (v := iv 1) hx hb dX12_letter_110 rfl ?_
                refine xb_isub hx hb dX12_letter_111 ?_
                refine lv_goto (tgt := 123) hx hb dX12_letter_112 (by decide) ?_
                refine xb_topi (fun y_26 hr_y_26 he_y_26 => ?_)
                have hr_y_26 : -2147483648 ≤ y_26 ∧ y_26 ≤ 2147483647 := hr_y_26
                have e_27 : (sv μ 111 0 0).1 111 2 = μ.1 111 2 := (sv_n _ (by decide))
                have hci_28 : CIr (sv μ 111 0 0) := CIr.mv hC (Eqa.fr (L := [111]) (FrM.put FrM.rf (by decide)) (by decide)) (Eqf.fd (L := [0]) (fun j hj => (sv_n _ (fun h9 => hj (by rw [h9.2]; decide)))) (by decide)) (by have h9 : (sv μ 111 0 0).1 111 2 = μ.1 111 2 := (sv_n _ (by decide)); omega)
                exact xr_i G (x := y_26) hret hlk (by unfold ir; omega) rfl dX12_letter_123 ⟨(FrM.put FrM.rf (by decide)), (fun j hj => (sv_n _ (fun h9 => hj (by rw [h9.2]; decide)))), hci_28⟩
            · refine lv_lload_n hx hb dX12_letter_78 rfl (lv_at hl 1 rfl) ?_
              refine lv_ldc2 (s := s.setDrawn d0) hx hb G.1.2.2.2.1 (dr_words G.1.2.2.2.2 d0 _ (wm 7 145 rfl rfl)) dX12_letter_79 ?_
              refine xb_litl (x := 37) (by decide) ?_
              refine xb_ldiv37 hx hb hi_18 dX12_letter_82 ?_
              have htd_29 := td37 hi_18
              refine lv_lstore_n (lv' := [(3, .long (jv (z9.tdiv 37))), (6, .int (iv i9)), (0, .ref (oP ω 111)), (1, .int (iv x1)), (2, .int (iv x2))]) hx hb dX12_letter_83 rfl hl (by decide) rfl (fun ls hl => ?_)
              refine lv_iinc (v := iv (i9 - 1)) (lv' := [(6, .int (iv (i9 - 1))), (3, .long (jv (z9.tdiv 37))), (0, .ref (oP ω 111)), (1, .int (iv x1)), (2, .int (iv x2))]) hx hb dX12_letter_84 hl (k := 1) rfl (by rw [show Int32.ofInt (-1) = iv (-1) from rfl, iv_add] <;> (congr 1 <;> omega)) (by decide) rfl (fun ls hl => ?_)
              refine lv_goto (tgt := 72) hx hb dX12_letter_87 (by decide) ?_
              exact ih _ _ _ _ _ _ _ (by omega) ⟨z9.tdiv 37, i9 - 1, rfl, (by unfold jr; omega), (by omega), (by omega), rfl, lv_sub hl [0, 1, 2, 3, 4] rfl⟩ G
          · refine lv_iconst (v := iv (-1)) hx hb dX12_letter_64 rfl ?_
            have e_30 : (sv μ 111 0 0).1 111 2 = μ.1 111 2 := (sv_n _ (by decide))
            have hci_31 : CIr (sv μ 111 0 0) := CIr.mv hC (Eqa.fr (L := [111]) (FrM.put FrM.rf (by decide)) (by decide)) (Eqf.fd (L := [0]) (fun j hj => (sv_n _ (fun h9 => hj (by rw [h9.2]; decide)))) (by decide)) (by have h9 : (sv μ 111 0 0).1 111 2 = μ.1 111 2 := (sv_n _ (by decide)); omega)
            exact xr_i G (x := (-1)) hret hlk (by unfold ir; omega) rfl dX12_letter_65 ⟨(FrM.put FrM.rf (by decide)), (fun j hj => (sv_n _ (fun h9 => hj (by rw [h9.2]; decide)))), hci_31⟩
        · refine lv_iinc (v := iv (n9 + 1)) (lv' := [(5, .int (iv (n9 + 1))), (6, .long (jv v9)), (3, .long (jv (μ.1 113 x1))), (0, .ref (oP ω 111)), (1, .int (iv x1)), (2, .int (iv x2))]) hx hb dX12_letter_44 hl (k := 1) rfl (by rw [show Int32.ofInt 1 = iv 1 from rfl, iv_add]) (by decide) rfl (fun ls hl => ?_)
          refine lv_lload hx hb dX12_letter_47 (lv_at hl 1 rfl) ?_
          refine lv_ldc2 (s := s.setDrawn d0) hx hb G.1.2.2.2.1 (dr_words G.1.2.2.2.2 d0 _ (wm 7 145 rfl rfl)) dX12_letter_49 ?_
          refine xb_litl (x := 37) (by decide) ?_
          refine xb_ldiv37 hx hb hi_11 dX12_letter_52 ?_
          have htd_32 := td37 hi_11
          have htd_33 := htd_32.2 (by omega)
          refine lv_lstore (lv' := [(6, .long (jv (v9.tdiv 37))), (5, .int (iv (n9 + 1))), (3, .long (jv (μ.1 113 x1))), (0, .ref (oP ω 111)), (1, .int (iv x1)), (2, .int (iv x2))]) hx hb dX12_letter_53 hl (by decide) rfl (fun ls hl => ?_)
          refine lv_goto (tgt := 37) hx hb dX12_letter_55 (by decide) ?_
          exact ih _ _ _ _ _ _ _ (by omega) ⟨n9 + 1, v9.tdiv 37, rfl, (by omega), (by unfold jr; omega), (lb37_s hi_12 (by omega)), rfl, lv_sub hl [0, 1, 2, 3, 4, 5] rfl⟩ G
      · refine lv_iconst (v := iv (-1)) hx hb dX12_letter_22 rfl ?_
        have e_34 : (sv μ 111 0 0).1 111 2 = μ.1 111 2 := (sv_n _ (by decide))
        have hci_35 : CIr (sv μ 111 0 0) := CIr.mv hC (Eqa.fr (L := [111]) (FrM.put FrM.rf (by decide)) (by decide)) (Eqf.fd (L := [0]) (fun j hj => (sv_n _ (fun h9 => hj (by rw [h9.2]; decide)))) (by decide)) (by have h9 : (sv μ 111 0 0).1 111 2 = μ.1 111 2 := (sv_n _ (by decide)); omega)
        exact xr_i G (x := (-1)) hret hlk (by unfold ir; omega) rfl dX12_letter_23 ⟨(FrM.put FrM.rf (by decide)), (fun j hj => (sv_n _ (fun h9 => hj (by rw [h9.2]; decide)))), hci_35⟩

set_option maxHeartbeats 4000000 in
set_option maxRecDepth 100000 in
theorem c_X12_rule (ω : Om) (l : Launch) (μ : M3) (x1 : Int) (x2 : Int) (x3 : Int) (hx1 : ir x1) (hx2 : ir x2) (hx3 : ir x3) (hC : CIr μ) : CtI ω l yX12_rule cX12_rule 4 .boolean 0 0 [.ref (oP ω 111), .int (iv x1), .int (iv x2), .int (iv x3)] μ (fun (r : Int) (μ' : M3) => (FrM [111, 162] μ μ') ∧ (∀ j, j ∉ ([0] : List Int) → μ'.1 111 j = μ.1 111 j) ∧ (CIr μ') ∧ ((r = 1 ∧ 0 ≤ x1 ∧ x1 ≤ 3 ∧ 0 ≤ x2 ∧ x2 ≤ 3 ∧ x1 ≠ x2 ∧ 0 ≤ x3 ∧ x3 ≤ 2) ∨ (r = 0 ∧ ¬ (0 ≤ x1 ∧ x1 ≤ 3 ∧ 0 ≤ x2 ∧ x2 ≤ 3 ∧ x1 ≠ x2 ∧ 0 ≤ x3 ∧ x3 ≤ 2)))) := by
  refine CtI.go (by decide) (Nat.le_of_ble_eq_true rfl) (fun ρ p e s m below meth c R ls G hR hret hlk hl => ?_)
  have hx := G.1.1
  have hb := G.1.2.1
  have hl : lv_has ls 4 [(0, .ref (oP ω 111)), (1, .int (iv x1)), (2, .int (iv x2)), (3, .int (iv x3))] := hl
  generalize s.drawn = d0 at G ⊢
  have hr_x1 : -2147483648 ≤ x1 ∧ x1 ≤ 2147483647 := hx1
  have hr_x2 : -2147483648 ≤ x2 ∧ x2 ≤ 2147483647 := hx2
  have hr_x3 : -2147483648 ≤ x3 ∧ x3 ≤ 2147483647 := hx3
  have hcn_ := hC.n
  refine lv_aload_n hx hb dX12_rule_0 rfl (lv_at hl 0 rfl) ?_
  refine lv_iconst (v := iv 0) hx hb dX12_rule_1 rfl ?_
  refine xa_puti G fd_X12 (a := 111) (x := 0) 0 (kz := 0) rfl rfl (by decide) rfl (by unfold ir; omega) (wm 7 149 rfl rfl) ⟨rfl, rfl, rfl, rfl⟩ rfl dX12_rule_2 rfl (fun H locs G => ?_)
  refine lv_iload_n hx hb dX12_rule_5 rfl (lv_at hl 1 rfl) ?_
  refine xb_if_lt (tgt := 37) hx hb (by unfold ir; omega) dX12_rule_6 (by decide) (fun c_6 => ?_) (fun c_6 => ?_)
  · refine lv_iconst (v := iv 0) hx hb dX12_rule_37 rfl ?_
    have e_1 : (sv μ 111 0 0).1 111 2 = μ.1 111 2 := (sv_n _ (by decide))
    have hci_2 : CIr (sv μ 111 0 0) := CIr.mv hC (Eqa.fr (L := [111]) (FrM.put FrM.rf (by decide)) (by decide)) (Eqf.fd (L := [0]) (fun j hj => (sv_n _ (fun h9 => hj (by rw [h9.2]; decide)))) (by decide)) (by have h9 : (sv μ 111 0 0).1 111 2 = μ.1 111 2 := (sv_n _ (by decide)); omega)
    exact xr_i G (x := 0) hret hlk (by unfold ir; omega) (zr (by omega)) dX12_rule_38 ⟨(FrM.put FrM.rf (by decide)), (fun j hj => (sv_n _ (fun h9 => hj (by rw [h9.2]; decide)))), hci_2, (by omega)⟩
  · refine lv_iload_n hx hb dX12_rule_9 rfl (lv_at hl 1 rfl) ?_
    refine lv_iconst (v := iv 3) hx hb dX12_rule_10 rfl ?_
    refine xb_icmp_gt (tgt := 37) hx hb (by unfold ir; omega) (by unfold ir; omega) dX12_rule_11 (by decide) (fun c_11 => ?_) (fun c_11 => ?_)
    · refine lv_iconst (v := iv 0) hx hb dX12_rule_37 rfl ?_
      have e_3 : (sv μ 111 0 0).1 111 2 = μ.1 111 2 := (sv_n _ (by decide))
      have hci_4 : CIr (sv μ 111 0 0) := CIr.mv hC (Eqa.fr (L := [111]) (FrM.put FrM.rf (by decide)) (by decide)) (Eqf.fd (L := [0]) (fun j hj => (sv_n _ (fun h9 => hj (by rw [h9.2]; decide)))) (by decide)) (by have h9 : (sv μ 111 0 0).1 111 2 = μ.1 111 2 := (sv_n _ (by decide)); omega)
      exact xr_i G (x := 0) hret hlk (by unfold ir; omega) (zr (by omega)) dX12_rule_38 ⟨(FrM.put FrM.rf (by decide)), (fun j hj => (sv_n _ (fun h9 => hj (by rw [h9.2]; decide)))), hci_4, (by omega)⟩
    · refine lv_iload_n hx hb dX12_rule_14 rfl (lv_at hl 2 rfl) ?_
      refine xb_if_lt (tgt := 37) hx hb (by unfold ir; omega) dX12_rule_15 (by decide) (fun c_15 => ?_) (fun c_15 => ?_)
      · refine lv_iconst (v := iv 0) hx hb dX12_rule_37 rfl ?_
        have e_5 : (sv μ 111 0 0).1 111 2 = μ.1 111 2 := (sv_n _ (by decide))
        have hci_6 : CIr (sv μ 111 0 0) := CIr.mv hC (Eqa.fr (L := [111]) (FrM.put FrM.rf (by decide)) (by decide)) (Eqf.fd (L := [0]) (fun j hj => (sv_n _ (fun h9 => hj (by rw [h9.2]; decide)))) (by decide)) (by have h9 : (sv μ 111 0 0).1 111 2 = μ.1 111 2 := (sv_n _ (by decide)); omega)
        exact xr_i G (x := 0) hret hlk (by unfold ir; omega) (zr (by omega)) dX12_rule_38 ⟨(FrM.put FrM.rf (by decide)), (fun j hj => (sv_n _ (fun h9 => hj (by rw [h9.2]; decide)))), hci_6, (by omega)⟩
      · refine lv_iload_n hx hb dX12_rule_18 rfl (lv_at hl 2 rfl) ?_
        refine lv_iconst (v := iv 3) hx hb dX12_rule_19 rfl ?_
        refine xb_icmp_gt (tgt := 37) hx hb (by unfold ir; omega) (by unfold ir; omega) dX12_rule_20 (by decide) (fun c_20 => ?_) (fun c_20 => ?_)
        · refine lv_iconst (v := iv 0) hx hb dX12_rule_37 rfl ?_
          have e_7 : (sv μ 111 0 0).1 111 2 = μ.1 111 2 := (sv_n _ (by decide))
          have hci_8 : CIr (sv μ 111 0 0) := CIr.mv hC (Eqa.fr (L := [111]) (FrM.put FrM.rf (by decide)) (by decide)) (Eqf.fd (L := [0]) (fun j hj => (sv_n _ (fun h9 => hj (by rw [h9.2]; decide)))) (by decide)) (by have h9 : (sv μ 111 0 0).1 111 2 = μ.1 111 2 := (sv_n _ (by decide)); omega)
          exact xr_i G (x := 0) hret hlk (by unfold ir; omega) (zr (by omega)) dX12_rule_38 ⟨(FrM.put FrM.rf (by decide)), (fun j hj => (sv_n _ (fun h9 => hj (by rw [h9.2]; decide)))), hci_8, (by omega)⟩
        · refine lv_iload_n hx hb dX12_rule_23 rfl (lv_at hl 1 rfl) ?_
          refine lv_iload_n hx hb dX12_rule_24 rfl (lv_at hl 2 rfl) ?_
          refine xb_icmp_eq (tgt := 37) hx hb (by unfold ir; omega) (by unfold ir; omega) dX12_rule_25 (by decide) (fun c_25 => ?_) (fun c_25 => ?_)
          · refine lv_iconst (v := iv 0) hx hb dX12_rule_37 rfl ?_
            have e_9 : (sv μ 111 0 0).1 111 2 = μ.1 111 2 := (sv_n _ (by decide))
            have hci_10 : CIr (sv μ 111 0 0) := CIr.mv hC (Eqa.fr (L := [111]) (FrM.put FrM.rf (by decide)) (by decide)) (Eqf.fd (L := [0]) (fun j hj => (sv_n _ (fun h9 => hj (by rw [h9.2]; decide)))) (by decide)) (by have h9 : (sv μ 111 0 0).1 111 2 = μ.1 111 2 := (sv_n _ (by decide)); omega)
            exact xr_i G (x := 0) hret hlk (by unfold ir; omega) (zr (by omega)) dX12_rule_38 ⟨(FrM.put FrM.rf (by decide)), (fun j hj => (sv_n _ (fun h9 => hj (by rw [h9.2]; decide)))), hci_10, (by omega)⟩
          · refine lv_iload_n hx hb dX12_rule_28 rfl (lv_at hl 3 rfl) ?_
            refine xb_if_lt (tgt := 37) hx hb (by unfold ir; omega) dX12_rule_29 (by decide) (fun c_29 => ?_) (fun c_29 => ?_)
            · refine lv_iconst (v := iv 0) hx hb dX12_rule_37 rfl ?_
              have e_11 : (sv μ 111 0 0).1 111 2 = μ.1 111 2 := (sv_n _ (by decide))
              have hci_12 : CIr (sv μ 111 0 0) := CIr.mv hC (Eqa.fr (L := [111]) (FrM.put FrM.rf (by decide)) (by decide)) (Eqf.fd (L := [0]) (fun j hj => (sv_n _ (fun h9 => hj (by rw [h9.2]; decide)))) (by decide)) (by have h9 : (sv μ 111 0 0).1 111 2 = μ.1 111 2 := (sv_n _ (by decide)); omega)
              exact xr_i G (x := 0) hret hlk (by unfold ir; omega) (zr (by omega)) dX12_rule_38 ⟨(FrM.put FrM.rf (by decide)), (fun j hj => (sv_n _ (fun h9 => hj (by rw [h9.2]; decide)))), hci_12, (by omega)⟩
            · refine lv_iload_n hx hb dX12_rule_32 rfl (lv_at hl 3 rfl) ?_
              refine lv_iconst (v := iv 2) hx hb dX12_rule_33 rfl ?_
              refine xb_icmp_le (tgt := 39) hx hb (by unfold ir; omega) (by unfold ir; omega) dX12_rule_34 (by decide) (fun c_34 => ?_) (fun c_34 => ?_)
              · refine lv_aload_n hx hb dX12_rule_39 rfl (lv_at hl 0 rfl) ?_
                refine xa_getr G fd_X12 (a := 111) (x := 162) 100 rfl (by decide) rfl (wm 8 9 rfl rfl) ⟨rfl, rfl, rfl⟩ dX12_rule_40 rfl (G.sk 160 rfl) (by decide) rfl ?_
                refine lv_iconst (v := iv 4) hx hb dX12_rule_43 rfl ?_
                refine lv_iload_n hx hb dX12_rule_44 rfl (lv_at hl 1 rfl) ?_
                refine xb_imul hx hb dX12_rule_45 ?_
                refine lv_iload_n hx hb dX12_rule_46 rfl (lv_at hl 2 rfl) ?_
                refine xb_iadd hx hb dX12_rule_47 ?_
                refine lv_iload_n hx hb dX12_rule_48 rfl (lv_at hl 3 rfl) ?_
                refine xa_iast G (a := 162) (i := (4 * x1) + x2) (x := x3) rfl (by have h9 := G.lc (a := 162) (n := 16) 100 rfl; omega) (by unfold ir; omega) dX12_rule_49 rfl (fun H locs G => ?_)
                refine lv_iconst (v := iv 1) hx hb dX12_rule_50 rfl ?_
                have e_13 : (sv (sv μ 111 0 0) 162 ((4 * x1) + x2) x3).1 111 2 = μ.1 111 2 := ((sv_n _ (fun h9 => absurd h9.1 (by decide))).trans (sv_n _ (by decide)))
                have hci_14 : CIr (sv (sv μ 111 0 0) 162 ((4 * x1) + x2) x3) := CIr.mv hC (Eqa.fr (L := [162, 111]) (FrM.put (FrM.put FrM.rf (by decide)) (by decide)) (by decide)) (Eqf.fd (L := [0]) (fun j hj => ((sv_n _ (fun h9 => absurd h9.1 (by decide))).trans (sv_n _ (fun h9 => hj (by rw [h9.2]; decide))))) (by decide)) (by have h9 : (sv (sv μ 111 0 0) 162 ((4 * x1) + x2) x3).1 111 2 = μ.1 111 2 := ((sv_n _ (fun h9 => absurd h9.1 (by decide))).trans (sv_n _ (by decide))); omega)
                exact xr_i G (x := 1) hret hlk (by unfold ir; omega) (zr (by omega)) dX12_rule_51 ⟨(FrM.put (FrM.put FrM.rf (by decide)) (by decide)), (fun j hj => ((sv_n _ (fun h9 => absurd h9.1 (by decide))).trans (sv_n _ (fun h9 => hj (by rw [h9.2]; decide))))), hci_14, (by omega)⟩
              · refine lv_iconst (v := iv 0) hx hb dX12_rule_37 rfl ?_
                have e_15 : (sv μ 111 0 0).1 111 2 = μ.1 111 2 := (sv_n _ (by decide))
                have hci_16 : CIr (sv μ 111 0 0) := CIr.mv hC (Eqa.fr (L := [111]) (FrM.put FrM.rf (by decide)) (by decide)) (Eqf.fd (L := [0]) (fun j hj => (sv_n _ (fun h9 => hj (by rw [h9.2]; decide)))) (by decide)) (by have h9 : (sv μ 111 0 0).1 111 2 = μ.1 111 2 := (sv_n _ (by decide)); omega)
                exact xr_i G (x := 0) hret hlk (by unfold ir; omega) (zr (by omega)) dX12_rule_38 ⟨(FrM.put FrM.rf (by decide)), (fun j hj => (sv_n _ (fun h9 => hj (by rw [h9.2]; decide)))), hci_16, (by omega)⟩

set_option maxHeartbeats 4000000 in
set_option maxRecDepth 100000 in
theorem c_X12_feed (ω : Om) (l : Launch) (μ : M3) (x1 : Int) (x2 : Int) (x3 : Int) (x4 : Int) (x5 : Int) (hx1 : ir x1) (hx2 : ir x2) (hx3 : ir x3) (hx4 : ir x4) (hx5 : ir x5) (hC : CIr μ) : CtI ω l yX12_feed cX12_feed 8 .int 0 0 [.ref (oP ω 111), .int (iv x1), .int (iv x2), .int (iv x3), .int (iv x4), .int (iv x5)] μ (fun (r : Int) (μ' : M3) => (FrM [111, 112] μ μ') ∧ (∀ j, j ∉ ([0, 2] : List Int) → μ'.1 111 j = μ.1 111 j) ∧ (CIr μ') ∧ ((μ.1 111 2 + 20 ≤ 3000 ∧ r = μ.1 111 2 + 20 ∧ μ'.1 111 2 = μ.1 111 2 + 20) ∨ (¬ μ.1 111 2 + 20 ≤ 3000 ∧ r = -1 ∧ μ'.1 111 2 = μ.1 111 2))) := by
  refine CtI.go (by decide) (Nat.le_of_ble_eq_true rfl) (fun ρ p e s m below meth c R ls G hR hret hlk hl => ?_)
  have hx := G.1.1
  have hb := G.1.2.1
  have hl : lv_has ls 8 [(0, .ref (oP ω 111)), (1, .int (iv x1)), (2, .int (iv x2)), (3, .int (iv x3)), (4, .int (iv x4)), (5, .int (iv x5))] := hl
  generalize s.drawn = d0 at G ⊢
  have hr_x1 : -2147483648 ≤ x1 ∧ x1 ≤ 2147483647 := hx1
  have hr_x2 : -2147483648 ≤ x2 ∧ x2 ≤ 2147483647 := hx2
  have hr_x3 : -2147483648 ≤ x3 ∧ x3 ≤ 2147483647 := hx3
  have hr_x4 : -2147483648 ≤ x4 ∧ x4 ≤ 2147483647 := hx4
  have hr_x5 : -2147483648 ≤ x5 ∧ x5 ≤ 2147483647 := hx5
  have hcn_ := hC.n
  refine lv_aload_n hx hb dX12_feed_0 rfl (lv_at hl 0 rfl) ?_
  refine lv_iconst (v := iv 0) hx hb dX12_feed_1 rfl ?_
  refine xa_puti G fd_X12 (a := 111) (x := 0) 0 (kz := 0) rfl rfl (by decide) rfl (by unfold ir; omega) (wm 7 149 rfl rfl) ⟨rfl, rfl, rfl, rfl⟩ rfl dX12_feed_2 rfl (fun H locs G => ?_)
  refine lv_aload_n hx hb dX12_feed_5 rfl (lv_at hl 0 rfl) ?_
  refine xa_geti G fd_X12 (a := 111) (x := μ.1 111 2) 2 rfl (by decide) rfl (wm 7 151 rfl rfl) ⟨rfl, rfl, rfl⟩ dX12_feed_6 rfl (sv_n _ (by decide)) ?_
  have hr_1 : -2147483648 ≤ μ.1 111 2 ∧ μ.1 111 2 ≤ 2147483647 := by have h9 := G.hr (a := 111) (k := 2) rfl; rw [show (sv μ 111 0 0).1 111 2 = μ.1 111 2 from (sv_n _ (by decide))] at h9; exact h9
  refine lv_sipush (v := iv 2980) hx hb dX12_feed_9 rfl ?_
  refine xb_icmp_le (tgt := 17) hx hb (by unfold ir; omega) (by unfold ir; omega) dX12_feed_12 (by decide) (fun c_12 => ?_) (fun c_12 => ?_)
  · refine lv_iconst (v := iv 0) hx hb dX12_feed_17 rfl ?_
    refine lv_istore (lv' := [(6, .int (iv 0)), (0, .ref (oP ω 111)), (1, .int (iv x1)), (2, .int (iv x2)), (3, .int (iv x3)), (4, .int (iv x4)), (5, .int (iv x5))]) hx hb dX12_feed_18 hl (by decide) rfl (fun ls hl => ?_)
    refine xl (fun n_9 μ' ls => ∃ (k9 : Int), (FrM [112] (sv μ 111 0 0) μ') ∧ (-2147483648 ≤ k9 ∧ k9 ≤ 2147483647) ∧ (0 ≤ k9 ∧ k9 ≤ 20) ∧ n_9 = Int.toNat (20 - k9) ∧ lv_has ls 8 [(6, .int (iv k9)), (0, .ref (oP ω 111)), (1, .int (iv x1)), (2, .int (iv x2)), (3, .int (iv x3)), (4, .int (iv x4)), (5, .int (iv x5))]) (fun n_9 ρ μL2 d0 H locs ls hI_l G ih => ?_) _ _ _ _ _ _ _ ⟨0, FrM.rf, (by omega), (by omega), rfl, lv_sub hl [0, 1, 2, 3, 4, 5, 6] rfl⟩ G
    obtain ⟨k9, FL3, hi_5, hi_6, hn4, hl⟩ := hI_l
    refine lv_iload hx hb dX12_feed_20 (lv_at hl 0 rfl) ?_
    refine lv_bipush (v := iv 20) hx hb dX12_feed_22 rfl ?_
    refine xb_icmp_ge (tgt := 110) hx hb (by unfold ir; omega) (by unfold ir; omega) dX12_feed_24 (by decide) (fun c_24 => ?_) (fun c_24 => ?_)
    · refine lv_aload_n hx hb dX12_feed_110 rfl (lv_at hl 1 rfl) ?_
      refine lv_dup hx hb dX12_feed_111 rfl ?_
      refine xa_geti G fd_X12 (a := 111) (x := μ.1 111 2) 2 rfl (by decide) rfl (wm 7 151 rfl rfl) ⟨rfl, rfl, rfl⟩ dX12_feed_112 rfl ((FL3.1 111 (by decide) 2).trans (sv_n _ (by decide))) ?_
      refine lv_bipush (v := iv 20) hx hb dX12_feed_115 rfl ?_
      refine xb_iadd hx hb dX12_feed_117 ?_
      refine xa_puti G fd_X12 (a := 111) (x := (μ.1 111 2) + 20) 2 (kz := 2) rfl rfl (by decide) rfl (by unfold ir; omega) (wm 7 151 rfl rfl) ⟨rfl, rfl, rfl, rfl⟩ rfl dX12_feed_118 rfl (fun H locs G => ?_)
      refine lv_aload_n hx hb dX12_feed_121 rfl (lv_at hl 1 rfl) ?_
      refine xa_geti G fd_X12 (a := 111) (x := (μ.1 111 2) + 20) 2 rfl (by decide) rfl (wm 7 151 rfl rfl) ⟨rfl, rfl, rfl⟩ dX12_feed_122 rfl (sv_s _ _ _ _) ?_
      have hr_7 : -2147483648 ≤ (μ.1 111 2) + 20 ∧ (μ.1 111 2) + 20 ≤ 2147483647 := by have h9 := G.hr (a := 111) (k := 2) rfl; rw [show (sv μL2 111 2 ((μ.1 111 2) + 20)).1 111 2 = (μ.1 111 2) + 20 from (sv_s _ _ _ _)] at h9; exact h9
      have e_8 : (sv μL2 111 2 ((μ.1 111 2) + 20)).1 111 2 = (μ.1 111 2) + 20 := (sv_s _ _ _ _)
      have hci_9 : CIr (sv μL2 111 2 ((μ.1 111 2) + 20)) := CIr.mv hC (Eqa.fr (L := [111, 112]) (FrM.put (FrM.tr (FrM.put FrM.rf (by decide)) FL3 (by decide)) (by decide)) (by decide)) (Eqf.fd (L := [0, 2]) (fun j hj => ((sv_n _ (fun h9 => hj (by rw [h9.2]; decide))).trans ((FL3.1 111 (by decide) j).trans (sv_n _ (fun h9 => hj (by rw [h9.2]; decide)))))) (by decide)) (by have h9 : (sv μL2 111 2 ((μ.1 111 2) + 20)).1 111 2 = (μ.1 111 2) + 20 := (sv_s _ _ _ _); omega)
      have e_10 : (sv μL2 111 2 ((μ.1 111 2) + 20)).1 111 2 = (μ.1 111 2) + 20 := (sv_s _ _ _ _)
      have e_11 : (sv μL2 111 2 ((μ.1 111 2) + 20)).1 111 2 = (μ.1 111 2) + 20 := (sv_s _ _ _ _)
      exact xr_i G (x := (μ.1 111 2) + 20) hret hlk (by unfold ir; omega) rfl dX12_feed_125 ⟨(FrM.put (FrM.tr (FrM.put FrM.rf (by decide)) FL3 (by decide)) (by decide)), (fun j hj => ((sv_n _ (fun h9 => hj (by rw [h9.2]; decide))).trans ((FL3.1 111 (by decide) j).trans (sv_n _ (fun h9 => hj (by rw [h9.2]; decide)))))), hci_9, (by omega)⟩
    · refine lv_iload hx hb dX12_feed_27 (lv_at hl 0 rfl) ?_
      refine lv_iconst (v := iv 4) hx hb dX12_feed_29 rfl ?_
      refine xb_icmp_ge (tgt := 37) hx hb (by unfold ir; omega) (by unfold ir; omega) dX12_feed_30 (by decide) (fun c_30 => ?_) (fun c_30 => ?_)
      · refine lv_iload hx hb dX12_feed_37 (lv_at hl 0 rfl) ?_
        refine lv_bipush (v := iv 8) hx hb dX12_feed_39 rfl ?_
        refine xb_icmp_ge (tgt := 48) hx hb (by unfold ir; omega) (by unfold ir; omega) dX12_feed_41 (by decide) (fun c_41 => ?_) (fun c_41 => ?_)
        · refine lv_iload hx hb dX12_feed_48 (lv_at hl 0 rfl) ?_
          refine lv_bipush (v := iv 12) hx hb dX12_feed_50 rfl ?_
          refine xb_icmp_ge (tgt := 59) hx hb (by unfold ir; omega) (by unfold ir; omega) dX12_feed_52 (by decide) (fun c_52 => ?_) (fun c_52 => ?_)
          · refine lv_iload hx hb dX12_feed_59 (lv_at hl 0 rfl) ?_
            refine lv_bipush (v := iv 16) hx hb dX12_feed_61 rfl ?_
            refine xb_icmp_ge (tgt := 71) hx hb (by unfold ir; omega) (by unfold ir; omega) dX12_feed_63 (by decide) (fun c_63 => ?_) (fun c_63 => ?_)
            · refine lv_iload hx hb dX12_feed_71 (lv_at hl 6 rfl) ?_
              refine lv_istore (lv' := [(7, .int (iv x5)), (6, .int (iv k9)), (0, .ref (oP ω 111)), (1, .int (iv x1)), (2, .int (iv x2)), (3, .int (iv x3)), (4, .int (iv x4)), (5, .int (iv x5))]) hx hb dX12_feed_73 hl (by decide) rfl (fun ls hl => ?_)
              refine lv_aload_n hx hb dX12_feed_75 rfl (lv_at hl 2 rfl) ?_
              refine xa_getr G fd_X12 (a := 111) (x := 112) 1 rfl (by decide) rfl (wm 7 150 rfl rfl) ⟨rfl, rfl, rfl⟩ dX12_feed_76 rfl (G.sk 110 rfl) (by decide) rfl ?_
              refine lv_aload_n hx hb dX12_feed_79 rfl (lv_at hl 2 rfl) ?_
              refine xa_geti G fd_X12 (a := 111) (x := μ.1 111 2) 2 rfl (by decide) rfl (wm 7 151 rfl rfl) ⟨rfl, rfl, rfl⟩ dX12_feed_80 rfl ((FL3.1 111 (by decide) 2).trans (sv_n _ (by decide))) ?_
              refine lv_iload hx hb dX12_feed_83 (lv_at hl 1 rfl) ?_
              refine xb_iadd hx hb dX12_feed_85 ?_
              refine lv_iload hx hb dX12_feed_86 (lv_at hl 0 rfl) ?_
              refine lv_bipush (v := iv 24) hx hb dX12_feed_88 rfl ?_
              refine lv_bipush (v := iv 8) hx hb dX12_feed_90 rfl ?_
              refine lv_iload hx hb dX12_feed_92 (lv_at hl 1 rfl) ?_
              refine lv_iconst (v := iv 4) hx hb dX12_feed_94 rfl ?_
              refine xb_irem hx hb (by unfold ir; omega) (by omega) dX12_feed_95 ?_
              refine xb_imul hx hb dX12_feed_96 ?_
              refine xb_isub hx hb dX12_feed_97 ?_
              refine lv_ishr hx hb dX12_feed_98 ?_
              refine xb_topi (fun y_12 hr_y_12 he_y_12 => ?_)
              have hr_y_12 : -2147483648 ≤ y_12 ∧ y_12 ≤ 2147483647 := hr_y_12
              refine lv_sipush (v := iv 255) hx hb dX12_feed_99 rfl ?_
              refine lv_iand hx hb dX12_feed_102 ?_
              refine xb_topi (fun y_13 hr_y_13 he_y_13 => ?_)
              have hr_y_13 : -2147483648 ≤ y_13 ∧ y_13 ≤ 2147483647 := hr_y_13
              have hm_y_13 := and_mask y_12 (k := 255) (by omega) he_y_13 hr_y_13
              refine xa_iast G (a := 112) (i := (μ.1 111 2) + k9) (x := y_13) rfl (by have h9 := G.lc (a := 112) (n := 3000) 50 rfl; omega) (by unfold ir; omega) dX12_feed_103 rfl (fun H locs G => ?_)
              refine lv_iinc (v := iv (k9 + 1)) (lv' := [(6, .int (iv (k9 + 1))), (7, .int (iv x5)), (0, .ref (oP ω 111)), (1, .int (iv x1)), (2, .int (iv x2)), (3, .int (iv x3)), (4, .int (iv x4)), (5, .int (iv x5))]) hx hb dX12_feed_104 hl (k := 1) rfl (by rw [show Int32.ofInt 1 = iv 1 from rfl, iv_add]) (by decide) rfl (fun ls hl => ?_)
              refine lv_goto (tgt := 20) hx hb dX12_feed_107 (by decide) ?_
              exact ih _ _ _ _ _ _ _ (by omega) ⟨k9 + 1, (FrM.put FL3 (by decide)), (by omega), (by omega), rfl, lv_sub hl [0, 2, 3, 4, 5, 6, 7] rfl⟩ G
            · refine lv_iload hx hb dX12_feed_66 (lv_at hl 5 rfl) ?_
              refine lv_goto (tgt := 73) hx hb dX12_feed_68 (by decide) ?_
              refine lv_istore (lv' := [(7, .int (iv x4)), (6, .int (iv k9)), (0, .ref (oP ω 111)), (1, .int (iv x1)), (2, .int (iv x2)), (3, .int (iv x3)), (4, .int (iv x4)), (5, .int (iv x5))]) hx hb dX12_feed_73 hl (by decide) rfl (fun ls hl => ?_)
              refine lv_aload_n hx hb dX12_feed_75 rfl (lv_at hl 2 rfl) ?_
              refine xa_getr G fd_X12 (a := 111) (x := 112) 1 rfl (by decide) rfl (wm 7 150 rfl rfl) ⟨rfl, rfl, rfl⟩ dX12_feed_76 rfl (G.sk 110 rfl) (by decide) rfl ?_
              refine lv_aload_n hx hb dX12_feed_79 rfl (lv_at hl 2 rfl) ?_
              refine xa_geti G fd_X12 (a := 111) (x := μ.1 111 2) 2 rfl (by decide) rfl (wm 7 151 rfl rfl) ⟨rfl, rfl, rfl⟩ dX12_feed_80 rfl ((FL3.1 111 (by decide) 2).trans (sv_n _ (by decide))) ?_
              refine lv_iload hx hb dX12_feed_83 (lv_at hl 1 rfl) ?_
              refine xb_iadd hx hb dX12_feed_85 ?_
              refine lv_iload hx hb dX12_feed_86 (lv_at hl 0 rfl) ?_
              refine lv_bipush (v := iv 24) hx hb dX12_feed_88 rfl ?_
              refine lv_bipush (v := iv 8) hx hb dX12_feed_90 rfl ?_
              refine lv_iload hx hb dX12_feed_92 (lv_at hl 1 rfl) ?_
              refine lv_iconst (v := iv 4) hx hb dX12_feed_94 rfl ?_
              refine xb_irem hx hb (by unfold ir; omega) (by omega) dX12_feed_95 ?_
              refine xb_imul hx hb dX12_feed_96 ?_
              refine xb_isub hx hb dX12_feed_97 ?_
              refine lv_ishr hx hb dX12_feed_98 ?_
              refine xb_topi (fun y_14 hr_y_14 he_y_14 => ?_)
              have hr_y_14 : -2147483648 ≤ y_14 ∧ y_14 ≤ 2147483647 := hr_y_14
              refine lv_sipush (v := iv 255) hx hb dX12_feed_99 rfl ?_
              refine lv_iand hx hb dX12_feed_102 ?_
              refine xb_topi (fun y_15 hr_y_15 he_y_15 => ?_)
              have hr_y_15 : -2147483648 ≤ y_15 ∧ y_15 ≤ 2147483647 := hr_y_15
              have hm_y_15 := and_mask y_14 (k := 255) (by omega) he_y_15 hr_y_15
              refine xa_iast G (a := 112) (i := (μ.1 111 2) + k9) (x := y_15) rfl (by have h9 := G.lc (a := 112) (n := 3000) 50 rfl; omega) (by unfold ir; omega) dX12_feed_103 rfl (fun H locs G => ?_)
              refine lv_iinc (v := iv (k9 + 1)) (lv' := [(6, .int (iv (k9 + 1))), (7, .int (iv x4)), (0, .ref (oP ω 111)), (1, .int (iv x1)), (2, .int (iv x2)), (3, .int (iv x3)), (4, .int (iv x4)), (5, .int (iv x5))]) hx hb dX12_feed_104 hl (k := 1) rfl (by rw [show Int32.ofInt 1 = iv 1 from rfl, iv_add]) (by decide) rfl (fun ls hl => ?_)
              refine lv_goto (tgt := 20) hx hb dX12_feed_107 (by decide) ?_
              exact ih _ _ _ _ _ _ _ (by omega) ⟨k9 + 1, (FrM.put FL3 (by decide)), (by omega), (by omega), rfl, lv_sub hl [0, 2, 3, 4, 5, 6, 7] rfl⟩ G
          · refine lv_iload_n hx hb dX12_feed_55 rfl (lv_at hl 4 rfl) ?_
            refine lv_goto (tgt := 73) hx hb dX12_feed_56 (by decide) ?_
            refine lv_istore (lv' := [(7, .int (iv x3)), (6, .int (iv k9)), (0, .ref (oP ω 111)), (1, .int (iv x1)), (2, .int (iv x2)), (3, .int (iv x3)), (4, .int (iv x4)), (5, .int (iv x5))]) hx hb dX12_feed_73 hl (by decide) rfl (fun ls hl => ?_)
            refine lv_aload_n hx hb dX12_feed_75 rfl (lv_at hl 2 rfl) ?_
            refine xa_getr G fd_X12 (a := 111) (x := 112) 1 rfl (by decide) rfl (wm 7 150 rfl rfl) ⟨rfl, rfl, rfl⟩ dX12_feed_76 rfl (G.sk 110 rfl) (by decide) rfl ?_
            refine lv_aload_n hx hb dX12_feed_79 rfl (lv_at hl 2 rfl) ?_
            refine xa_geti G fd_X12 (a := 111) (x := μ.1 111 2) 2 rfl (by decide) rfl (wm 7 151 rfl rfl) ⟨rfl, rfl, rfl⟩ dX12_feed_80 rfl ((FL3.1 111 (by decide) 2).trans (sv_n _ (by decide))) ?_
            refine lv_iload hx hb dX12_feed_83 (lv_at hl 1 rfl) ?_
            refine xb_iadd hx hb dX12_feed_85 ?_
            refine lv_iload hx hb dX12_feed_86 (lv_at hl 0 rfl) ?_
            refine lv_bipush (v := iv 24) hx hb dX12_feed_88 rfl ?_
            refine lv_bipush (v := iv 8) hx hb dX12_feed_90 rfl ?_
            refine lv_iload hx hb dX12_feed_92 (lv_at hl 1 rfl) ?_
            refine lv_iconst (v := iv 4) hx hb dX12_feed_94 rfl ?_
            refine xb_irem hx hb (by unfold ir; omega) (by omega) dX12_feed_95 ?_
            refine xb_imul hx hb dX12_feed_96 ?_
            refine xb_isub hx hb dX12_feed_97 ?_
            refine lv_ishr hx hb dX12_feed_98 ?_
            refine xb_topi (fun y_16 hr_y_16 he_y_16 => ?_)
            have hr_y_16 : -2147483648 ≤ y_16 ∧ y_16 ≤ 2147483647 := hr_y_16
            refine lv_sipush (v := iv 255) hx hb dX12_feed_99 rfl ?_
            refine lv_iand hx hb dX12_feed_102 ?_
            refine xb_topi (fun y_17 hr_y_17 he_y_17 => ?_)
            have hr_y_17 : -2147483648 ≤ y_17 ∧ y_17 ≤ 2147483647 := hr_y_17
            have hm_y_17 := and_mask y_16 (k := 255) (by omega) he_y_17 hr_y_17
            refine xa_iast G (a := 112) (i := (μ.1 111 2) + k9) (x := y_17) rfl (by have h9 := G.lc (a := 112) (n := 3000) 50 rfl; omega) (by unfold ir; omega) dX12_feed_103 rfl (fun H locs G => ?_)
            refine lv_iinc (v := iv (k9 + 1)) (lv' := [(6, .int (iv (k9 + 1))), (7, .int (iv x3)), (0, .ref (oP ω 111)), (1, .int (iv x1)), (2, .int (iv x2)), (3, .int (iv x3)), (4, .int (iv x4)), (5, .int (iv x5))]) hx hb dX12_feed_104 hl (k := 1) rfl (by rw [show Int32.ofInt 1 = iv 1 from rfl, iv_add]) (by decide) rfl (fun ls hl => ?_)
            refine lv_goto (tgt := 20) hx hb dX12_feed_107 (by decide) ?_
            exact ih _ _ _ _ _ _ _ (by omega) ⟨k9 + 1, (FrM.put FL3 (by decide)), (by omega), (by omega), rfl, lv_sub hl [0, 2, 3, 4, 5, 6, 7] rfl⟩ G
        · refine lv_iload_n hx hb dX12_feed_44 rfl (lv_at hl 3 rfl) ?_
          refine lv_goto (tgt := 73) hx hb dX12_feed_45 (by decide) ?_
          refine lv_istore (lv' := [(7, .int (iv x2)), (6, .int (iv k9)), (0, .ref (oP ω 111)), (1, .int (iv x1)), (2, .int (iv x2)), (3, .int (iv x3)), (4, .int (iv x4)), (5, .int (iv x5))]) hx hb dX12_feed_73 hl (by decide) rfl (fun ls hl => ?_)
          refine lv_aload_n hx hb dX12_feed_75 rfl (lv_at hl 2 rfl) ?_
          refine xa_getr G fd_X12 (a := 111) (x := 112) 1 rfl (by decide) rfl (wm 7 150 rfl rfl) ⟨rfl, rfl, rfl⟩ dX12_feed_76 rfl (G.sk 110 rfl) (by decide) rfl ?_
          refine lv_aload_n hx hb dX12_feed_79 rfl (lv_at hl 2 rfl) ?_
          refine xa_geti G fd_X12 (a := 111) (x := μ.1 111 2) 2 rfl (by decide) rfl (wm 7 151 rfl rfl) ⟨rfl, rfl, rfl⟩ dX12_feed_80 rfl ((FL3.1 111 (by decide) 2).trans (sv_n _ (by decide))) ?_
          refine lv_iload hx hb dX12_feed_83 (lv_at hl 1 rfl) ?_
          refine xb_iadd hx hb dX12_feed_85 ?_
          refine lv_iload hx hb dX12_feed_86 (lv_at hl 0 rfl) ?_
          refine lv_bipush (v := iv 24) hx hb dX12_feed_88 rfl ?_
          refine lv_bipush (v := iv 8) hx hb dX12_feed_90 rfl ?_
          refine lv_iload hx hb dX12_feed_92 (lv_at hl 1 rfl) ?_
          refine lv_iconst (v := iv 4) hx hb dX12_feed_94 rfl ?_
          refine xb_irem hx hb (by unfold ir; omega) (by omega) dX12_feed_95 ?_
          refine xb_imul hx hb dX12_feed_96 ?_
          refine xb_isub hx hb dX12_feed_97 ?_
          refine lv_ishr hx hb dX12_feed_98 ?_
          refine xb_topi (fun y_18 hr_y_18 he_y_18 => ?_)
          have hr_y_18 : -2147483648 ≤ y_18 ∧ y_18 ≤ 2147483647 := hr_y_18
          refine lv_sipush (v := iv 255) hx hb dX12_feed_99 rfl ?_
          refine lv_iand hx hb dX12_feed_102 ?_
          refine xb_topi (fun y_19 hr_y_19 he_y_19 => ?_)
          have hr_y_19 : -2147483648 ≤ y_19 ∧ y_19 ≤ 2147483647 := hr_y_19
          have hm_y_19 := and_mask y_18 (k := 255) (by omega) he_y_19 hr_y_19
          refine xa_iast G (a := 112) (i := (μ.1 111 2) + k9) (x := y_19) rfl (by have h9 := G.lc (a := 112) (n := 3000) 50 rfl; omega) (by unfold ir; omega) dX12_feed_103 rfl (fun H locs G => ?_)
          refine lv_iinc (v := iv (k9 + 1)) (lv' := [(6, .int (iv (k9 + 1))), (7, .int (iv x2)), (0, .ref (oP ω 111)), (1, .int (iv x1)), (2, .int (iv x2)), (3, .int (iv x3)), (4, .int (iv x4)), (5, .int (iv x5))]) hx hb dX12_feed_104 hl (k := 1) rfl (by rw [show Int32.ofInt 1 = iv 1 from rfl, iv_add]) (by decide) rfl (fun ls hl => ?_)
          refine lv_goto (tgt := 20) hx hb dX12_feed_107 (by decide) ?_
          exact ih _ _ _ _ _ _ _ (by omega) ⟨k9 + 1, (FrM.put FL3 (by decide)), (by omega), (by omega), rfl, lv_sub hl [0, 2, 3, 4, 5, 6, 7] rfl⟩ G
      · refine lv_iload_n hx hb dX12_feed_33 rfl (lv_at hl 2 rfl) ?_
        refine lv_goto (tgt := 73) hx hb dX12_feed_34 (by decide) ?_
        refine lv_istore (lv' := [(7, .int (iv x1)), (6, .int (iv k9)), (0, .ref (oP ω 111)), (1, .int (iv x1)), (2, .int (iv x2)), (3, .int (iv x3)), (4, .int (iv x4)), (5, .int (iv x5))]) hx hb dX12_feed_73 hl (by decide) rfl (fun ls hl => ?_)
        refine lv_aload_n hx hb dX12_feed_75 rfl (lv_at hl 2 rfl) ?_
        refine xa_getr G fd_X12 (a := 111) (x := 112) 1 rfl (by decide) rfl (wm 7 150 rfl rfl) ⟨rfl, rfl, rfl⟩ dX12_feed_76 rfl (G.sk 110 rfl) (by decide) rfl ?_
        refine lv_aload_n hx hb dX12_feed_79 rfl (lv_at hl 2 rfl) ?_
        refine xa_geti G fd_X12 (a := 111) (x := μ.1 111 2) 2 rfl (by decide) rfl (wm 7 151 rfl rfl) ⟨rfl, rfl, rfl⟩ dX12_feed_80 rfl ((FL3.1 111 (by decide) 2).trans (sv_n _ (by decide))) ?_
        refine lv_iload hx hb dX12_feed_83 (lv_at hl 1 rfl) ?_
        refine xb_iadd hx hb dX12_feed_85 ?_
        refine lv_iload hx hb dX12_feed_86 (lv_at hl 0 rfl) ?_
        refine lv_bipush (v := iv 24) hx hb dX12_feed_88 rfl ?_
        refine lv_bipush (v := iv 8) hx hb dX12_feed_90 rfl ?_
        refine lv_iload hx hb dX12_feed_92 (lv_at hl 1 rfl) ?_
        refine lv_iconst (v := iv 4) hx hb dX12_feed_94 rfl ?_
        refine xb_irem hx hb (by unfold ir; omega) (by omega) dX12_feed_95 ?_
        refine xb_imul hx hb dX12_feed_96 ?_
        refine xb_isub hx hb dX12_feed_97 ?_
        refine lv_ishr hx hb dX12_feed_98 ?_
        refine xb_topi (fun y_20 hr_y_20 he_y_20 => ?_)
        have hr_y_20 : -2147483648 ≤ y_20 ∧ y_20 ≤ 2147483647 := hr_y_20
        refine lv_sipush (v := iv 255) hx hb dX12_feed_99 rfl ?_
        refine lv_iand hx hb dX12_feed_102 ?_
        refine xb_topi (fun y_21 hr_y_21 he_y_21 => ?_)
        have hr_y_21 : -2147483648 ≤ y_21 ∧ y_21 ≤ 2147483647 := hr_y_21
        have hm_y_21 := and_mask y_20 (k := 255) (by omega) he_y_21 hr_y_21
        refine xa_iast G (a := 112) (i := (μ.1 111 2) + k9) (x := y_21) rfl (by have h9 := G.lc (a := 112) (n := 3000) 50 rfl; omega) (by unfold ir; omega) dX12_feed_103 rfl (fun H locs G => ?_)
        refine lv_iinc (v := iv (k9 + 1)) (lv' := [(6, .int (iv (k9 + 1))), (7, .int (iv x1)), (0, .ref (oP ω 111)), (1, .int (iv x1)), (2, .int (iv x2)), (3, .int (iv x3)), (4, .int (iv x4)), (5, .int (iv x5))]) hx hb dX12_feed_104 hl (k := 1) rfl (by rw [show Int32.ofInt 1 = iv 1 from rfl, iv_add]) (by decide) rfl (fun ls hl => ?_)
        refine lv_goto (tgt := 20) hx hb dX12_feed_107 (by decide) ?_
        exact ih _ _ _ _ _ _ _ (by omega) ⟨k9 + 1, (FrM.put FL3 (by decide)), (by omega), (by omega), rfl, lv_sub hl [0, 2, 3, 4, 5, 6, 7] rfl⟩ G
  · refine lv_iconst (v := iv (-1)) hx hb dX12_feed_15 rfl ?_
    have e_22 : (sv μ 111 0 0).1 111 2 = μ.1 111 2 := (sv_n _ (by decide))
    have hci_23 : CIr (sv μ 111 0 0) := CIr.mv hC (Eqa.fr (L := [111]) (FrM.put FrM.rf (by decide)) (by decide)) (Eqf.fd (L := [0]) (fun j hj => (sv_n _ (fun h9 => hj (by rw [h9.2]; decide)))) (by decide)) (by have h9 : (sv μ 111 0 0).1 111 2 = μ.1 111 2 := (sv_n _ (by decide)); omega)
    have e_24 : (sv μ 111 0 0).1 111 2 = μ.1 111 2 := (sv_n _ (by decide))
    have e_25 : (sv μ 111 0 0).1 111 2 = μ.1 111 2 := (sv_n _ (by decide))
    exact xr_i G (x := (-1)) hret hlk (by unfold ir; omega) rfl dX12_feed_16 ⟨(FrM.put FrM.rf (by decide)), (fun j hj => (sv_n _ (fun h9 => hj (by rw [h9.2]; decide)))), hci_23, (by omega)⟩

set_option maxHeartbeats 4000000 in
set_option maxRecDepth 100000 in
theorem c_X12_canFail_b (ω : Om) (l : Launch) (μ : M3) (x1 : Int) (x2 : Int) (hx1 : ir x1) (hx2 : ir x2) : CtI ω l yX12_canFail cX12_canFail 3 .boolean 0 0 [.ref (oP ω 111), .int (iv x1), .int (iv x2)] μ (fun (r : Int) (μ' : M3) => (μ' = μ) ∧ ((r = 0 ∨ r = 1) ∧ (x1 ≠ 1 → r = 1 → 1 ≤ x2 ∧ x2 < μ.1 111 4))) := by
  refine CtI.go (by decide) (Nat.le_of_ble_eq_true rfl) (fun ρ p e s m below meth c R ls G hR hret hlk hl => ?_)
  have hx := G.1.1
  have hb := G.1.2.1
  have hl : lv_has ls 3 [(0, .ref (oP ω 111)), (1, .int (iv x1)), (2, .int (iv x2))] := hl
  generalize s.drawn = d0 at G ⊢
  have hr_x1 : -2147483648 ≤ x1 ∧ x1 ≤ 2147483647 := hx1
  have hr_x2 : -2147483648 ≤ x2 ∧ x2 ≤ 2147483647 := hx2
  refine lv_iload_n hx hb dX12_canFail_0 rfl (lv_at hl 1 rfl) ?_
  refine lv_iconst (v := iv 1) hx hb dX12_canFail_1 rfl ?_
  refine xb_icmp_ne (tgt := 17) hx hb (by unfold ir; omega) (by unfold ir; omega) dX12_canFail_2 (by decide) (fun c_2 => ?_) (fun c_2 => ?_)
  · refine lv_iload_n hx hb dX12_canFail_17 rfl (lv_at hl 2 rfl) ?_
    refine lv_iconst (v := iv 1) hx hb dX12_canFail_18 rfl ?_
    refine xb_icmp_lt (tgt := 34) hx hb (by unfold ir; omega) (by unfold ir; omega) dX12_canFail_19 (by decide) (fun c_19 => ?_) (fun c_19 => ?_)
    · refine lv_iconst (v := iv 0) hx hb dX12_canFail_34 rfl ?_
      exact xr_i G (x := 0) hret hlk (by unfold ir; omega) (zr (by omega)) dX12_canFail_35 ⟨rfl, (by omega)⟩
    · refine lv_iload_n hx hb dX12_canFail_22 rfl (lv_at hl 2 rfl) ?_
      refine lv_aload_n hx hb dX12_canFail_23 rfl (lv_at hl 0 rfl) ?_
      refine xa_geti G fd_X12 (a := 111) (x := μ.1 111 4) 4 rfl (by decide) rfl (wm 7 153 rfl rfl) ⟨rfl, rfl, rfl⟩ dX12_canFail_24 rfl rfl ?_
      have hr_1 : -2147483648 ≤ μ.1 111 4 ∧ μ.1 111 4 ≤ 2147483647 := by have h9 := G.hr (a := 111) (k := 4) rfl; exact h9
      refine xb_icmp_ge (tgt := 34) hx hb (by unfold ir; omega) (by unfold ir; omega) dX12_canFail_27 (by decide) (fun c_27 => ?_) (fun c_27 => ?_)
      · refine lv_iconst (v := iv 0) hx hb dX12_canFail_34 rfl ?_
        exact xr_i G (x := 0) hret hlk (by unfold ir; omega) (zr (by omega)) dX12_canFail_35 ⟨rfl, (by omega)⟩
      · refine lv_iconst (v := iv 1) hx hb dX12_canFail_30 rfl ?_
        refine lv_goto (tgt := 35) hx hb dX12_canFail_31 (by decide) ?_
        exact xr_i G (x := 1) hret hlk (by unfold ir; omega) (zr (by omega)) dX12_canFail_35 ⟨rfl, (by omega)⟩
  · refine lv_iload_n hx hb dX12_canFail_5 rfl (lv_at hl 2 rfl) ?_
    refine xb_if_eq (tgt := 13) hx hb (by unfold ir; omega) dX12_canFail_6 (by decide) (fun c_6 => ?_) (fun c_6 => ?_)
    · refine lv_iconst (v := iv 0) hx hb dX12_canFail_13 rfl ?_
      refine lv_goto (tgt := 35) hx hb dX12_canFail_14 (by decide) ?_
      exact xr_i G (x := 0) hret hlk (by unfold ir; omega) (zr (by omega)) dX12_canFail_35 ⟨rfl, (by omega)⟩
    · refine lv_iconst (v := iv 1) hx hb dX12_canFail_9 rfl ?_
      refine lv_goto (tgt := 35) hx hb dX12_canFail_10 (by decide) ?_
      exact xr_i G (x := 1) hret hlk (by unfold ir; omega) (zr (by omega)) dX12_canFail_35 ⟨rfl, (by omega)⟩

set_option maxHeartbeats 4000000 in
set_option maxRecDepth 100000 in
theorem c_X12_entry (ω : Om) (l : Launch) (μ : M3) (x1 : Int) (x2 : Int) (x3 : Int) (x4 : Int) (hx1 : ir x1) (hx2 : ir x2) (hx3 : ir x3) (hx4 : ir x4) (hC : CIr μ) : CtI ω l yX12_entry cX12_entry 7 .boolean 1 23 [.ref (oP ω 111), .int (iv x1), .int (iv x2), .int (iv x3), .int (iv x4)] μ (fun (r : Int) (μ' : M3) => (FrM [111, 163, 164, 165, 166] μ μ') ∧ (∀ j, j ∉ ([0, 104] : List Int) → μ'.1 111 j = μ.1 111 j) ∧ (CIr μ') ∧ (r = 0 ∨ r = 1)) := by
  refine CtI.go (by decide) (Nat.le_of_ble_eq_true rfl) (fun ρ p e s m below meth c R ls G hR hret hlk hl => ?_)
  have hx := G.1.1
  have hb := G.1.2.1
  have hl : lv_has ls 7 [(0, .ref (oP ω 111)), (1, .int (iv x1)), (2, .int (iv x2)), (3, .int (iv x3)), (4, .int (iv x4))] := hl
  generalize s.drawn = d0 at G ⊢
  have hr_x1 : -2147483648 ≤ x1 ∧ x1 ≤ 2147483647 := hx1
  have hr_x2 : -2147483648 ≤ x2 ∧ x2 ≤ 2147483647 := hx2
  have hr_x3 : -2147483648 ≤ x3 ∧ x3 ≤ 2147483647 := hx3
  have hr_x4 : -2147483648 ≤ x4 ∧ x4 ≤ 2147483647 := hx4
  have hcn_ := hC.n
  refine lv_aload_n hx hb dX12_entry_0 rfl (lv_at hl 0 rfl) ?_
  refine lv_iconst (v := iv 0) hx hb dX12_entry_1 rfl ?_
  refine xa_puti G fd_X12 (a := 111) (x := 0) 0 (kz := 0) rfl rfl (by decide) rfl (by unfold ir; omega) (wm 7 149 rfl rfl) ⟨rfl, rfl, rfl, rfl⟩ rfl dX12_entry_2 rfl (fun H locs G => ?_)
  refine lv_iload_n hx hb dX12_entry_5 rfl (lv_at hl 1 rfl) ?_
  refine xb_if_lt (tgt := 38) hx hb (by unfold ir; omega) dX12_entry_6 (by decide) (fun c_6 => ?_) (fun c_6 => ?_)
  · refine lv_iconst (v := iv 0) hx hb dX12_entry_38 rfl ?_
    have e_1 : (sv μ 111 0 0).1 111 2 = μ.1 111 2 := (sv_n _ (by decide))
    have hci_2 : CIr (sv μ 111 0 0) := CIr.mv hC (Eqa.fr (L := [111]) (FrM.put FrM.rf (by decide)) (by decide)) (Eqf.fd (L := [0]) (fun j hj => (sv_n _ (fun h9 => hj (by rw [h9.2]; decide)))) (by decide)) (by have h9 : (sv μ 111 0 0).1 111 2 = μ.1 111 2 := (sv_n _ (by decide)); omega)
    exact xr_i G (x := 0) hret hlk (by unfold ir; omega) (zr (by omega)) dX12_entry_39 ⟨(FrM.put FrM.rf (by decide)), (fun j hj => (sv_n _ (fun h9 => hj (by rw [h9.2]; decide)))), hci_2, (by omega)⟩
  · refine lv_iload_n hx hb dX12_entry_9 rfl (lv_at hl 1 rfl) ?_
    refine lv_iconst (v := iv 3) hx hb dX12_entry_10 rfl ?_
    refine xb_icmp_gt (tgt := 38) hx hb (by unfold ir; omega) (by unfold ir; omega) dX12_entry_11 (by decide) (fun c_11 => ?_) (fun c_11 => ?_)
    · refine lv_iconst (v := iv 0) hx hb dX12_entry_38 rfl ?_
      have e_3 : (sv μ 111 0 0).1 111 2 = μ.1 111 2 := (sv_n _ (by decide))
      have hci_4 : CIr (sv μ 111 0 0) := CIr.mv hC (Eqa.fr (L := [111]) (FrM.put FrM.rf (by decide)) (by decide)) (Eqf.fd (L := [0]) (fun j hj => (sv_n _ (fun h9 => hj (by rw [h9.2]; decide)))) (by decide)) (by have h9 : (sv μ 111 0 0).1 111 2 = μ.1 111 2 := (sv_n _ (by decide)); omega)
      exact xr_i G (x := 0) hret hlk (by unfold ir; omega) (zr (by omega)) dX12_entry_39 ⟨(FrM.put FrM.rf (by decide)), (fun j hj => (sv_n _ (fun h9 => hj (by rw [h9.2]; decide)))), hci_4, (by omega)⟩
    · refine lv_iload_n hx hb dX12_entry_14 rfl (lv_at hl 2 rfl) ?_
      refine xb_if_lt (tgt := 38) hx hb (by unfold ir; omega) dX12_entry_15 (by decide) (fun c_15 => ?_) (fun c_15 => ?_)
      · refine lv_iconst (v := iv 0) hx hb dX12_entry_38 rfl ?_
        have e_5 : (sv μ 111 0 0).1 111 2 = μ.1 111 2 := (sv_n _ (by decide))
        have hci_6 : CIr (sv μ 111 0 0) := CIr.mv hC (Eqa.fr (L := [111]) (FrM.put FrM.rf (by decide)) (by decide)) (Eqf.fd (L := [0]) (fun j hj => (sv_n _ (fun h9 => hj (by rw [h9.2]; decide)))) (by decide)) (by have h9 : (sv μ 111 0 0).1 111 2 = μ.1 111 2 := (sv_n _ (by decide)); omega)
        exact xr_i G (x := 0) hret hlk (by unfold ir; omega) (zr (by omega)) dX12_entry_39 ⟨(FrM.put FrM.rf (by decide)), (fun j hj => (sv_n _ (fun h9 => hj (by rw [h9.2]; decide)))), hci_6, (by omega)⟩
      · refine lv_iload_n hx hb dX12_entry_18 rfl (lv_at hl 2 rfl) ?_
        refine lv_iconst (v := iv 3) hx hb dX12_entry_19 rfl ?_
        refine xb_icmp_gt (tgt := 38) hx hb (by unfold ir; omega) (by unfold ir; omega) dX12_entry_20 (by decide) (fun c_20 => ?_) (fun c_20 => ?_)
        · refine lv_iconst (v := iv 0) hx hb dX12_entry_38 rfl ?_
          have e_7 : (sv μ 111 0 0).1 111 2 = μ.1 111 2 := (sv_n _ (by decide))
          have hci_8 : CIr (sv μ 111 0 0) := CIr.mv hC (Eqa.fr (L := [111]) (FrM.put FrM.rf (by decide)) (by decide)) (Eqf.fd (L := [0]) (fun j hj => (sv_n _ (fun h9 => hj (by rw [h9.2]; decide)))) (by decide)) (by have h9 : (sv μ 111 0 0).1 111 2 = μ.1 111 2 := (sv_n _ (by decide)); omega)
          exact xr_i G (x := 0) hret hlk (by unfold ir; omega) (zr (by omega)) dX12_entry_39 ⟨(FrM.put FrM.rf (by decide)), (fun j hj => (sv_n _ (fun h9 => hj (by rw [h9.2]; decide)))), hci_8, (by omega)⟩
        · refine lv_iload_n hx hb dX12_entry_23 rfl (lv_at hl 1 rfl) ?_
          refine lv_iload_n hx hb dX12_entry_24 rfl (lv_at hl 2 rfl) ?_
          refine xb_icmp_eq (tgt := 38) hx hb (by unfold ir; omega) (by unfold ir; omega) dX12_entry_25 (by decide) (fun c_25 => ?_) (fun c_25 => ?_)
          · refine lv_iconst (v := iv 0) hx hb dX12_entry_38 rfl ?_
            have e_9 : (sv μ 111 0 0).1 111 2 = μ.1 111 2 := (sv_n _ (by decide))
            have hci_10 : CIr (sv μ 111 0 0) := CIr.mv hC (Eqa.fr (L := [111]) (FrM.put FrM.rf (by decide)) (by decide)) (Eqf.fd (L := [0]) (fun j hj => (sv_n _ (fun h9 => hj (by rw [h9.2]; decide)))) (by decide)) (by have h9 : (sv μ 111 0 0).1 111 2 = μ.1 111 2 := (sv_n _ (by decide)); omega)
            exact xr_i G (x := 0) hret hlk (by unfold ir; omega) (zr (by omega)) dX12_entry_39 ⟨(FrM.put FrM.rf (by decide)), (fun j hj => (sv_n _ (fun h9 => hj (by rw [h9.2]; decide)))), hci_10, (by omega)⟩
          · refine lv_aload_n hx hb dX12_entry_28 rfl (lv_at hl 0 rfl) ?_
            refine lv_iload_n hx hb dX12_entry_29 rfl (lv_at hl 2 rfl) ?_
            refine lv_iload hx hb dX12_entry_30 (lv_at hl 4 rfl) ?_
            have e_11 : (sv μ 111 0 0).1 111 4 = μ.1 111 4 := (sv_n _ (by decide))
            refine xc_iV G (b := 111) (rest := []) (As := [.int (iv x2), .int (iv x4)]) (c_X12_canFail_b ω l (sv μ 111 0 0) x2 x4 (by unfold ir; omega) (by unfold ir; omega)) (wm 10 71 rfl rfl) (wm 10 73 rfl rfl) (wm 0 186 rfl rfl) rfl rfl (by decide) rfl (wm 1 18 rfl rfl) (wm 10 74 rfl rfl) (by decide) hR (by decide) (n := 2) rfl rfl (Nat.le_of_ble_eq_true rfl) hl.1 dX12_entry_32 (fun r_13 μ12 ρ d0 H locs hr_r_13 hp G => ?_)
            have hr_r_13 : -2147483648 ≤ r_13 ∧ r_13 ≤ 2147483647 := hr_r_13
            obtain ⟨hsm_14, hp_15⟩ := hp
            have hsm_14 := Eq.symm hsm_14
            subst hsm_14
            refine xb_if_ne (tgt := 40) hx hb (by unfold ir; omega) dX12_entry_35 (by decide) (fun c_35 => ?_) (fun c_35 => ?_)
            · refine lv_iconst (v := iv 4) hx hb dX12_entry_40 rfl ?_
              refine lv_iload_n hx hb dX12_entry_41 rfl (lv_at hl 1 rfl) ?_
              refine xb_imul hx hb dX12_entry_42 ?_
              refine lv_iload_n hx hb dX12_entry_43 rfl (lv_at hl 2 rfl) ?_
              refine xb_iadd hx hb dX12_entry_44 ?_
              refine lv_istore (lv' := [(5, .int (iv ((4 * x1) + x2))), (0, .ref (oP ω 111)), (1, .int (iv x1)), (2, .int (iv x2)), (3, .int (iv x3)), (4, .int (iv x4))]) hx hb dX12_entry_45 hl (by decide) rfl (fun ls hl => ?_)
              refine lv_iload_n hx hb dX12_entry_47 rfl (lv_at hl 4 rfl) ?_
              refine xb_if_ne (tgt := 62) hx hb (by unfold ir; omega) dX12_entry_48 (by decide) (fun c_48 => ?_) (fun c_48 => ?_)
              · refine lv_aload_n hx hb dX12_entry_62 rfl (lv_at hl 1 rfl) ?_
                refine lv_iload_n hx hb dX12_entry_63 rfl (lv_at hl 2 rfl) ?_
                refine lv_iload_n hx hb dX12_entry_64 rfl (lv_at hl 4 rfl) ?_
                have e_16 : (sv μ 111 0 0).1 111 4 = μ.1 111 4 := (sv_n _ (by decide))
                refine xc_iV G (b := 111) (rest := []) (As := [.int (iv x1), .int (iv x3)]) (c_X12_canFail_b ω l (sv μ 111 0 0) x1 x3 (by unfold ir; omega) (by unfold ir; omega)) (wm 10 71 rfl rfl) (wm 10 73 rfl rfl) (wm 0 186 rfl rfl) rfl rfl (by decide) rfl (wm 1 18 rfl rfl) (wm 10 74 rfl rfl) (by decide) hR (by decide) (n := 2) rfl rfl (Nat.le_of_ble_eq_true rfl) hl.1 dX12_entry_65 (fun r_18 μ17 ρ d0 H locs hr_r_18 hp G => ?_)
                have hr_r_18 : -2147483648 ≤ r_18 ∧ r_18 ≤ 2147483647 := hr_r_18
                obtain ⟨hsm_19, hp_20⟩ := hp
                have hsm_19 := Eq.symm hsm_19
                subst hsm_19
                refine xb_if_ne (tgt := 73) hx hb (by unfold ir; omega) dX12_entry_68 (by decide) (fun c_68 => ?_) (fun c_68 => ?_)
                · refine lv_aload_n hx hb dX12_entry_73 rfl (lv_at hl 1 rfl) ?_
                  refine lv_iload hx hb dX12_entry_74 (lv_at hl 0 rfl) ?_
                  refine lv_iload_n hx hb dX12_entry_76 rfl (lv_at hl 4 rfl) ?_
                  have e_21 : (sv μ 111 0 0).1 111 104 = μ.1 111 104 := (sv_n _ (by decide))
                  have e_22 : (sv μ 111 0 0).1 111 104 = μ.1 111 104 := (sv_n _ (by decide))
                  have e_23 : (sv μ 111 0 0).1 111 104 = μ.1 111 104 := (sv_n _ (by decide))
                  refine xc_iV G (b := 111) (rest := []) (As := [.int (iv ((4 * x1) + x2)), .int (iv x3)]) (c_X12_entryOf ω l (sv μ 111 0 0) ((4 * x1) + x2) x3 (by unfold ir; omega) (by unfold ir; omega) (by omega)) (wm 10 75 rfl rfl) (wm 10 77 rfl rfl) (wm 0 187 rfl rfl) rfl rfl (by decide) rfl (wm 1 18 rfl rfl) (wm 10 78 rfl rfl) (by decide) hR (by decide) (n := 2) rfl rfl (Nat.le_of_ble_eq_true rfl) hl.1 dX12_entry_77 (fun r_25 μ24 ρ d0 H locs hr_r_25 hp G => ?_)
                  have hr_r_25 : -2147483648 ≤ r_25 ∧ r_25 ≤ 2147483647 := hr_r_25
                  obtain ⟨hsm_26, hp_27⟩ := hp
                  have hsm_26 := Eq.symm hsm_26
                  subst hsm_26
                  have hof_ := hp_27 ()
                  have hof2_ : (sv μ 111 0 0).1 163 r_25 = μ.1 163 r_25 := (sv_n _ (fun h9 => absurd h9.1 (by decide)))
                  refine lv_istore (lv' := [(6, .int (iv r_25)), (5, .int (iv ((4 * x1) + x2))), (0, .ref (oP ω 111)), (1, .int (iv x1)), (2, .int (iv x2)), (3, .int (iv x3)), (4, .int (iv x4))]) hx hb dX12_entry_80 hl (by decide) rfl (fun ls hl => ?_)
                  refine lv_iload hx hb dX12_entry_82 (lv_at hl 0 rfl) ?_
                  refine lv_iconst (v := iv (-1)) hx hb dX12_entry_84 rfl ?_
                  refine xb_icmp_ne (tgt := 132) hx hb (by unfold ir; omega) (by unfold ir; omega) dX12_entry_85 (by decide) (fun c_85 => ?_) (fun c_85 => ?_)
                  · refine lv_aload_n hx hb dX12_entry_132 rfl (lv_at hl 2 rfl) ?_
                    refine xa_getr G fd_X12 (a := 111) (x := 165) 103 rfl (by decide) rfl (wm 8 12 rfl rfl) ⟨rfl, rfl, rfl⟩ dX12_entry_133 rfl (G.sk 163 rfl) (by decide) rfl ?_
                    refine lv_iload hx hb dX12_entry_136 (lv_at hl 0 rfl) ?_
                    refine lv_iload hx hb dX12_entry_138 (lv_at hl 6 rfl) ?_
                    refine xa_iast G (a := 165) (i := r_25) (x := x4) rfl (by have h9 := G.lc (a := 165) (n := 100) 103 rfl; omega) (by unfold ir; omega) dX12_entry_140 rfl (fun H locs G => ?_)
                    refine lv_iconst (v := iv 1) hx hb dX12_entry_141 rfl ?_
                    have e_28 : (sv (sv μ 111 0 0) 165 r_25 x4).1 111 2 = μ.1 111 2 := ((sv_n _ (fun h9 => absurd h9.1 (by decide))).trans (sv_n _ (by decide)))
                    have e_29 : (sv (sv μ 111 0 0) 165 r_25 x4).1 111 104 = μ.1 111 104 := ((sv_n _ (fun h9 => absurd h9.1 (by decide))).trans (sv_n _ (by decide)))
                    have hen_30 : EN (sv (sv μ 111 0 0) 165 r_25 x4) := EN.st (x1 := x1) (x2 := x2) (a := x4) (k := r_25) hC.2.2.2.2.2.1 (by omega) (fun h9 => by have h8 := hp_15.2 h9 (by omega); omega) ((sv_n _ (fun h9 => absurd h9.1 (by decide))).trans (sv_n _ (by decide))) (by omega) (fun j j0 j1 => by omega) (by have h9 : (sv (sv μ 111 0 0) 165 r_25 x4).1 163 r_25 = μ.1 163 r_25 := ((sv_n _ (fun h9 => absurd h9.1 (by decide))).trans (sv_n _ (fun h9 => absurd h9.1 (by decide)))); omega) (fun j hj => ((sv_n _ (by omega)).trans (sv_n _ (by omega)))) (sv_s _ _ _ _) (fun j hj => ((sv_n _ (by omega)).trans (sv_n _ (by omega)))) (fun j => ((sv_n _ (by omega)).trans (sv_n _ (by omega))))
                    exact xr_i G (x := 1) hret hlk (by unfold ir; omega) (zr (by omega)) dX12_entry_142 ⟨(FrM.put (FrM.put FrM.rf (by decide)) (by decide)), (fun j hj => ((sv_n _ (fun h9 => absurd h9.1 (by decide))).trans (sv_n _ (fun h9 => hj (by rw [h9.2]; decide))))), (CIr.en hC (Eqa.fr (L := [165, 111]) (FrM.put (FrM.put FrM.rf (by decide)) (by decide)) (by decide)) (Eqf.fd (L := [0]) (fun j hj => ((sv_n _ (fun h9 => absurd h9.1 (by decide))).trans (sv_n _ (fun h9 => hj (by rw [h9.2]; decide))))) (by decide)) (by have h9 : (sv (sv μ 111 0 0) 165 r_25 x4).1 111 2 = μ.1 111 2 := ((sv_n _ (fun h9 => absurd h9.1 (by decide))).trans (sv_n _ (by decide))); omega) hen_30), (by omega)⟩
                  · refine lv_aload_n hx hb dX12_entry_88 rfl (lv_at hl 2 rfl) ?_
                    refine xa_geti G fd_X12 (a := 111) (x := μ.1 111 104) 104 rfl (by decide) rfl (wm 8 13 rfl rfl) ⟨rfl, rfl, rfl⟩ dX12_entry_89 rfl (sv_n _ (by decide)) ?_
                    have hr_31 : -2147483648 ≤ μ.1 111 104 ∧ μ.1 111 104 ≤ 2147483647 := by have h9 := G.hr (a := 111) (k := 104) rfl; rw [show (sv μ 111 0 0).1 111 104 = μ.1 111 104 from (sv_n _ (by decide))] at h9; exact h9
                    refine lv_bipush (v := iv 100) hx hb dX12_entry_92 rfl ?_
                    refine xb_icmp_ne (tgt := 99) hx hb (by unfold ir; omega) (by unfold ir; omega) dX12_entry_94 (by decide) (fun c_94 => ?_) (fun c_94 => ?_)
                    · refine lv_aload_n hx hb dX12_entry_99 rfl (lv_at hl 2 rfl) ?_
                      refine xa_geti G fd_X12 (a := 111) (x := μ.1 111 104) 104 rfl (by decide) rfl (wm 8 13 rfl rfl) ⟨rfl, rfl, rfl⟩ dX12_entry_100 rfl (sv_n _ (by decide)) ?_
                      refine lv_istore (lv' := [(6, .int (iv (μ.1 111 104))), (5, .int (iv ((4 * x1) + x2))), (0, .ref (oP ω 111)), (1, .int (iv x1)), (2, .int (iv x2)), (3, .int (iv x3)), (4, .int (iv x4))]) hx hb dX12_entry_103 hl (by decide) rfl (fun ls hl => ?_)
                      refine lv_aload_n hx hb dX12_entry_105 rfl (lv_at hl 2 rfl) ?_
                      refine lv_dup hx hb dX12_entry_106 rfl ?_
                      refine xa_geti G fd_X12 (a := 111) (x := μ.1 111 104) 104 rfl (by decide) rfl (wm 8 13 rfl rfl) ⟨rfl, rfl, rfl⟩ dX12_entry_107 rfl (sv_n _ (by decide)) ?_
                      refine lv_iconst (v := iv 1) hx hb dX12_entry_110 rfl ?_
                      refine xb_iadd hx hb dX12_entry_111 ?_
                      refine xa_puti G fd_X12 (a := 111) (x := (μ.1 111 104) + 1) 104 (kz := 104) rfl rfl (by decide) rfl (by unfold ir; omega) (wm 8 13 rfl rfl) ⟨rfl, rfl, rfl, rfl⟩ rfl dX12_entry_112 rfl (fun H locs G => ?_)
                      refine lv_aload_n hx hb dX12_entry_115 rfl (lv_at hl 2 rfl) ?_
                      refine xa_getr G fd_X12 (a := 111) (x := 163) 101 rfl (by decide) rfl (wm 8 10 rfl rfl) ⟨rfl, rfl, rfl⟩ dX12_entry_116 rfl (G.sk 161 rfl) (by decide) rfl ?_
                      refine lv_iload hx hb dX12_entry_119 (lv_at hl 0 rfl) ?_
                      refine lv_iload hx hb dX12_entry_121 (lv_at hl 1 rfl) ?_
                      refine xa_iast G (a := 163) (i := μ.1 111 104) (x := (4 * x1) + x2) rfl (by have h9 := G.lc (a := 163) (n := 100) 101 rfl; omega) (by unfold ir; omega) dX12_entry_123 rfl (fun H locs G => ?_)
                      refine lv_aload_n hx hb dX12_entry_124 rfl (lv_at hl 2 rfl) ?_
                      refine xa_getr G fd_X12 (a := 111) (x := 164) 102 rfl (by decide) rfl (wm 8 11 rfl rfl) ⟨rfl, rfl, rfl⟩ dX12_entry_125 rfl (G.sk 162 rfl) (by decide) rfl ?_
                      refine lv_iload hx hb dX12_entry_128 (lv_at hl 0 rfl) ?_
                      refine lv_iload_n hx hb dX12_entry_130 rfl (lv_at hl 5 rfl) ?_
                      refine xa_iast G (a := 164) (i := μ.1 111 104) (x := x3) rfl (by have h9 := G.lc (a := 164) (n := 100) 102 rfl; omega) (by unfold ir; omega) dX12_entry_131 rfl (fun H locs G => ?_)
                      refine lv_aload_n hx hb dX12_entry_132 rfl (lv_at hl 2 rfl) ?_
                      refine xa_getr G fd_X12 (a := 111) (x := 165) 103 rfl (by decide) rfl (wm 8 12 rfl rfl) ⟨rfl, rfl, rfl⟩ dX12_entry_133 rfl (G.sk 163 rfl) (by decide) rfl ?_
                      refine lv_iload hx hb dX12_entry_136 (lv_at hl 0 rfl) ?_
                      refine lv_iload hx hb dX12_entry_138 (lv_at hl 6 rfl) ?_
                      refine xa_iast G (a := 165) (i := μ.1 111 104) (x := x4) rfl (by have h9 := G.lc (a := 165) (n := 100) 103 rfl; omega) (by unfold ir; omega) dX12_entry_140 rfl (fun H locs G => ?_)
                      refine lv_iconst (v := iv 1) hx hb dX12_entry_141 rfl ?_
                      have e_32 : (sv (sv (sv (sv (sv μ 111 0 0) 111 104 ((μ.1 111 104) + 1)) 163 (μ.1 111 104) ((4 * x1) + x2)) 164 (μ.1 111 104) x3) 165 (μ.1 111 104) x4).1 111 2 = μ.1 111 2 := ((sv_n _ (fun h9 => absurd h9.1 (by decide))).trans ((sv_n _ (fun h9 => absurd h9.1 (by decide))).trans ((sv_n _ (fun h9 => absurd h9.1 (by decide))).trans ((sv_n _ (by decide)).trans (sv_n _ (by decide))))))
                      have e_33 : (sv (sv (sv (sv (sv μ 111 0 0) 111 104 ((μ.1 111 104) + 1)) 163 (μ.1 111 104) ((4 * x1) + x2)) 164 (μ.1 111 104) x3) 165 (μ.1 111 104) x4).1 111 104 = (μ.1 111 104) + 1 := ((sv_n _ (fun h9 => absurd h9.1 (by decide))).trans ((sv_n _ (fun h9 => absurd h9.1 (by decide))).trans ((sv_n _ (fun h9 => absurd h9.1 (by decide))).trans (sv_s _ _ _ _))))
                      have hen_34 : EN (sv (sv (sv (sv (sv μ 111 0 0) 111 104 ((μ.1 111 104) + 1)) 163 (μ.1 111 104) ((4 * x1) + x2)) 164 (μ.1 111 104) x3) 165 (μ.1 111 104) x4) := EN.st (x1 := x1) (x2 := x2) (a := x4) (k := μ.1 111 104) hC.2.2.2.2.2.1 (by omega) (fun h9 => by have h8 := hp_15.2 h9 (by omega); omega) ((sv_n _ (fun h9 => absurd h9.1 (by decide))).trans ((sv_n _ (fun h9 => absurd h9.1 (by decide))).trans ((sv_n _ (fun h9 => absurd h9.1 (by decide))).trans ((sv_n _ (by decide)).trans (sv_n _ (by decide)))))) (by omega) (fun j j0 j1 => by omega) (by have h9 : (sv (sv (sv (sv (sv μ 111 0 0) 111 104 ((μ.1 111 104) + 1)) 163 (μ.1 111 104) ((4 * x1) + x2)) 164 (μ.1 111 104) x3) 165 (μ.1 111 104) x4).1 163 (μ.1 111 104) = (4 * x1) + x2 := ((sv_n _ (fun h9 => absurd h9.1 (by decide))).trans ((sv_n _ (fun h9 => absurd h9.1 (by decide))).trans (sv_s _ _ _ _))); omega) (fun j hj => ((sv_n _ (by omega)).trans ((sv_n _ (by omega)).trans ((sv_n _ (by omega)).trans ((sv_n _ (by omega)).trans (sv_n _ (by omega))))))) (sv_s _ _ _ _) (fun j hj => ((sv_n _ (by omega)).trans ((sv_n _ (by omega)).trans ((sv_n _ (by omega)).trans ((sv_n _ (by omega)).trans (sv_n _ (by omega))))))) (fun j => ((sv_n _ (by omega)).trans ((sv_n _ (by omega)).trans ((sv_n _ (by omega)).trans ((sv_n _ (by omega)).trans (sv_n _ (by omega)))))))
                      exact xr_i G (x := 1) hret hlk (by unfold ir; omega) (zr (by omega)) dX12_entry_142 ⟨(FrM.put (FrM.put (FrM.put (FrM.put (FrM.put FrM.rf (by decide)) (by decide)) (by decide)) (by decide)) (by decide)), (fun j hj => ((sv_n _ (fun h9 => absurd h9.1 (by decide))).trans ((sv_n _ (fun h9 => absurd h9.1 (by decide))).trans ((sv_n _ (fun h9 => absurd h9.1 (by decide))).trans ((sv_n _ (fun h9 => hj (by rw [h9.2]; decide))).trans (sv_n _ (fun h9 => hj (by rw [h9.2]; decide)))))))), (CIr.en hC (Eqa.fr (L := [165, 164, 163, 111]) (FrM.put (FrM.put (FrM.put (FrM.put (FrM.put FrM.rf (by decide)) (by decide)) (by decide)) (by decide)) (by decide)) (by decide)) (Eqf.fd (L := [0, 104]) (fun j hj => ((sv_n _ (fun h9 => absurd h9.1 (by decide))).trans ((sv_n _ (fun h9 => absurd h9.1 (by decide))).trans ((sv_n _ (fun h9 => absurd h9.1 (by decide))).trans ((sv_n _ (fun h9 => hj (by rw [h9.2]; decide))).trans (sv_n _ (fun h9 => hj (by rw [h9.2]; decide)))))))) (by decide)) (by have h9 : (sv (sv (sv (sv (sv μ 111 0 0) 111 104 ((μ.1 111 104) + 1)) 163 (μ.1 111 104) ((4 * x1) + x2)) 164 (μ.1 111 104) x3) 165 (μ.1 111 104) x4).1 111 2 = μ.1 111 2 := ((sv_n _ (fun h9 => absurd h9.1 (by decide))).trans ((sv_n _ (fun h9 => absurd h9.1 (by decide))).trans ((sv_n _ (fun h9 => absurd h9.1 (by decide))).trans ((sv_n _ (by decide)).trans (sv_n _ (by decide)))))); omega) hen_34), (by omega)⟩
                    · refine lv_iconst (v := iv 0) hx hb dX12_entry_97 rfl ?_
                      have e_35 : (sv μ 111 0 0).1 111 2 = μ.1 111 2 := (sv_n _ (by decide))
                      have hci_36 : CIr (sv μ 111 0 0) := CIr.mv hC (Eqa.fr (L := [111]) (FrM.put FrM.rf (by decide)) (by decide)) (Eqf.fd (L := [0]) (fun j hj => (sv_n _ (fun h9 => hj (by rw [h9.2]; decide)))) (by decide)) (by have h9 : (sv μ 111 0 0).1 111 2 = μ.1 111 2 := (sv_n _ (by decide)); omega)
                      exact xr_i G (x := 0) hret hlk (by unfold ir; omega) (zr (by omega)) dX12_entry_98 ⟨(FrM.put FrM.rf (by decide)), (fun j hj => (sv_n _ (fun h9 => hj (by rw [h9.2]; decide)))), hci_36, (by omega)⟩
                · refine lv_iconst (v := iv 0) hx hb dX12_entry_71 rfl ?_
                  have e_37 : (sv μ 111 0 0).1 111 2 = μ.1 111 2 := (sv_n _ (by decide))
                  have hci_38 : CIr (sv μ 111 0 0) := CIr.mv hC (Eqa.fr (L := [111]) (FrM.put FrM.rf (by decide)) (by decide)) (Eqf.fd (L := [0]) (fun j hj => (sv_n _ (fun h9 => hj (by rw [h9.2]; decide)))) (by decide)) (by have h9 : (sv μ 111 0 0).1 111 2 = μ.1 111 2 := (sv_n _ (by decide)); omega)
                  exact xr_i G (x := 0) hret hlk (by unfold ir; omega) (zr (by omega)) dX12_entry_72 ⟨(FrM.put FrM.rf (by decide)), (fun j hj => (sv_n _ (fun h9 => hj (by rw [h9.2]; decide)))), hci_38, (by omega)⟩
              · refine lv_aload_n hx hb dX12_entry_51 rfl (lv_at hl 1 rfl) ?_
                refine xa_getr G fd_X12 (a := 111) (x := 166) 105 rfl (by decide) rfl (wm 8 14 rfl rfl) ⟨rfl, rfl, rfl⟩ dX12_entry_52 rfl (G.sk 164 rfl) (by decide) rfl ?_
                refine lv_iload hx hb dX12_entry_55 (lv_at hl 0 rfl) ?_
                refine lv_iload hx hb dX12_entry_57 (lv_at hl 5 rfl) ?_
                refine xa_iast G (a := 166) (i := (4 * x1) + x2) (x := x4) rfl (by have h9 := G.lc (a := 166) (n := 16) 104 rfl; omega) (by unfold ir; omega) dX12_entry_59 rfl (fun H locs G => ?_)
                refine lv_iconst (v := iv 1) hx hb dX12_entry_60 rfl ?_
                have e_39 : (sv (sv μ 111 0 0) 166 ((4 * x1) + x2) x4).1 111 2 = μ.1 111 2 := ((sv_n _ (fun h9 => absurd h9.1 (by decide))).trans (sv_n _ (by decide)))
                have e_40 : (sv (sv μ 111 0 0) 166 ((4 * x1) + x2) x4).1 111 104 = μ.1 111 104 := ((sv_n _ (fun h9 => absurd h9.1 (by decide))).trans (sv_n _ (by decide)))
                have hen_41 : EN (sv (sv μ 111 0 0) 166 ((4 * x1) + x2) x4) := EN.df (x1 := x1) (x2 := x2) (a := x4) hC.2.2.2.2.2.1 (by omega) (fun h9 => by have h8 := hp_15.2 h9 (by omega); omega) ((sv_n _ (fun h9 => absurd h9.1 (by decide))).trans (sv_n _ (by decide))) ((sv_n _ (fun h9 => absurd h9.1 (by decide))).trans (sv_n _ (by decide))) (fun j => ((sv_n _ (by omega)).trans (sv_n _ (by omega)))) (fun j => ((sv_n _ (by omega)).trans (sv_n _ (by omega)))) (sv_s _ _ _ _) (fun j hj => ((sv_n _ (by omega)).trans (sv_n _ (by omega))))
                exact xr_i G (x := 1) hret hlk (by unfold ir; omega) (zr (by omega)) dX12_entry_61 ⟨(FrM.put (FrM.put FrM.rf (by decide)) (by decide)), (fun j hj => ((sv_n _ (fun h9 => absurd h9.1 (by decide))).trans (sv_n _ (fun h9 => hj (by rw [h9.2]; decide))))), (CIr.en hC (Eqa.fr (L := [166, 111]) (FrM.put (FrM.put FrM.rf (by decide)) (by decide)) (by decide)) (Eqf.fd (L := [0]) (fun j hj => ((sv_n _ (fun h9 => absurd h9.1 (by decide))).trans (sv_n _ (fun h9 => hj (by rw [h9.2]; decide))))) (by decide)) (by have h9 : (sv (sv μ 111 0 0) 166 ((4 * x1) + x2) x4).1 111 2 = μ.1 111 2 := ((sv_n _ (fun h9 => absurd h9.1 (by decide))).trans (sv_n _ (by decide))); omega) hen_41), (by omega)⟩
            · refine lv_iconst (v := iv 0) hx hb dX12_entry_38 rfl ?_
              have e_42 : (sv μ 111 0 0).1 111 2 = μ.1 111 2 := (sv_n _ (by decide))
              have hci_43 : CIr (sv μ 111 0 0) := CIr.mv hC (Eqa.fr (L := [111]) (FrM.put FrM.rf (by decide)) (by decide)) (Eqf.fd (L := [0]) (fun j hj => (sv_n _ (fun h9 => hj (by rw [h9.2]; decide)))) (by decide)) (by have h9 : (sv μ 111 0 0).1 111 2 = μ.1 111 2 := (sv_n _ (by decide)); omega)
              exact xr_i G (x := 0) hret hlk (by unfold ir; omega) (zr (by omega)) dX12_entry_39 ⟨(FrM.put FrM.rf (by decide)), (fun j hj => (sv_n _ (fun h9 => hj (by rw [h9.2]; decide)))), hci_43, (by omega)⟩

set_option maxHeartbeats 4000000 in
set_option maxRecDepth 100000 in
theorem c_X12_underMany (ω : Om) (l : Launch) (μ : M3) (x1 : Int) (hx1 : ir x1) (hC : CIr μ) (hx_ : 0 ≤ x1 ∧ x1 < μ.1 111 82) : CtI ω l yX12_underMany cX12_underMany 4 .int 0 0 [.ref (oP ω 111), .int (iv x1)] μ (fun (r : Int) (μ' : M3) => (μ' = μ)) := by
  refine CtI.go (by decide) (Nat.le_of_ble_eq_true rfl) (fun ρ p e s m below meth c R ls G hR hret hlk hl => ?_)
  have hx := G.1.1
  have hb := G.1.2.1
  have hl : lv_has ls 4 [(0, .ref (oP ω 111)), (1, .int (iv x1))] := hl
  generalize s.drawn = d0 at G ⊢
  have hr_x1 : -2147483648 ≤ x1 ∧ x1 ≤ 2147483647 := hx1
  have hcn_ := hC.n
  have hq0_ := hC.2.2.2.2.1.2.1 x1 (by omega) (by omega)
  refine lv_iconst (v := iv 0) hx hb dX12_underMany_0 rfl ?_
  refine lv_istore_n (lv' := [(2, .int (iv 0)), (0, .ref (oP ω 111)), (1, .int (iv x1))]) hx hb dX12_underMany_1 rfl hl (by decide) rfl (fun ls hl => ?_)
  refine lv_aload_n hx hb dX12_underMany_2 rfl (lv_at hl 1 rfl) ?_
  refine xa_getr G fd_X12 (a := 111) (x := 157) 78 rfl (by decide) rfl (wm 7 227 rfl rfl) ⟨rfl, rfl, rfl⟩ dX12_underMany_3 rfl (G.sk 155 rfl) (by decide) rfl ?_
  refine lv_iload_n hx hb dX12_underMany_6 rfl (lv_at hl 2 rfl) ?_
  refine xa_iald G (a := 157) (i := x1) rfl (by have h9 := G.lc (a := 157) (n := 12000) 95 rfl; omega) dX12_underMany_7 rfl ?_
  have hr_1 : -2147483648 ≤ μ.1 157 x1 ∧ μ.1 157 x1 ≤ 2147483647 := by have h9 := G.hr (a := 157) (k := x1) rfl; exact h9
  refine lv_istore_n (lv' := [(3, .int (iv (μ.1 157 x1))), (2, .int (iv 0)), (0, .ref (oP ω 111)), (1, .int (iv x1))]) hx hb dX12_underMany_8 rfl hl (by decide) rfl (fun ls hl => ?_)
  refine xl (fun n_9 μ' ls => ∃ (n9 : Int), ∃ (k9 : Int), (μ' = μ) ∧ (-2147483648 ≤ n9 ∧ n9 ≤ 2147483647) ∧ (-2147483648 ≤ k9 ∧ k9 ≤ 2147483647) ∧ (-1 ≤ k9 ∧ k9 < μ.1 111 81) ∧ (0 ≤ n9 ∧ n9 + k9 ≤ 10000) ∧ n_9 = Int.toNat (k9 + 1) ∧ lv_has ls 4 [(3, .int (iv k9)), (2, .int (iv n9)), (0, .ref (oP ω 111)), (1, .int (iv x1))]) (fun n_9 ρ μL2 d0 H locs ls hI_l G ih => ?_) _ _ _ _ _ _ _ ⟨0, μ.1 157 x1, rfl, (by omega), (by omega), (by omega), (by omega), rfl, lv_sub hl [0, 1, 2, 3] rfl⟩ G
  obtain ⟨n9, k9, FL3, hi_5, hi_6, hi_7, hi_8, hn4, hl⟩ := hI_l
  have FL3 := Eq.symm FL3
  subst FL3
  refine lv_iload_n hx hb dX12_underMany_9 rfl (lv_at hl 0 rfl) ?_
  refine lv_iconst (v := iv (-1)) hx hb dX12_underMany_10 rfl ?_
  refine xb_icmp_eq (tgt := 27) hx hb (by unfold ir; omega) (by unfold ir; omega) dX12_underMany_11 (by decide) (fun c_11 => ?_) (fun c_11 => ?_)
  · refine lv_iload_n hx hb dX12_underMany_27 rfl (lv_at hl 1 rfl) ?_
    exact xr_i G (x := n9) hret hlk (by unfold ir; omega) rfl dX12_underMany_28 rfl
  · refine lv_iinc (v := iv (n9 + 1)) (lv' := [(2, .int (iv (n9 + 1))), (3, .int (iv k9)), (0, .ref (oP ω 111)), (1, .int (iv x1))]) hx hb dX12_underMany_14 hl (k := 1) rfl (by rw [show Int32.ofInt 1 = iv 1 from rfl, iv_add]) (by decide) rfl (fun ls hl => ?_)
    have hq_ := hC.2.2.2.2.1.2.2.2 k9 (by omega) (by omega)
    refine lv_aload_n hx hb dX12_underMany_17 rfl (lv_at hl 2 rfl) ?_
    refine xa_getr G fd_X12 (a := 111) (x := 159) 80 rfl (by decide) rfl (wm 7 229 rfl rfl) ⟨rfl, rfl, rfl⟩ dX12_underMany_18 rfl (G.sk 157 rfl) (by decide) rfl ?_
    refine lv_iload_n hx hb dX12_underMany_21 rfl (lv_at hl 1 rfl) ?_
    refine xa_iald G (a := 159) (i := k9) rfl (by have h9 := G.lc (a := 159) (n := 12000) 97 rfl; omega) dX12_underMany_22 rfl ?_
    have hr_9 : -2147483648 ≤ μ.1 159 k9 ∧ μ.1 159 k9 ≤ 2147483647 := by have h9 := G.hr (a := 159) (k := k9) rfl; exact h9
    refine lv_istore_n (lv' := [(3, .int (iv (μ.1 159 k9))), (2, .int (iv (n9 + 1))), (0, .ref (oP ω 111)), (1, .int (iv x1))]) hx hb dX12_underMany_23 rfl hl (by decide) rfl (fun ls hl => ?_)
    refine lv_goto (tgt := 9) hx hb dX12_underMany_24 (by decide) ?_
    exact ih _ _ _ _ _ _ _ (by omega) ⟨n9 + 1, μ.1 159 k9, rfl, (by omega), (by omega), (by omega), (by omega), rfl, lv_sub hl [0, 1, 2, 3] rfl⟩ G

set_option maxHeartbeats 4000000 in
set_option maxRecDepth 100000 in
theorem c_X12_told (ω : Om) (l : Launch) (μ : M3) (x1 : Int) (x2 : Int) (hx1 : ir x1) (hx2 : ir x2) (hC : CIr μ) (hx_ : -1 ≤ x1 ∧ x1 < μ.1 111 82) : CtI ω l yX12_told cX12_told 3 .int 1 23 [.ref (oP ω 111), .int (iv x1), .int (iv x2)] μ (fun (r : Int) (μ' : M3) => (μ' = μ)) := by
  refine CtI.go (by decide) (Nat.le_of_ble_eq_true rfl) (fun ρ p e s m below meth c R ls G hR hret hlk hl => ?_)
  have hx := G.1.1
  have hb := G.1.2.1
  have hl : lv_has ls 3 [(0, .ref (oP ω 111)), (1, .int (iv x1)), (2, .int (iv x2))] := hl
  generalize s.drawn = d0 at G ⊢
  have hr_x1 : -2147483648 ≤ x1 ∧ x1 ≤ 2147483647 := hx1
  have hr_x2 : -2147483648 ≤ x2 ∧ x2 ≤ 2147483647 := hx2
  have hcn_ := hC.n
  refine lv_iload_n hx hb dX12_told_0 rfl (lv_at hl 1 rfl) ?_
  refine lv_iconst (v := iv (-1)) hx hb dX12_told_1 rfl ?_
  refine xb_icmp_ne (tgt := 7) hx hb (by unfold ir; omega) (by unfold ir; omega) dX12_told_2 (by decide) (fun c_2 => ?_) (fun c_2 => ?_)
  · refine lv_iload_n hx hb dX12_told_7 rfl (lv_at hl 2 rfl) ?_
    by_cases c_8_out : x2 < 0 ∨ 6 < x2
    · refine xb_tout (tgt := 100) hx hb (by unfold ir; omega) dX12_told_8 c_8_out (by decide) ?_
      refine lv_iconst (v := iv (-1)) hx hb dX12_told_100 rfl ?_
      exact xr_i G (x := (-1)) hret hlk (by unfold ir; omega) rfl dX12_told_101 rfl
    by_cases c_8_0 : x2 = 0
    · refine xb_tin (tgt := 52) hx hb (by unfold ir; omega) dX12_told_8 (by omega) (off := 44) (by rw [c_8_0]; rfl) (by decide) ?_
      refine lv_aload_n hx hb dX12_told_52 rfl (lv_at hl 0 rfl) ?_
      refine xa_getr G fd_X12 (a := 111) (x := 149) 70 rfl (by decide) rfl (wm 7 219 rfl rfl) ⟨rfl, rfl, rfl⟩ dX12_told_53 rfl (G.sk 147 rfl) (by decide) rfl ?_
      refine lv_iload_n hx hb dX12_told_56 rfl (lv_at hl 1 rfl) ?_
      refine xa_iald G (a := 149) (i := x1) rfl (by have h9 := G.lc (a := 149) (n := 12000) 87 rfl; omega) dX12_told_57 rfl ?_
      have hr_1 : -2147483648 ≤ μ.1 149 x1 ∧ μ.1 149 x1 ≤ 2147483647 := by have h9 := G.hr (a := 149) (k := x1) rfl; exact h9
      exact xr_i G (x := μ.1 149 x1) hret hlk (by unfold ir; omega) rfl dX12_told_58 rfl
    by_cases c_8_1 : x2 = 1
    · refine xb_tin (tgt := 59) hx hb (by unfold ir; omega) dX12_told_8 (by omega) (off := 51) (by rw [c_8_1]; rfl) (by decide) ?_
      refine lv_aload_n hx hb dX12_told_59 rfl (lv_at hl 0 rfl) ?_
      refine xa_getr G fd_X12 (a := 111) (x := 150) 71 rfl (by decide) rfl (wm 7 220 rfl rfl) ⟨rfl, rfl, rfl⟩ dX12_told_60 rfl (G.sk 148 rfl) (by decide) rfl ?_
      refine lv_iload_n hx hb dX12_told_63 rfl (lv_at hl 1 rfl) ?_
      refine xa_iald G (a := 150) (i := x1) rfl (by have h9 := G.lc (a := 150) (n := 12000) 88 rfl; omega) dX12_told_64 rfl ?_
      have hr_2 : -2147483648 ≤ μ.1 150 x1 ∧ μ.1 150 x1 ≤ 2147483647 := by have h9 := G.hr (a := 150) (k := x1) rfl; exact h9
      exact xr_i G (x := μ.1 150 x1) hret hlk (by unfold ir; omega) rfl dX12_told_65 rfl
    by_cases c_8_2 : x2 = 2
    · refine xb_tin (tgt := 66) hx hb (by unfold ir; omega) dX12_told_8 (by omega) (off := 58) (by rw [c_8_2]; rfl) (by decide) ?_
      refine lv_aload_n hx hb dX12_told_66 rfl (lv_at hl 0 rfl) ?_
      refine xa_getr G fd_X12 (a := 111) (x := 153) 74 rfl (by decide) rfl (wm 7 223 rfl rfl) ⟨rfl, rfl, rfl⟩ dX12_told_67 rfl (G.sk 151 rfl) (by decide) rfl ?_
      refine lv_iload_n hx hb dX12_told_70 rfl (lv_at hl 1 rfl) ?_
      refine xa_iald G (a := 153) (i := x1) rfl (by have h9 := G.lc (a := 153) (n := 12000) 91 rfl; omega) dX12_told_71 rfl ?_
      have hr_3 : -2147483648 ≤ μ.1 153 x1 ∧ μ.1 153 x1 ≤ 2147483647 := by have h9 := G.hr (a := 153) (k := x1) rfl; exact h9
      exact xr_i G (x := μ.1 153 x1) hret hlk (by unfold ir; omega) rfl dX12_told_72 rfl
    by_cases c_8_3 : x2 = 3
    · refine xb_tin (tgt := 73) hx hb (by unfold ir; omega) dX12_told_8 (by omega) (off := 65) (by rw [c_8_3]; rfl) (by decide) ?_
      refine lv_aload_n hx hb dX12_told_73 rfl (lv_at hl 0 rfl) ?_
      refine xa_getr G fd_X12 (a := 111) (x := 155) 76 rfl (by decide) rfl (wm 7 225 rfl rfl) ⟨rfl, rfl, rfl⟩ dX12_told_74 rfl (G.sk 153 rfl) (by decide) rfl ?_
      refine lv_iload_n hx hb dX12_told_77 rfl (lv_at hl 1 rfl) ?_
      refine xa_iald G (a := 155) (i := x1) rfl (by have h9 := G.lc (a := 155) (n := 12000) 93 rfl; omega) dX12_told_78 rfl ?_
      have hr_4 : -2147483648 ≤ μ.1 155 x1 ∧ μ.1 155 x1 ≤ 2147483647 := by have h9 := G.hr (a := 155) (k := x1) rfl; exact h9
      exact xr_i G (x := μ.1 155 x1) hret hlk (by unfold ir; omega) rfl dX12_told_79 rfl
    by_cases c_8_4 : x2 = 4
    · refine xb_tin (tgt := 80) hx hb (by unfold ir; omega) dX12_told_8 (by omega) (off := 72) (by rw [c_8_4]; rfl) (by decide) ?_
      refine lv_aload_n hx hb dX12_told_80 rfl (lv_at hl 0 rfl) ?_
      refine lv_iload_n hx hb dX12_told_81 rfl (lv_at hl 1 rfl) ?_
      refine xc_iV G (b := 111) (rest := []) (As := [.int (iv x1)]) (c_X12_underMany ω l μ x1 (by unfold ir; omega) (by omega) (by omega)) (wm 11 80 rfl rfl) (wm 11 82 rfl rfl) (wm 0 236 rfl rfl) rfl rfl (by decide) rfl (wm 1 18 rfl rfl) (wm 11 83 rfl rfl) (by decide) hR (by decide) (n := 1) rfl rfl (Nat.le_of_ble_eq_true rfl) hl.1 dX12_told_82 (fun r_6 μ5 ρ d0 H locs hr_r_6 hp G => ?_)
      have hr_r_6 : -2147483648 ≤ r_6 ∧ r_6 ≤ 2147483647 := hr_r_6
      have hsm_7 := hp
      have hsm_7 := Eq.symm hsm_7
      subst hsm_7
      exact xr_i G (x := r_6) hret hlk (by unfold ir; omega) rfl dX12_told_85 rfl
    by_cases c_8_5 : x2 = 5
    · refine xb_tin (tgt := 86) hx hb (by unfold ir; omega) dX12_told_8 (by omega) (off := 78) (by rw [c_8_5]; rfl) (by decide) ?_
      refine lv_aload_n hx hb dX12_told_86 rfl (lv_at hl 0 rfl) ?_
      refine xa_getr G fd_X12 (a := 111) (x := 151) 72 rfl (by decide) rfl (wm 7 221 rfl rfl) ⟨rfl, rfl, rfl⟩ dX12_told_87 rfl (G.sk 149 rfl) (by decide) rfl ?_
      refine lv_iload_n hx hb dX12_told_90 rfl (lv_at hl 1 rfl) ?_
      refine xa_bald G (a := 151) (i := x1) rfl (by have h9 := G.lc (a := 151) (n := 12000) 89 rfl; omega) dX12_told_91 rfl ?_
      have hr_8 : -2147483648 ≤ μ.1 151 x1 ∧ μ.1 151 x1 ≤ 2147483647 := by have h9 := G.hr3 (a := 151) (k := x1) rfl; exact h9
      exact xr_i G (x := μ.1 151 x1) hret hlk (by unfold ir; omega) rfl dX12_told_92 rfl
    have c_8_6 : x2 = 6 := by omega
    refine xb_tin (tgt := 93) hx hb (by unfold ir; omega) dX12_told_8 (by omega) (off := 85) (by rw [c_8_6]; rfl) (by decide) ?_
    refine lv_aload_n hx hb dX12_told_93 rfl (lv_at hl 0 rfl) ?_
    refine xa_getr G fd_X12 (a := 111) (x := 154) 75 rfl (by decide) rfl (wm 7 224 rfl rfl) ⟨rfl, rfl, rfl⟩ dX12_told_94 rfl (G.sk 152 rfl) (by decide) rfl ?_
    refine lv_iload_n hx hb dX12_told_97 rfl (lv_at hl 1 rfl) ?_
    refine xa_iald G (a := 154) (i := x1) rfl (by have h9 := G.lc (a := 154) (n := 12000) 92 rfl; omega) dX12_told_98 rfl ?_
    have hr_9 : -2147483648 ≤ μ.1 154 x1 ∧ μ.1 154 x1 ≤ 2147483647 := by have h9 := G.hr (a := 154) (k := x1) rfl; exact h9
    exact xr_i G (x := μ.1 154 x1) hret hlk (by unfold ir; omega) rfl dX12_told_99 rfl
  · refine lv_iconst (v := iv (-1)) hx hb dX12_told_5 rfl ?_
    exact xr_i G (x := (-1)) hret hlk (by unfold ir; omega) rfl dX12_told_6 rfl

set_option maxHeartbeats 4000000 in
set_option maxRecDepth 100000 in
theorem c_X12_failureAt (ω : Om) (l : Launch) (μ : M3) (x1 : Int) (hx1 : ir x1) (hC : CIr μ) : CtI ω l yX12_failureAt cX12_failureAt 4 .int 0 0 [.ref (oP ω 111), .int (iv x1)] μ (fun (r : Int) (μ' : M3) => (μ' = μ) ∧ (-1 ≤ r ∧ r < μ.1 111 82)) := by
  refine CtI.go (by decide) (Nat.le_of_ble_eq_true rfl) (fun ρ p e s m below meth c R ls G hR hret hlk hl => ?_)
  have hx := G.1.1
  have hb := G.1.2.1
  have hl : lv_has ls 4 [(0, .ref (oP ω 111)), (1, .int (iv x1))] := hl
  generalize s.drawn = d0 at G ⊢
  have hr_x1 : -2147483648 ≤ x1 ∧ x1 ≤ 2147483647 := hx1
  have hcn_ := hC.n
  refine lv_aload_n hx hb dX12_failureAt_0 rfl (lv_at hl 0 rfl) ?_
  refine xa_geti G fd_X12 (a := 111) (x := μ.1 111 92) 92 rfl (by decide) rfl (wm 8 1 rfl rfl) ⟨rfl, rfl, rfl⟩ dX12_failureAt_1 rfl rfl ?_
  have hr_1 : -2147483648 ≤ μ.1 111 92 ∧ μ.1 111 92 ≤ 2147483647 := by have h9 := G.hr (a := 111) (k := 92) rfl; exact h9
  refine xb_if_eq (tgt := 11) hx hb (by unfold ir; omega) dX12_failureAt_4 (by decide) (fun c_4 => ?_) (fun c_4 => ?_)
  · refine lv_iconst (v := iv (-1)) hx hb dX12_failureAt_11 rfl ?_
    exact xr_i G (x := (-1)) hret hlk (by unfold ir; omega) rfl dX12_failureAt_12 ⟨rfl, (by omega)⟩
  · refine lv_iload_n hx hb dX12_failureAt_7 rfl (lv_at hl 1 rfl) ?_
    refine xb_if_ge (tgt := 13) hx hb (by unfold ir; omega) dX12_failureAt_8 (by decide) (fun c_8 => ?_) (fun c_8 => ?_)
    · refine lv_aload_n hx hb dX12_failureAt_13 rfl (lv_at hl 0 rfl) ?_
      refine xa_geti G fd_X12 (a := 111) (x := μ.1 111 97) 97 rfl (by decide) rfl (wm 8 6 rfl rfl) ⟨rfl, rfl, rfl⟩ dX12_failureAt_14 rfl rfl ?_
      have hr_2 : -2147483648 ≤ μ.1 111 97 ∧ μ.1 111 97 ≤ 2147483647 := by have h9 := G.hr (a := 111) (k := 97) rfl; exact h9
      refine lv_istore_n (lv' := [(2, .int (iv (μ.1 111 97))), (0, .ref (oP ω 111)), (1, .int (iv x1))]) hx hb dX12_failureAt_17 rfl hl (by decide) rfl (fun ls hl => ?_)
      refine lv_iconst (v := iv 0) hx hb dX12_failureAt_18 rfl ?_
      refine lv_istore_n (lv' := [(3, .int (iv 0)), (2, .int (iv (μ.1 111 97))), (0, .ref (oP ω 111)), (1, .int (iv x1))]) hx hb dX12_failureAt_19 rfl hl (by decide) rfl (fun ls hl => ?_)
      refine xl (fun n_9 μ' ls => ∃ (g9 : Int), ∃ (k9 : Int), (μ' = μ) ∧ (-2147483648 ≤ g9 ∧ g9 ≤ 2147483647) ∧ (-2147483648 ≤ k9 ∧ k9 ≤ 2147483647) ∧ (-1 ≤ g9 ∧ g9 < μ.1 111 82) ∧ (0 ≤ k9) ∧ n_9 = Int.toNat (x1 - k9) ∧ lv_has ls 4 [(3, .int (iv k9)), (2, .int (iv g9)), (0, .ref (oP ω 111)), (1, .int (iv x1))]) (fun n_9 ρ μL3 d0 H locs ls hI_l G ih => ?_) _ _ _ _ _ _ _ ⟨μ.1 111 97, 0, rfl, (by omega), (by omega), (by omega), (by omega), rfl, lv_sub hl [0, 1, 2, 3] rfl⟩ G
      obtain ⟨g9, k9, FL4, hi_6, hi_7, hi_8, hi_9, hn5, hl⟩ := hI_l
      have FL4 := Eq.symm FL4
      subst FL4
      refine lv_iload_n hx hb dX12_failureAt_20 rfl (lv_at hl 0 rfl) ?_
      refine lv_iload_n hx hb dX12_failureAt_21 rfl (lv_at hl 3 rfl) ?_
      refine xb_icmp_ge (tgt := 43) hx hb (by unfold ir; omega) (by unfold ir; omega) dX12_failureAt_22 (by decide) (fun c_22 => ?_) (fun c_22 => ?_)
      · refine lv_iload_n hx hb dX12_failureAt_43 rfl (lv_at hl 1 rfl) ?_
        exact xr_i G (x := g9) hret hlk (by unfold ir; omega) rfl dX12_failureAt_44 ⟨rfl, (by omega)⟩
      · refine lv_iload_n hx hb dX12_failureAt_25 rfl (lv_at hl 1 rfl) ?_
        refine lv_iconst (v := iv (-1)) hx hb dX12_failureAt_26 rfl ?_
        refine xb_icmp_eq (tgt := 43) hx hb (by unfold ir; omega) (by unfold ir; omega) dX12_failureAt_27 (by decide) (fun c_27 => ?_) (fun c_27 => ?_)
        · refine lv_iload_n hx hb dX12_failureAt_43 rfl (lv_at hl 1 rfl) ?_
          exact xr_i G (x := g9) hret hlk (by unfold ir; omega) rfl dX12_failureAt_44 ⟨rfl, (by omega)⟩
        · have hq_ := hC.2.2.2.2.1.2.1 g9 (by omega) (by omega)
          refine lv_aload_n hx hb dX12_failureAt_30 rfl (lv_at hl 2 rfl) ?_
          refine xa_getr G fd_X12 (a := 111) (x := 156) 77 rfl (by decide) rfl (wm 7 226 rfl rfl) ⟨rfl, rfl, rfl⟩ dX12_failureAt_31 rfl (G.sk 154 rfl) (by decide) rfl ?_
          refine lv_iload_n hx hb dX12_failureAt_34 rfl (lv_at hl 1 rfl) ?_
          refine xa_iald G (a := 156) (i := g9) rfl (by have h9 := G.lc (a := 156) (n := 12000) 94 rfl; omega) dX12_failureAt_35 rfl ?_
          have hr_10 : -2147483648 ≤ μ.1 156 g9 ∧ μ.1 156 g9 ≤ 2147483647 := by have h9 := G.hr (a := 156) (k := g9) rfl; exact h9
          refine lv_istore_n (lv' := [(2, .int (iv (μ.1 156 g9))), (3, .int (iv k9)), (0, .ref (oP ω 111)), (1, .int (iv x1))]) hx hb dX12_failureAt_36 rfl hl (by decide) rfl (fun ls hl => ?_)
          refine lv_iinc (v := iv (k9 + 1)) (lv' := [(3, .int (iv (k9 + 1))), (2, .int (iv (μ.1 156 g9))), (0, .ref (oP ω 111)), (1, .int (iv x1))]) hx hb dX12_failureAt_37 hl (k := 1) rfl (by rw [show Int32.ofInt 1 = iv 1 from rfl, iv_add]) (by decide) rfl (fun ls hl => ?_)
          refine lv_goto (tgt := 20) hx hb dX12_failureAt_40 (by decide) ?_
          exact ih _ _ _ _ _ _ _ (by omega) ⟨μ.1 156 g9, k9 + 1, rfl, (by omega), (by omega), (by omega), (by omega), rfl, lv_sub hl [0, 1, 2, 3] rfl⟩ G
    · refine lv_iconst (v := iv (-1)) hx hb dX12_failureAt_11 rfl ?_
      exact xr_i G (x := (-1)) hret hlk (by unfold ir; omega) rfl dX12_failureAt_12 ⟨rfl, (by omega)⟩

set_option maxHeartbeats 4000000 in
set_option maxRecDepth 100000 in
theorem c_X12_failure (ω : Om) (l : Launch) (μ : M3) (x1 : Int) (x2 : Int) (hx1 : ir x1) (hx2 : ir x2) (hC : CIr μ) : CtI ω l yX12_failure cX12_failure 3 .int 2 45 [.ref (oP ω 111), .int (iv x1), .int (iv x2)] μ (fun (r : Int) (μ' : M3) => (FrM [111] μ μ') ∧ (∀ j, j ∉ ([0] : List Int) → μ'.1 111 j = μ.1 111 j) ∧ (CIr μ')) := by
  refine CtI.go (by decide) (Nat.le_of_ble_eq_true rfl) (fun ρ p e s m below meth c R ls G hR hret hlk hl => ?_)
  have hx := G.1.1
  have hb := G.1.2.1
  have hl : lv_has ls 3 [(0, .ref (oP ω 111)), (1, .int (iv x1)), (2, .int (iv x2))] := hl
  generalize s.drawn = d0 at G ⊢
  have hr_x1 : -2147483648 ≤ x1 ∧ x1 ≤ 2147483647 := hx1
  have hr_x2 : -2147483648 ≤ x2 ∧ x2 ≤ 2147483647 := hx2
  have hcn_ := hC.n
  refine lv_aload_n hx hb dX12_failure_0 rfl (lv_at hl 0 rfl) ?_
  refine lv_iconst (v := iv 0) hx hb dX12_failure_1 rfl ?_
  refine xa_puti G fd_X12 (a := 111) (x := 0) 0 (kz := 0) rfl rfl (by decide) rfl (by unfold ir; omega) (wm 7 149 rfl rfl) ⟨rfl, rfl, rfl, rfl⟩ rfl dX12_failure_2 rfl (fun H locs G => ?_)
  refine lv_aload_n hx hb dX12_failure_5 rfl (lv_at hl 0 rfl) ?_
  refine lv_aload_n hx hb dX12_failure_6 rfl (lv_at hl 0 rfl) ?_
  refine lv_iload_n hx hb dX12_failure_7 rfl (lv_at hl 1 rfl) ?_
  have e_1 : (sv μ 111 0 0).1 111 82 = μ.1 111 82 := (sv_n _ (by decide))
  have e_2 : (sv μ 111 0 0).1 111 2 = μ.1 111 2 := (sv_n _ (by decide))
  have hci_3 : CIr (sv μ 111 0 0) := CIr.mv hC (Eqa.fr (L := [111]) (FrM.put FrM.rf (by decide)) (by decide)) (Eqf.fd (L := [0]) (fun j hj => (sv_n _ (fun h9 => hj (by rw [h9.2]; decide)))) (by decide)) (by have h9 : (sv μ 111 0 0).1 111 2 = μ.1 111 2 := (sv_n _ (by decide)); omega)
  have e_4 : (sv μ 111 0 0).1 111 82 = μ.1 111 82 := (sv_n _ (by decide))
  refine xc_iV G (b := 111) (rest := [.ref (oP ω 111)]) (As := [.int (iv x1)]) (c_X12_failureAt ω l (sv μ 111 0 0) x1 (by unfold ir; omega) hci_3) (wm 11 72 rfl rfl) (wm 11 74 rfl rfl) (wm 0 234 rfl rfl) rfl rfl (by decide) rfl (wm 1 18 rfl rfl) (wm 11 75 rfl rfl) (by decide) hR (by decide) (n := 1) rfl rfl (Nat.le_of_ble_eq_true rfl) hl.1 dX12_failure_8 (fun r_6 μ5 ρ d0 H locs hr_r_6 hp G => ?_)
  have hr_r_6 : -2147483648 ≤ r_6 ∧ r_6 ≤ 2147483647 := hr_r_6
  obtain ⟨hsm_7, hp_8⟩ := hp
  have hsm_7 := Eq.symm hsm_7
  subst hsm_7
  refine lv_iload_n hx hb dX12_failure_11 rfl (lv_at hl 2 rfl) ?_
  have e_9 : (sv μ 111 0 0).1 111 82 = μ.1 111 82 := (sv_n _ (by decide))
  have e_10 : (sv μ 111 0 0).1 111 2 = μ.1 111 2 := (sv_n _ (by decide))
  have hci_11 : CIr (sv μ 111 0 0) := CIr.mv hC (Eqa.fr (L := [111]) (FrM.put FrM.rf (by decide)) (by decide)) (Eqf.fd (L := [0]) (fun j hj => (sv_n _ (fun h9 => hj (by rw [h9.2]; decide)))) (by decide)) (by have h9 : (sv μ 111 0 0).1 111 2 = μ.1 111 2 := (sv_n _ (by decide)); omega)
  have e_12 : (sv μ 111 0 0).1 111 82 = μ.1 111 82 := (sv_n _ (by decide))
  refine xc_iV G (b := 111) (rest := []) (As := [.int (iv r_6), .int (iv x2)]) (c_X12_told ω l (sv μ 111 0 0) r_6 x2 (by unfold ir; omega) (by unfold ir; omega) hci_11 (by omega)) (wm 11 76 rfl rfl) (wm 11 78 rfl rfl) (wm 0 235 rfl rfl) rfl rfl (by decide) rfl (wm 1 18 rfl rfl) (wm 11 79 rfl rfl) (by decide) hR (by decide) (n := 2) rfl rfl (Nat.le_of_ble_eq_true rfl) hl.1 dX12_failure_12 (fun r_14 μ13 ρ d0 H locs hr_r_14 hp G => ?_)
  have hr_r_14 : -2147483648 ≤ r_14 ∧ r_14 ≤ 2147483647 := hr_r_14
  have hsm_15 := hp
  have hsm_15 := Eq.symm hsm_15
  subst hsm_15
  have e_16 : (sv μ 111 0 0).1 111 2 = μ.1 111 2 := (sv_n _ (by decide))
  have hci_17 : CIr (sv μ 111 0 0) := CIr.mv hC (Eqa.fr (L := [111]) (FrM.put FrM.rf (by decide)) (by decide)) (Eqf.fd (L := [0]) (fun j hj => (sv_n _ (fun h9 => hj (by rw [h9.2]; decide)))) (by decide)) (by have h9 : (sv μ 111 0 0).1 111 2 = μ.1 111 2 := (sv_n _ (by decide)); omega)
  exact xr_i G (x := r_14) hret hlk (by unfold ir; omega) rfl dX12_failure_15 ⟨(FrM.put FrM.rf (by decide)), (fun j hj => (sv_n _ (fun h9 => hj (by rw [h9.2]; decide)))), hci_17⟩

set_option maxHeartbeats 4000000 in
set_option maxRecDepth 100000 in
theorem c_X12_under (ω : Om) (l : Launch) (μ : M3) (x1 : Int) (x2 : Int) (x3 : Int) (hx1 : ir x1) (hx2 : ir x2) (hx3 : ir x3) (hC : CIr μ) : CtI ω l yX12_under cX12_under 7 .int 2 45 [.ref (oP ω 111), .int (iv x1), .int (iv x2), .int (iv x3)] μ (fun (r : Int) (μ' : M3) => (FrM [111] μ μ') ∧ (∀ j, j ∉ ([0] : List Int) → μ'.1 111 j = μ.1 111 j) ∧ (CIr μ')) := by
  refine CtI.go (by decide) (Nat.le_of_ble_eq_true rfl) (fun ρ p e s m below meth c R ls G hR hret hlk hl => ?_)
  have hx := G.1.1
  have hb := G.1.2.1
  have hl : lv_has ls 7 [(0, .ref (oP ω 111)), (1, .int (iv x1)), (2, .int (iv x2)), (3, .int (iv x3))] := hl
  generalize s.drawn = d0 at G ⊢
  have hr_x1 : -2147483648 ≤ x1 ∧ x1 ≤ 2147483647 := hx1
  have hr_x2 : -2147483648 ≤ x2 ∧ x2 ≤ 2147483647 := hx2
  have hr_x3 : -2147483648 ≤ x3 ∧ x3 ≤ 2147483647 := hx3
  have hcn_ := hC.n
  refine lv_aload_n hx hb dX12_under_0 rfl (lv_at hl 0 rfl) ?_
  refine lv_iconst (v := iv 0) hx hb dX12_under_1 rfl ?_
  refine xa_puti G fd_X12 (a := 111) (x := 0) 0 (kz := 0) rfl rfl (by decide) rfl (by unfold ir; omega) (wm 7 149 rfl rfl) ⟨rfl, rfl, rfl, rfl⟩ rfl dX12_under_2 rfl (fun H locs G => ?_)
  refine lv_aload_n hx hb dX12_under_5 rfl (lv_at hl 0 rfl) ?_
  refine lv_iload_n hx hb dX12_under_6 rfl (lv_at hl 1 rfl) ?_
  have e_1 : (sv μ 111 0 0).1 111 82 = μ.1 111 82 := (sv_n _ (by decide))
  have e_2 : (sv μ 111 0 0).1 111 2 = μ.1 111 2 := (sv_n _ (by decide))
  have hci_3 : CIr (sv μ 111 0 0) := CIr.mv hC (Eqa.fr (L := [111]) (FrM.put FrM.rf (by decide)) (by decide)) (Eqf.fd (L := [0]) (fun j hj => (sv_n _ (fun h9 => hj (by rw [h9.2]; decide)))) (by decide)) (by have h9 : (sv μ 111 0 0).1 111 2 = μ.1 111 2 := (sv_n _ (by decide)); omega)
  have e_4 : (sv μ 111 0 0).1 111 82 = μ.1 111 82 := (sv_n _ (by decide))
  refine xc_iV G (b := 111) (rest := []) (As := [.int (iv x1)]) (c_X12_failureAt ω l (sv μ 111 0 0) x1 (by unfold ir; omega) hci_3) (wm 11 72 rfl rfl) (wm 11 74 rfl rfl) (wm 0 234 rfl rfl) rfl rfl (by decide) rfl (wm 1 18 rfl rfl) (wm 11 75 rfl rfl) (by decide) hR (by decide) (n := 1) rfl rfl (Nat.le_of_ble_eq_true rfl) hl.1 dX12_under_7 (fun r_6 μ5 ρ d0 H locs hr_r_6 hp G => ?_)
  have hr_r_6 : -2147483648 ≤ r_6 ∧ r_6 ≤ 2147483647 := hr_r_6
  obtain ⟨hsm_7, hp_8⟩ := hp
  have hsm_7 := Eq.symm hsm_7
  subst hsm_7
  refine lv_istore (lv' := [(4, .int (iv r_6)), (0, .ref (oP ω 111)), (1, .int (iv x1)), (2, .int (iv x2)), (3, .int (iv x3))]) hx hb dX12_under_10 hl (by decide) rfl (fun ls hl => ?_)
  refine lv_iload hx hb dX12_under_12 (lv_at hl 0 rfl) ?_
  refine lv_iconst (v := iv (-1)) hx hb dX12_under_14 rfl ?_
  refine xb_icmp_eq (tgt := 22) hx hb (by unfold ir; omega) (by unfold ir; omega) dX12_under_15 (by decide) (fun c_15 => ?_) (fun c_15 => ?_)
  · refine lv_iconst (v := iv (-1)) hx hb dX12_under_22 rfl ?_
    have e_9 : (sv μ 111 0 0).1 111 2 = μ.1 111 2 := (sv_n _ (by decide))
    have hci_10 : CIr (sv μ 111 0 0) := CIr.mv hC (Eqa.fr (L := [111]) (FrM.put FrM.rf (by decide)) (by decide)) (Eqf.fd (L := [0]) (fun j hj => (sv_n _ (fun h9 => hj (by rw [h9.2]; decide)))) (by decide)) (by have h9 : (sv μ 111 0 0).1 111 2 = μ.1 111 2 := (sv_n _ (by decide)); omega)
    exact xr_i G (x := (-1)) hret hlk (by unfold ir; omega) rfl dX12_under_23 ⟨(FrM.put FrM.rf (by decide)), (fun j hj => (sv_n _ (fun h9 => hj (by rw [h9.2]; decide)))), hci_10⟩
  · refine lv_iload_n hx hb dX12_under_18 rfl (lv_at hl 3 rfl) ?_
    refine xb_if_ge (tgt := 24) hx hb (by unfold ir; omega) dX12_under_19 (by decide) (fun c_19 => ?_) (fun c_19 => ?_)
    · have e_11 : (sv μ 111 0 0).1 111 82 = μ.1 111 82 := (sv_n _ (by decide))
      have hq0_ := hC.2.2.2.2.1.2.1 r_6 (by omega) (by omega)
      refine lv_aload_n hx hb dX12_under_24 rfl (lv_at hl 1 rfl) ?_
      refine xa_getr G fd_X12 (a := 111) (x := 157) 78 rfl (by decide) rfl (wm 7 227 rfl rfl) ⟨rfl, rfl, rfl⟩ dX12_under_25 rfl (G.sk 155 rfl) (by decide) rfl ?_
      refine lv_iload hx hb dX12_under_28 (lv_at hl 0 rfl) ?_
      refine xa_iald G (a := 157) (i := r_6) rfl (by have h9 := G.lc (a := 157) (n := 12000) 95 rfl; omega) dX12_under_30 rfl ?_
      refine xb_ti (y := μ.1 157 r_6) (sv_n _ (fun h9 => absurd h9.1 (by decide))) ?_
      have hr_12 : -2147483648 ≤ μ.1 157 r_6 ∧ μ.1 157 r_6 ≤ 2147483647 := by have h9 := G.hr (a := 157) (k := r_6) rfl; rw [(sv_n _ (fun h9 => absurd h9.1 (by decide)))] at h9; exact h9
      refine lv_istore (lv' := [(5, .int (iv (μ.1 157 r_6))), (4, .int (iv r_6)), (0, .ref (oP ω 111)), (1, .int (iv x1)), (2, .int (iv x2)), (3, .int (iv x3))]) hx hb dX12_under_31 hl (by decide) rfl (fun ls hl => ?_)
      refine lv_iconst (v := iv 0) hx hb dX12_under_33 rfl ?_
      refine lv_istore (lv' := [(6, .int (iv 0)), (5, .int (iv (μ.1 157 r_6))), (4, .int (iv r_6)), (0, .ref (oP ω 111)), (1, .int (iv x1)), (2, .int (iv x2)), (3, .int (iv x3))]) hx hb dX12_under_34 hl (by decide) rfl (fun ls hl => ?_)
      refine xl (fun n_9 μ' ls => ∃ (h9_ : Int), ∃ (j9 : Int), (μ' = (sv μ 111 0 0)) ∧ (-2147483648 ≤ h9_ ∧ h9_ ≤ 2147483647) ∧ (-2147483648 ≤ j9 ∧ j9 ≤ 2147483647) ∧ (-1 ≤ h9_ ∧ h9_ < μ.1 111 81) ∧ (0 ≤ j9) ∧ n_9 = Int.toNat (x2 - j9) ∧ lv_has ls 7 [(6, .int (iv j9)), (5, .int (iv h9_)), (4, .int (iv r_6)), (0, .ref (oP ω 111)), (1, .int (iv x1)), (2, .int (iv x2)), (3, .int (iv x3))]) (fun n_9 ρ μL13 d0 H locs ls hI_l G ih => ?_) _ _ _ _ _ _ _ ⟨μ.1 157 r_6, 0, rfl, (by omega), (by omega), (by omega), (by omega), rfl, lv_sub hl [0, 1, 2, 3, 4, 5, 6] rfl⟩ G
      obtain ⟨h9_, j9, FL14, hi_16, hi_17, hi_18, hi_19, hn15, hl⟩ := hI_l
      have FL14 := Eq.symm FL14
      subst FL14
      refine lv_iload hx hb dX12_under_36 (lv_at hl 0 rfl) ?_
      refine lv_iload_n hx hb dX12_under_38 rfl (lv_at hl 5 rfl) ?_
      refine xb_icmp_ge (tgt := 63) hx hb (by unfold ir; omega) (by unfold ir; omega) dX12_under_39 (by decide) (fun c_39 => ?_) (fun c_39 => ?_)
      · refine lv_aload_n hx hb dX12_under_63 rfl (lv_at hl 3 rfl) ?_
        refine lv_iload hx hb dX12_under_64 (lv_at hl 1 rfl) ?_
        refine lv_iconst (v := iv (-1)) hx hb dX12_under_66 rfl ?_
        refine xb_icmp_ne (tgt := 74) hx hb (by unfold ir; omega) (by unfold ir; omega) dX12_under_67 (by decide) (fun c_67 => ?_) (fun c_67 => ?_)
        · have hq2_ := hC.2.2.2.2.1.2.2.2 h9_ (by omega) (by omega)
          refine lv_aload_n hx hb dX12_under_74 rfl (lv_at hl 3 rfl) ?_
          refine xa_getr G fd_X12 (a := 111) (x := 158) 79 rfl (by decide) rfl (wm 7 228 rfl rfl) ⟨rfl, rfl, rfl⟩ dX12_under_75 rfl (G.sk 156 rfl) (by decide) rfl ?_
          refine lv_iload hx hb dX12_under_78 (lv_at hl 1 rfl) ?_
          refine xa_iald G (a := 158) (i := h9_) rfl (by have h9 := G.lc (a := 158) (n := 12000) 96 rfl; omega) dX12_under_80 rfl ?_
          refine xb_ti (y := μ.1 158 h9_) (sv_n _ (fun h9 => absurd h9.1 (by decide))) ?_
          have hr_20 : -2147483648 ≤ μ.1 158 h9_ ∧ μ.1 158 h9_ ≤ 2147483647 := by have h9 := G.hr (a := 158) (k := h9_) rfl; rw [(sv_n _ (fun h9 => absurd h9.1 (by decide)))] at h9; exact h9
          refine lv_iload_n hx hb dX12_under_81 rfl (lv_at hl 6 rfl) ?_
          have e_21 : (sv μ 111 0 0).1 111 82 = μ.1 111 82 := (sv_n _ (by decide))
          have e_22 : (sv μ 111 0 0).1 111 2 = μ.1 111 2 := (sv_n _ (by decide))
          have hci_23 : CIr (sv μ 111 0 0) := CIr.mv hC (Eqa.fr (L := [111]) (FrM.put FrM.rf (by decide)) (by decide)) (Eqf.fd (L := [0]) (fun j hj => (sv_n _ (fun h9 => hj (by rw [h9.2]; decide)))) (by decide)) (by have h9 : (sv μ 111 0 0).1 111 2 = μ.1 111 2 := (sv_n _ (by decide)); omega)
          have e_24 : (sv μ 111 0 0).1 158 h9_ = μ.1 158 h9_ := (sv_n _ (fun h9 => absurd h9.1 (by decide)))
          have e_25 : (sv μ 111 0 0).1 158 h9_ = μ.1 158 h9_ := (sv_n _ (fun h9 => absurd h9.1 (by decide)))
          have e_26 : (sv μ 111 0 0).1 111 82 = μ.1 111 82 := (sv_n _ (by decide))
          refine xc_iV G (b := 111) (rest := []) (As := [.int (iv (μ.1 158 h9_)), .int (iv x3)]) (c_X12_told ω l (sv μ 111 0 0) (μ.1 158 h9_) x3 (by unfold ir; omega) (by unfold ir; omega) hci_23 (by omega)) (wm 11 76 rfl rfl) (wm 11 78 rfl rfl) (wm 0 235 rfl rfl) rfl rfl (by decide) rfl (wm 1 18 rfl rfl) (wm 11 79 rfl rfl) (by decide) hR (by decide) (n := 2) rfl rfl (Nat.le_of_ble_eq_true rfl) hl.1 dX12_under_82 (fun r_28 μ27 ρ d0 H locs hr_r_28 hp G => ?_)
          have hr_r_28 : -2147483648 ≤ r_28 ∧ r_28 ≤ 2147483647 := hr_r_28
          have hsm_29 := hp
          have hsm_29 := Eq.symm hsm_29
          subst hsm_29
          have e_30 : (sv μ 111 0 0).1 111 2 = μ.1 111 2 := (sv_n _ (by decide))
          have hci_31 : CIr (sv μ 111 0 0) := CIr.mv hC (Eqa.fr (L := [111]) (FrM.put FrM.rf (by decide)) (by decide)) (Eqf.fd (L := [0]) (fun j hj => (sv_n _ (fun h9 => hj (by rw [h9.2]; decide)))) (by decide)) (by have h9 : (sv μ 111 0 0).1 111 2 = μ.1 111 2 := (sv_n _ (by decide)); omega)
          exact xr_i G (x := r_28) hret hlk (by unfold ir; omega) rfl dX12_under_85 ⟨(FrM.put FrM.rf (by decide)), (fun j hj => (sv_n _ (fun h9 => hj (by rw [h9.2]; decide)))), hci_31⟩
        · refine lv_iconst (v := iv (-1)) hx hb dX12_under_70 rfl ?_
          refine lv_goto (tgt := 81) hx hb dX12_under_71 (by decide) ?_
          refine lv_iload_n hx hb dX12_under_81 rfl (lv_at hl 6 rfl) ?_
          have e_32 : (sv μ 111 0 0).1 111 82 = μ.1 111 82 := (sv_n _ (by decide))
          have e_33 : (sv μ 111 0 0).1 111 2 = μ.1 111 2 := (sv_n _ (by decide))
          have hci_34 : CIr (sv μ 111 0 0) := CIr.mv hC (Eqa.fr (L := [111]) (FrM.put FrM.rf (by decide)) (by decide)) (Eqf.fd (L := [0]) (fun j hj => (sv_n _ (fun h9 => hj (by rw [h9.2]; decide)))) (by decide)) (by have h9 : (sv μ 111 0 0).1 111 2 = μ.1 111 2 := (sv_n _ (by decide)); omega)
          have e_35 : (sv μ 111 0 0).1 111 82 = μ.1 111 82 := (sv_n _ (by decide))
          refine xc_iV G (b := 111) (rest := []) (As := [.int (iv (-1)), .int (iv x3)]) (c_X12_told ω l (sv μ 111 0 0) (-1) x3 (by unfold ir; omega) (by unfold ir; omega) hci_34 (by omega)) (wm 11 76 rfl rfl) (wm 11 78 rfl rfl) (wm 0 235 rfl rfl) rfl rfl (by decide) rfl (wm 1 18 rfl rfl) (wm 11 79 rfl rfl) (by decide) hR (by decide) (n := 2) rfl rfl (Nat.le_of_ble_eq_true rfl) hl.1 dX12_under_82 (fun r_37 μ36 ρ d0 H locs hr_r_37 hp G => ?_)
          have hr_r_37 : -2147483648 ≤ r_37 ∧ r_37 ≤ 2147483647 := hr_r_37
          have hsm_38 := hp
          have hsm_38 := Eq.symm hsm_38
          subst hsm_38
          have e_39 : (sv μ 111 0 0).1 111 2 = μ.1 111 2 := (sv_n _ (by decide))
          have hci_40 : CIr (sv μ 111 0 0) := CIr.mv hC (Eqa.fr (L := [111]) (FrM.put FrM.rf (by decide)) (by decide)) (Eqf.fd (L := [0]) (fun j hj => (sv_n _ (fun h9 => hj (by rw [h9.2]; decide)))) (by decide)) (by have h9 : (sv μ 111 0 0).1 111 2 = μ.1 111 2 := (sv_n _ (by decide)); omega)
          exact xr_i G (x := r_37) hret hlk (by unfold ir; omega) rfl dX12_under_85 ⟨(FrM.put FrM.rf (by decide)), (fun j hj => (sv_n _ (fun h9 => hj (by rw [h9.2]; decide)))), hci_40⟩
      · refine lv_iload hx hb dX12_under_42 (lv_at hl 1 rfl) ?_
        refine lv_iconst (v := iv (-1)) hx hb dX12_under_44 rfl ?_
        refine xb_icmp_eq (tgt := 63) hx hb (by unfold ir; omega) (by unfold ir; omega) dX12_under_45 (by decide) (fun c_45 => ?_) (fun c_45 => ?_)
        · refine lv_aload_n hx hb dX12_under_63 rfl (lv_at hl 3 rfl) ?_
          refine lv_iload hx hb dX12_under_64 (lv_at hl 1 rfl) ?_
          refine lv_iconst (v := iv (-1)) hx hb dX12_under_66 rfl ?_
          refine xb_icmp_ne (tgt := 74) hx hb (by unfold ir; omega) (by unfold ir; omega) dX12_under_67 (by decide) (fun c_67 => ?_) (fun c_67 => ?_)
          · have hq2_ := hC.2.2.2.2.1.2.2.2 h9_ (by omega) (by omega)
            refine lv_aload_n hx hb dX12_under_74 rfl (lv_at hl 3 rfl) ?_
            refine xa_getr G fd_X12 (a := 111) (x := 158) 79 rfl (by decide) rfl (wm 7 228 rfl rfl) ⟨rfl, rfl, rfl⟩ dX12_under_75 rfl (G.sk 156 rfl) (by decide) rfl ?_
            refine lv_iload hx hb dX12_under_78 (lv_at hl 1 rfl) ?_
            refine xa_iald G (a := 158) (i := h9_) rfl (by have h9 := G.lc (a := 158) (n := 12000) 96 rfl; omega) dX12_under_80 rfl ?_
            refine xb_ti (y := μ.1 158 h9_) (sv_n _ (fun h9 => absurd h9.1 (by decide))) ?_
            have hr_41 : -2147483648 ≤ μ.1 158 h9_ ∧ μ.1 158 h9_ ≤ 2147483647 := by have h9 := G.hr (a := 158) (k := h9_) rfl; rw [(sv_n _ (fun h9 => absurd h9.1 (by decide)))] at h9; exact h9
            refine lv_iload_n hx hb dX12_under_81 rfl (lv_at hl 6 rfl) ?_
            have e_42 : (sv μ 111 0 0).1 111 82 = μ.1 111 82 := (sv_n _ (by decide))
            have e_43 : (sv μ 111 0 0).1 111 2 = μ.1 111 2 := (sv_n _ (by decide))
            have hci_44 : CIr (sv μ 111 0 0) := CIr.mv hC (Eqa.fr (L := [111]) (FrM.put FrM.rf (by decide)) (by decide)) (Eqf.fd (L := [0]) (fun j hj => (sv_n _ (fun h9 => hj (by rw [h9.2]; decide)))) (by decide)) (by have h9 : (sv μ 111 0 0).1 111 2 = μ.1 111 2 := (sv_n _ (by decide)); omega)
            have e_45 : (sv μ 111 0 0).1 158 h9_ = μ.1 158 h9_ := (sv_n _ (fun h9 => absurd h9.1 (by decide)))
            have e_46 : (sv μ 111 0 0).1 158 h9_ = μ.1 158 h9_ := (sv_n _ (fun h9 => absurd h9.1 (by decide)))
            have e_47 : (sv μ 111 0 0).1 111 82 = μ.1 111 82 := (sv_n _ (by decide))
            refine xc_iV G (b := 111) (rest := []) (As := [.int (iv (μ.1 158 h9_)), .int (iv x3)]) (c_X12_told ω l (sv μ 111 0 0) (μ.1 158 h9_) x3 (by unfold ir; omega) (by unfold ir; omega) hci_44 (by omega)) (wm 11 76 rfl rfl) (wm 11 78 rfl rfl) (wm 0 235 rfl rfl) rfl rfl (by decide) rfl (wm 1 18 rfl rfl) (wm 11 79 rfl rfl) (by decide) hR (by decide) (n := 2) rfl rfl (Nat.le_of_ble_eq_true rfl) hl.1 dX12_under_82 (fun r_49 μ48 ρ d0 H locs hr_r_49 hp G => ?_)
            have hr_r_49 : -2147483648 ≤ r_49 ∧ r_49 ≤ 2147483647 := hr_r_49
            have hsm_50 := hp
            have hsm_50 := Eq.symm hsm_50
            subst hsm_50
            have e_51 : (sv μ 111 0 0).1 111 2 = μ.1 111 2 := (sv_n _ (by decide))
            have hci_52 : CIr (sv μ 111 0 0) := CIr.mv hC (Eqa.fr (L := [111]) (FrM.put FrM.rf (by decide)) (by decide)) (Eqf.fd (L := [0]) (fun j hj => (sv_n _ (fun h9 => hj (by rw [h9.2]; decide)))) (by decide)) (by have h9 : (sv μ 111 0 0).1 111 2 = μ.1 111 2 := (sv_n _ (by decide)); omega)
            exact xr_i G (x := r_49) hret hlk (by unfold ir; omega) rfl dX12_under_85 ⟨(FrM.put FrM.rf (by decide)), (fun j hj => (sv_n _ (fun h9 => hj (by rw [h9.2]; decide)))), hci_52⟩
          · refine lv_iconst (v := iv (-1)) hx hb dX12_under_70 rfl ?_
            refine lv_goto (tgt := 81) hx hb dX12_under_71 (by decide) ?_
            refine lv_iload_n hx hb dX12_under_81 rfl (lv_at hl 6 rfl) ?_
            have e_53 : (sv μ 111 0 0).1 111 82 = μ.1 111 82 := (sv_n _ (by decide))
            have e_54 : (sv μ 111 0 0).1 111 2 = μ.1 111 2 := (sv_n _ (by decide))
            have hci_55 : CIr (sv μ 111 0 0) := CIr.mv hC (Eqa.fr (L := [111]) (FrM.put FrM.rf (by decide)) (by decide)) (Eqf.fd (L := [0]) (fun j hj => (sv_n _ (fun h9 => hj (by rw [h9.2]; decide)))) (by decide)) (by have h9 : (sv μ 111 0 0).1 111 2 = μ.1 111 2 := (sv_n _ (by decide)); omega)
            have e_56 : (sv μ 111 0 0).1 111 82 = μ.1 111 82 := (sv_n _ (by decide))
            refine xc_iV G (b := 111) (rest := []) (As := [.int (iv (-1)), .int (iv x3)]) (c_X12_told ω l (sv μ 111 0 0) (-1) x3 (by unfold ir; omega) (by unfold ir; omega) hci_55 (by omega)) (wm 11 76 rfl rfl) (wm 11 78 rfl rfl) (wm 0 235 rfl rfl) rfl rfl (by decide) rfl (wm 1 18 rfl rfl) (wm 11 79 rfl rfl) (by decide) hR (by decide) (n := 2) rfl rfl (Nat.le_of_ble_eq_true rfl) hl.1 dX12_under_82 (fun r_58 μ57 ρ d0 H locs hr_r_58 hp G => ?_)
            have hr_r_58 : -2147483648 ≤ r_58 ∧ r_58 ≤ 2147483647 := hr_r_58
            have hsm_59 := hp
            have hsm_59 := Eq.symm hsm_59
            subst hsm_59
            have e_60 : (sv μ 111 0 0).1 111 2 = μ.1 111 2 := (sv_n _ (by decide))
            have hci_61 : CIr (sv μ 111 0 0) := CIr.mv hC (Eqa.fr (L := [111]) (FrM.put FrM.rf (by decide)) (by decide)) (Eqf.fd (L := [0]) (fun j hj => (sv_n _ (fun h9 => hj (by rw [h9.2]; decide)))) (by decide)) (by have h9 : (sv μ 111 0 0).1 111 2 = μ.1 111 2 := (sv_n _ (by decide)); omega)
            exact xr_i G (x := r_58) hret hlk (by unfold ir; omega) rfl dX12_under_85 ⟨(FrM.put FrM.rf (by decide)), (fun j hj => (sv_n _ (fun h9 => hj (by rw [h9.2]; decide)))), hci_61⟩
        · have hq_ := hC.2.2.2.2.1.2.2.2 h9_ (by omega) (by omega)
          refine lv_aload_n hx hb dX12_under_48 rfl (lv_at hl 3 rfl) ?_
          refine xa_getr G fd_X12 (a := 111) (x := 159) 80 rfl (by decide) rfl (wm 7 229 rfl rfl) ⟨rfl, rfl, rfl⟩ dX12_under_49 rfl (G.sk 157 rfl) (by decide) rfl ?_
          refine lv_iload hx hb dX12_under_52 (lv_at hl 1 rfl) ?_
          refine xa_iald G (a := 159) (i := h9_) rfl (by have h9 := G.lc (a := 159) (n := 12000) 97 rfl; omega) dX12_under_54 rfl ?_
          refine xb_ti (y := μ.1 159 h9_) (sv_n _ (fun h9 => absurd h9.1 (by decide))) ?_
          have hr_62 : -2147483648 ≤ μ.1 159 h9_ ∧ μ.1 159 h9_ ≤ 2147483647 := by have h9 := G.hr (a := 159) (k := h9_) rfl; rw [(sv_n _ (fun h9 => absurd h9.1 (by decide)))] at h9; exact h9
          refine lv_istore (lv' := [(5, .int (iv (μ.1 159 h9_))), (6, .int (iv j9)), (4, .int (iv r_6)), (0, .ref (oP ω 111)), (1, .int (iv x1)), (2, .int (iv x2)), (3, .int (iv x3))]) hx hb dX12_under_55 hl (by decide) rfl (fun ls hl => ?_)
          refine lv_iinc (v := iv (j9 + 1)) (lv' := [(6, .int (iv (j9 + 1))), (5, .int (iv (μ.1 159 h9_))), (4, .int (iv r_6)), (0, .ref (oP ω 111)), (1, .int (iv x1)), (2, .int (iv x2)), (3, .int (iv x3))]) hx hb dX12_under_57 hl (k := 1) rfl (by rw [show Int32.ofInt 1 = iv 1 from rfl, iv_add]) (by decide) rfl (fun ls hl => ?_)
          refine lv_goto (tgt := 36) hx hb dX12_under_60 (by decide) ?_
          exact ih _ _ _ _ _ _ _ (by omega) ⟨μ.1 159 h9_, j9 + 1, rfl, (by omega), (by omega), (by omega), (by omega), rfl, lv_sub hl [0, 1, 2, 3, 4, 5, 6] rfl⟩ G
    · refine lv_iconst (v := iv (-1)) hx hb dX12_under_22 rfl ?_
      have e_63 : (sv μ 111 0 0).1 111 2 = μ.1 111 2 := (sv_n _ (by decide))
      have hci_64 : CIr (sv μ 111 0 0) := CIr.mv hC (Eqa.fr (L := [111]) (FrM.put FrM.rf (by decide)) (by decide)) (Eqf.fd (L := [0]) (fun j hj => (sv_n _ (fun h9 => hj (by rw [h9.2]; decide)))) (by decide)) (by have h9 : (sv μ 111 0 0).1 111 2 = μ.1 111 2 := (sv_n _ (by decide)); omega)
      exact xr_i G (x := (-1)) hret hlk (by unfold ir; omega) rfl dX12_under_23 ⟨(FrM.put FrM.rf (by decide)), (fun j hj => (sv_n _ (fun h9 => hj (by rw [h9.2]; decide)))), hci_64⟩
