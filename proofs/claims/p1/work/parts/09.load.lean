theorem goodIn_sub {big ws : List Cond} (hm : ∀ w ∈ ws, w ∈ big) (h : ws.all goodWord = true) : GoodIn big ws := fun w hw => ⟨hm w hw, good_of_word (List.all_eq_true.mp h w hw)⟩
abbrev cX5_keep : ByteArray := prog_7_method_3_code
def yX5_keep : MethodName := ⟨RX5, "keep", "()V"⟩
abbrev cX7_faultKind : ByteArray := prog_9_method_2_code
def yX7_faultKind : MethodName := ⟨RX7, "faultKind", "()I"⟩
abbrev cX7_parse : ByteArray := prog_9_method_4_code
def yX7_parse : MethodName := ⟨RX7, "parse", "(IILFourTongues$Program;)V"⟩
abbrev cX8_clear : ByteArray := prog_10_method_2_code
def yX8_clear : MethodName := ⟨RX8, "clear", "()V"⟩
abbrev cX10_begin : ByteArray := prog_12_method_2_code
def yX10_begin : MethodName := ⟨RX10, "begin", "(II)V"⟩
abbrev cX10_next : ByteArray := prog_12_method_3_code
def yX10_next : MethodName := ⟨RX10, "next", "()V"⟩
abbrev cX10_readToken : ByteArray := prog_12_method_5_code
def yX10_readToken : MethodName := ⟨RX10, "readToken", "()V"⟩
abbrev cX10_byteAt : ByteArray := prog_12_method_6_code
def yX10_byteAt : MethodName := ⟨RX10, "byteAt", "(I)I"⟩
abbrev cX11_load : ByteArray := prog_1_method_3_code
def yX11_load : MethodName := ⟨RX11, "load", "(II)I"⟩
theorem dX5_keep_0 : decode cX5_keep 0 = .ok (.aload_n 0, 1) := by decide +kernel
theorem dX5_keep_1 : decode cX5_keep 1 = .ok (.aload_n 0, 1) := by decide +kernel
theorem dX5_keep_2 : decode cX5_keep 2 = .ok (.getfield 22, 3) := by decide +kernel
theorem dX5_keep_5 : decode cX5_keep 5 = .ok (.putfield 26, 3) := by decide +kernel
theorem dX5_keep_8 : decode cX5_keep 8 = .ok (.aload_n 0, 1) := by decide +kernel
theorem dX5_keep_9 : decode cX5_keep 9 = .ok (.getfield 15, 3) := by decide +kernel
theorem dX5_keep_12 : decode cX5_keep 12 = .ok (.iconst 0, 1) := by decide +kernel
theorem dX5_keep_13 : decode cX5_keep 13 = .ok (.aload_n 0, 1) := by decide +kernel
theorem dX5_keep_14 : decode cX5_keep 14 = .ok (.getfield 19, 3) := by decide +kernel
theorem dX5_keep_17 : decode cX5_keep 17 = .ok (.iconst 0, 1) := by decide +kernel
theorem dX5_keep_18 : decode cX5_keep 18 = .ok (.bipush 52, 2) := by decide +kernel
theorem dX5_keep_20 : decode cX5_keep 20 = .ok (.invokestatic 41, 3) := by decide +kernel
theorem dX5_keep_23 : decode cX5_keep 23 = .ok (.return_, 1) := by decide +kernel
theorem dX7_faultKind_0 : decode cX7_faultKind 0 = .ok (.iconst 1, 1) := by decide +kernel
theorem dX7_faultKind_1 : decode cX7_faultKind 1 = .ok (.istore_n 1, 1) := by decide +kernel
theorem dX7_faultKind_2 : decode cX7_faultKind 2 = .ok (.iload_n 1, 1) := by decide +kernel
theorem dX7_faultKind_3 : decode cX7_faultKind 3 = .ok (.iconst 3, 1) := by decide +kernel
theorem dX7_faultKind_4 : decode cX7_faultKind 4 = .ok (.if_icmp .gt 20, 3) := by decide +kernel
theorem dX7_faultKind_7 : decode cX7_faultKind 7 = .ok (.aload_n 0, 1) := by decide +kernel
theorem dX7_faultKind_8 : decode cX7_faultKind 8 = .ok (.getfield 9, 3) := by decide +kernel
theorem dX7_faultKind_11 : decode cX7_faultKind 11 = .ok (.iload_n 1, 1) := by decide +kernel
theorem dX7_faultKind_12 : decode cX7_faultKind 12 = .ok (.iaload, 1) := by decide +kernel
theorem dX7_faultKind_13 : decode cX7_faultKind 13 = .ok (.ifCond .lt 5, 3) := by decide +kernel
theorem dX7_faultKind_18 : decode cX7_faultKind 18 = .ok (.iinc 1 1, 3) := by decide +kernel
theorem dX7_faultKind_21 : decode cX7_faultKind 21 = .ok (.goto (-19), 3) := by decide +kernel
theorem dX7_faultKind_24 : decode cX7_faultKind 24 = .ok (.iconst 0, 1) := by decide +kernel
theorem dX7_faultKind_25 : decode cX7_faultKind 25 = .ok (.ireturn, 1) := by decide +kernel
theorem dX7_parse_0 : decode cX7_parse 0 = .ok (.aload_n 0, 1) := by decide +kernel
theorem dX7_parse_1 : decode cX7_parse 1 = .ok (.aload_n 3, 1) := by decide +kernel
theorem dX7_parse_2 : decode cX7_parse 2 = .ok (.putfield 51, 3) := by decide +kernel
theorem dX7_parse_5 : decode cX7_parse 5 = .ok (.aload_n 0, 1) := by decide +kernel
theorem dX7_parse_6 : decode cX7_parse 6 = .ok (.getfield 51, 3) := by decide +kernel
theorem dX7_parse_9 : decode cX7_parse 9 = .ok (.invokevirtual 65, 3) := by decide +kernel
theorem dX7_parse_12 : decode cX7_parse 12 = .ok (.aload_n 0, 1) := by decide +kernel
theorem dX7_parse_13 : decode cX7_parse 13 = .ok (.iload_n 1, 1) := by decide +kernel
theorem dX7_parse_14 : decode cX7_parse 14 = .ok (.putfield 29, 3) := by decide +kernel
theorem dX7_parse_17 : decode cX7_parse 17 = .ok (.aload_n 0, 1) := by decide +kernel
theorem dX7_parse_18 : decode cX7_parse 18 = .ok (.iconst 0, 1) := by decide +kernel
theorem dX7_parse_19 : decode cX7_parse 19 = .ok (.putfield 32, 3) := by decide +kernel
theorem dX7_parse_22 : decode cX7_parse 22 = .ok (.aload_n 0, 1) := by decide +kernel
theorem dX7_parse_23 : decode cX7_parse 23 = .ok (.iconst 0, 1) := by decide +kernel
theorem dX7_parse_24 : decode cX7_parse 24 = .ok (.putfield 26, 3) := by decide +kernel
theorem dX7_parse_27 : decode cX7_parse 27 = .ok (.aload_n 0, 1) := by decide +kernel
theorem dX7_parse_28 : decode cX7_parse 28 = .ok (.getfield 9, 3) := by decide +kernel
theorem dX7_parse_31 : decode cX7_parse 31 = .ok (.iconst (-1), 1) := by decide +kernel
theorem dX7_parse_32 : decode cX7_parse 32 = .ok (.invokestatic 70, 3) := by decide +kernel
theorem dX7_parse_35 : decode cX7_parse 35 = .ok (.aload_n 0, 1) := by decide +kernel
theorem dX7_parse_36 : decode cX7_parse 36 = .ok (.getfield 43, 3) := by decide +kernel
theorem dX7_parse_39 : decode cX7_parse 39 = .ok (.iload_n 1, 1) := by decide +kernel
theorem dX7_parse_40 : decode cX7_parse 40 = .ok (.iload_n 2, 1) := by decide +kernel
theorem dX7_parse_41 : decode cX7_parse 41 = .ok (.invokevirtual 76, 3) := by decide +kernel
theorem dX7_parse_44 : decode cX7_parse 44 = .ok (.iconst 0, 1) := by decide +kernel
theorem dX7_parse_45 : decode cX7_parse 45 = .ok (.istore 4, 2) := by decide +kernel
theorem dX7_parse_47 : decode cX7_parse 47 = .ok (.iload 4, 2) := by decide +kernel
theorem dX7_parse_49 : decode cX7_parse 49 = .ok (.sipush 3000, 3) := by decide +kernel
theorem dX7_parse_52 : decode cX7_parse 52 = .ok (.if_icmp .ge 78, 3) := by decide +kernel
theorem dX7_parse_55 : decode cX7_parse 55 = .ok (.aload_n 0, 1) := by decide +kernel
theorem dX7_parse_56 : decode cX7_parse 56 = .ok (.getfield 43, 3) := by decide +kernel
theorem dX7_parse_59 : decode cX7_parse 59 = .ok (.getfield 80, 3) := by decide +kernel
theorem dX7_parse_62 : decode cX7_parse 62 = .ok (.ifCond .eq 68, 3) := by decide +kernel
theorem dX7_parse_130 : decode cX7_parse 130 = .ok (.aload_n 0, 1) := by decide +kernel
theorem dX7_parse_131 : decode cX7_parse 131 = .ok (.getfield 43, 3) := by decide +kernel
theorem dX7_parse_134 : decode cX7_parse 134 = .ok (.getfield 80, 3) := by decide +kernel
theorem dX7_parse_137 : decode cX7_parse 137 = .ok (.iconst 3, 1) := by decide +kernel
theorem dX7_parse_138 : decode cX7_parse 138 = .ok (.if_icmp .ne 16, 3) := by decide +kernel
theorem dX7_parse_154 : decode cX7_parse 154 = .ok (.return_, 1) := by decide +kernel
theorem dX8_clear_0 : decode cX8_clear 0 = .ok (.aload_n 0, 1) := by decide +kernel
theorem dX8_clear_1 : decode cX8_clear 1 = .ok (.iconst 0, 1) := by decide +kernel
theorem dX8_clear_2 : decode cX8_clear 2 = .ok (.putfield 13, 3) := by decide +kernel
theorem dX8_clear_5 : decode cX8_clear 5 = .ok (.aload_n 0, 1) := by decide +kernel
theorem dX8_clear_6 : decode cX8_clear 6 = .ok (.iconst 0, 1) := by decide +kernel
theorem dX8_clear_7 : decode cX8_clear 7 = .ok (.putfield 39, 3) := by decide +kernel
theorem dX8_clear_10 : decode cX8_clear 10 = .ok (.aload_n 0, 1) := by decide +kernel
theorem dX8_clear_11 : decode cX8_clear 11 = .ok (.getfield 22, 3) := by decide +kernel
theorem dX8_clear_14 : decode cX8_clear 14 = .ok (.iconst 0, 1) := by decide +kernel
theorem dX8_clear_15 : decode cX8_clear 15 = .ok (.invokevirtual 42, 3) := by decide +kernel
theorem dX8_clear_18 : decode cX8_clear 18 = .ok (.return_, 1) := by decide +kernel
theorem dX9_resize_0 : decode cX9_resize 0 = .ok (.iload_n 1, 1) := by decide +kernel
theorem dX9_resize_1 : decode cX9_resize 1 = .ok (.iconst 0, 1) := by decide +kernel
theorem dX9_resize_2 : decode cX9_resize 2 = .ok (.invokestatic 13, 3) := by decide +kernel
theorem dX9_resize_5 : decode cX9_resize 5 = .ok (.istore_n 2, 1) := by decide +kernel
theorem dX9_resize_6 : decode cX9_resize 6 = .ok (.iload_n 2, 1) := by decide +kernel
theorem dX9_resize_7 : decode cX9_resize 7 = .ok (.aload_n 0, 1) := by decide +kernel
theorem dX9_resize_8 : decode cX9_resize 8 = .ok (.getfield 19, 3) := by decide +kernel
theorem dX9_resize_11 : decode cX9_resize 11 = .ok (.arraylength, 1) := by decide +kernel
theorem dX9_resize_12 : decode cX9_resize 12 = .ok (.if_icmp .le 51, 3) := by decide +kernel
theorem dX9_resize_63 : decode cX9_resize 63 = .ok (.aload_n 0, 1) := by decide +kernel
theorem dX9_resize_64 : decode cX9_resize 64 = .ok (.getfield 7, 3) := by decide +kernel
theorem dX9_resize_67 : decode cX9_resize 67 = .ok (.istore_n 3, 1) := by decide +kernel
theorem dX9_resize_68 : decode cX9_resize 68 = .ok (.iload_n 3, 1) := by decide +kernel
theorem dX9_resize_69 : decode cX9_resize 69 = .ok (.iload_n 2, 1) := by decide +kernel
theorem dX9_resize_70 : decode cX9_resize 70 = .ok (.if_icmp .ge 30, 3) := by decide +kernel
theorem dX9_resize_100 : decode cX9_resize 100 = .ok (.aload_n 0, 1) := by decide +kernel
theorem dX9_resize_101 : decode cX9_resize 101 = .ok (.iload_n 2, 1) := by decide +kernel
theorem dX9_resize_102 : decode cX9_resize 102 = .ok (.putfield 7, 3) := by decide +kernel
theorem dX9_resize_105 : decode cX9_resize 105 = .ok (.return_, 1) := by decide +kernel
theorem dX10_begin_0 : decode cX10_begin 0 = .ok (.aload_n 0, 1) := by decide +kernel
theorem dX10_begin_1 : decode cX10_begin 1 = .ok (.iload_n 1, 1) := by decide +kernel
theorem dX10_begin_2 : decode cX10_begin 2 = .ok (.putfield 36, 3) := by decide +kernel
theorem dX10_begin_5 : decode cX10_begin 5 = .ok (.aload_n 0, 1) := by decide +kernel
theorem dX10_begin_6 : decode cX10_begin 6 = .ok (.iload_n 2, 1) := by decide +kernel
theorem dX10_begin_7 : decode cX10_begin 7 = .ok (.aload_n 0, 1) := by decide +kernel
theorem dX10_begin_8 : decode cX10_begin 8 = .ok (.getfield 63, 3) := by decide +kernel
theorem dX10_begin_11 : decode cX10_begin 11 = .ok (.arraylength, 1) := by decide +kernel
theorem dX10_begin_12 : decode cX10_begin 12 = .ok (.invokestatic 78, 3) := by decide +kernel
theorem dX10_begin_15 : decode cX10_begin 15 = .ok (.putfield 33, 3) := by decide +kernel
theorem dX10_begin_18 : decode cX10_begin 18 = .ok (.aload_n 0, 1) := by decide +kernel
theorem dX10_begin_19 : decode cX10_begin 19 = .ok (.iconst 0, 1) := by decide +kernel
theorem dX10_begin_20 : decode cX10_begin 20 = .ok (.putfield 39, 3) := by decide +kernel
theorem dX10_begin_23 : decode cX10_begin 23 = .ok (.aload_n 0, 1) := by decide +kernel
theorem dX10_begin_24 : decode cX10_begin 24 = .ok (.iconst 0, 1) := by decide +kernel
theorem dX10_begin_25 : decode cX10_begin 25 = .ok (.putfield 29, 3) := by decide +kernel
theorem dX10_begin_28 : decode cX10_begin 28 = .ok (.aload_n 0, 1) := by decide +kernel
theorem dX10_begin_29 : decode cX10_begin 29 = .ok (.iconst 1, 1) := by decide +kernel
theorem dX10_begin_30 : decode cX10_begin 30 = .ok (.putfield 49, 3) := by decide +kernel
theorem dX10_begin_33 : decode cX10_begin 33 = .ok (.aload_n 0, 1) := by decide +kernel
theorem dX10_begin_34 : decode cX10_begin 34 = .ok (.getfield 29, 3) := by decide +kernel
theorem dX10_begin_37 : decode cX10_begin 37 = .ok (.sipush 3000, 3) := by decide +kernel
theorem dX10_begin_40 : decode cX10_begin 40 = .ok (.if_icmp .gt 87, 3) := by decide +kernel
theorem dX10_begin_43 : decode cX10_begin 43 = .ok (.aload_n 0, 1) := by decide +kernel
theorem dX10_begin_44 : decode cX10_begin 44 = .ok (.getfield 49, 3) := by decide +kernel
theorem dX10_begin_47 : decode cX10_begin 47 = .ok (.ifCond .eq 80, 3) := by decide +kernel
theorem dX10_begin_50 : decode cX10_begin 50 = .ok (.aload_n 0, 1) := by decide +kernel
theorem dX10_begin_51 : decode cX10_begin 51 = .ok (.getfield 49, 3) := by decide +kernel
theorem dX10_begin_54 : decode cX10_begin 54 = .ok (.iconst 3, 1) := by decide +kernel
theorem dX10_begin_55 : decode cX10_begin 55 = .ok (.if_icmp .eq 72, 3) := by decide +kernel
theorem dX10_begin_58 : decode cX10_begin 58 = .ok (.aload_n 0, 1) := by decide +kernel
theorem dX10_begin_59 : decode cX10_begin 59 = .ok (.invokevirtual 84, 3) := by decide +kernel
theorem dX10_begin_62 : decode cX10_begin 62 = .ok (.aload_n 0, 1) := by decide +kernel
theorem dX10_begin_63 : decode cX10_begin 63 = .ok (.getfield 15, 3) := by decide +kernel
theorem dX10_begin_66 : decode cX10_begin 66 = .ok (.aload_n 0, 1) := by decide +kernel
theorem dX10_begin_67 : decode cX10_begin 67 = .ok (.getfield 29, 3) := by decide +kernel
theorem dX10_begin_70 : decode cX10_begin 70 = .ok (.aload_n 0, 1) := by decide +kernel
theorem dX10_begin_71 : decode cX10_begin 71 = .ok (.getfield 49, 3) := by decide +kernel
theorem dX10_begin_74 : decode cX10_begin 74 = .ok (.iastore, 1) := by decide +kernel
theorem dX10_begin_75 : decode cX10_begin 75 = .ok (.aload_n 0, 1) := by decide +kernel
theorem dX10_begin_76 : decode cX10_begin 76 = .ok (.getfield 19, 3) := by decide +kernel
theorem dX10_begin_79 : decode cX10_begin 79 = .ok (.aload_n 0, 1) := by decide +kernel
theorem dX10_begin_80 : decode cX10_begin 80 = .ok (.getfield 29, 3) := by decide +kernel
theorem dX10_begin_83 : decode cX10_begin 83 = .ok (.aload_n 0, 1) := by decide +kernel
theorem dX10_begin_84 : decode cX10_begin 84 = .ok (.getfield 52, 3) := by decide +kernel
theorem dX10_begin_87 : decode cX10_begin 87 = .ok (.iastore, 1) := by decide +kernel
theorem dX10_begin_88 : decode cX10_begin 88 = .ok (.aload_n 0, 1) := by decide +kernel
theorem dX10_begin_89 : decode cX10_begin 89 = .ok (.getfield 22, 3) := by decide +kernel
theorem dX10_begin_92 : decode cX10_begin 92 = .ok (.aload_n 0, 1) := by decide +kernel
theorem dX10_begin_93 : decode cX10_begin 93 = .ok (.getfield 29, 3) := by decide +kernel
theorem dX10_begin_96 : decode cX10_begin 96 = .ok (.aload_n 0, 1) := by decide +kernel
theorem dX10_begin_97 : decode cX10_begin 97 = .ok (.getfield 55, 3) := by decide +kernel
theorem dX10_begin_100 : decode cX10_begin 100 = .ok (.lastore, 1) := by decide +kernel
theorem dX10_begin_101 : decode cX10_begin 101 = .ok (.aload_n 0, 1) := by decide +kernel
theorem dX10_begin_102 : decode cX10_begin 102 = .ok (.getfield 25, 3) := by decide +kernel
theorem dX10_begin_105 : decode cX10_begin 105 = .ok (.aload_n 0, 1) := by decide +kernel
theorem dX10_begin_106 : decode cX10_begin 106 = .ok (.getfield 29, 3) := by decide +kernel
theorem dX10_begin_109 : decode cX10_begin 109 = .ok (.aload_n 0, 1) := by decide +kernel
theorem dX10_begin_110 : decode cX10_begin 110 = .ok (.getfield 59, 3) := by decide +kernel
theorem dX10_begin_113 : decode cX10_begin 113 = .ok (.dastore, 1) := by decide +kernel
theorem dX10_begin_114 : decode cX10_begin 114 = .ok (.aload_n 0, 1) := by decide +kernel
theorem dX10_begin_115 : decode cX10_begin 115 = .ok (.dup, 1) := by decide +kernel
theorem dX10_begin_116 : decode cX10_begin 116 = .ok (.getfield 29, 3) := by decide +kernel
theorem dX10_begin_119 : decode cX10_begin 119 = .ok (.iconst 1, 1) := by decide +kernel
theorem dX10_begin_120 : decode cX10_begin 120 = .ok (.iadd, 1) := by decide +kernel
theorem dX10_begin_121 : decode cX10_begin 121 = .ok (.putfield 29, 3) := by decide +kernel
theorem dX10_begin_124 : decode cX10_begin 124 = .ok (.goto (-91), 3) := by decide +kernel
theorem dX10_begin_127 : decode cX10_begin 127 = .ok (.aload_n 0, 1) := by decide +kernel
theorem dX10_begin_128 : decode cX10_begin 128 = .ok (.iconst 0, 1) := by decide +kernel
theorem dX10_begin_129 : decode cX10_begin 129 = .ok (.putfield 45, 3) := by decide +kernel
theorem dX10_begin_132 : decode cX10_begin 132 = .ok (.aload_n 0, 1) := by decide +kernel
theorem dX10_begin_133 : decode cX10_begin 133 = .ok (.iconst (-1), 1) := by decide +kernel
theorem dX10_begin_134 : decode cX10_begin 134 = .ok (.putfield 42, 3) := by decide +kernel
theorem dX10_begin_137 : decode cX10_begin 137 = .ok (.aload_n 0, 1) := by decide +kernel
theorem dX10_begin_138 : decode cX10_begin 138 = .ok (.invokevirtual 87, 3) := by decide +kernel
theorem dX10_begin_141 : decode cX10_begin 141 = .ok (.return_, 1) := by decide +kernel
theorem dX10_next_0 : decode cX10_next 0 = .ok (.aload_n 0, 1) := by decide +kernel
theorem dX10_next_1 : decode cX10_next 1 = .ok (.getfield 45, 3) := by decide +kernel
theorem dX10_next_4 : decode cX10_next 4 = .ok (.ifCond .eq 4, 3) := by decide +kernel
theorem dX10_next_8 : decode cX10_next 8 = .ok (.aload_n 0, 1) := by decide +kernel
theorem dX10_next_9 : decode cX10_next 9 = .ok (.getfield 42, 3) := by decide +kernel
theorem dX10_next_12 : decode cX10_next 12 = .ok (.aload_n 0, 1) := by decide +kernel
theorem dX10_next_13 : decode cX10_next 13 = .ok (.getfield 29, 3) := by decide +kernel
theorem dX10_next_16 : decode cX10_next 16 = .ok (.iconst 1, 1) := by decide +kernel
theorem dX10_next_17 : decode cX10_next 17 = .ok (.isub, 1) := by decide +kernel
theorem dX10_next_18 : decode cX10_next 18 = .ok (.if_icmp .ge 13, 3) := by decide +kernel
theorem dX10_next_21 : decode cX10_next 21 = .ok (.aload_n 0, 1) := by decide +kernel
theorem dX10_next_22 : decode cX10_next 22 = .ok (.dup, 1) := by decide +kernel
theorem dX10_next_23 : decode cX10_next 23 = .ok (.getfield 42, 3) := by decide +kernel
theorem dX10_next_26 : decode cX10_next 26 = .ok (.iconst 1, 1) := by decide +kernel
theorem dX10_next_27 : decode cX10_next 27 = .ok (.iadd, 1) := by decide +kernel
theorem dX10_next_28 : decode cX10_next 28 = .ok (.putfield 42, 3) := by decide +kernel
theorem dX10_next_31 : decode cX10_next 31 = .ok (.aload_n 0, 1) := by decide +kernel
theorem dX10_next_32 : decode cX10_next 32 = .ok (.aload_n 0, 1) := by decide +kernel
theorem dX10_next_33 : decode cX10_next 33 = .ok (.getfield 15, 3) := by decide +kernel
theorem dX10_next_36 : decode cX10_next 36 = .ok (.aload_n 0, 1) := by decide +kernel
theorem dX10_next_37 : decode cX10_next 37 = .ok (.getfield 42, 3) := by decide +kernel
theorem dX10_next_40 : decode cX10_next 40 = .ok (.iaload, 1) := by decide +kernel
theorem dX10_next_41 : decode cX10_next 41 = .ok (.putfield 49, 3) := by decide +kernel
theorem dX10_next_44 : decode cX10_next 44 = .ok (.aload_n 0, 1) := by decide +kernel
theorem dX10_next_45 : decode cX10_next 45 = .ok (.aload_n 0, 1) := by decide +kernel
theorem dX10_next_46 : decode cX10_next 46 = .ok (.getfield 19, 3) := by decide +kernel
theorem dX10_next_49 : decode cX10_next 49 = .ok (.aload_n 0, 1) := by decide +kernel
theorem dX10_next_50 : decode cX10_next 50 = .ok (.getfield 42, 3) := by decide +kernel
theorem dX10_next_53 : decode cX10_next 53 = .ok (.iaload, 1) := by decide +kernel
theorem dX10_next_54 : decode cX10_next 54 = .ok (.putfield 52, 3) := by decide +kernel
theorem dX10_next_57 : decode cX10_next 57 = .ok (.aload_n 0, 1) := by decide +kernel
theorem dX10_next_58 : decode cX10_next 58 = .ok (.aload_n 0, 1) := by decide +kernel
theorem dX10_next_59 : decode cX10_next 59 = .ok (.getfield 22, 3) := by decide +kernel
theorem dX10_next_62 : decode cX10_next 62 = .ok (.aload_n 0, 1) := by decide +kernel
theorem dX10_next_63 : decode cX10_next 63 = .ok (.getfield 42, 3) := by decide +kernel
theorem dX10_next_66 : decode cX10_next 66 = .ok (.laload, 1) := by decide +kernel
theorem dX10_next_67 : decode cX10_next 67 = .ok (.putfield 55, 3) := by decide +kernel
theorem dX10_next_70 : decode cX10_next 70 = .ok (.aload_n 0, 1) := by decide +kernel
theorem dX10_next_71 : decode cX10_next 71 = .ok (.aload_n 0, 1) := by decide +kernel
theorem dX10_next_72 : decode cX10_next 72 = .ok (.getfield 25, 3) := by decide +kernel
theorem dX10_next_75 : decode cX10_next 75 = .ok (.aload_n 0, 1) := by decide +kernel
theorem dX10_next_76 : decode cX10_next 76 = .ok (.getfield 42, 3) := by decide +kernel
theorem dX10_next_79 : decode cX10_next 79 = .ok (.daload, 1) := by decide +kernel
theorem dX10_next_80 : decode cX10_next 80 = .ok (.putfield 59, 3) := by decide +kernel
theorem dX10_next_83 : decode cX10_next 83 = .ok (.return_, 1) := by decide +kernel
theorem dX10_readToken_0 : decode cX10_readToken 0 = .ok (.aload_n 0, 1) := by decide +kernel
theorem dX10_readToken_1 : decode cX10_readToken 1 = .ok (.getfield 39, 3) := by decide +kernel
theorem dX10_readToken_4 : decode cX10_readToken 4 = .ok (.aload_n 0, 1) := by decide +kernel
theorem dX10_readToken_5 : decode cX10_readToken 5 = .ok (.getfield 33, 3) := by decide +kernel
theorem dX10_readToken_8 : decode cX10_readToken 8 = .ok (.if_icmp .ge 42, 3) := by decide +kernel
theorem dX10_readToken_50 : decode cX10_readToken 50 = .ok (.aload_n 0, 1) := by decide +kernel
theorem dX10_readToken_51 : decode cX10_readToken 51 = .ok (.aload_n 0, 1) := by decide +kernel
theorem dX10_readToken_52 : decode cX10_readToken 52 = .ok (.getfield 39, 3) := by decide +kernel
theorem dX10_readToken_55 : decode cX10_readToken 55 = .ok (.putfield 52, 3) := by decide +kernel
theorem dX10_readToken_58 : decode cX10_readToken 58 = .ok (.aload_n 0, 1) := by decide +kernel
theorem dX10_readToken_59 : decode cX10_readToken 59 = .ok (.lconst 0, 1) := by decide +kernel
theorem dX10_readToken_60 : decode cX10_readToken 60 = .ok (.putfield 55, 3) := by decide +kernel
theorem dX10_readToken_63 : decode cX10_readToken 63 = .ok (.aload_n 0, 1) := by decide +kernel
theorem dX10_readToken_64 : decode cX10_readToken 64 = .ok (.aload_n 0, 1) := by decide +kernel
theorem dX10_readToken_65 : decode cX10_readToken 65 = .ok (.getfield 39, 3) := by decide +kernel
theorem dX10_readToken_68 : decode cX10_readToken 68 = .ok (.invokevirtual 90, 3) := by decide +kernel
theorem dX10_readToken_71 : decode cX10_readToken 71 = .ok (.istore_n 1, 1) := by decide +kernel
theorem dX10_readToken_72 : decode cX10_readToken 72 = .ok (.iload_n 1, 1) := by decide +kernel
theorem dX10_readToken_73 : decode cX10_readToken 73 = .ok (.ifCond .ge 11, 3) := by decide +kernel
theorem dX10_readToken_76 : decode cX10_readToken 76 = .ok (.aload_n 0, 1) := by decide +kernel
theorem dX10_readToken_77 : decode cX10_readToken 77 = .ok (.iconst 0, 1) := by decide +kernel
theorem dX10_readToken_78 : decode cX10_readToken 78 = .ok (.putfield 49, 3) := by decide +kernel
theorem dX10_readToken_81 : decode cX10_readToken 81 = .ok (.goto 36, 3) := by decide +kernel
theorem dX10_readToken_117 : decode cX10_readToken 117 = .ok (.return_, 1) := by decide +kernel
theorem dX10_byteAt_0 : decode cX10_byteAt 0 = .ok (.iload_n 1, 1) := by decide +kernel
theorem dX10_byteAt_1 : decode cX10_byteAt 1 = .ok (.ifCond .lt 24, 3) := by decide +kernel
theorem dX10_byteAt_4 : decode cX10_byteAt 4 = .ok (.iload_n 1, 1) := by decide +kernel
theorem dX10_byteAt_5 : decode cX10_byteAt 5 = .ok (.aload_n 0, 1) := by decide +kernel
theorem dX10_byteAt_6 : decode cX10_byteAt 6 = .ok (.getfield 33, 3) := by decide +kernel
theorem dX10_byteAt_9 : decode cX10_byteAt 9 = .ok (.if_icmp .ge 16, 3) := by decide +kernel
theorem dX10_byteAt_25 : decode cX10_byteAt 25 = .ok (.iconst (-1), 1) := by decide +kernel
theorem dX10_byteAt_26 : decode cX10_byteAt 26 = .ok (.ireturn, 1) := by decide +kernel
theorem dX11_load_0 : decode cX11_load 0 = .ok (.iload_n 1, 1) := by decide +kernel
theorem dX11_load_1 : decode cX11_load 1 = .ok (.invokestatic 67, 3) := by decide +kernel
theorem dX11_load_4 : decode cX11_load 4 = .ok (.ifCond .eq 15, 3) := by decide +kernel
theorem dX11_load_7 : decode cX11_load 7 = .ok (.iload_n 2, 1) := by decide +kernel
theorem dX11_load_8 : decode cX11_load 8 = .ok (.ifCond .lt 11, 3) := by decide +kernel
theorem dX11_load_11 : decode cX11_load 11 = .ok (.iload_n 2, 1) := by decide +kernel
theorem dX11_load_12 : decode cX11_load 12 = .ok (.aload_n 0, 1) := by decide +kernel
theorem dX11_load_13 : decode cX11_load 13 = .ok (.getfield 13, 3) := by decide +kernel
theorem dX11_load_16 : decode cX11_load 16 = .ok (.if_icmp .le 7, 3) := by decide +kernel
theorem dX11_load_19 : decode cX11_load 19 = .ok (.sipush (-5000), 3) := by decide +kernel
theorem dX11_load_22 : decode cX11_load 22 = .ok (.ireturn, 1) := by decide +kernel
theorem dX11_load_23 : decode cX11_load 23 = .ok (.aload_n 0, 1) := by decide +kernel
theorem dX11_load_24 : decode cX11_load 24 = .ok (.iconst 0, 1) := by decide +kernel
theorem dX11_load_25 : decode cX11_load 25 = .ok (.putfield 13, 3) := by decide +kernel
theorem dX11_load_28 : decode cX11_load 28 = .ok (.aload_n 0, 1) := by decide +kernel
theorem dX11_load_29 : decode cX11_load 29 = .ok (.getfield 23, 3) := by decide +kernel
theorem dX11_load_32 : decode cX11_load 32 = .ok (.invokevirtual 71, 3) := by decide +kernel
theorem dX11_load_35 : decode cX11_load 35 = .ok (.aload_n 0, 1) := by decide +kernel
theorem dX11_load_36 : decode cX11_load 36 = .ok (.getfield 50, 3) := by decide +kernel
theorem dX11_load_39 : decode cX11_load 39 = .ok (.iload_n 1, 1) := by decide +kernel
theorem dX11_load_40 : decode cX11_load 40 = .ok (.iload_n 2, 1) := by decide +kernel
theorem dX11_load_41 : decode cX11_load 41 = .ok (.aload_n 0, 1) := by decide +kernel
theorem dX11_load_42 : decode cX11_load 42 = .ok (.getfield 41, 3) := by decide +kernel
theorem dX11_load_45 : decode cX11_load 45 = .ok (.invokevirtual 74, 3) := by decide +kernel
theorem dX11_load_48 : decode cX11_load 48 = .ok (.aload_n 0, 1) := by decide +kernel
theorem dX11_load_49 : decode cX11_load 49 = .ok (.aload_n 0, 1) := by decide +kernel
theorem dX11_load_50 : decode cX11_load 50 = .ok (.getfield 50, 3) := by decide +kernel
theorem dX11_load_53 : decode cX11_load 53 = .ok (.invokevirtual 78, 3) := by decide +kernel
theorem dX11_load_56 : decode cX11_load 56 = .ok (.putfield 17, 3) := by decide +kernel
theorem dX11_load_59 : decode cX11_load 59 = .ok (.aload_n 0, 1) := by decide +kernel
theorem dX11_load_60 : decode cX11_load 60 = .ok (.getfield 17, 3) := by decide +kernel
theorem dX11_load_63 : decode cX11_load 63 = .ok (.ifCond .eq 21, 3) := by decide +kernel
theorem dX11_load_84 : decode cX11_load 84 = .ok (.aload_n 0, 1) := by decide +kernel
theorem dX11_load_85 : decode cX11_load 85 = .ok (.getfield 36, 3) := by decide +kernel
theorem dX11_load_88 : decode cX11_load 88 = .ok (.iload_n 1, 1) := by decide +kernel
theorem dX11_load_89 : decode cX11_load 89 = .ok (.aaload, 1) := by decide +kernel
theorem dX11_load_90 : decode cX11_load 90 = .ok (.astore_n 3, 1) := by decide +kernel
theorem dX11_load_91 : decode cX11_load 91 = .ok (.aload_n 0, 1) := by decide +kernel
theorem dX11_load_92 : decode cX11_load 92 = .ok (.getfield 36, 3) := by decide +kernel
theorem dX11_load_95 : decode cX11_load 95 = .ok (.iload_n 1, 1) := by decide +kernel
theorem dX11_load_96 : decode cX11_load 96 = .ok (.aload_n 0, 1) := by decide +kernel
theorem dX11_load_97 : decode cX11_load 97 = .ok (.getfield 41, 3) := by decide +kernel
theorem dX11_load_100 : decode cX11_load 100 = .ok (.aastore, 1) := by decide +kernel
theorem dX11_load_101 : decode cX11_load 101 = .ok (.aload_n 0, 1) := by decide +kernel
theorem dX11_load_102 : decode cX11_load 102 = .ok (.aload_n 3, 1) := by decide +kernel
theorem dX11_load_103 : decode cX11_load 103 = .ok (.putfield 41, 3) := by decide +kernel
theorem dX11_load_106 : decode cX11_load 106 = .ok (.aload_n 0, 1) := by decide +kernel
theorem dX11_load_107 : decode cX11_load 107 = .ok (.getfield 36, 3) := by decide +kernel
theorem dX11_load_110 : decode cX11_load 110 = .ok (.iload_n 1, 1) := by decide +kernel
theorem dX11_load_111 : decode cX11_load 111 = .ok (.aaload, 1) := by decide +kernel
theorem dX11_load_112 : decode cX11_load 112 = .ok (.invokevirtual 87, 3) := by decide +kernel
theorem dX11_load_115 : decode cX11_load 115 = .ok (.ireturn, 1) := by decide +kernel
def ldC (x1 x2 : Int32) : Prop := ng x1 ∨ ¬ x2 = 0
theorem eF_at {a : String} {i : Nat} {b n d h : String} {s U : State} (hZ : va_Nw (.fieldLinkNest a i b n d h) s) (hW : s.WarmedH U.vm) : va_Nw (.fieldLinkNest a i b n d h) U := va_Nw.warmF hW hZ
theorem eF_fb {a : String} {i : Nat} {b n d h : String} (U : State) (g : JFrame) (mk : MethodId) (v : Array Value) (hZ : va_Nw (.fieldLinkNest a i b n d h) U) : va_Nw (.fieldLinkNest a i b n d h) (U.calling g mk v) := va_Nw.same (u := U) (U := U.calling g mk v) rfl rfl hZ
def wqX5_keep : List Cond := .code yX5_keep cX5_keep 1 none :: (([.fieldLink RX5 22 "FourTongues$Names" "count" "I", .fieldLink RX5 26 "FourTongues$Names" "keptCount" "I", .fieldLink RX5 15 "FourTongues$Names" "above" "[I", .fieldLink RX5 19 "FourTongues$Names" "keptAbove" "[I", .methodLink RX5 41 arraycopyName, .native arraycopyName, .static arraycopyName, .initialized "java/lang/System"] : List Cond) ++ wsX50)
theorem in_wqX5_keep_RX5 : ∀ w ∈ u_ws RX5 TX5 5, w ∈ wqX5_keep := fun w h => (List.mem_cons_of_mem _ (List.mem_append_right _ h))
set_option maxHeartbeats 4000000 in
set_option maxRecDepth 100000 in
theorem c_X5_keep (l : Launch) (dC : Nat → ClassId) (dI : Nat → Nat → Nat) (sz : Nat) (h0 : Nat) (n_packed : Nat) (n_above : Nat) (n_keptAbove : Nat) (c_n_above : ClassId) (f_above : Nat → Int32) (c_n_keptAbove : ClassId) (f_kept : Nat → Int32) : Met l yX5_keep wqX5_keep ({ frames := 1, cells := 0, slots := 0, locals := 80 }) (va_Pc [.ref h0] (fun U => xM (dC, dI) sz [(h0, .inr (5, [.ref n_packed, .ref n_above, .ref n_keptAbove, .int 11, .int 0])), (n_above, .inl (c_n_above, 52, .inl f_above)), (n_keptAbove, .inl (c_n_keptAbove, 52, .inl f_kept))] [(c_n_above, .int), (c_n_keptAbove, .int)] U)) (va_Qv (fun _ : Unit => True) (fun (_ : Unit) _ => True) (va_A [(h0, .inr (5, [.ref n_packed, .ref n_above, .ref n_keptAbove, .int 11, .int 0])), (n_above, .inl (c_n_above, 52, .inl f_above)), (n_keptAbove, .inl (c_n_keptAbove, 52, .inl f_kept))] sz)) 0 0 (va_A [(h0, .inr (5, [.ref n_packed, .ref n_above, .ref n_keptAbove, .int 11, .int 0])), (n_above, .inl (c_n_above, 52, .inl f_above)), (n_keptAbove, .inl (c_n_keptAbove, 52, .inl f_kept))] sz) := by
  refine Met.ofW (cc := cX5_keep) (maxL := 1) (ret := none) (by decide) rfl ?_
  intro p e s m args below meth c s₁ B hml hv
  obtain ⟨rfl, hsz, hP, hK, hD0⟩ := hv
  have hx := B.exec
  have hb := B.bytes
  have hr := B.returns
  have hts := atoms_spec (ws := wqX5_keep) B.pre
  have hown : s.vm.findClass RX5 = some m.cls := findClass_of_methodNamed B.named
  have hlocks := B.notSynchronized
  subst hsz
  have hD := hD0.self (sz := s.heap.size)
  generalize hAe : va_A [(h0, .inr (5, [.ref n_packed, .ref n_above, .ref n_keptAbove, .int 11, .int 0])), (n_above, .inl (c_n_above, 52, .inl f_above)), (n_keptAbove, .inl (c_n_keptAbove, 52, .inl f_kept))] s.heap.size = A at hD ⊢
  have hA : ∀ q : Nat, s.heap.size ≤ q → A q := fun q h => by rw [← hAe]; exact Or.inr h
  have hS : va_S A s.heap s.heap [] := va_S.rf
  have hl := lv_entry ([.ref h0]) (n := 1) (Nat.le_of_ble_eq_true rfl)
  rw [lg_entry_eq]
  generalize (lg_sl ([.ref h0]) ++ List.replicate (1 - (lg_sl ([.ref h0])).length) Slot.unset).toArray = ls at hl ⊢
  have hl : lv_has ls 1 [(0, .ref h0)] := hl
  refine lv_aload_n hx hb dX5_keep_0 rfl (lv_at hl 0 rfl) ?_
  refine lv_aload_n hx hb dX5_keep_1 rfl (lv_at hl 0 rfl) ?_
  refine va_get (D := (dC, dI)) (ci := 5) (v := .int 11) (C := RX5) (T := TX5) (N := 5) hx hb hts in_wqX5_keep_RX5 hown hK hP 0 rfl rfl 3 (by decide) (hts (.fieldLink RX5 22 "FourTongues$Names" "count" "I") (by decide +kernel)) (fun _ h9 => h9) rfl dX5_keep_2 ?_
  refine va_put (D := (dC, dI)) (ci := 5) (v := .int 11) (ty := .int) (C := RX5) (T := TX5) (N := 5) hx hb hts in_wqX5_keep_RX5 tyX5 tyX5_ok nmX5 hown hK hP hD hS 0 rfl rfl 4 (by decide) (hts (.fieldLink RX5 26 "FourTongues$Names" "keptCount" "I") (by decide +kernel)) (fun _ h9 => h9) rfl (by decide +kernel) rfl rfl (Nat.le_of_ble_eq_true rfl) dX5_keep_5 (fun H locs hP hD hS => ?_)
  have hP : va_P (dC, dI) vwCl [(h0, .inr (5, [.ref n_packed, .ref n_above, .ref n_keptAbove, .int 11, .int 11])), (n_above, .inl (c_n_above, 52, .inl f_above)), (n_keptAbove, .inl (c_n_keptAbove, 52, .inl f_kept))] _ := hP
  have hD : va_D A [(h0, .inr (5, [.ref n_packed, .ref n_above, .ref n_keptAbove, .int 11, .int 11])), (n_above, .inl (c_n_above, 52, .inl f_above)), (n_keptAbove, .inl (c_n_keptAbove, 52, .inl f_kept))] := hD
  refine lv_aload_n hx hb dX5_keep_8 rfl (lv_at hl 0 rfl) ?_
  refine va_get (D := (dC, dI)) (ci := 5) (v := .ref n_above) (C := RX5) (T := TX5) (N := 5) hx hb hts in_wqX5_keep_RX5 hown hK hP 0 rfl rfl 1 (by decide) (hts (.fieldLink RX5 15 "FourTongues$Names" "above" "[I") (by decide +kernel)) (fun _ h9 => h9) rfl dX5_keep_9 ?_
  refine lv_iconst (v := 0) hx hb dX5_keep_12 (by decide) ?_
  refine lv_aload_n hx hb dX5_keep_13 rfl (lv_at hl 0 rfl) ?_
  refine va_get (D := (dC, dI)) (ci := 5) (v := .ref n_keptAbove) (C := RX5) (T := TX5) (N := 5) hx hb hts in_wqX5_keep_RX5 hown hK hP 0 rfl rfl 2 (by decide) (hts (.fieldLink RX5 19 "FourTongues$Names" "keptAbove" "[I") (by decide +kernel)) (fun _ h9 => h9) rfl dX5_keep_14 ?_
  refine lv_iconst (v := 0) hx hb dX5_keep_17 (by decide) ?_
  refine lv_bipush (v := 52) hx hb dX5_keep_18 (by decide) ?_
  refine va_copyi hx hb (by rw [hml]; exact hl.1.symm) hown (hts (.methodLink RX5 41 arraycopyName) (by decide +kernel)) (hts (.native arraycopyName) (by decide +kernel)) (hts (.static arraycopyName) (by decide +kernel)) (hts (.initialized "java/lang/System") (by decide +kernel)) hK hP hD hS 1 2 0 1 rfl rfl rfl rfl rfl (by decide) (by decide) (by decide) (by decide) (by decide) (fun _ _ => rfl) (Nat.le_of_ble_eq_true rfl) (Nat.le_of_ble_eq_true rfl) dX5_keep_20 (fun H locs hP hD hS => ?_)
  exact W.vret hx hb hr (fun t ht hW => ⟨⟨(), rfl, trivial, trivial⟩, hS.F ht⟩) hS.2.2 dX5_keep_23

def wqX9_resize : List Cond := .code yX9_resize cX9_resize 4 none :: (([.methodLink RX9 13 Lib.Math.max.name, .static Lib.Math.max.name, .initialized "java/lang/Math", .code Lib.Math.max.name Lib.Math.max.code 2 (some .int), .fieldLink RX9 19 "FourTongues$Row" "kinds" "[I", .fieldLink RX9 7 "FourTongues$Row" "count" "I"] : List Cond) ++ wsX90)
theorem in_wqX9_resize_RX9 : ∀ w ∈ u_ws RX9 TX9 4, w ∈ wqX9_resize := fun w h => (List.mem_cons_of_mem _ (List.mem_append_right _ h))
set_option maxHeartbeats 4000000 in
set_option maxRecDepth 100000 in
theorem c_X9_resize (l : Launch) (dC : Nat → ClassId) (dI : Nat → Nat → Nat) (sz : Nat) (h0 : Nat) (k_kinds : Nat) (k_wholes : Nat) (k_reals : Nat) (c_k_kinds : ClassId) (f_kk : Nat → Int32) : Met l yX9_resize wqX9_resize ({ frames := 1, cells := 0, slots := 0, locals := 24 }) (va_Pc [.ref h0, .int 0] (fun U => xM (dC, dI) sz [(h0, .inr (8, [.ref k_kinds, .ref k_wholes, .ref k_reals, .int 0])), (k_kinds, .inl (c_k_kinds, 32, .inl f_kk))] [(c_k_kinds, .int)] U)) (va_Qv (fun _ : Unit => True) (fun (_ : Unit) t => xB (dC, dI) [(h0, .inr (8, [.ref k_kinds, .ref k_wholes, .ref k_reals, .int 0])), (k_kinds, .inl (c_k_kinds, 32, .inl f_kk))] [(c_k_kinds, .int)] (va_A [(h0, .inr (8, [.ref k_kinds, .ref k_wholes, .ref k_reals, .int 0])), (k_kinds, .inl (c_k_kinds, 32, .inl f_kk))] sz) t) (va_A [(h0, .inr (8, [.ref k_kinds, .ref k_wholes, .ref k_reals, .int 0])), (k_kinds, .inl (c_k_kinds, 32, .inl f_kk))] sz)) 0 0 (va_A [(h0, .inr (8, [.ref k_kinds, .ref k_wholes, .ref k_reals, .int 0])), (k_kinds, .inl (c_k_kinds, 32, .inl f_kk))] sz) := by
  refine Met.ofW (cc := cX9_resize) (maxL := 4) (ret := none) (by decide) rfl ?_
  intro p e s m args below meth c s₁ B hml hv
  obtain ⟨rfl, hsz, hP, hK, hD0⟩ := hv
  have hx := B.exec
  have hb := B.bytes
  have hr := B.returns
  have hts := atoms_spec (ws := wqX9_resize) B.pre
  have hown : s.vm.findClass RX9 = some m.cls := findClass_of_methodNamed B.named
  have hlocks := B.notSynchronized
  subst hsz
  have hD := hD0.self (sz := s.heap.size)
  generalize hAe : va_A [(h0, .inr (8, [.ref k_kinds, .ref k_wholes, .ref k_reals, .int 0])), (k_kinds, .inl (c_k_kinds, 32, .inl f_kk))] s.heap.size = A at hD ⊢
  have hA : ∀ q : Nat, s.heap.size ≤ q → A q := fun q h => by rw [← hAe]; exact Or.inr h
  have hS : va_S A s.heap s.heap [] := va_S.rf
  have hl := lv_entry ([.ref h0, .int 0]) (n := 4) (Nat.le_of_ble_eq_true rfl)
  rw [lg_entry_eq]
  generalize (lg_sl ([.ref h0, .int 0]) ++ List.replicate (4 - (lg_sl ([.ref h0, .int 0])).length) Slot.unset).toArray = ls at hl ⊢
  have hl : lv_has ls 4 [(0, .ref h0), (1, .int 0)] := hl
  refine lv_iload_n hx hb dX9_resize_0 rfl (lv_at hl 1 rfl) ?_
  refine lv_iconst (v := 0) hx hb dX9_resize_1 (by decide) ?_
  refine va_mmax hx hb (by rw [hml]; exact hl.1.symm) hown (hts (.methodLink RX9 13 Lib.Math.max.name) (by decide +kernel)) (hts (.static Lib.Math.max.name) (by decide +kernel)) (hts (.initialized "java/lang/Math") (by decide +kernel)) (hts (.code Lib.Math.max.name Lib.Math.max.code 2 (some .int)) (by decide +kernel)) (Nat.le_of_ble_eq_true rfl) (Nat.le_of_ble_eq_true rfl) (Nat.le_of_ble_eq_true rfl) (Nat.le_of_ble_eq_true rfl) dX9_resize_2 ?_
  refine my_ti (v := 0) (by decide) ?_
  refine lv_istore_n (lv' := [(2, .int 0), (0, .ref h0), (1, .int 0)]) hx hb dX9_resize_5 rfl hl (by decide) rfl (fun ls hl => ?_)
  refine lv_iload_n hx hb dX9_resize_6 rfl (lv_at hl 0 rfl) ?_
  refine lv_aload_n hx hb dX9_resize_7 rfl (lv_at hl 1 rfl) ?_
  refine va_get (D := (dC, dI)) (ci := 8) (v := .ref k_kinds) (C := RX9) (T := TX9) (N := 4) hx hb hts in_wqX9_resize_RX9 hown hK hP 0 rfl rfl 0 (by decide) (hts (.fieldLink RX9 19 "FourTongues$Row" "kinds" "[I") (by decide +kernel)) (fun _ h9 => h9) rfl dX9_resize_8 ?_
  refine va_alen (v := 32) hx hb hK hP 1 0 rfl rfl rfl dX9_resize_11 ?_
  refine lv_icmp_le (tgt := 63) hx hb dX9_resize_12 (by decide) (fun c_12 => ?_) (fun c_12 => absurd c_12 (by decide))
  refine lv_aload_n hx hb dX9_resize_63 rfl (lv_at hl 1 rfl) ?_
  refine va_get (D := (dC, dI)) (ci := 8) (v := .int 0) (C := RX9) (T := TX9) (N := 4) hx hb hts in_wqX9_resize_RX9 hown hK hP 0 rfl rfl 3 (by decide) (hts (.fieldLink RX9 7 "FourTongues$Row" "count" "I") (by decide +kernel)) (fun _ h9 => h9) rfl dX9_resize_64 ?_
  refine lv_istore_n (lv' := [(3, .int 0), (2, .int 0), (0, .ref h0), (1, .int 0)]) hx hb dX9_resize_67 rfl hl (by decide) rfl (fun ls hl => ?_)
  refine lv_iload_n hx hb dX9_resize_68 rfl (lv_at hl 0 rfl) ?_
  refine lv_iload_n hx hb dX9_resize_69 rfl (lv_at hl 1 rfl) ?_
  refine lv_icmp_ge (tgt := 100) hx hb dX9_resize_70 (by decide) (fun c_70 => ?_) (fun c_70 => absurd c_70 (by decide))
  refine lv_aload_n hx hb dX9_resize_100 rfl (lv_at hl 2 rfl) ?_
  refine lv_iload_n hx hb dX9_resize_101 rfl (lv_at hl 1 rfl) ?_
  refine va_put (D := (dC, dI)) (ci := 8) (v := .int 0) (ty := .int) (C := RX9) (T := TX9) (N := 4) hx hb hts in_wqX9_resize_RX9 tyX9 tyX9_ok nmX9 hown hK hP hD hS 0 rfl rfl 3 (by decide) (hts (.fieldLink RX9 7 "FourTongues$Row" "count" "I") (by decide +kernel)) (fun _ h9 => h9) rfl (by decide +kernel) rfl rfl (Nat.le_of_ble_eq_true rfl) dX9_resize_102 (fun H locs hP hD hS => ?_)
  have hP : va_P (dC, dI) vwCl [(h0, .inr (8, [.ref k_kinds, .ref k_wholes, .ref k_reals, .int 0])), (k_kinds, .inl (c_k_kinds, 32, .inl f_kk))] _ := hP
  have hD : va_D A [(h0, .inr (8, [.ref k_kinds, .ref k_wholes, .ref k_reals, .int 0])), (k_kinds, .inl (c_k_kinds, 32, .inl f_kk))] := hD
  have hP9 := hP.sub (ws' := [(h0, .inr (8, [.ref k_kinds, .ref k_wholes, .ref k_reals, .int 0])), (k_kinds, .inl (c_k_kinds, 32, .inl f_kk))]) [0, 1] rfl
  have hD9 := hD.sub (ws' := [(h0, .inr (8, [.ref k_kinds, .ref k_wholes, .ref k_reals, .int 0])), (k_kinds, .inl (c_k_kinds, 32, .inl f_kk))]) [0, 1] (by decide) rfl
  have hK9 := hK.sub (tys' := [(c_k_kinds, .int)]) [0] rfl
  exact W.vret hx hb hr (fun t ht hW => ⟨⟨(), rfl, trivial, ⟨by rw [ht]; exact hP9, va_K.moved hW.alike hK9, hD9⟩⟩, hS.F ht⟩) hS.2.2 dX9_resize_105

def wqX8_clear : List Cond := .code yX8_clear cX8_clear 1 none :: (([.fieldLink RX8 13 "FourTongues$Program" "length" "I", .fieldLink RX8 39 "FourTongues$Program" "functions" "I", .fieldLink RX8 22 "FourTongues$Program" "constants" "LFourTongues$Row;", .methodLink RX8 42 yX9_resize, .instanceMethod yX9_resize, .selects RX9 yX9_resize yX9_resize, .initialized RX9] : List Cond) ++ (wsX80 ++ wqX9_resize))
theorem in_wqX8_clear_RX8 : ∀ w ∈ u_ws RX8 TX8 8, w ∈ wqX8_clear := fun w h => (List.mem_cons_of_mem _ (List.mem_append_right _ (List.mem_append_left _ h)))
set_option maxRecDepth 100000 in
theorem ggq_wqX8_clear_wqX9_resize : GoodIn wqX8_clear wqX9_resize := goodIn_sub (fun w h => (List.mem_cons_of_mem _ (List.mem_append_right _ (List.mem_append_right _ h)))) (by decide +kernel)
set_option maxRecDepth 100000 in
theorem gq_wqX8_clear_wqX9_resize_42 : GoodIn wqX8_clear (wsV RX8 42 RX9 yX9_resize wqX9_resize) := goodIn_app (goodIn_of _ (by decide +kernel)) ggq_wqX8_clear_wqX9_resize
set_option maxHeartbeats 4000000 in
set_option maxRecDepth 100000 in
theorem c_X8_clear (l : Launch) (dC : Nat → ClassId) (dI : Nat → Nat → Nat) (sz : Nat) (h0 : Nat) (g_code : Nat) (g_constants : Nat) (g_names : Nat) (g_starts : Nat) (g_parameters : Nat) (g_variables : Nat) (k_kinds : Nat) (k_wholes : Nat) (k_reals : Nat) (c_k_kinds : ClassId) (f_kk : Nat → Int32) : Met l yX8_clear wqX8_clear ({ frames := 2, cells := 0, slots := 0, locals := 47 }) (va_Pc [.ref h0] (fun U => xM (dC, dI) sz [(h0, .inr (7, [.ref g_code, .int 0, .ref g_constants, .ref g_names, .ref g_starts, .ref g_parameters, .ref g_variables, .int 0])), (g_constants, .inr (8, [.ref k_kinds, .ref k_wholes, .ref k_reals, .int 0])), (k_kinds, .inl (c_k_kinds, 32, .inl f_kk))] [(c_k_kinds, .int)] U)) (va_Qv (fun _ : Unit => True) (fun (_ : Unit) t => xB (dC, dI) [(h0, .inr (7, [.ref g_code, .int 0, .ref g_constants, .ref g_names, .ref g_starts, .ref g_parameters, .ref g_variables, .int 0])), (g_constants, .inr (8, [.ref k_kinds, .ref k_wholes, .ref k_reals, .int 0])), (k_kinds, .inl (c_k_kinds, 32, .inl f_kk))] [(c_k_kinds, .int), (c_k_kinds, .int)] (va_A [(h0, .inr (7, [.ref g_code, .int 0, .ref g_constants, .ref g_names, .ref g_starts, .ref g_parameters, .ref g_variables, .int 0])), (g_constants, .inr (8, [.ref k_kinds, .ref k_wholes, .ref k_reals, .int 0])), (k_kinds, .inl (c_k_kinds, 32, .inl f_kk))] sz) t) (va_A [(h0, .inr (7, [.ref g_code, .int 0, .ref g_constants, .ref g_names, .ref g_starts, .ref g_parameters, .ref g_variables, .int 0])), (g_constants, .inr (8, [.ref k_kinds, .ref k_wholes, .ref k_reals, .int 0])), (k_kinds, .inl (c_k_kinds, 32, .inl f_kk))] sz)) 0 0 (va_A [(h0, .inr (7, [.ref g_code, .int 0, .ref g_constants, .ref g_names, .ref g_starts, .ref g_parameters, .ref g_variables, .int 0])), (g_constants, .inr (8, [.ref k_kinds, .ref k_wholes, .ref k_reals, .int 0])), (k_kinds, .inl (c_k_kinds, 32, .inl f_kk))] sz) := by
  refine Met.ofW (cc := cX8_clear) (maxL := 1) (ret := none) (by decide) rfl ?_
  intro p e s m args below meth c s₁ B hml hv
  obtain ⟨rfl, hsz, hP, hK, hD0⟩ := hv
  have hx := B.exec
  have hb := B.bytes
  have hr := B.returns
  have hts := atoms_spec (ws := wqX8_clear) B.pre
  have hown : s.vm.findClass RX8 = some m.cls := findClass_of_methodNamed B.named
  have hlocks := B.notSynchronized
  subst hsz
  have hD := hD0.self (sz := s.heap.size)
  generalize hAe : va_A [(h0, .inr (7, [.ref g_code, .int 0, .ref g_constants, .ref g_names, .ref g_starts, .ref g_parameters, .ref g_variables, .int 0])), (g_constants, .inr (8, [.ref k_kinds, .ref k_wholes, .ref k_reals, .int 0])), (k_kinds, .inl (c_k_kinds, 32, .inl f_kk))] s.heap.size = A at hD ⊢
  have hA : ∀ q : Nat, s.heap.size ≤ q → A q := fun q h => by rw [← hAe]; exact Or.inr h
  have hS : va_S A s.heap s.heap [] := va_S.rf
  have hl := lv_entry ([.ref h0]) (n := 1) (Nat.le_of_ble_eq_true rfl)
  rw [lg_entry_eq]
  generalize (lg_sl ([.ref h0]) ++ List.replicate (1 - (lg_sl ([.ref h0])).length) Slot.unset).toArray = ls at hl ⊢
  have hl : lv_has ls 1 [(0, .ref h0)] := hl
  refine lv_aload_n hx hb dX8_clear_0 rfl (lv_at hl 0 rfl) ?_
  refine lv_iconst (v := 0) hx hb dX8_clear_1 (by decide) ?_
  refine va_put (D := (dC, dI)) (ci := 7) (v := .int 0) (ty := .int) (C := RX8) (T := TX8) (N := 8) hx hb hts in_wqX8_clear_RX8 tyX8 tyX8_ok nmX8 hown hK hP hD hS 0 rfl rfl 1 (by decide) (hts (.fieldLink RX8 13 "FourTongues$Program" "length" "I") (by decide +kernel)) (fun _ h9 => h9) rfl (by decide +kernel) rfl rfl (Nat.le_of_ble_eq_true rfl) dX8_clear_2 (fun H locs hP hD hS => ?_)
  have hP : va_P (dC, dI) vwCl [(h0, .inr (7, [.ref g_code, .int 0, .ref g_constants, .ref g_names, .ref g_starts, .ref g_parameters, .ref g_variables, .int 0])), (g_constants, .inr (8, [.ref k_kinds, .ref k_wholes, .ref k_reals, .int 0])), (k_kinds, .inl (c_k_kinds, 32, .inl f_kk))] _ := hP
  have hD : va_D A [(h0, .inr (7, [.ref g_code, .int 0, .ref g_constants, .ref g_names, .ref g_starts, .ref g_parameters, .ref g_variables, .int 0])), (g_constants, .inr (8, [.ref k_kinds, .ref k_wholes, .ref k_reals, .int 0])), (k_kinds, .inl (c_k_kinds, 32, .inl f_kk))] := hD
  refine lv_aload_n hx hb dX8_clear_5 rfl (lv_at hl 0 rfl) ?_
  refine lv_iconst (v := 0) hx hb dX8_clear_6 (by decide) ?_
  refine va_put (D := (dC, dI)) (ci := 7) (v := .int 0) (ty := .int) (C := RX8) (T := TX8) (N := 8) hx hb hts in_wqX8_clear_RX8 tyX8 tyX8_ok nmX8 hown hK hP hD hS 0 rfl rfl 7 (by decide) (hts (.fieldLink RX8 39 "FourTongues$Program" "functions" "I") (by decide +kernel)) (fun _ h9 => h9) rfl (by decide +kernel) rfl rfl (Nat.le_of_ble_eq_true rfl) dX8_clear_7 (fun H locs hP hD hS => ?_)
  have hP : va_P (dC, dI) vwCl [(h0, .inr (7, [.ref g_code, .int 0, .ref g_constants, .ref g_names, .ref g_starts, .ref g_parameters, .ref g_variables, .int 0])), (g_constants, .inr (8, [.ref k_kinds, .ref k_wholes, .ref k_reals, .int 0])), (k_kinds, .inl (c_k_kinds, 32, .inl f_kk))] _ := hP
  have hD : va_D A [(h0, .inr (7, [.ref g_code, .int 0, .ref g_constants, .ref g_names, .ref g_starts, .ref g_parameters, .ref g_variables, .int 0])), (g_constants, .inr (8, [.ref k_kinds, .ref k_wholes, .ref k_reals, .int 0])), (k_kinds, .inl (c_k_kinds, 32, .inl f_kk))] := hD
  refine lv_aload_n hx hb dX8_clear_10 rfl (lv_at hl 0 rfl) ?_
  refine va_get (D := (dC, dI)) (ci := 7) (v := .ref g_constants) (C := RX8) (T := TX8) (N := 8) hx hb hts in_wqX8_clear_RX8 hown hK hP 0 rfl rfl 2 (by decide) (hts (.fieldLink RX8 22 "FourTongues$Program" "constants" "LFourTongues$Row;") (by decide +kernel)) (fun _ h9 => h9) rfl dX8_clear_11 ?_
  refine lv_iconst (v := 0) hx hb dX8_clear_14 (by decide) ?_
  have hPc := hP.sub (ws' := [(g_constants, .inr (8, [.ref k_kinds, .ref k_wholes, .ref k_reals, .int 0])), (k_kinds, .inl (c_k_kinds, 32, .inl f_kk))]) [1, 2] rfl
  have hDc := hD.sub (ws' := [(g_constants, .inr (8, [.ref k_kinds, .ref k_wholes, .ref k_reals, .int 0])), (k_kinds, .inl (c_k_kinds, 32, .inl f_kk))]) [1, 2] (by decide) rfl
  have hKc := hK.sub (tys' := [(c_k_kinds, .int)]) [0] rfl
  have hFc := va_free (wc := [(g_constants, .inr (8, [.ref k_kinds, .ref k_wholes, .ref k_reals, .int 0])), (k_kinds, .inl (c_k_kinds, 32, .inl f_kk))]) hD hS hA [1, 2] rfl
  refine va_callv (va_runV (As := [.int 0]) (rest := []) ⟨hx, hb, hml, hown, hts⟩ (c_X9_resize l dC dI H.size g_constants k_kinds k_wholes k_reals c_k_kinds f_kk ) (cwV 1 hts gq_wqX8_clear_wqX9_resize_42 rfl rfl rfl (by decide +kernel) ⟨Nat.le_of_ble_eq_true rfl, Nat.le_of_ble_eq_true rfl⟩) ⟨fb_M, va_recv hK hP (ci := 8) (q0 := 1) rfl rfl, fun U hU hW => ⟨rfl, xM.at hPc hKc hDc hU hW⟩⟩ rfl rfl hl.1 rfl (lv_room (Nat.le_of_ble_eq_true rfl)) dX8_clear_15 ⟨Nat.le_of_ble_eq_true rfl, Nat.le_of_ble_eq_true rfl⟩) hS (fun q _ h => hFc q h) hFc (fun u t H locs ht hvm hw hB hz1 hk1 hS => ?_)
  obtain ⟨hP, hD, hK⟩ := xB.join (wr := [(h0, .inr (7, [.ref g_code, .int 0, .ref g_constants, .ref g_names, .ref g_starts, .ref g_parameters, .ref g_variables, .int 0]))]) (w1 := [(g_constants, .inr (8, [.ref k_kinds, .ref k_wholes, .ref k_reals, .int 0])), (k_kinds, .inl (c_k_kinds, 32, .inl f_kk))]) hP hD hK [1, 2] [0] rfl rfl (by decide) (by decide) hk1 hFc hB ht hvm
  have hP : va_P (dC, dI) vwCl [(h0, .inr (7, [.ref g_code, .int 0, .ref g_constants, .ref g_names, .ref g_starts, .ref g_parameters, .ref g_variables, .int 0])), (g_constants, .inr (8, [.ref k_kinds, .ref k_wholes, .ref k_reals, .int 0])), (k_kinds, .inl (c_k_kinds, 32, .inl f_kk))] _ := hP
  have hD : va_D A [(h0, .inr (7, [.ref g_code, .int 0, .ref g_constants, .ref g_names, .ref g_starts, .ref g_parameters, .ref g_variables, .int 0])), (g_constants, .inr (8, [.ref k_kinds, .ref k_wholes, .ref k_reals, .int 0])), (k_kinds, .inl (c_k_kinds, 32, .inl f_kk))] := hD
  have hK : va_K (dC, dI) vwCl [(c_k_kinds, .int), (c_k_kinds, .int)] s := hK
  have hP9 := hP.sub (ws' := [(h0, .inr (7, [.ref g_code, .int 0, .ref g_constants, .ref g_names, .ref g_starts, .ref g_parameters, .ref g_variables, .int 0])), (g_constants, .inr (8, [.ref k_kinds, .ref k_wholes, .ref k_reals, .int 0])), (k_kinds, .inl (c_k_kinds, 32, .inl f_kk))]) [0, 1, 2] rfl
  have hD9 := hD.sub (ws' := [(h0, .inr (7, [.ref g_code, .int 0, .ref g_constants, .ref g_names, .ref g_starts, .ref g_parameters, .ref g_variables, .int 0])), (g_constants, .inr (8, [.ref k_kinds, .ref k_wholes, .ref k_reals, .int 0])), (k_kinds, .inl (c_k_kinds, 32, .inl f_kk))]) [0, 1, 2] (by decide) rfl
  have hK9 := hK.sub (tys' := [(c_k_kinds, .int), (c_k_kinds, .int)]) [0, 0] rfl
  exact W.vret hx hb hr (fun t ht hW => ⟨⟨(), rfl, trivial, ⟨by rw [ht]; exact hP9, va_K.moved hW.alike hK9, hD9⟩⟩, hS.F ht⟩) hS.2.2 dX8_clear_18

def wqX10_byteAt : List Cond := .code yX10_byteAt cX10_byteAt 2 (some .int) :: (([.fieldLink RX10 33 "FourTongues$Tokens" "length" "I"] : List Cond) ++ wsX100)
theorem in_wqX10_byteAt_RX10 : ∀ w ∈ u_ws RX10 TX10 16, w ∈ wqX10_byteAt := fun w h => (List.mem_cons_of_mem _ (List.mem_append_right _ h))
set_option maxHeartbeats 4000000 in
set_option maxRecDepth 100000 in
theorem c_X10_byteAt (l : Launch) (dC : Nat → ClassId) (dI : Nat → Nat → Nat) (h0 : Nat) (t_text : Nat) (t_words : Nat) (t_kinds : Nat) (t_places : Nat) (t_wholes : Nat) (t_reals : Nat) (xt : Int32) : Met l yX10_byteAt wqX10_byteAt ({ frames := 0, cells := 0, slots := 0, locals := 0 }) (va_Pc [.ref h0, .int 0] (fun U => xR (dC, dI) [(h0, .inr (9, [.ref t_text, .ref t_words, .ref t_kinds, .ref t_places, .ref t_wholes, .ref t_reals, .int 0, .int 0, .int xt, .int 0, .int 0, .int 0, .int 1, .int 0, .long 0, .double FP.dconst0]))] [] U)) (va_Qi (fun (r : Int32) (_ : Unit) => r = -1) (fun (_ : Unit) _ => True) (fun _ => False)) 0 0 (fun _ => False) := by
  refine Met.ofW (cc := cX10_byteAt) (maxL := 2) (ret := (some .int)) (by decide) rfl ?_
  intro p e s m args below meth c s₁ B hml hv
  obtain ⟨rfl, hP, hK⟩ := hv
  have hx := B.exec
  have hb := B.bytes
  have hr := B.returns
  have hts := atoms_spec (ws := wqX10_byteAt) B.pre
  have hown : s.vm.findClass RX10 = some m.cls := findClass_of_methodNamed B.named
  have hlocks := B.notSynchronized
  have hS : va_S (fun _ => False) s.heap s.heap [] := va_S.rf
  have hl := lv_entry ([.ref h0, .int 0]) (n := 2) (Nat.le_of_ble_eq_true rfl)
  rw [lg_entry_eq]
  generalize (lg_sl ([.ref h0, .int 0]) ++ List.replicate (2 - (lg_sl ([.ref h0, .int 0])).length) Slot.unset).toArray = ls at hl ⊢
  have hl : lv_has ls 2 [(0, .ref h0), (1, .int 0)] := hl
  refine lv_iload_n hx hb dX10_byteAt_0 rfl (lv_at hl 1 rfl) ?_
  refine lv_if_lt (tgt := 25) hx hb dX10_byteAt_1 (by decide) (fun c_1 => absurd c_1 (by decide)) (fun c_1 => ?_)
  refine lv_iload_n hx hb dX10_byteAt_4 rfl (lv_at hl 1 rfl) ?_
  refine lv_aload_n hx hb dX10_byteAt_5 rfl (lv_at hl 0 rfl) ?_
  refine va_get (D := (dC, dI)) (ci := 9) (v := .int 0) (C := RX10) (T := TX10) (N := 16) hx hb hts in_wqX10_byteAt_RX10 hown hK hP 0 rfl rfl 7 (by decide) (hts (.fieldLink RX10 33 "FourTongues$Tokens" "length" "I") (by decide +kernel)) (fun _ h9 => h9) rfl dX10_byteAt_6 ?_
  refine lv_icmp_ge (tgt := 25) hx hb dX10_byteAt_9 (by decide) (fun c_9 => ?_) (fun c_9 => absurd c_9 (by decide))
  refine lv_iconst (v := (-1)) hx hb dX10_byteAt_25 (by decide) ?_
  exact W.iret (v := (-1)) hx hb hr (fun t ht hW => ⟨⟨(-1), (), rfl, rfl, trivial⟩, hS.F ht⟩) hS.2.2 dX10_byteAt_26

def wqX10_readToken : List Cond := .code yX10_readToken cX10_readToken 2 none :: (([.fieldLink RX10 39 "FourTongues$Tokens" "at" "I", .fieldLink RX10 33 "FourTongues$Tokens" "length" "I", .fieldLink RX10 52 "FourTongues$Tokens" "place" "I", .fieldLink RX10 55 "FourTongues$Tokens" "whole" "J", .methodLink RX10 90 yX10_byteAt, .instanceMethod yX10_byteAt, .selects RX10 yX10_byteAt yX10_byteAt, .initialized RX10, .fieldLink RX10 49 "FourTongues$Tokens" "kind" "I"] : List Cond) ++ (wsX100 ++ wqX10_byteAt))
theorem in_wqX10_readToken_RX10 : ∀ w ∈ u_ws RX10 TX10 16, w ∈ wqX10_readToken := fun w h => (List.mem_cons_of_mem _ (List.mem_append_right _ (List.mem_append_left _ h)))
set_option maxRecDepth 100000 in
theorem ggq_wqX10_readToken_wqX10_byteAt : GoodIn wqX10_readToken wqX10_byteAt := goodIn_sub (fun w h => (List.mem_cons_of_mem _ (List.mem_append_right _ (List.mem_append_right _ h)))) (by decide +kernel)
set_option maxRecDepth 100000 in
theorem gq_wqX10_readToken_wqX10_byteAt_90 : GoodIn wqX10_readToken (wsV RX10 90 RX10 yX10_byteAt wqX10_byteAt) := goodIn_app (goodIn_of _ (by decide +kernel)) ggq_wqX10_readToken_wqX10_byteAt
set_option maxHeartbeats 4000000 in
set_option maxRecDepth 100000 in
theorem c_X10_readToken (l : Launch) (dC : Nat → ClassId) (dI : Nat → Nat → Nat) (sz : Nat) (h0 : Nat) (t_text : Nat) (t_words : Nat) (t_kinds : Nat) (t_places : Nat) (t_wholes : Nat) (t_reals : Nat) (xt : Int32) : Met l yX10_readToken wqX10_readToken ({ frames := 1, cells := 0, slots := 0, locals := 21 }) (va_Pc [.ref h0] (fun U => xM (dC, dI) sz [(h0, .inr (9, [.ref t_text, .ref t_words, .ref t_kinds, .ref t_places, .ref t_wholes, .ref t_reals, .int 0, .int 0, .int xt, .int 0, .int 0, .int 0, .int 1, .int 0, .long 0, .double FP.dconst0]))] [] U)) (va_Qv (fun _ : Unit => True) (fun (_ : Unit) t => xB (dC, dI) [(h0, .inr (9, [.ref t_text, .ref t_words, .ref t_kinds, .ref t_places, .ref t_wholes, .ref t_reals, .int 0, .int 0, .int xt, .int 0, .int 0, .int 0, .int 0, .int 0, .long 0, .double FP.dconst0]))] [] (va_A [(h0, .inr (9, [.ref t_text, .ref t_words, .ref t_kinds, .ref t_places, .ref t_wholes, .ref t_reals, .int 0, .int 0, .int xt, .int 0, .int 0, .int 0, .int 1, .int 0, .long 0, .double FP.dconst0]))] sz) t) (va_A [(h0, .inr (9, [.ref t_text, .ref t_words, .ref t_kinds, .ref t_places, .ref t_wholes, .ref t_reals, .int 0, .int 0, .int xt, .int 0, .int 0, .int 0, .int 1, .int 0, .long 0, .double FP.dconst0]))] sz)) 0 0 (va_A [(h0, .inr (9, [.ref t_text, .ref t_words, .ref t_kinds, .ref t_places, .ref t_wholes, .ref t_reals, .int 0, .int 0, .int xt, .int 0, .int 0, .int 0, .int 1, .int 0, .long 0, .double FP.dconst0]))] sz) := by
  refine Met.ofW (cc := cX10_readToken) (maxL := 2) (ret := none) (by decide) rfl ?_
  intro p e s m args below meth c s₁ B hml hv
  obtain ⟨rfl, hsz, hP, hK, hD0⟩ := hv
  have hx := B.exec
  have hb := B.bytes
  have hr := B.returns
  have hts := atoms_spec (ws := wqX10_readToken) B.pre
  have hown : s.vm.findClass RX10 = some m.cls := findClass_of_methodNamed B.named
  have hlocks := B.notSynchronized
  subst hsz
  have hD := hD0.self (sz := s.heap.size)
  generalize hAe : va_A [(h0, .inr (9, [.ref t_text, .ref t_words, .ref t_kinds, .ref t_places, .ref t_wholes, .ref t_reals, .int 0, .int 0, .int xt, .int 0, .int 0, .int 0, .int 1, .int 0, .long 0, .double FP.dconst0]))] s.heap.size = A at hD ⊢
  have hA : ∀ q : Nat, s.heap.size ≤ q → A q := fun q h => by rw [← hAe]; exact Or.inr h
  have hS : va_S A s.heap s.heap [] := va_S.rf
  have hl := lv_entry ([.ref h0]) (n := 2) (Nat.le_of_ble_eq_true rfl)
  rw [lg_entry_eq]
  generalize (lg_sl ([.ref h0]) ++ List.replicate (2 - (lg_sl ([.ref h0])).length) Slot.unset).toArray = ls at hl ⊢
  have hl : lv_has ls 2 [(0, .ref h0)] := hl
  refine lv_aload_n hx hb dX10_readToken_0 rfl (lv_at hl 0 rfl) ?_
  refine va_get (D := (dC, dI)) (ci := 9) (v := .int 0) (C := RX10) (T := TX10) (N := 16) hx hb hts in_wqX10_readToken_RX10 hown hK hP 0 rfl rfl 9 (by decide) (hts (.fieldLink RX10 39 "FourTongues$Tokens" "at" "I") (by decide +kernel)) (fun _ h9 => h9) rfl dX10_readToken_1 ?_
  refine lv_aload_n hx hb dX10_readToken_4 rfl (lv_at hl 0 rfl) ?_
  refine va_get (D := (dC, dI)) (ci := 9) (v := .int 0) (C := RX10) (T := TX10) (N := 16) hx hb hts in_wqX10_readToken_RX10 hown hK hP 0 rfl rfl 7 (by decide) (hts (.fieldLink RX10 33 "FourTongues$Tokens" "length" "I") (by decide +kernel)) (fun _ h9 => h9) rfl dX10_readToken_5 ?_
  refine lv_icmp_ge (tgt := 50) hx hb dX10_readToken_8 (by decide) (fun c_8 => ?_) (fun c_8 => absurd c_8 (by decide))
  refine lv_aload_n hx hb dX10_readToken_50 rfl (lv_at hl 0 rfl) ?_
  refine lv_aload_n hx hb dX10_readToken_51 rfl (lv_at hl 0 rfl) ?_
  refine va_get (D := (dC, dI)) (ci := 9) (v := .int 0) (C := RX10) (T := TX10) (N := 16) hx hb hts in_wqX10_readToken_RX10 hown hK hP 0 rfl rfl 9 (by decide) (hts (.fieldLink RX10 39 "FourTongues$Tokens" "at" "I") (by decide +kernel)) (fun _ h9 => h9) rfl dX10_readToken_52 ?_
  refine va_put (D := (dC, dI)) (ci := 9) (v := .int 0) (ty := .int) (C := RX10) (T := TX10) (N := 16) hx hb hts in_wqX10_readToken_RX10 tyX10 tyX10_ok nmX10 hown hK hP hD hS 0 rfl rfl 13 (by decide) (hts (.fieldLink RX10 52 "FourTongues$Tokens" "place" "I") (by decide +kernel)) (fun _ h9 => h9) rfl (by decide +kernel) rfl rfl (Nat.le_of_ble_eq_true rfl) dX10_readToken_55 (fun H locs hP hD hS => ?_)
  have hP : va_P (dC, dI) vwCl [(h0, .inr (9, [.ref t_text, .ref t_words, .ref t_kinds, .ref t_places, .ref t_wholes, .ref t_reals, .int 0, .int 0, .int xt, .int 0, .int 0, .int 0, .int 1, .int 0, .long 0, .double FP.dconst0]))] _ := hP
  have hD : va_D A [(h0, .inr (9, [.ref t_text, .ref t_words, .ref t_kinds, .ref t_places, .ref t_wholes, .ref t_reals, .int 0, .int 0, .int xt, .int 0, .int 0, .int 0, .int 1, .int 0, .long 0, .double FP.dconst0]))] := hD
  refine lv_aload_n hx hb dX10_readToken_58 rfl (lv_at hl 0 rfl) ?_
  refine lv_lconst (v := 0) hx hb dX10_readToken_59 (by decide) ?_
  refine va_put (D := (dC, dI)) (ci := 9) (v := .long 0) (ty := .long) (C := RX10) (T := TX10) (N := 16) hx hb hts in_wqX10_readToken_RX10 tyX10 tyX10_ok nmX10 hown hK hP hD hS 0 rfl rfl 14 (by decide) (hts (.fieldLink RX10 55 "FourTongues$Tokens" "whole" "J") (by decide +kernel)) (fun _ h9 => h9) rfl (by decide +kernel) rfl rfl (Nat.le_of_ble_eq_true rfl) dX10_readToken_60 (fun H locs hP hD hS => ?_)
  have hP : va_P (dC, dI) vwCl [(h0, .inr (9, [.ref t_text, .ref t_words, .ref t_kinds, .ref t_places, .ref t_wholes, .ref t_reals, .int 0, .int 0, .int xt, .int 0, .int 0, .int 0, .int 1, .int 0, .long 0, .double FP.dconst0]))] _ := hP
  have hD : va_D A [(h0, .inr (9, [.ref t_text, .ref t_words, .ref t_kinds, .ref t_places, .ref t_wholes, .ref t_reals, .int 0, .int 0, .int xt, .int 0, .int 0, .int 0, .int 1, .int 0, .long 0, .double FP.dconst0]))] := hD
  refine lv_aload_n hx hb dX10_readToken_63 rfl (lv_at hl 0 rfl) ?_
  refine lv_aload_n hx hb dX10_readToken_64 rfl (lv_at hl 0 rfl) ?_
  refine va_get (D := (dC, dI)) (ci := 9) (v := .int 0) (C := RX10) (T := TX10) (N := 16) hx hb hts in_wqX10_readToken_RX10 hown hK hP 0 rfl rfl 9 (by decide) (hts (.fieldLink RX10 39 "FourTongues$Tokens" "at" "I") (by decide +kernel)) (fun _ h9 => h9) rfl dX10_readToken_65 ?_
  refine va_calli (va_runV (As := [.int 0]) (rest := []) ⟨hx, hb, hml, hown, hts⟩ (c_X10_byteAt l dC dI h0 t_text t_words t_kinds t_places t_wholes t_reals xt ) (cwV 1 hts gq_wqX10_readToken_wqX10_byteAt_90 rfl rfl rfl (by decide +kernel) ⟨Nat.le_of_ble_eq_true rfl, Nat.le_of_ble_eq_true rfl⟩) ⟨fb_R, va_recv hK hP (ci := 9) (q0 := 0) rfl rfl, fun U hU hW => ⟨rfl, xR.at (hP.sub (ws' := [(h0, .inr (9, [.ref t_text, .ref t_words, .ref t_kinds, .ref t_places, .ref t_wholes, .ref t_reals, .int 0, .int 0, .int xt, .int 0, .int 0, .int 0, .int 1, .int 0, .long 0, .double FP.dconst0]))]) [0] rfl) (hK.sub (tys' := []) [] rfl) hU hW⟩⟩ rfl rfl hl.1 rfl (lv_room (Nat.le_of_ble_eq_true rfl)) dX10_readToken_68 ⟨Nat.le_of_ble_eq_true rfl, Nat.le_of_ble_eq_true rfl⟩) hS (fun q _ h => h.elim) (fun q h => h.elim) (fun r_1 u t H locs ht hvm hw hB hz1 hk1 hS => ?_)
  have hw_2 := hw
  have hP := xR.keep hP hk1
  subst hw_2
  refine lv_istore_n (lv' := [(1, .int (-1)), (0, .ref h0)]) hx hb dX10_readToken_71 rfl hl (by decide) rfl (fun ls hl => ?_)
  refine lv_iload_n hx hb dX10_readToken_72 rfl (lv_at hl 0 rfl) ?_
  refine lv_if_ge (tgt := 84) hx hb dX10_readToken_73 (by decide) (fun c_73 => absurd c_73 (by decide)) (fun c_73 => ?_)
  refine lv_aload_n hx hb dX10_readToken_76 rfl (lv_at hl 1 rfl) ?_
  refine lv_iconst (v := 0) hx hb dX10_readToken_77 (by decide) ?_
  refine va_put (D := (dC, dI)) (ci := 9) (v := .int 0) (ty := .int) (C := RX10) (T := TX10) (N := 16) hx hb hts in_wqX10_readToken_RX10 tyX10 tyX10_ok nmX10 hown hK hP hD hS 0 rfl rfl 12 (by decide) (hts (.fieldLink RX10 49 "FourTongues$Tokens" "kind" "I") (by decide +kernel)) (fun _ h9 => h9) rfl (by decide +kernel) rfl rfl (Nat.le_of_ble_eq_true rfl) dX10_readToken_78 (fun H locs hP hD hS => ?_)
  have hP : va_P (dC, dI) vwCl [(h0, .inr (9, [.ref t_text, .ref t_words, .ref t_kinds, .ref t_places, .ref t_wholes, .ref t_reals, .int 0, .int 0, .int xt, .int 0, .int 0, .int 0, .int 0, .int 0, .long 0, .double FP.dconst0]))] _ := hP
  have hD : va_D A [(h0, .inr (9, [.ref t_text, .ref t_words, .ref t_kinds, .ref t_places, .ref t_wholes, .ref t_reals, .int 0, .int 0, .int xt, .int 0, .int 0, .int 0, .int 0, .int 0, .long 0, .double FP.dconst0]))] := hD
  refine lv_goto (tgt := 117) hx hb dX10_readToken_81 (by decide) ?_
  have hP9 := hP.sub (ws' := [(h0, .inr (9, [.ref t_text, .ref t_words, .ref t_kinds, .ref t_places, .ref t_wholes, .ref t_reals, .int 0, .int 0, .int xt, .int 0, .int 0, .int 0, .int 0, .int 0, .long 0, .double FP.dconst0]))]) [0] rfl
  have hD9 := hD.sub (ws' := [(h0, .inr (9, [.ref t_text, .ref t_words, .ref t_kinds, .ref t_places, .ref t_wholes, .ref t_reals, .int 0, .int 0, .int xt, .int 0, .int 0, .int 0, .int 0, .int 0, .long 0, .double FP.dconst0]))]) [0] (by decide) rfl
  have hK9 := hK.sub (tys' := []) [] rfl
  exact W.vret hx hb hr (fun t ht hW => ⟨⟨(), rfl, trivial, ⟨by rw [ht]; exact hP9, va_K.moved hW.alike hK9, hD9⟩⟩, hS.F ht⟩) hS.2.2 dX10_readToken_117

def wqX10_next : List Cond := .code yX10_next cX10_next 1 none :: (([.fieldLink RX10 45 "FourTongues$Tokens" "stopped" "Z", .fieldLink RX10 42 "FourTongues$Tokens" "now" "I", .fieldLink RX10 29 "FourTongues$Tokens" "count" "I", .fieldLink RX10 15 "FourTongues$Tokens" "kinds" "[I", .fieldLink RX10 49 "FourTongues$Tokens" "kind" "I", .fieldLink RX10 19 "FourTongues$Tokens" "places" "[I", .fieldLink RX10 52 "FourTongues$Tokens" "place" "I", .fieldLink RX10 22 "FourTongues$Tokens" "wholes" "[J", .fieldLink RX10 55 "FourTongues$Tokens" "whole" "J", .fieldLink RX10 25 "FourTongues$Tokens" "reals" "[D", .fieldLink RX10 59 "FourTongues$Tokens" "real" "D"] : List Cond) ++ wsX100)
theorem in_wqX10_next_RX10 : ∀ w ∈ u_ws RX10 TX10 16, w ∈ wqX10_next := fun w h => (List.mem_cons_of_mem _ (List.mem_append_right _ h))
set_option maxHeartbeats 4000000 in
set_option maxRecDepth 100000 in
theorem c_X10_next (l : Launch) (dC : Nat → ClassId) (dI : Nat → Nat → Nat) (sz : Nat) (h0 : Nat) (t_text : Nat) (t_words : Nat) (t_kinds : Nat) (t_places : Nat) (t_wholes : Nat) (t_reals : Nat) (c_t_kinds : ClassId) (f_kinds : Nat → Int32) (c_t_places : ClassId) (f_places : Nat → Int32) (c_t_wholes : ClassId) (f_wholes : Nat → Int64) (c_t_reals : ClassId) (f_reals : Nat → UInt64) (xt : Int32) (hk0 : f_kinds 0 = 0) : Met l yX10_next wqX10_next ({ frames := 0, cells := 0, slots := 0, locals := 0 }) (va_Pc [.ref h0] (fun U => xM (dC, dI) sz [(h0, .inr (9, [.ref t_text, .ref t_words, .ref t_kinds, .ref t_places, .ref t_wholes, .ref t_reals, .int 1, .int 0, .int xt, .int 0, .int (-1), .int 0, .int 0, .int 0, .long 0, .double FP.dconst0])), (t_kinds, .inl (c_t_kinds, 3001, .inl f_kinds)), (t_places, .inl (c_t_places, 3001, .inl f_places)), (t_wholes, .inl (c_t_wholes, 3001, .inr (.inl f_wholes))), (t_reals, .inl (c_t_reals, 3001, .inr (.inr (.inr (.inl f_reals)))))] [(c_t_kinds, .int), (c_t_places, .int), (c_t_wholes, .long), (c_t_reals, .double)] U)) (va_Qv (fun _ : Unit => True) (fun (_ : Unit) t => xB (dC, dI) [(h0, .inr (9, [.ref t_text, .ref t_words, .ref t_kinds, .ref t_places, .ref t_wholes, .ref t_reals, .int 1, .int 0, .int xt, .int 0, .int 0, .int 0, .int 0, .int (f_places 0), .long (f_wholes 0), .double (f_reals 0)]))] [] (va_A [(h0, .inr (9, [.ref t_text, .ref t_words, .ref t_kinds, .ref t_places, .ref t_wholes, .ref t_reals, .int 1, .int 0, .int xt, .int 0, .int (-1), .int 0, .int 0, .int 0, .long 0, .double FP.dconst0])), (t_kinds, .inl (c_t_kinds, 3001, .inl f_kinds)), (t_places, .inl (c_t_places, 3001, .inl f_places)), (t_wholes, .inl (c_t_wholes, 3001, .inr (.inl f_wholes))), (t_reals, .inl (c_t_reals, 3001, .inr (.inr (.inr (.inl f_reals)))))] sz) t) (va_A [(h0, .inr (9, [.ref t_text, .ref t_words, .ref t_kinds, .ref t_places, .ref t_wholes, .ref t_reals, .int 1, .int 0, .int xt, .int 0, .int (-1), .int 0, .int 0, .int 0, .long 0, .double FP.dconst0])), (t_kinds, .inl (c_t_kinds, 3001, .inl f_kinds)), (t_places, .inl (c_t_places, 3001, .inl f_places)), (t_wholes, .inl (c_t_wholes, 3001, .inr (.inl f_wholes))), (t_reals, .inl (c_t_reals, 3001, .inr (.inr (.inr (.inl f_reals)))))] sz)) 0 0 (va_A [(h0, .inr (9, [.ref t_text, .ref t_words, .ref t_kinds, .ref t_places, .ref t_wholes, .ref t_reals, .int 1, .int 0, .int xt, .int 0, .int (-1), .int 0, .int 0, .int 0, .long 0, .double FP.dconst0])), (t_kinds, .inl (c_t_kinds, 3001, .inl f_kinds)), (t_places, .inl (c_t_places, 3001, .inl f_places)), (t_wholes, .inl (c_t_wholes, 3001, .inr (.inl f_wholes))), (t_reals, .inl (c_t_reals, 3001, .inr (.inr (.inr (.inl f_reals)))))] sz) := by
  refine Met.ofW (cc := cX10_next) (maxL := 1) (ret := none) (by decide) rfl ?_
  intro p e s m args below meth c s₁ B hml hv
  obtain ⟨rfl, hsz, hP, hK, hD0⟩ := hv
  have hx := B.exec
  have hb := B.bytes
  have hr := B.returns
  have hts := atoms_spec (ws := wqX10_next) B.pre
  have hown : s.vm.findClass RX10 = some m.cls := findClass_of_methodNamed B.named
  have hlocks := B.notSynchronized
  subst hsz
  have hD := hD0.self (sz := s.heap.size)
  generalize hAe : va_A [(h0, .inr (9, [.ref t_text, .ref t_words, .ref t_kinds, .ref t_places, .ref t_wholes, .ref t_reals, .int 1, .int 0, .int xt, .int 0, .int (-1), .int 0, .int 0, .int 0, .long 0, .double FP.dconst0])), (t_kinds, .inl (c_t_kinds, 3001, .inl f_kinds)), (t_places, .inl (c_t_places, 3001, .inl f_places)), (t_wholes, .inl (c_t_wholes, 3001, .inr (.inl f_wholes))), (t_reals, .inl (c_t_reals, 3001, .inr (.inr (.inr (.inl f_reals)))))] s.heap.size = A at hD ⊢
  have hA : ∀ q : Nat, s.heap.size ≤ q → A q := fun q h => by rw [← hAe]; exact Or.inr h
  have hS : va_S A s.heap s.heap [] := va_S.rf
  have hl := lv_entry ([.ref h0]) (n := 1) (Nat.le_of_ble_eq_true rfl)
  rw [lg_entry_eq]
  generalize (lg_sl ([.ref h0]) ++ List.replicate (1 - (lg_sl ([.ref h0])).length) Slot.unset).toArray = ls at hl ⊢
  have hl : lv_has ls 1 [(0, .ref h0)] := hl
  refine lv_aload_n hx hb dX10_next_0 rfl (lv_at hl 0 rfl) ?_
  refine va_get (D := (dC, dI)) (ci := 9) (v := .int 0) (C := RX10) (T := TX10) (N := 16) hx hb hts in_wqX10_next_RX10 hown hK hP 0 rfl rfl 11 (by decide) (hts (.fieldLink RX10 45 "FourTongues$Tokens" "stopped" "Z") (by decide +kernel)) (fun _ h9 => h9) rfl dX10_next_1 ?_
  refine lv_if_eq (tgt := 8) hx hb dX10_next_4 (by decide) (fun c_4 => ?_) (fun c_4 => absurd c_4 (by decide))
  refine lv_aload_n hx hb dX10_next_8 rfl (lv_at hl 0 rfl) ?_
  refine va_get (D := (dC, dI)) (ci := 9) (v := .int (-1)) (C := RX10) (T := TX10) (N := 16) hx hb hts in_wqX10_next_RX10 hown hK hP 0 rfl rfl 10 (by decide) (hts (.fieldLink RX10 42 "FourTongues$Tokens" "now" "I") (by decide +kernel)) (fun _ h9 => h9) rfl dX10_next_9 ?_
  refine lv_aload_n hx hb dX10_next_12 rfl (lv_at hl 0 rfl) ?_
  refine va_get (D := (dC, dI)) (ci := 9) (v := .int 1) (C := RX10) (T := TX10) (N := 16) hx hb hts in_wqX10_next_RX10 hown hK hP 0 rfl rfl 6 (by decide) (hts (.fieldLink RX10 29 "FourTongues$Tokens" "count" "I") (by decide +kernel)) (fun _ h9 => h9) rfl dX10_next_13 ?_
  refine lv_iconst (v := 1) hx hb dX10_next_16 (by decide) ?_
  refine lv_isub hx hb dX10_next_17 ?_
  refine my_ti (v := 0) (by decide) ?_
  refine lv_icmp_ge (tgt := 31) hx hb dX10_next_18 (by decide) (fun c_18 => absurd c_18 (by decide)) (fun c_18 => ?_)
  refine lv_aload_n hx hb dX10_next_21 rfl (lv_at hl 0 rfl) ?_
  refine lv_dup hx hb dX10_next_22 rfl ?_
  refine va_get (D := (dC, dI)) (ci := 9) (v := .int (-1)) (C := RX10) (T := TX10) (N := 16) hx hb hts in_wqX10_next_RX10 hown hK hP 0 rfl rfl 10 (by decide) (hts (.fieldLink RX10 42 "FourTongues$Tokens" "now" "I") (by decide +kernel)) (fun _ h9 => h9) rfl dX10_next_23 ?_
  refine lv_iconst (v := 1) hx hb dX10_next_26 (by decide) ?_
  refine lv_iadd hx hb dX10_next_27 ?_
  refine my_ti (v := 0) (by decide) ?_
  refine va_put (D := (dC, dI)) (ci := 9) (v := .int 0) (ty := .int) (C := RX10) (T := TX10) (N := 16) hx hb hts in_wqX10_next_RX10 tyX10 tyX10_ok nmX10 hown hK hP hD hS 0 rfl rfl 10 (by decide) (hts (.fieldLink RX10 42 "FourTongues$Tokens" "now" "I") (by decide +kernel)) (fun _ h9 => h9) rfl (by decide +kernel) rfl rfl (Nat.le_of_ble_eq_true rfl) dX10_next_28 (fun H locs hP hD hS => ?_)
  have hP : va_P (dC, dI) vwCl [(h0, .inr (9, [.ref t_text, .ref t_words, .ref t_kinds, .ref t_places, .ref t_wholes, .ref t_reals, .int 1, .int 0, .int xt, .int 0, .int 0, .int 0, .int 0, .int 0, .long 0, .double FP.dconst0])), (t_kinds, .inl (c_t_kinds, 3001, .inl f_kinds)), (t_places, .inl (c_t_places, 3001, .inl f_places)), (t_wholes, .inl (c_t_wholes, 3001, .inr (.inl f_wholes))), (t_reals, .inl (c_t_reals, 3001, .inr (.inr (.inr (.inl f_reals)))))] _ := hP
  have hD : va_D A [(h0, .inr (9, [.ref t_text, .ref t_words, .ref t_kinds, .ref t_places, .ref t_wholes, .ref t_reals, .int 1, .int 0, .int xt, .int 0, .int 0, .int 0, .int 0, .int 0, .long 0, .double FP.dconst0])), (t_kinds, .inl (c_t_kinds, 3001, .inl f_kinds)), (t_places, .inl (c_t_places, 3001, .inl f_places)), (t_wholes, .inl (c_t_wholes, 3001, .inr (.inl f_wholes))), (t_reals, .inl (c_t_reals, 3001, .inr (.inr (.inr (.inl f_reals)))))] := hD
  refine lv_aload_n hx hb dX10_next_31 rfl (lv_at hl 0 rfl) ?_
  refine lv_aload_n hx hb dX10_next_32 rfl (lv_at hl 0 rfl) ?_
  refine va_get (D := (dC, dI)) (ci := 9) (v := .ref t_kinds) (C := RX10) (T := TX10) (N := 16) hx hb hts in_wqX10_next_RX10 hown hK hP 0 rfl rfl 2 (by decide) (hts (.fieldLink RX10 15 "FourTongues$Tokens" "kinds" "[I") (by decide +kernel)) (fun _ h9 => h9) rfl dX10_next_33 ?_
  refine lv_aload_n hx hb dX10_next_36 rfl (lv_at hl 0 rfl) ?_
  refine va_get (D := (dC, dI)) (ci := 9) (v := .int 0) (C := RX10) (T := TX10) (N := 16) hx hb hts in_wqX10_next_RX10 hown hK hP 0 rfl rfl 10 (by decide) (hts (.fieldLink RX10 42 "FourTongues$Tokens" "now" "I") (by decide +kernel)) (fun _ h9 => h9) rfl dX10_next_37 ?_
  refine va_iald hx hb hK hP 1 0 rfl rfl (by unfold vp_in; decide) dX10_next_40 ?_
  try rw [show ((0 : Int32).toNatClampNeg) = 0 from by decide]
  refine my_ti (v := 0) hk0 ?_
  refine va_put (D := (dC, dI)) (ci := 9) (v := .int 0) (ty := .int) (C := RX10) (T := TX10) (N := 16) hx hb hts in_wqX10_next_RX10 tyX10 tyX10_ok nmX10 hown hK hP hD hS 0 rfl rfl 12 (by decide) (hts (.fieldLink RX10 49 "FourTongues$Tokens" "kind" "I") (by decide +kernel)) (fun _ h9 => h9) rfl (by decide +kernel) rfl rfl (Nat.le_of_ble_eq_true rfl) dX10_next_41 (fun H locs hP hD hS => ?_)
  have hP : va_P (dC, dI) vwCl [(h0, .inr (9, [.ref t_text, .ref t_words, .ref t_kinds, .ref t_places, .ref t_wholes, .ref t_reals, .int 1, .int 0, .int xt, .int 0, .int 0, .int 0, .int 0, .int 0, .long 0, .double FP.dconst0])), (t_kinds, .inl (c_t_kinds, 3001, .inl f_kinds)), (t_places, .inl (c_t_places, 3001, .inl f_places)), (t_wholes, .inl (c_t_wholes, 3001, .inr (.inl f_wholes))), (t_reals, .inl (c_t_reals, 3001, .inr (.inr (.inr (.inl f_reals)))))] _ := hP
  have hD : va_D A [(h0, .inr (9, [.ref t_text, .ref t_words, .ref t_kinds, .ref t_places, .ref t_wholes, .ref t_reals, .int 1, .int 0, .int xt, .int 0, .int 0, .int 0, .int 0, .int 0, .long 0, .double FP.dconst0])), (t_kinds, .inl (c_t_kinds, 3001, .inl f_kinds)), (t_places, .inl (c_t_places, 3001, .inl f_places)), (t_wholes, .inl (c_t_wholes, 3001, .inr (.inl f_wholes))), (t_reals, .inl (c_t_reals, 3001, .inr (.inr (.inr (.inl f_reals)))))] := hD
  refine lv_aload_n hx hb dX10_next_44 rfl (lv_at hl 0 rfl) ?_
  refine lv_aload_n hx hb dX10_next_45 rfl (lv_at hl 0 rfl) ?_
  refine va_get (D := (dC, dI)) (ci := 9) (v := .ref t_places) (C := RX10) (T := TX10) (N := 16) hx hb hts in_wqX10_next_RX10 hown hK hP 0 rfl rfl 3 (by decide) (hts (.fieldLink RX10 19 "FourTongues$Tokens" "places" "[I") (by decide +kernel)) (fun _ h9 => h9) rfl dX10_next_46 ?_
  refine lv_aload_n hx hb dX10_next_49 rfl (lv_at hl 0 rfl) ?_
  refine va_get (D := (dC, dI)) (ci := 9) (v := .int 0) (C := RX10) (T := TX10) (N := 16) hx hb hts in_wqX10_next_RX10 hown hK hP 0 rfl rfl 10 (by decide) (hts (.fieldLink RX10 42 "FourTongues$Tokens" "now" "I") (by decide +kernel)) (fun _ h9 => h9) rfl dX10_next_50 ?_
  refine va_iald hx hb hK hP 2 1 rfl rfl (by unfold vp_in; decide) dX10_next_53 ?_
  try rw [show ((0 : Int32).toNatClampNeg) = 0 from by decide]
  refine va_put (D := (dC, dI)) (ci := 9) (v := .int (f_places 0)) (ty := .int) (C := RX10) (T := TX10) (N := 16) hx hb hts in_wqX10_next_RX10 tyX10 tyX10_ok nmX10 hown hK hP hD hS 0 rfl rfl 13 (by decide) (hts (.fieldLink RX10 52 "FourTongues$Tokens" "place" "I") (by decide +kernel)) (fun _ h9 => h9) rfl (by decide +kernel) rfl rfl (Nat.le_of_ble_eq_true rfl) dX10_next_54 (fun H locs hP hD hS => ?_)
  have hP : va_P (dC, dI) vwCl [(h0, .inr (9, [.ref t_text, .ref t_words, .ref t_kinds, .ref t_places, .ref t_wholes, .ref t_reals, .int 1, .int 0, .int xt, .int 0, .int 0, .int 0, .int 0, .int (f_places 0), .long 0, .double FP.dconst0])), (t_kinds, .inl (c_t_kinds, 3001, .inl f_kinds)), (t_places, .inl (c_t_places, 3001, .inl f_places)), (t_wholes, .inl (c_t_wholes, 3001, .inr (.inl f_wholes))), (t_reals, .inl (c_t_reals, 3001, .inr (.inr (.inr (.inl f_reals)))))] _ := hP
  have hD : va_D A [(h0, .inr (9, [.ref t_text, .ref t_words, .ref t_kinds, .ref t_places, .ref t_wholes, .ref t_reals, .int 1, .int 0, .int xt, .int 0, .int 0, .int 0, .int 0, .int (f_places 0), .long 0, .double FP.dconst0])), (t_kinds, .inl (c_t_kinds, 3001, .inl f_kinds)), (t_places, .inl (c_t_places, 3001, .inl f_places)), (t_wholes, .inl (c_t_wholes, 3001, .inr (.inl f_wholes))), (t_reals, .inl (c_t_reals, 3001, .inr (.inr (.inr (.inl f_reals)))))] := hD
  refine lv_aload_n hx hb dX10_next_57 rfl (lv_at hl 0 rfl) ?_
  refine lv_aload_n hx hb dX10_next_58 rfl (lv_at hl 0 rfl) ?_
  refine va_get (D := (dC, dI)) (ci := 9) (v := .ref t_wholes) (C := RX10) (T := TX10) (N := 16) hx hb hts in_wqX10_next_RX10 hown hK hP 0 rfl rfl 4 (by decide) (hts (.fieldLink RX10 22 "FourTongues$Tokens" "wholes" "[J") (by decide +kernel)) (fun _ h9 => h9) rfl dX10_next_59 ?_
  refine lv_aload_n hx hb dX10_next_62 rfl (lv_at hl 0 rfl) ?_
  refine va_get (D := (dC, dI)) (ci := 9) (v := .int 0) (C := RX10) (T := TX10) (N := 16) hx hb hts in_wqX10_next_RX10 hown hK hP 0 rfl rfl 10 (by decide) (hts (.fieldLink RX10 42 "FourTongues$Tokens" "now" "I") (by decide +kernel)) (fun _ h9 => h9) rfl dX10_next_63 ?_
  refine va_lald hx hb hK hP 3 2 rfl rfl (by unfold vp_in; decide) dX10_next_66 ?_
  try rw [show ((0 : Int32).toNatClampNeg) = 0 from by decide]
  refine va_put (D := (dC, dI)) (ci := 9) (v := .long (f_wholes 0)) (ty := .long) (C := RX10) (T := TX10) (N := 16) hx hb hts in_wqX10_next_RX10 tyX10 tyX10_ok nmX10 hown hK hP hD hS 0 rfl rfl 14 (by decide) (hts (.fieldLink RX10 55 "FourTongues$Tokens" "whole" "J") (by decide +kernel)) (fun _ h9 => h9) rfl (by decide +kernel) rfl rfl (Nat.le_of_ble_eq_true rfl) dX10_next_67 (fun H locs hP hD hS => ?_)
  have hP : va_P (dC, dI) vwCl [(h0, .inr (9, [.ref t_text, .ref t_words, .ref t_kinds, .ref t_places, .ref t_wholes, .ref t_reals, .int 1, .int 0, .int xt, .int 0, .int 0, .int 0, .int 0, .int (f_places 0), .long (f_wholes 0), .double FP.dconst0])), (t_kinds, .inl (c_t_kinds, 3001, .inl f_kinds)), (t_places, .inl (c_t_places, 3001, .inl f_places)), (t_wholes, .inl (c_t_wholes, 3001, .inr (.inl f_wholes))), (t_reals, .inl (c_t_reals, 3001, .inr (.inr (.inr (.inl f_reals)))))] _ := hP
  have hD : va_D A [(h0, .inr (9, [.ref t_text, .ref t_words, .ref t_kinds, .ref t_places, .ref t_wholes, .ref t_reals, .int 1, .int 0, .int xt, .int 0, .int 0, .int 0, .int 0, .int (f_places 0), .long (f_wholes 0), .double FP.dconst0])), (t_kinds, .inl (c_t_kinds, 3001, .inl f_kinds)), (t_places, .inl (c_t_places, 3001, .inl f_places)), (t_wholes, .inl (c_t_wholes, 3001, .inr (.inl f_wholes))), (t_reals, .inl (c_t_reals, 3001, .inr (.inr (.inr (.inl f_reals)))))] := hD
  refine lv_aload_n hx hb dX10_next_70 rfl (lv_at hl 0 rfl) ?_
  refine lv_aload_n hx hb dX10_next_71 rfl (lv_at hl 0 rfl) ?_
  refine va_get (D := (dC, dI)) (ci := 9) (v := .ref t_reals) (C := RX10) (T := TX10) (N := 16) hx hb hts in_wqX10_next_RX10 hown hK hP 0 rfl rfl 5 (by decide) (hts (.fieldLink RX10 25 "FourTongues$Tokens" "reals" "[D") (by decide +kernel)) (fun _ h9 => h9) rfl dX10_next_72 ?_
  refine lv_aload_n hx hb dX10_next_75 rfl (lv_at hl 0 rfl) ?_
  refine va_get (D := (dC, dI)) (ci := 9) (v := .int 0) (C := RX10) (T := TX10) (N := 16) hx hb hts in_wqX10_next_RX10 hown hK hP 0 rfl rfl 10 (by decide) (hts (.fieldLink RX10 42 "FourTongues$Tokens" "now" "I") (by decide +kernel)) (fun _ h9 => h9) rfl dX10_next_76 ?_
  refine va_dald hx hb hK hP 4 3 rfl rfl (by unfold vp_in; decide) dX10_next_79 ?_
  try rw [show ((0 : Int32).toNatClampNeg) = 0 from by decide]
  refine va_put (D := (dC, dI)) (ci := 9) (v := .double (f_reals 0)) (ty := .double) (C := RX10) (T := TX10) (N := 16) hx hb hts in_wqX10_next_RX10 tyX10 tyX10_ok nmX10 hown hK hP hD hS 0 rfl rfl 15 (by decide) (hts (.fieldLink RX10 59 "FourTongues$Tokens" "real" "D") (by decide +kernel)) (fun _ h9 => h9) rfl (by decide +kernel) rfl rfl (Nat.le_of_ble_eq_true rfl) dX10_next_80 (fun H locs hP hD hS => ?_)
  have hP : va_P (dC, dI) vwCl [(h0, .inr (9, [.ref t_text, .ref t_words, .ref t_kinds, .ref t_places, .ref t_wholes, .ref t_reals, .int 1, .int 0, .int xt, .int 0, .int 0, .int 0, .int 0, .int (f_places 0), .long (f_wholes 0), .double (f_reals 0)])), (t_kinds, .inl (c_t_kinds, 3001, .inl f_kinds)), (t_places, .inl (c_t_places, 3001, .inl f_places)), (t_wholes, .inl (c_t_wholes, 3001, .inr (.inl f_wholes))), (t_reals, .inl (c_t_reals, 3001, .inr (.inr (.inr (.inl f_reals)))))] _ := hP
  have hD : va_D A [(h0, .inr (9, [.ref t_text, .ref t_words, .ref t_kinds, .ref t_places, .ref t_wholes, .ref t_reals, .int 1, .int 0, .int xt, .int 0, .int 0, .int 0, .int 0, .int (f_places 0), .long (f_wholes 0), .double (f_reals 0)])), (t_kinds, .inl (c_t_kinds, 3001, .inl f_kinds)), (t_places, .inl (c_t_places, 3001, .inl f_places)), (t_wholes, .inl (c_t_wholes, 3001, .inr (.inl f_wholes))), (t_reals, .inl (c_t_reals, 3001, .inr (.inr (.inr (.inl f_reals)))))] := hD
  have hP := hP.sub (ws' := [(h0, .inr (9, [.ref t_text, .ref t_words, .ref t_kinds, .ref t_places, .ref t_wholes, .ref t_reals, .int 1, .int 0, .int xt, .int 0, .int 0, .int 0, .int 0, .int (f_places 0), .long (f_wholes 0), .double (f_reals 0)]))]) [0] rfl
  have hD := hD.sub (ws' := [(h0, .inr (9, [.ref t_text, .ref t_words, .ref t_kinds, .ref t_places, .ref t_wholes, .ref t_reals, .int 1, .int 0, .int xt, .int 0, .int 0, .int 0, .int 0, .int (f_places 0), .long (f_wholes 0), .double (f_reals 0)]))]) [0] (by decide) rfl
  have hP9 := hP.sub (ws' := [(h0, .inr (9, [.ref t_text, .ref t_words, .ref t_kinds, .ref t_places, .ref t_wholes, .ref t_reals, .int 1, .int 0, .int xt, .int 0, .int 0, .int 0, .int 0, .int (f_places 0), .long (f_wholes 0), .double (f_reals 0)]))]) [0] rfl
  have hD9 := hD.sub (ws' := [(h0, .inr (9, [.ref t_text, .ref t_words, .ref t_kinds, .ref t_places, .ref t_wholes, .ref t_reals, .int 1, .int 0, .int xt, .int 0, .int 0, .int 0, .int 0, .int (f_places 0), .long (f_wholes 0), .double (f_reals 0)]))]) [0] (by decide) rfl
  have hK9 := hK.sub (tys' := []) [] rfl
  exact W.vret hx hb hr (fun t ht hW => ⟨⟨(), rfl, trivial, ⟨by rw [ht]; exact hP9, va_K.moved hW.alike hK9, hD9⟩⟩, hS.F ht⟩) hS.2.2 dX10_next_83

def wqX10_begin : List Cond := .code yX10_begin cX10_begin 3 none :: (([.fieldLink RX10 36 "FourTongues$Tokens" "tongue" "I", .fieldLink RX10 63 "FourTongues$Tokens" "text" "[B", .methodLink RX10 78 Lib.Math.min.name, .static Lib.Math.min.name, .initialized "java/lang/Math", .code Lib.Math.min.name Lib.Math.min.code 2 (some .int), .fieldLink RX10 33 "FourTongues$Tokens" "length" "I", .fieldLink RX10 39 "FourTongues$Tokens" "at" "I", .fieldLink RX10 29 "FourTongues$Tokens" "count" "I", .fieldLink RX10 49 "FourTongues$Tokens" "kind" "I", .methodLink RX10 84 yX10_readToken, .instanceMethod yX10_readToken, .selects RX10 yX10_readToken yX10_readToken, .initialized RX10, .fieldLink RX10 15 "FourTongues$Tokens" "kinds" "[I", .fieldLink RX10 19 "FourTongues$Tokens" "places" "[I", .fieldLink RX10 52 "FourTongues$Tokens" "place" "I", .fieldLink RX10 22 "FourTongues$Tokens" "wholes" "[J", .fieldLink RX10 55 "FourTongues$Tokens" "whole" "J", .fieldLink RX10 25 "FourTongues$Tokens" "reals" "[D", .fieldLink RX10 59 "FourTongues$Tokens" "real" "D", .fieldLink RX10 45 "FourTongues$Tokens" "stopped" "Z", .fieldLink RX10 42 "FourTongues$Tokens" "now" "I", .methodLink RX10 87 yX10_next, .instanceMethod yX10_next, .selects RX10 yX10_next yX10_next] : List Cond) ++ (wsX100 ++ (wqX10_readToken ++ wqX10_next)))
theorem in_wqX10_begin_RX10 : ∀ w ∈ u_ws RX10 TX10 16, w ∈ wqX10_begin := fun w h => (List.mem_cons_of_mem _ (List.mem_append_right _ (List.mem_append_left _ h)))
set_option maxRecDepth 100000 in
theorem ggq_wqX10_begin_wqX10_readToken : GoodIn wqX10_begin wqX10_readToken := goodIn_sub (fun w h => (List.mem_cons_of_mem _ (List.mem_append_right _ (List.mem_append_right _ (List.mem_append_left _ h))))) (by decide +kernel)
set_option maxRecDepth 100000 in
theorem gq_wqX10_begin_wqX10_readToken_84 : GoodIn wqX10_begin (wsV RX10 84 RX10 yX10_readToken wqX10_readToken) := goodIn_app (goodIn_of _ (by decide +kernel)) ggq_wqX10_begin_wqX10_readToken
set_option maxRecDepth 100000 in
theorem ggq_wqX10_begin_wqX10_next : GoodIn wqX10_begin wqX10_next := goodIn_sub (fun w h => (List.mem_cons_of_mem _ (List.mem_append_right _ (List.mem_append_right _ (List.mem_append_right _ h))))) (by decide +kernel)
set_option maxRecDepth 100000 in
theorem gq_wqX10_begin_wqX10_next_87 : GoodIn wqX10_begin (wsV RX10 87 RX10 yX10_next wqX10_next) := goodIn_app (goodIn_of _ (by decide +kernel)) ggq_wqX10_begin_wqX10_next
set_option maxHeartbeats 4000000 in
set_option maxRecDepth 100000 in
theorem c_X10_begin (l : Launch) (dC : Nat → ClassId) (dI : Nat → Nat → Nat) (sz : Nat) (h0 : Nat) (t_text : Nat) (t_words : Nat) (t_kinds : Nat) (t_places : Nat) (t_wholes : Nat) (t_reals : Nat) (c_t_text : ClassId) (f_text : Nat → Int32) (c_t_kinds : ClassId) (c_t_places : ClassId) (c_t_wholes : ClassId) (c_t_reals : ClassId) (xt : Int32) : Met l yX10_begin wqX10_begin ({ frames := 2, cells := 0, slots := 0, locals := 42 }) (va_Pc [.ref h0, .int xt, .int 0] (fun U => xM (dC, dI) sz [(h0, .inr (9, [.ref t_text, .ref t_words, .ref t_kinds, .ref t_places, .ref t_wholes, .ref t_reals, .int 0, .int 0, .int 0, .int 0, .int 0, .int 0, .int 0, .int 0, .long 0, .double FP.dconst0])), (t_text, .inl (c_t_text, 3000, .inl f_text)), (t_kinds, .inl (c_t_kinds, 3001, .inl (fun _ => 0))), (t_places, .inl (c_t_places, 3001, .inl (fun _ => 0))), (t_wholes, .inl (c_t_wholes, 3001, .inr (.inl (fun _ => 0)))), (t_reals, .inl (c_t_reals, 3001, .inr (.inr (.inr (.inl (fun _ => 0))))))] [(c_t_text, .byte), (c_t_kinds, .int), (c_t_places, .int), (c_t_wholes, .long), (c_t_reals, .double)] U)) (va_Qv (fun _ : Unit => True) (fun (_ : Unit) t => ∃ (f_2 : Nat → Int32), ∃ (f_3 : Nat → Int64), ∃ (f_4 : Nat → UInt64), xB (dC, dI) [(h0, .inr (9, [.ref t_text, .ref t_words, .ref t_kinds, .ref t_places, .ref t_wholes, .ref t_reals, .int 1, .int 0, .int xt, .int 0, .int 0, .int 0, .int 0, .int (f_2 0), .long (f_3 0), .double (f_4 0)]))] [] (va_A [(h0, .inr (9, [.ref t_text, .ref t_words, .ref t_kinds, .ref t_places, .ref t_wholes, .ref t_reals, .int 0, .int 0, .int 0, .int 0, .int 0, .int 0, .int 0, .int 0, .long 0, .double FP.dconst0])), (t_text, .inl (c_t_text, 3000, .inl f_text)), (t_kinds, .inl (c_t_kinds, 3001, .inl (fun _ => 0))), (t_places, .inl (c_t_places, 3001, .inl (fun _ => 0))), (t_wholes, .inl (c_t_wholes, 3001, .inr (.inl (fun _ => 0)))), (t_reals, .inl (c_t_reals, 3001, .inr (.inr (.inr (.inl (fun _ => 0))))))] sz) t) (va_A [(h0, .inr (9, [.ref t_text, .ref t_words, .ref t_kinds, .ref t_places, .ref t_wholes, .ref t_reals, .int 0, .int 0, .int 0, .int 0, .int 0, .int 0, .int 0, .int 0, .long 0, .double FP.dconst0])), (t_text, .inl (c_t_text, 3000, .inl f_text)), (t_kinds, .inl (c_t_kinds, 3001, .inl (fun _ => 0))), (t_places, .inl (c_t_places, 3001, .inl (fun _ => 0))), (t_wholes, .inl (c_t_wholes, 3001, .inr (.inl (fun _ => 0)))), (t_reals, .inl (c_t_reals, 3001, .inr (.inr (.inr (.inl (fun _ => 0))))))] sz)) 0 0 (va_A [(h0, .inr (9, [.ref t_text, .ref t_words, .ref t_kinds, .ref t_places, .ref t_wholes, .ref t_reals, .int 0, .int 0, .int 0, .int 0, .int 0, .int 0, .int 0, .int 0, .long 0, .double FP.dconst0])), (t_text, .inl (c_t_text, 3000, .inl f_text)), (t_kinds, .inl (c_t_kinds, 3001, .inl (fun _ => 0))), (t_places, .inl (c_t_places, 3001, .inl (fun _ => 0))), (t_wholes, .inl (c_t_wholes, 3001, .inr (.inl (fun _ => 0)))), (t_reals, .inl (c_t_reals, 3001, .inr (.inr (.inr (.inl (fun _ => 0))))))] sz) := by
  refine Met.ofW (cc := cX10_begin) (maxL := 3) (ret := none) (by decide) rfl ?_
  intro p e s m args below meth c s₁ B hml hv
  obtain ⟨rfl, hsz, hP, hK, hD0⟩ := hv
  have hx := B.exec
  have hb := B.bytes
  have hr := B.returns
  have hts := atoms_spec (ws := wqX10_begin) B.pre
  have hown : s.vm.findClass RX10 = some m.cls := findClass_of_methodNamed B.named
  have hlocks := B.notSynchronized
  subst hsz
  have hD := hD0.self (sz := s.heap.size)
  generalize hAe : va_A [(h0, .inr (9, [.ref t_text, .ref t_words, .ref t_kinds, .ref t_places, .ref t_wholes, .ref t_reals, .int 0, .int 0, .int 0, .int 0, .int 0, .int 0, .int 0, .int 0, .long 0, .double FP.dconst0])), (t_text, .inl (c_t_text, 3000, .inl f_text)), (t_kinds, .inl (c_t_kinds, 3001, .inl (fun _ => 0))), (t_places, .inl (c_t_places, 3001, .inl (fun _ => 0))), (t_wholes, .inl (c_t_wholes, 3001, .inr (.inl (fun _ => 0)))), (t_reals, .inl (c_t_reals, 3001, .inr (.inr (.inr (.inl (fun _ => 0))))))] s.heap.size = A at hD ⊢
  have hA : ∀ q : Nat, s.heap.size ≤ q → A q := fun q h => by rw [← hAe]; exact Or.inr h
  have hS : va_S A s.heap s.heap [] := va_S.rf
  have hl := lv_entry ([.ref h0, .int xt, .int 0]) (n := 3) (Nat.le_of_ble_eq_true rfl)
  rw [lg_entry_eq]
  generalize (lg_sl ([.ref h0, .int xt, .int 0]) ++ List.replicate (3 - (lg_sl ([.ref h0, .int xt, .int 0])).length) Slot.unset).toArray = ls at hl ⊢
  have hl : lv_has ls 3 [(0, .ref h0), (1, .int xt), (2, .int 0)] := hl
  refine lv_aload_n hx hb dX10_begin_0 rfl (lv_at hl 0 rfl) ?_
  refine lv_iload_n hx hb dX10_begin_1 rfl (lv_at hl 1 rfl) ?_
  refine va_put (D := (dC, dI)) (ci := 9) (v := .int xt) (ty := .int) (C := RX10) (T := TX10) (N := 16) hx hb hts in_wqX10_begin_RX10 tyX10 tyX10_ok nmX10 hown hK hP hD hS 0 rfl rfl 8 (by decide) (hts (.fieldLink RX10 36 "FourTongues$Tokens" "tongue" "I") (by decide +kernel)) (fun _ h9 => h9) rfl (by decide +kernel) rfl rfl (Nat.le_of_ble_eq_true rfl) dX10_begin_2 (fun H locs hP hD hS => ?_)
  have hP : va_P (dC, dI) vwCl [(h0, .inr (9, [.ref t_text, .ref t_words, .ref t_kinds, .ref t_places, .ref t_wholes, .ref t_reals, .int 0, .int 0, .int xt, .int 0, .int 0, .int 0, .int 0, .int 0, .long 0, .double FP.dconst0])), (t_text, .inl (c_t_text, 3000, .inl f_text)), (t_kinds, .inl (c_t_kinds, 3001, .inl (fun _ => 0))), (t_places, .inl (c_t_places, 3001, .inl (fun _ => 0))), (t_wholes, .inl (c_t_wholes, 3001, .inr (.inl (fun _ => 0)))), (t_reals, .inl (c_t_reals, 3001, .inr (.inr (.inr (.inl (fun _ => 0))))))] _ := hP
  have hD : va_D A [(h0, .inr (9, [.ref t_text, .ref t_words, .ref t_kinds, .ref t_places, .ref t_wholes, .ref t_reals, .int 0, .int 0, .int xt, .int 0, .int 0, .int 0, .int 0, .int 0, .long 0, .double FP.dconst0])), (t_text, .inl (c_t_text, 3000, .inl f_text)), (t_kinds, .inl (c_t_kinds, 3001, .inl (fun _ => 0))), (t_places, .inl (c_t_places, 3001, .inl (fun _ => 0))), (t_wholes, .inl (c_t_wholes, 3001, .inr (.inl (fun _ => 0)))), (t_reals, .inl (c_t_reals, 3001, .inr (.inr (.inr (.inl (fun _ => 0))))))] := hD
  refine lv_aload_n hx hb dX10_begin_5 rfl (lv_at hl 0 rfl) ?_
  refine lv_iload_n hx hb dX10_begin_6 rfl (lv_at hl 2 rfl) ?_
  refine lv_aload_n hx hb dX10_begin_7 rfl (lv_at hl 0 rfl) ?_
  refine va_get (D := (dC, dI)) (ci := 9) (v := .ref t_text) (C := RX10) (T := TX10) (N := 16) hx hb hts in_wqX10_begin_RX10 hown hK hP 0 rfl rfl 0 (by decide) (hts (.fieldLink RX10 63 "FourTongues$Tokens" "text" "[B") (by decide +kernel)) (fun _ h9 => h9) rfl dX10_begin_8 ?_
  refine va_alen (v := 3000) hx hb hK hP 1 0 rfl rfl rfl dX10_begin_11 ?_
  refine va_mmin hx hb (by rw [hml]; exact hl.1.symm) hown (hts (.methodLink RX10 78 Lib.Math.min.name) (by decide +kernel)) (hts (.static Lib.Math.min.name) (by decide +kernel)) (hts (.initialized "java/lang/Math") (by decide +kernel)) (hts (.code Lib.Math.min.name Lib.Math.min.code 2 (some .int)) (by decide +kernel)) (Nat.le_of_ble_eq_true rfl) (Nat.le_of_ble_eq_true rfl) (Nat.le_of_ble_eq_true rfl) (Nat.le_of_ble_eq_true rfl) dX10_begin_12 ?_
  refine my_ti (v := 0) (by decide) ?_
  refine va_put (D := (dC, dI)) (ci := 9) (v := .int 0) (ty := .int) (C := RX10) (T := TX10) (N := 16) hx hb hts in_wqX10_begin_RX10 tyX10 tyX10_ok nmX10 hown hK hP hD hS 0 rfl rfl 7 (by decide) (hts (.fieldLink RX10 33 "FourTongues$Tokens" "length" "I") (by decide +kernel)) (fun _ h9 => h9) rfl (by decide +kernel) rfl rfl (Nat.le_of_ble_eq_true rfl) dX10_begin_15 (fun H locs hP hD hS => ?_)
  have hP : va_P (dC, dI) vwCl [(h0, .inr (9, [.ref t_text, .ref t_words, .ref t_kinds, .ref t_places, .ref t_wholes, .ref t_reals, .int 0, .int 0, .int xt, .int 0, .int 0, .int 0, .int 0, .int 0, .long 0, .double FP.dconst0])), (t_text, .inl (c_t_text, 3000, .inl f_text)), (t_kinds, .inl (c_t_kinds, 3001, .inl (fun _ => 0))), (t_places, .inl (c_t_places, 3001, .inl (fun _ => 0))), (t_wholes, .inl (c_t_wholes, 3001, .inr (.inl (fun _ => 0)))), (t_reals, .inl (c_t_reals, 3001, .inr (.inr (.inr (.inl (fun _ => 0))))))] _ := hP
  have hD : va_D A [(h0, .inr (9, [.ref t_text, .ref t_words, .ref t_kinds, .ref t_places, .ref t_wholes, .ref t_reals, .int 0, .int 0, .int xt, .int 0, .int 0, .int 0, .int 0, .int 0, .long 0, .double FP.dconst0])), (t_text, .inl (c_t_text, 3000, .inl f_text)), (t_kinds, .inl (c_t_kinds, 3001, .inl (fun _ => 0))), (t_places, .inl (c_t_places, 3001, .inl (fun _ => 0))), (t_wholes, .inl (c_t_wholes, 3001, .inr (.inl (fun _ => 0)))), (t_reals, .inl (c_t_reals, 3001, .inr (.inr (.inr (.inl (fun _ => 0))))))] := hD
  refine lv_aload_n hx hb dX10_begin_18 rfl (lv_at hl 0 rfl) ?_
  refine lv_iconst (v := 0) hx hb dX10_begin_19 (by decide) ?_
  refine va_put (D := (dC, dI)) (ci := 9) (v := .int 0) (ty := .int) (C := RX10) (T := TX10) (N := 16) hx hb hts in_wqX10_begin_RX10 tyX10 tyX10_ok nmX10 hown hK hP hD hS 0 rfl rfl 9 (by decide) (hts (.fieldLink RX10 39 "FourTongues$Tokens" "at" "I") (by decide +kernel)) (fun _ h9 => h9) rfl (by decide +kernel) rfl rfl (Nat.le_of_ble_eq_true rfl) dX10_begin_20 (fun H locs hP hD hS => ?_)
  have hP : va_P (dC, dI) vwCl [(h0, .inr (9, [.ref t_text, .ref t_words, .ref t_kinds, .ref t_places, .ref t_wholes, .ref t_reals, .int 0, .int 0, .int xt, .int 0, .int 0, .int 0, .int 0, .int 0, .long 0, .double FP.dconst0])), (t_text, .inl (c_t_text, 3000, .inl f_text)), (t_kinds, .inl (c_t_kinds, 3001, .inl (fun _ => 0))), (t_places, .inl (c_t_places, 3001, .inl (fun _ => 0))), (t_wholes, .inl (c_t_wholes, 3001, .inr (.inl (fun _ => 0)))), (t_reals, .inl (c_t_reals, 3001, .inr (.inr (.inr (.inl (fun _ => 0))))))] _ := hP
  have hD : va_D A [(h0, .inr (9, [.ref t_text, .ref t_words, .ref t_kinds, .ref t_places, .ref t_wholes, .ref t_reals, .int 0, .int 0, .int xt, .int 0, .int 0, .int 0, .int 0, .int 0, .long 0, .double FP.dconst0])), (t_text, .inl (c_t_text, 3000, .inl f_text)), (t_kinds, .inl (c_t_kinds, 3001, .inl (fun _ => 0))), (t_places, .inl (c_t_places, 3001, .inl (fun _ => 0))), (t_wholes, .inl (c_t_wholes, 3001, .inr (.inl (fun _ => 0)))), (t_reals, .inl (c_t_reals, 3001, .inr (.inr (.inr (.inl (fun _ => 0))))))] := hD
  refine lv_aload_n hx hb dX10_begin_23 rfl (lv_at hl 0 rfl) ?_
  refine lv_iconst (v := 0) hx hb dX10_begin_24 (by decide) ?_
  refine va_put (D := (dC, dI)) (ci := 9) (v := .int 0) (ty := .int) (C := RX10) (T := TX10) (N := 16) hx hb hts in_wqX10_begin_RX10 tyX10 tyX10_ok nmX10 hown hK hP hD hS 0 rfl rfl 6 (by decide) (hts (.fieldLink RX10 29 "FourTongues$Tokens" "count" "I") (by decide +kernel)) (fun _ h9 => h9) rfl (by decide +kernel) rfl rfl (Nat.le_of_ble_eq_true rfl) dX10_begin_25 (fun H locs hP hD hS => ?_)
  have hP : va_P (dC, dI) vwCl [(h0, .inr (9, [.ref t_text, .ref t_words, .ref t_kinds, .ref t_places, .ref t_wholes, .ref t_reals, .int 0, .int 0, .int xt, .int 0, .int 0, .int 0, .int 0, .int 0, .long 0, .double FP.dconst0])), (t_text, .inl (c_t_text, 3000, .inl f_text)), (t_kinds, .inl (c_t_kinds, 3001, .inl (fun _ => 0))), (t_places, .inl (c_t_places, 3001, .inl (fun _ => 0))), (t_wholes, .inl (c_t_wholes, 3001, .inr (.inl (fun _ => 0)))), (t_reals, .inl (c_t_reals, 3001, .inr (.inr (.inr (.inl (fun _ => 0))))))] _ := hP
  have hD : va_D A [(h0, .inr (9, [.ref t_text, .ref t_words, .ref t_kinds, .ref t_places, .ref t_wholes, .ref t_reals, .int 0, .int 0, .int xt, .int 0, .int 0, .int 0, .int 0, .int 0, .long 0, .double FP.dconst0])), (t_text, .inl (c_t_text, 3000, .inl f_text)), (t_kinds, .inl (c_t_kinds, 3001, .inl (fun _ => 0))), (t_places, .inl (c_t_places, 3001, .inl (fun _ => 0))), (t_wholes, .inl (c_t_wholes, 3001, .inr (.inl (fun _ => 0)))), (t_reals, .inl (c_t_reals, 3001, .inr (.inr (.inr (.inl (fun _ => 0))))))] := hD
  refine lv_aload_n hx hb dX10_begin_28 rfl (lv_at hl 0 rfl) ?_
  refine lv_iconst (v := 1) hx hb dX10_begin_29 (by decide) ?_
  refine va_put (D := (dC, dI)) (ci := 9) (v := .int 1) (ty := .int) (C := RX10) (T := TX10) (N := 16) hx hb hts in_wqX10_begin_RX10 tyX10 tyX10_ok nmX10 hown hK hP hD hS 0 rfl rfl 12 (by decide) (hts (.fieldLink RX10 49 "FourTongues$Tokens" "kind" "I") (by decide +kernel)) (fun _ h9 => h9) rfl (by decide +kernel) rfl rfl (Nat.le_of_ble_eq_true rfl) dX10_begin_30 (fun H locs hP hD hS => ?_)
  have hP : va_P (dC, dI) vwCl [(h0, .inr (9, [.ref t_text, .ref t_words, .ref t_kinds, .ref t_places, .ref t_wholes, .ref t_reals, .int 0, .int 0, .int xt, .int 0, .int 0, .int 0, .int 1, .int 0, .long 0, .double FP.dconst0])), (t_text, .inl (c_t_text, 3000, .inl f_text)), (t_kinds, .inl (c_t_kinds, 3001, .inl (fun _ => 0))), (t_places, .inl (c_t_places, 3001, .inl (fun _ => 0))), (t_wholes, .inl (c_t_wholes, 3001, .inr (.inl (fun _ => 0)))), (t_reals, .inl (c_t_reals, 3001, .inr (.inr (.inr (.inl (fun _ => 0))))))] _ := hP
  have hD : va_D A [(h0, .inr (9, [.ref t_text, .ref t_words, .ref t_kinds, .ref t_places, .ref t_wholes, .ref t_reals, .int 0, .int 0, .int xt, .int 0, .int 0, .int 0, .int 1, .int 0, .long 0, .double FP.dconst0])), (t_text, .inl (c_t_text, 3000, .inl f_text)), (t_kinds, .inl (c_t_kinds, 3001, .inl (fun _ => 0))), (t_places, .inl (c_t_places, 3001, .inl (fun _ => 0))), (t_wholes, .inl (c_t_wholes, 3001, .inr (.inl (fun _ => 0)))), (t_reals, .inl (c_t_reals, 3001, .inr (.inr (.inr (.inl (fun _ => 0))))))] := hD
  refine lv_aload_n hx hb dX10_begin_33 rfl (lv_at hl 0 rfl) ?_
  refine va_get (D := (dC, dI)) (ci := 9) (v := .int 0) (C := RX10) (T := TX10) (N := 16) hx hb hts in_wqX10_begin_RX10 hown hK hP 0 rfl rfl 6 (by decide) (hts (.fieldLink RX10 29 "FourTongues$Tokens" "count" "I") (by decide +kernel)) (fun _ h9 => h9) rfl dX10_begin_34 ?_
  refine lv_sipush (v := 3000) hx hb dX10_begin_37 (by decide) ?_
  refine lv_icmp_gt (tgt := 127) hx hb dX10_begin_40 (by decide) (fun c_40 => absurd c_40 (by decide)) (fun c_40 => ?_)
  refine lv_aload_n hx hb dX10_begin_43 rfl (lv_at hl 0 rfl) ?_
  refine va_get (D := (dC, dI)) (ci := 9) (v := .int 1) (C := RX10) (T := TX10) (N := 16) hx hb hts in_wqX10_begin_RX10 hown hK hP 0 rfl rfl 12 (by decide) (hts (.fieldLink RX10 49 "FourTongues$Tokens" "kind" "I") (by decide +kernel)) (fun _ h9 => h9) rfl dX10_begin_44 ?_
  refine lv_if_eq (tgt := 127) hx hb dX10_begin_47 (by decide) (fun c_47 => absurd c_47 (by decide)) (fun c_47 => ?_)
  refine lv_aload_n hx hb dX10_begin_50 rfl (lv_at hl 0 rfl) ?_
  refine va_get (D := (dC, dI)) (ci := 9) (v := .int 1) (C := RX10) (T := TX10) (N := 16) hx hb hts in_wqX10_begin_RX10 hown hK hP 0 rfl rfl 12 (by decide) (hts (.fieldLink RX10 49 "FourTongues$Tokens" "kind" "I") (by decide +kernel)) (fun _ h9 => h9) rfl dX10_begin_51 ?_
  refine lv_iconst (v := 3) hx hb dX10_begin_54 (by decide) ?_
  refine lv_icmp_eq (tgt := 127) hx hb dX10_begin_55 (by decide) (fun c_55 => absurd c_55 (by decide)) (fun c_55 => ?_)
  refine lv_aload_n hx hb dX10_begin_58 rfl (lv_at hl 0 rfl) ?_
  have hPc := hP.sub (ws' := [(h0, .inr (9, [.ref t_text, .ref t_words, .ref t_kinds, .ref t_places, .ref t_wholes, .ref t_reals, .int 0, .int 0, .int xt, .int 0, .int 0, .int 0, .int 1, .int 0, .long 0, .double FP.dconst0]))]) [0] rfl
  have hDc := hD.sub (ws' := [(h0, .inr (9, [.ref t_text, .ref t_words, .ref t_kinds, .ref t_places, .ref t_wholes, .ref t_reals, .int 0, .int 0, .int xt, .int 0, .int 0, .int 0, .int 1, .int 0, .long 0, .double FP.dconst0]))]) [0] (by decide) rfl
  have hKc := hK.sub (tys' := []) [] rfl
  have hFc := va_free (wc := [(h0, .inr (9, [.ref t_text, .ref t_words, .ref t_kinds, .ref t_places, .ref t_wholes, .ref t_reals, .int 0, .int 0, .int xt, .int 0, .int 0, .int 0, .int 1, .int 0, .long 0, .double FP.dconst0]))]) hD hS hA [0] rfl
  refine va_callv (va_runV (As := []) (rest := []) ⟨hx, hb, hml, hown, hts⟩ (c_X10_readToken l dC dI H.size h0 t_text t_words t_kinds t_places t_wholes t_reals xt ) (cwV 0 hts gq_wqX10_begin_wqX10_readToken_84 rfl rfl rfl (by decide +kernel) ⟨Nat.le_of_ble_eq_true rfl, Nat.le_of_ble_eq_true rfl⟩) ⟨fb_M, va_recv hK hP (ci := 9) (q0 := 0) rfl rfl, fun U hU hW => ⟨rfl, xM.at hPc hKc hDc hU hW⟩⟩ rfl rfl hl.1 rfl (lv_room (Nat.le_of_ble_eq_true rfl)) dX10_begin_59 ⟨Nat.le_of_ble_eq_true rfl, Nat.le_of_ble_eq_true rfl⟩) hS (fun q _ h => hFc q h) hFc (fun u t H locs ht hvm hw hB hz1 hk1 hS => ?_)
  obtain ⟨hP, hD, hK⟩ := xB.join (wr := [(t_text, .inl (c_t_text, 3000, .inl f_text)), (t_kinds, .inl (c_t_kinds, 3001, .inl (fun _ => 0))), (t_places, .inl (c_t_places, 3001, .inl (fun _ => 0))), (t_wholes, .inl (c_t_wholes, 3001, .inr (.inl (fun _ => 0)))), (t_reals, .inl (c_t_reals, 3001, .inr (.inr (.inr (.inl (fun _ => 0))))))]) (w1 := [(h0, .inr (9, [.ref t_text, .ref t_words, .ref t_kinds, .ref t_places, .ref t_wholes, .ref t_reals, .int 0, .int 0, .int xt, .int 0, .int 0, .int 0, .int 0, .int 0, .long 0, .double FP.dconst0]))]) hP hD hK [0] [1, 2, 3, 4, 5] rfl rfl (by decide) (by decide) hk1 hFc hB ht hvm
  have hP : va_P (dC, dI) vwCl [(t_text, .inl (c_t_text, 3000, .inl f_text)), (t_kinds, .inl (c_t_kinds, 3001, .inl (fun _ => 0))), (t_places, .inl (c_t_places, 3001, .inl (fun _ => 0))), (t_wholes, .inl (c_t_wholes, 3001, .inr (.inl (fun _ => 0)))), (t_reals, .inl (c_t_reals, 3001, .inr (.inr (.inr (.inl (fun _ => 0)))))), (h0, .inr (9, [.ref t_text, .ref t_words, .ref t_kinds, .ref t_places, .ref t_wholes, .ref t_reals, .int 0, .int 0, .int xt, .int 0, .int 0, .int 0, .int 0, .int 0, .long 0, .double FP.dconst0]))] _ := hP
  have hD : va_D A [(t_text, .inl (c_t_text, 3000, .inl f_text)), (t_kinds, .inl (c_t_kinds, 3001, .inl (fun _ => 0))), (t_places, .inl (c_t_places, 3001, .inl (fun _ => 0))), (t_wholes, .inl (c_t_wholes, 3001, .inr (.inl (fun _ => 0)))), (t_reals, .inl (c_t_reals, 3001, .inr (.inr (.inr (.inl (fun _ => 0)))))), (h0, .inr (9, [.ref t_text, .ref t_words, .ref t_kinds, .ref t_places, .ref t_wholes, .ref t_reals, .int 0, .int 0, .int xt, .int 0, .int 0, .int 0, .int 0, .int 0, .long 0, .double FP.dconst0]))] := hD
  have hK : va_K (dC, dI) vwCl [(c_t_text, .byte), (c_t_kinds, .int), (c_t_places, .int), (c_t_wholes, .long), (c_t_reals, .double)] s := hK
  refine lv_aload_n hx hb dX10_begin_62 rfl (lv_at hl 0 rfl) ?_
  refine va_get (D := (dC, dI)) (ci := 9) (v := .ref t_kinds) (C := RX10) (T := TX10) (N := 16) hx hb hts in_wqX10_begin_RX10 hown hK hP 5 rfl rfl 2 (by decide) (hts (.fieldLink RX10 15 "FourTongues$Tokens" "kinds" "[I") (by decide +kernel)) (fun _ h9 => h9) rfl dX10_begin_63 ?_
  refine lv_aload_n hx hb dX10_begin_66 rfl (lv_at hl 0 rfl) ?_
  refine va_get (D := (dC, dI)) (ci := 9) (v := .int 0) (C := RX10) (T := TX10) (N := 16) hx hb hts in_wqX10_begin_RX10 hown hK hP 5 rfl rfl 6 (by decide) (hts (.fieldLink RX10 29 "FourTongues$Tokens" "count" "I") (by decide +kernel)) (fun _ h9 => h9) rfl dX10_begin_67 ?_
  refine lv_aload_n hx hb dX10_begin_70 rfl (lv_at hl 0 rfl) ?_
  refine va_get (D := (dC, dI)) (ci := 9) (v := .int 0) (C := RX10) (T := TX10) (N := 16) hx hb hts in_wqX10_begin_RX10 hown hK hP 5 rfl rfl 12 (by decide) (hts (.fieldLink RX10 49 "FourTongues$Tokens" "kind" "I") (by decide +kernel)) (fun _ h9 => h9) rfl dX10_begin_71 ?_
  refine va_iast hx hb hK hP hD hS 1 1 rfl rfl (by unfold vp_in; decide) dX10_begin_74 (fun H locs hP hD hS => ?_)
  obtain ⟨f_1, ef_1⟩ : ∃ y : Nat → Int32, y = upd (fun _ => 0) ((0 : Int32).toNatClampNeg) 0 := ⟨_, rfl⟩
  rw [← ef_1] at hP hD
  have hP : va_P (dC, dI) vwCl [(t_text, .inl (c_t_text, 3000, .inl f_text)), (t_kinds, .inl (c_t_kinds, 3001, .inl f_1)), (t_places, .inl (c_t_places, 3001, .inl (fun _ => 0))), (t_wholes, .inl (c_t_wholes, 3001, .inr (.inl (fun _ => 0)))), (t_reals, .inl (c_t_reals, 3001, .inr (.inr (.inr (.inl (fun _ => 0)))))), (h0, .inr (9, [.ref t_text, .ref t_words, .ref t_kinds, .ref t_places, .ref t_wholes, .ref t_reals, .int 0, .int 0, .int xt, .int 0, .int 0, .int 0, .int 0, .int 0, .long 0, .double FP.dconst0]))] _ := hP
  have hD : va_D A [(t_text, .inl (c_t_text, 3000, .inl f_text)), (t_kinds, .inl (c_t_kinds, 3001, .inl f_1)), (t_places, .inl (c_t_places, 3001, .inl (fun _ => 0))), (t_wholes, .inl (c_t_wholes, 3001, .inr (.inl (fun _ => 0)))), (t_reals, .inl (c_t_reals, 3001, .inr (.inr (.inr (.inl (fun _ => 0)))))), (h0, .inr (9, [.ref t_text, .ref t_words, .ref t_kinds, .ref t_places, .ref t_wholes, .ref t_reals, .int 0, .int 0, .int xt, .int 0, .int 0, .int 0, .int 0, .int 0, .long 0, .double FP.dconst0]))] := hD
  refine lv_aload_n hx hb dX10_begin_75 rfl (lv_at hl 0 rfl) ?_
  refine va_get (D := (dC, dI)) (ci := 9) (v := .ref t_places) (C := RX10) (T := TX10) (N := 16) hx hb hts in_wqX10_begin_RX10 hown hK hP 5 rfl rfl 3 (by decide) (hts (.fieldLink RX10 19 "FourTongues$Tokens" "places" "[I") (by decide +kernel)) (fun _ h9 => h9) rfl dX10_begin_76 ?_
  refine lv_aload_n hx hb dX10_begin_79 rfl (lv_at hl 0 rfl) ?_
  refine va_get (D := (dC, dI)) (ci := 9) (v := .int 0) (C := RX10) (T := TX10) (N := 16) hx hb hts in_wqX10_begin_RX10 hown hK hP 5 rfl rfl 6 (by decide) (hts (.fieldLink RX10 29 "FourTongues$Tokens" "count" "I") (by decide +kernel)) (fun _ h9 => h9) rfl dX10_begin_80 ?_
  refine lv_aload_n hx hb dX10_begin_83 rfl (lv_at hl 0 rfl) ?_
  refine va_get (D := (dC, dI)) (ci := 9) (v := .int 0) (C := RX10) (T := TX10) (N := 16) hx hb hts in_wqX10_begin_RX10 hown hK hP 5 rfl rfl 13 (by decide) (hts (.fieldLink RX10 52 "FourTongues$Tokens" "place" "I") (by decide +kernel)) (fun _ h9 => h9) rfl dX10_begin_84 ?_
  refine va_iast hx hb hK hP hD hS 2 2 rfl rfl (by unfold vp_in; decide) dX10_begin_87 (fun H locs hP hD hS => ?_)
  obtain ⟨f_2, ef_2⟩ : ∃ y : Nat → Int32, y = upd (fun _ => 0) ((0 : Int32).toNatClampNeg) 0 := ⟨_, rfl⟩
  rw [← ef_2] at hP hD
  have hP : va_P (dC, dI) vwCl [(t_text, .inl (c_t_text, 3000, .inl f_text)), (t_kinds, .inl (c_t_kinds, 3001, .inl f_1)), (t_places, .inl (c_t_places, 3001, .inl f_2)), (t_wholes, .inl (c_t_wholes, 3001, .inr (.inl (fun _ => 0)))), (t_reals, .inl (c_t_reals, 3001, .inr (.inr (.inr (.inl (fun _ => 0)))))), (h0, .inr (9, [.ref t_text, .ref t_words, .ref t_kinds, .ref t_places, .ref t_wholes, .ref t_reals, .int 0, .int 0, .int xt, .int 0, .int 0, .int 0, .int 0, .int 0, .long 0, .double FP.dconst0]))] _ := hP
  have hD : va_D A [(t_text, .inl (c_t_text, 3000, .inl f_text)), (t_kinds, .inl (c_t_kinds, 3001, .inl f_1)), (t_places, .inl (c_t_places, 3001, .inl f_2)), (t_wholes, .inl (c_t_wholes, 3001, .inr (.inl (fun _ => 0)))), (t_reals, .inl (c_t_reals, 3001, .inr (.inr (.inr (.inl (fun _ => 0)))))), (h0, .inr (9, [.ref t_text, .ref t_words, .ref t_kinds, .ref t_places, .ref t_wholes, .ref t_reals, .int 0, .int 0, .int xt, .int 0, .int 0, .int 0, .int 0, .int 0, .long 0, .double FP.dconst0]))] := hD
  refine lv_aload_n hx hb dX10_begin_88 rfl (lv_at hl 0 rfl) ?_
  refine va_get (D := (dC, dI)) (ci := 9) (v := .ref t_wholes) (C := RX10) (T := TX10) (N := 16) hx hb hts in_wqX10_begin_RX10 hown hK hP 5 rfl rfl 4 (by decide) (hts (.fieldLink RX10 22 "FourTongues$Tokens" "wholes" "[J") (by decide +kernel)) (fun _ h9 => h9) rfl dX10_begin_89 ?_
  refine lv_aload_n hx hb dX10_begin_92 rfl (lv_at hl 0 rfl) ?_
  refine va_get (D := (dC, dI)) (ci := 9) (v := .int 0) (C := RX10) (T := TX10) (N := 16) hx hb hts in_wqX10_begin_RX10 hown hK hP 5 rfl rfl 6 (by decide) (hts (.fieldLink RX10 29 "FourTongues$Tokens" "count" "I") (by decide +kernel)) (fun _ h9 => h9) rfl dX10_begin_93 ?_
  refine lv_aload_n hx hb dX10_begin_96 rfl (lv_at hl 0 rfl) ?_
  refine va_get (D := (dC, dI)) (ci := 9) (v := .long 0) (C := RX10) (T := TX10) (N := 16) hx hb hts in_wqX10_begin_RX10 hown hK hP 5 rfl rfl 14 (by decide) (hts (.fieldLink RX10 55 "FourTongues$Tokens" "whole" "J") (by decide +kernel)) (fun _ h9 => h9) rfl dX10_begin_97 ?_
  refine va_last hx hb hK hP hD hS 3 3 rfl rfl (by unfold vp_in; decide) dX10_begin_100 (fun H locs hP hD hS => ?_)
  obtain ⟨f_3, ef_3⟩ : ∃ y : Nat → Int64, y = vp_updL (fun _ => 0) ((0 : Int32).toNatClampNeg) 0 := ⟨_, rfl⟩
  rw [← ef_3] at hP hD
  have hP : va_P (dC, dI) vwCl [(t_text, .inl (c_t_text, 3000, .inl f_text)), (t_kinds, .inl (c_t_kinds, 3001, .inl f_1)), (t_places, .inl (c_t_places, 3001, .inl f_2)), (t_wholes, .inl (c_t_wholes, 3001, .inr (.inl f_3))), (t_reals, .inl (c_t_reals, 3001, .inr (.inr (.inr (.inl (fun _ => 0)))))), (h0, .inr (9, [.ref t_text, .ref t_words, .ref t_kinds, .ref t_places, .ref t_wholes, .ref t_reals, .int 0, .int 0, .int xt, .int 0, .int 0, .int 0, .int 0, .int 0, .long 0, .double FP.dconst0]))] _ := hP
  have hD : va_D A [(t_text, .inl (c_t_text, 3000, .inl f_text)), (t_kinds, .inl (c_t_kinds, 3001, .inl f_1)), (t_places, .inl (c_t_places, 3001, .inl f_2)), (t_wholes, .inl (c_t_wholes, 3001, .inr (.inl f_3))), (t_reals, .inl (c_t_reals, 3001, .inr (.inr (.inr (.inl (fun _ => 0)))))), (h0, .inr (9, [.ref t_text, .ref t_words, .ref t_kinds, .ref t_places, .ref t_wholes, .ref t_reals, .int 0, .int 0, .int xt, .int 0, .int 0, .int 0, .int 0, .int 0, .long 0, .double FP.dconst0]))] := hD
  refine lv_aload_n hx hb dX10_begin_101 rfl (lv_at hl 0 rfl) ?_
  refine va_get (D := (dC, dI)) (ci := 9) (v := .ref t_reals) (C := RX10) (T := TX10) (N := 16) hx hb hts in_wqX10_begin_RX10 hown hK hP 5 rfl rfl 5 (by decide) (hts (.fieldLink RX10 25 "FourTongues$Tokens" "reals" "[D") (by decide +kernel)) (fun _ h9 => h9) rfl dX10_begin_102 ?_
  refine lv_aload_n hx hb dX10_begin_105 rfl (lv_at hl 0 rfl) ?_
  refine va_get (D := (dC, dI)) (ci := 9) (v := .int 0) (C := RX10) (T := TX10) (N := 16) hx hb hts in_wqX10_begin_RX10 hown hK hP 5 rfl rfl 6 (by decide) (hts (.fieldLink RX10 29 "FourTongues$Tokens" "count" "I") (by decide +kernel)) (fun _ h9 => h9) rfl dX10_begin_106 ?_
  refine lv_aload_n hx hb dX10_begin_109 rfl (lv_at hl 0 rfl) ?_
  refine va_get (D := (dC, dI)) (ci := 9) (v := .double FP.dconst0) (C := RX10) (T := TX10) (N := 16) hx hb hts in_wqX10_begin_RX10 hown hK hP 5 rfl rfl 15 (by decide) (hts (.fieldLink RX10 59 "FourTongues$Tokens" "real" "D") (by decide +kernel)) (fun _ h9 => h9) rfl dX10_begin_110 ?_
  refine va_dast hx hb hK hP hD hS 4 4 rfl rfl (by unfold vp_in; decide) dX10_begin_113 (fun H locs hP hD hS => ?_)
  obtain ⟨f_4, ef_4⟩ : ∃ y : Nat → UInt64, y = vf_upd (fun _ => 0) ((0 : Int32).toNatClampNeg) FP.dconst0 := ⟨_, rfl⟩
  rw [← ef_4] at hP hD
  have hP : va_P (dC, dI) vwCl [(t_text, .inl (c_t_text, 3000, .inl f_text)), (t_kinds, .inl (c_t_kinds, 3001, .inl f_1)), (t_places, .inl (c_t_places, 3001, .inl f_2)), (t_wholes, .inl (c_t_wholes, 3001, .inr (.inl f_3))), (t_reals, .inl (c_t_reals, 3001, .inr (.inr (.inr (.inl f_4))))), (h0, .inr (9, [.ref t_text, .ref t_words, .ref t_kinds, .ref t_places, .ref t_wholes, .ref t_reals, .int 0, .int 0, .int xt, .int 0, .int 0, .int 0, .int 0, .int 0, .long 0, .double FP.dconst0]))] _ := hP
  have hD : va_D A [(t_text, .inl (c_t_text, 3000, .inl f_text)), (t_kinds, .inl (c_t_kinds, 3001, .inl f_1)), (t_places, .inl (c_t_places, 3001, .inl f_2)), (t_wholes, .inl (c_t_wholes, 3001, .inr (.inl f_3))), (t_reals, .inl (c_t_reals, 3001, .inr (.inr (.inr (.inl f_4))))), (h0, .inr (9, [.ref t_text, .ref t_words, .ref t_kinds, .ref t_places, .ref t_wholes, .ref t_reals, .int 0, .int 0, .int xt, .int 0, .int 0, .int 0, .int 0, .int 0, .long 0, .double FP.dconst0]))] := hD
  refine lv_aload_n hx hb dX10_begin_114 rfl (lv_at hl 0 rfl) ?_
  refine lv_dup hx hb dX10_begin_115 rfl ?_
  refine va_get (D := (dC, dI)) (ci := 9) (v := .int 0) (C := RX10) (T := TX10) (N := 16) hx hb hts in_wqX10_begin_RX10 hown hK hP 5 rfl rfl 6 (by decide) (hts (.fieldLink RX10 29 "FourTongues$Tokens" "count" "I") (by decide +kernel)) (fun _ h9 => h9) rfl dX10_begin_116 ?_
  refine lv_iconst (v := 1) hx hb dX10_begin_119 (by decide) ?_
  refine lv_iadd hx hb dX10_begin_120 ?_
  refine my_ti (v := 1) (by decide) ?_
  refine va_put (D := (dC, dI)) (ci := 9) (v := .int 1) (ty := .int) (C := RX10) (T := TX10) (N := 16) hx hb hts in_wqX10_begin_RX10 tyX10 tyX10_ok nmX10 hown hK hP hD hS 5 rfl rfl 6 (by decide) (hts (.fieldLink RX10 29 "FourTongues$Tokens" "count" "I") (by decide +kernel)) (fun _ h9 => h9) rfl (by decide +kernel) rfl rfl (Nat.le_of_ble_eq_true rfl) dX10_begin_121 (fun H locs hP hD hS => ?_)
  have hP : va_P (dC, dI) vwCl [(t_text, .inl (c_t_text, 3000, .inl f_text)), (t_kinds, .inl (c_t_kinds, 3001, .inl f_1)), (t_places, .inl (c_t_places, 3001, .inl f_2)), (t_wholes, .inl (c_t_wholes, 3001, .inr (.inl f_3))), (t_reals, .inl (c_t_reals, 3001, .inr (.inr (.inr (.inl f_4))))), (h0, .inr (9, [.ref t_text, .ref t_words, .ref t_kinds, .ref t_places, .ref t_wholes, .ref t_reals, .int 1, .int 0, .int xt, .int 0, .int 0, .int 0, .int 0, .int 0, .long 0, .double FP.dconst0]))] _ := hP
  have hD : va_D A [(t_text, .inl (c_t_text, 3000, .inl f_text)), (t_kinds, .inl (c_t_kinds, 3001, .inl f_1)), (t_places, .inl (c_t_places, 3001, .inl f_2)), (t_wholes, .inl (c_t_wholes, 3001, .inr (.inl f_3))), (t_reals, .inl (c_t_reals, 3001, .inr (.inr (.inr (.inl f_4))))), (h0, .inr (9, [.ref t_text, .ref t_words, .ref t_kinds, .ref t_places, .ref t_wholes, .ref t_reals, .int 1, .int 0, .int xt, .int 0, .int 0, .int 0, .int 0, .int 0, .long 0, .double FP.dconst0]))] := hD
  refine lv_goto (tgt := 33) hx hb dX10_begin_124 (by decide) ?_
  refine lv_aload_n hx hb dX10_begin_33 rfl (lv_at hl 0 rfl) ?_
  refine va_get (D := (dC, dI)) (ci := 9) (v := .int 1) (C := RX10) (T := TX10) (N := 16) hx hb hts in_wqX10_begin_RX10 hown hK hP 5 rfl rfl 6 (by decide) (hts (.fieldLink RX10 29 "FourTongues$Tokens" "count" "I") (by decide +kernel)) (fun _ h9 => h9) rfl dX10_begin_34 ?_
  refine lv_sipush (v := 3000) hx hb dX10_begin_37 (by decide) ?_
  refine lv_icmp_gt (tgt := 127) hx hb dX10_begin_40 (by decide) (fun c_40 => absurd c_40 (by decide)) (fun c_40 => ?_)
  refine lv_aload_n hx hb dX10_begin_43 rfl (lv_at hl 0 rfl) ?_
  refine va_get (D := (dC, dI)) (ci := 9) (v := .int 0) (C := RX10) (T := TX10) (N := 16) hx hb hts in_wqX10_begin_RX10 hown hK hP 5 rfl rfl 12 (by decide) (hts (.fieldLink RX10 49 "FourTongues$Tokens" "kind" "I") (by decide +kernel)) (fun _ h9 => h9) rfl dX10_begin_44 ?_
  refine lv_if_eq (tgt := 127) hx hb dX10_begin_47 (by decide) (fun c_47 => ?_) (fun c_47 => absurd c_47 (by decide))
  refine lv_aload_n hx hb dX10_begin_127 rfl (lv_at hl 0 rfl) ?_
  refine lv_iconst (v := 0) hx hb dX10_begin_128 (by decide) ?_
  refine va_put (D := (dC, dI)) (ci := 9) (v := .int 0) (ty := .boolean) (C := RX10) (T := TX10) (N := 16) hx hb hts in_wqX10_begin_RX10 tyX10 tyX10_ok nmX10 hown hK hP hD hS 5 rfl rfl 11 (by decide) (hts (.fieldLink RX10 45 "FourTongues$Tokens" "stopped" "Z") (by decide +kernel)) (fun _ h9 => h9) rfl (by decide +kernel) rfl rfl (Nat.le_of_ble_eq_true rfl) dX10_begin_129 (fun H locs hP hD hS => ?_)
  have hP : va_P (dC, dI) vwCl [(t_text, .inl (c_t_text, 3000, .inl f_text)), (t_kinds, .inl (c_t_kinds, 3001, .inl f_1)), (t_places, .inl (c_t_places, 3001, .inl f_2)), (t_wholes, .inl (c_t_wholes, 3001, .inr (.inl f_3))), (t_reals, .inl (c_t_reals, 3001, .inr (.inr (.inr (.inl f_4))))), (h0, .inr (9, [.ref t_text, .ref t_words, .ref t_kinds, .ref t_places, .ref t_wholes, .ref t_reals, .int 1, .int 0, .int xt, .int 0, .int 0, .int 0, .int 0, .int 0, .long 0, .double FP.dconst0]))] _ := hP
  have hD : va_D A [(t_text, .inl (c_t_text, 3000, .inl f_text)), (t_kinds, .inl (c_t_kinds, 3001, .inl f_1)), (t_places, .inl (c_t_places, 3001, .inl f_2)), (t_wholes, .inl (c_t_wholes, 3001, .inr (.inl f_3))), (t_reals, .inl (c_t_reals, 3001, .inr (.inr (.inr (.inl f_4))))), (h0, .inr (9, [.ref t_text, .ref t_words, .ref t_kinds, .ref t_places, .ref t_wholes, .ref t_reals, .int 1, .int 0, .int xt, .int 0, .int 0, .int 0, .int 0, .int 0, .long 0, .double FP.dconst0]))] := hD
  refine lv_aload_n hx hb dX10_begin_132 rfl (lv_at hl 0 rfl) ?_
  refine lv_iconst (v := (-1)) hx hb dX10_begin_133 (by decide) ?_
  refine va_put (D := (dC, dI)) (ci := 9) (v := .int (-1)) (ty := .int) (C := RX10) (T := TX10) (N := 16) hx hb hts in_wqX10_begin_RX10 tyX10 tyX10_ok nmX10 hown hK hP hD hS 5 rfl rfl 10 (by decide) (hts (.fieldLink RX10 42 "FourTongues$Tokens" "now" "I") (by decide +kernel)) (fun _ h9 => h9) rfl (by decide +kernel) rfl rfl (Nat.le_of_ble_eq_true rfl) dX10_begin_134 (fun H locs hP hD hS => ?_)
  have hP : va_P (dC, dI) vwCl [(t_text, .inl (c_t_text, 3000, .inl f_text)), (t_kinds, .inl (c_t_kinds, 3001, .inl f_1)), (t_places, .inl (c_t_places, 3001, .inl f_2)), (t_wholes, .inl (c_t_wholes, 3001, .inr (.inl f_3))), (t_reals, .inl (c_t_reals, 3001, .inr (.inr (.inr (.inl f_4))))), (h0, .inr (9, [.ref t_text, .ref t_words, .ref t_kinds, .ref t_places, .ref t_wholes, .ref t_reals, .int 1, .int 0, .int xt, .int 0, .int (-1), .int 0, .int 0, .int 0, .long 0, .double FP.dconst0]))] _ := hP
  have hD : va_D A [(t_text, .inl (c_t_text, 3000, .inl f_text)), (t_kinds, .inl (c_t_kinds, 3001, .inl f_1)), (t_places, .inl (c_t_places, 3001, .inl f_2)), (t_wholes, .inl (c_t_wholes, 3001, .inr (.inl f_3))), (t_reals, .inl (c_t_reals, 3001, .inr (.inr (.inr (.inl f_4))))), (h0, .inr (9, [.ref t_text, .ref t_words, .ref t_kinds, .ref t_places, .ref t_wholes, .ref t_reals, .int 1, .int 0, .int xt, .int 0, .int (-1), .int 0, .int 0, .int 0, .long 0, .double FP.dconst0]))] := hD
  refine lv_aload_n hx hb dX10_begin_137 rfl (lv_at hl 0 rfl) ?_
  have hPc := hP.sub (ws' := [(h0, .inr (9, [.ref t_text, .ref t_words, .ref t_kinds, .ref t_places, .ref t_wholes, .ref t_reals, .int 1, .int 0, .int xt, .int 0, .int (-1), .int 0, .int 0, .int 0, .long 0, .double FP.dconst0])), (t_kinds, .inl (c_t_kinds, 3001, .inl f_1)), (t_places, .inl (c_t_places, 3001, .inl f_2)), (t_wholes, .inl (c_t_wholes, 3001, .inr (.inl f_3))), (t_reals, .inl (c_t_reals, 3001, .inr (.inr (.inr (.inl f_4)))))]) [5, 1, 2, 3, 4] rfl
  have hDc := hD.sub (ws' := [(h0, .inr (9, [.ref t_text, .ref t_words, .ref t_kinds, .ref t_places, .ref t_wholes, .ref t_reals, .int 1, .int 0, .int xt, .int 0, .int (-1), .int 0, .int 0, .int 0, .long 0, .double FP.dconst0])), (t_kinds, .inl (c_t_kinds, 3001, .inl f_1)), (t_places, .inl (c_t_places, 3001, .inl f_2)), (t_wholes, .inl (c_t_wholes, 3001, .inr (.inl f_3))), (t_reals, .inl (c_t_reals, 3001, .inr (.inr (.inr (.inl f_4)))))]) [5, 1, 2, 3, 4] (by decide) rfl
  have hKc := hK.sub (tys' := [(c_t_kinds, .int), (c_t_places, .int), (c_t_wholes, .long), (c_t_reals, .double)]) [1, 2, 3, 4] rfl
  have hFc := va_free (wc := [(h0, .inr (9, [.ref t_text, .ref t_words, .ref t_kinds, .ref t_places, .ref t_wholes, .ref t_reals, .int 1, .int 0, .int xt, .int 0, .int (-1), .int 0, .int 0, .int 0, .long 0, .double FP.dconst0])), (t_kinds, .inl (c_t_kinds, 3001, .inl f_1)), (t_places, .inl (c_t_places, 3001, .inl f_2)), (t_wholes, .inl (c_t_wholes, 3001, .inr (.inl f_3))), (t_reals, .inl (c_t_reals, 3001, .inr (.inr (.inr (.inl f_4)))))]) hD hS hA [5, 1, 2, 3, 4] rfl
  refine va_callv (va_runV (As := []) (rest := []) ⟨hx, hb, hml, hown, hts⟩ (c_X10_next l dC dI H.size h0 t_text t_words t_kinds t_places t_wholes t_reals c_t_kinds f_1 c_t_places f_2 c_t_wholes f_3 c_t_reals f_4 xt (by rw [ef_1]; rfl)) (cwV 0 hts gq_wqX10_begin_wqX10_next_87 rfl rfl rfl (by decide +kernel) ⟨Nat.le_of_ble_eq_true rfl, Nat.le_of_ble_eq_true rfl⟩) ⟨fb_M, va_recv hK hP (ci := 9) (q0 := 5) rfl rfl, fun U hU hW => ⟨rfl, xM.at hPc hKc hDc hU hW⟩⟩ rfl rfl hl.1 rfl (lv_room (Nat.le_of_ble_eq_true rfl)) dX10_begin_138 ⟨Nat.le_of_ble_eq_true rfl, Nat.le_of_ble_eq_true rfl⟩) hS (fun q _ h => hFc q h) hFc (fun u t H locs ht hvm hw hB hz1 hk1 hS => ?_)
  obtain ⟨hP, hD, hK⟩ := xB.join (wr := [(t_text, .inl (c_t_text, 3000, .inl f_text))]) (w1 := [(h0, .inr (9, [.ref t_text, .ref t_words, .ref t_kinds, .ref t_places, .ref t_wholes, .ref t_reals, .int 1, .int 0, .int xt, .int 0, .int 0, .int 0, .int 0, .int (f_2 0), .long (f_3 0), .double (f_4 0)]))]) hP hD hK [5, 1, 2, 3, 4] [0] rfl rfl (by decide) (by decide) hk1 hFc hB ht hvm
  have hP : va_P (dC, dI) vwCl [(t_text, .inl (c_t_text, 3000, .inl f_text)), (h0, .inr (9, [.ref t_text, .ref t_words, .ref t_kinds, .ref t_places, .ref t_wholes, .ref t_reals, .int 1, .int 0, .int xt, .int 0, .int 0, .int 0, .int 0, .int (f_2 0), .long (f_3 0), .double (f_4 0)]))] _ := hP
  have hD : va_D A [(t_text, .inl (c_t_text, 3000, .inl f_text)), (h0, .inr (9, [.ref t_text, .ref t_words, .ref t_kinds, .ref t_places, .ref t_wholes, .ref t_reals, .int 1, .int 0, .int xt, .int 0, .int 0, .int 0, .int 0, .int (f_2 0), .long (f_3 0), .double (f_4 0)]))] := hD
  have hK : va_K (dC, dI) vwCl [(c_t_text, .byte), (c_t_kinds, .int), (c_t_places, .int), (c_t_wholes, .long), (c_t_reals, .double)] s := hK
  have hP := hP.sub (ws' := [(h0, .inr (9, [.ref t_text, .ref t_words, .ref t_kinds, .ref t_places, .ref t_wholes, .ref t_reals, .int 1, .int 0, .int xt, .int 0, .int 0, .int 0, .int 0, .int (f_2 0), .long (f_3 0), .double (f_4 0)]))]) [1] rfl
  have hD := hD.sub (ws' := [(h0, .inr (9, [.ref t_text, .ref t_words, .ref t_kinds, .ref t_places, .ref t_wholes, .ref t_reals, .int 1, .int 0, .int xt, .int 0, .int 0, .int 0, .int 0, .int (f_2 0), .long (f_3 0), .double (f_4 0)]))]) [1] (by decide) rfl
  have hP9 := hP.sub (ws' := [(h0, .inr (9, [.ref t_text, .ref t_words, .ref t_kinds, .ref t_places, .ref t_wholes, .ref t_reals, .int 1, .int 0, .int xt, .int 0, .int 0, .int 0, .int 0, .int (f_2 0), .long (f_3 0), .double (f_4 0)]))]) [0] rfl
  have hD9 := hD.sub (ws' := [(h0, .inr (9, [.ref t_text, .ref t_words, .ref t_kinds, .ref t_places, .ref t_wholes, .ref t_reals, .int 1, .int 0, .int xt, .int 0, .int 0, .int 0, .int 0, .int (f_2 0), .long (f_3 0), .double (f_4 0)]))]) [0] (by decide) rfl
  have hK9 := hK.sub (tys' := []) [] rfl
  exact W.vret hx hb hr (fun t ht hW => ⟨⟨(), rfl, trivial, ⟨f_2, f_3, f_4, by rw [ht]; exact hP9, va_K.moved hW.alike hK9, hD9⟩⟩, hS.F ht⟩) hS.2.2 dX10_begin_141

def wqX7_parse : List Cond := .code yX7_parse cX7_parse 5 none :: (([.fieldLink RX7 51 "FourTongues$Parser" "program" "LFourTongues$Program;", .methodLink RX7 65 yX8_clear, .instanceMethod yX8_clear, .selects RX8 yX8_clear yX8_clear, .initialized RX8, .fieldLink RX7 29 "FourTongues$Parser" "tongue" "I", .fieldLink RX7 32 "FourTongues$Parser" "depth" "I", .fieldLink RX7 26 "FourTongues$Parser" "told" "I", .fieldLink RX7 9 "FourTongues$Parser" "faults" "[I", .methodLink RX7 70 yJ7_fill_53178, .static yJ7_fill_53178, .initialized RJ7, .fieldLink RX7 43 "FourTongues$Parser" "tokens" "LFourTongues$Tokens;", .methodLink RX7 76 yX10_begin, .instanceMethod yX10_begin, .selects RX10 yX10_begin yX10_begin, .initialized RX10] : List Cond) ++ (wsX70 ++ (wqX8_clear ++ (wsJ7_fill_53178 ++ (wqX10_begin ++ wsX100)))))
theorem in_wqX7_parse_RX7 : ∀ w ∈ u_ws RX7 TX7 11, w ∈ wqX7_parse := fun w h => (List.mem_cons_of_mem _ (List.mem_append_right _ (List.mem_append_left _ h)))
theorem in_wqX7_parse_RX10 : ∀ w ∈ u_ws RX10 TX10 16, w ∈ wqX7_parse := fun w h => (List.mem_cons_of_mem _ (List.mem_append_right _ (List.mem_append_right _ (List.mem_append_right _ (List.mem_append_right _ (List.mem_append_right _ h))))))
set_option maxRecDepth 100000 in
theorem ggq_wqX7_parse_wqX8_clear : GoodIn wqX7_parse wqX8_clear := goodIn_sub (fun w h => (List.mem_cons_of_mem _ (List.mem_append_right _ (List.mem_append_right _ (List.mem_append_left _ h))))) (by decide +kernel)
set_option maxRecDepth 100000 in
theorem gq_wqX7_parse_wqX8_clear_65 : GoodIn wqX7_parse (wsV RX7 65 RX8 yX8_clear wqX8_clear) := goodIn_app (goodIn_of _ (by decide +kernel)) ggq_wqX7_parse_wqX8_clear
set_option maxRecDepth 100000 in
theorem ggq_wqX7_parse_wsJ7_fill_53178 : GoodIn wqX7_parse wsJ7_fill_53178 := goodIn_sub (fun w h => (List.mem_cons_of_mem _ (List.mem_append_right _ (List.mem_append_right _ (List.mem_append_right _ (List.mem_append_left _ h)))))) (by decide +kernel)
set_option maxRecDepth 100000 in
theorem gq_wqX7_parse_wsJ7_fill_53178_70 : GoodIn wqX7_parse (va_wsS RX7 70 yJ7_fill_53178 wsJ7_fill_53178) := goodIn_app (goodIn_of _ (by decide +kernel)) ggq_wqX7_parse_wsJ7_fill_53178
set_option maxRecDepth 100000 in
theorem ggq_wqX7_parse_wqX10_begin : GoodIn wqX7_parse wqX10_begin := goodIn_sub (fun w h => (List.mem_cons_of_mem _ (List.mem_append_right _ (List.mem_append_right _ (List.mem_append_right _ (List.mem_append_right _ (List.mem_append_left _ h))))))) (by decide +kernel)
set_option maxRecDepth 100000 in
theorem gq_wqX7_parse_wqX10_begin_76 : GoodIn wqX7_parse (wsV RX7 76 RX10 yX10_begin wqX10_begin) := goodIn_app (goodIn_of _ (by decide +kernel)) ggq_wqX7_parse_wqX10_begin
set_option maxHeartbeats 4000000 in
set_option maxRecDepth 100000 in
theorem c_X7_parse (l : Launch) (dC : Nat → ClassId) (dI : Nat → Nat → Nat) (sz : Nat) (h0 : Nat) (a_tok : Nat) (a_draft : Nat) (r_names : Nat) (r_faults : Nat) (r_variables : Nat) (t_text : Nat) (t_words : Nat) (t_kinds : Nat) (t_places : Nat) (t_wholes : Nat) (t_reals : Nat) (c_t_text : ClassId) (f_text : Nat → Int32) (c_t_kinds : ClassId) (c_t_places : ClassId) (c_t_wholes : ClassId) (c_t_reals : ClassId) (g_code : Nat) (g_constants : Nat) (g_names : Nat) (g_starts : Nat) (g_parameters : Nat) (g_variables : Nat) (k_kinds : Nat) (k_wholes : Nat) (k_reals : Nat) (c_k_kinds : ClassId) (f_kk : Nat → Int32) (c_r_faults : ClassId) (xt : Int32) : Met l yX7_parse wqX7_parse ({ frames := 3, cells := 0, slots := 0, locals := 67 }) (va_Pc [.ref h0, .int xt, .int 0, .ref a_draft] (fun U => xM (dC, dI) sz [(h0, .inr (6, [.ref a_tok, .ref r_names, .ref a_draft, .ref r_faults, .ref r_variables, .int 0, .int 0, .int 0, .int 0, .int 0, .int 0])), (a_draft, .inr (7, [.ref g_code, .int 0, .ref g_constants, .ref g_names, .ref g_starts, .ref g_parameters, .ref g_variables, .int 0])), (g_constants, .inr (8, [.ref k_kinds, .ref k_wholes, .ref k_reals, .int 0])), (k_kinds, .inl (c_k_kinds, 32, .inl f_kk)), (r_faults, .inl (c_r_faults, 4, .inl (fun _ => 0))), (a_tok, .inr (9, [.ref t_text, .ref t_words, .ref t_kinds, .ref t_places, .ref t_wholes, .ref t_reals, .int 0, .int 0, .int 0, .int 0, .int 0, .int 0, .int 0, .int 0, .long 0, .double FP.dconst0])), (t_text, .inl (c_t_text, 3000, .inl f_text)), (t_kinds, .inl (c_t_kinds, 3001, .inl (fun _ => 0))), (t_places, .inl (c_t_places, 3001, .inl (fun _ => 0))), (t_wholes, .inl (c_t_wholes, 3001, .inr (.inl (fun _ => 0)))), (t_reals, .inl (c_t_reals, 3001, .inr (.inr (.inr (.inl (fun _ => 0))))))] [(c_k_kinds, .int), (c_r_faults, .int), (c_t_text, .byte), (c_t_kinds, .int), (c_t_places, .int), (c_t_wholes, .long), (c_t_reals, .double)] U ∧ va_Nw (.fieldLinkNest RX7 80 RX10 "kind" "I" RX11) U)) (va_Qv (fun _ : Unit => True) (fun (_ : Unit) t => ∃ (f_1 : Nat → Int32), (∀ j, j < 4 → f_1 j = -1) ∧ xB (dC, dI) [(h0, .inr (6, [.ref a_tok, .ref r_names, .ref a_draft, .ref r_faults, .ref r_variables, .int 0, .int 0, .int 0, .int xt, .int 0, .int 0])), (a_draft, .inr (7, [.ref g_code, .int 0, .ref g_constants, .ref g_names, .ref g_starts, .ref g_parameters, .ref g_variables, .int 0])), (r_faults, .inl (c_r_faults, 4, .inl f_1))] [(c_r_faults, .int), (c_r_faults, .int)] (va_A [(h0, .inr (6, [.ref a_tok, .ref r_names, .ref a_draft, .ref r_faults, .ref r_variables, .int 0, .int 0, .int 0, .int 0, .int 0, .int 0])), (a_draft, .inr (7, [.ref g_code, .int 0, .ref g_constants, .ref g_names, .ref g_starts, .ref g_parameters, .ref g_variables, .int 0])), (g_constants, .inr (8, [.ref k_kinds, .ref k_wholes, .ref k_reals, .int 0])), (k_kinds, .inl (c_k_kinds, 32, .inl f_kk)), (r_faults, .inl (c_r_faults, 4, .inl (fun _ => 0))), (a_tok, .inr (9, [.ref t_text, .ref t_words, .ref t_kinds, .ref t_places, .ref t_wholes, .ref t_reals, .int 0, .int 0, .int 0, .int 0, .int 0, .int 0, .int 0, .int 0, .long 0, .double FP.dconst0])), (t_text, .inl (c_t_text, 3000, .inl f_text)), (t_kinds, .inl (c_t_kinds, 3001, .inl (fun _ => 0))), (t_places, .inl (c_t_places, 3001, .inl (fun _ => 0))), (t_wholes, .inl (c_t_wholes, 3001, .inr (.inl (fun _ => 0)))), (t_reals, .inl (c_t_reals, 3001, .inr (.inr (.inr (.inl (fun _ => 0))))))] sz) t) (va_A [(h0, .inr (6, [.ref a_tok, .ref r_names, .ref a_draft, .ref r_faults, .ref r_variables, .int 0, .int 0, .int 0, .int 0, .int 0, .int 0])), (a_draft, .inr (7, [.ref g_code, .int 0, .ref g_constants, .ref g_names, .ref g_starts, .ref g_parameters, .ref g_variables, .int 0])), (g_constants, .inr (8, [.ref k_kinds, .ref k_wholes, .ref k_reals, .int 0])), (k_kinds, .inl (c_k_kinds, 32, .inl f_kk)), (r_faults, .inl (c_r_faults, 4, .inl (fun _ => 0))), (a_tok, .inr (9, [.ref t_text, .ref t_words, .ref t_kinds, .ref t_places, .ref t_wholes, .ref t_reals, .int 0, .int 0, .int 0, .int 0, .int 0, .int 0, .int 0, .int 0, .long 0, .double FP.dconst0])), (t_text, .inl (c_t_text, 3000, .inl f_text)), (t_kinds, .inl (c_t_kinds, 3001, .inl (fun _ => 0))), (t_places, .inl (c_t_places, 3001, .inl (fun _ => 0))), (t_wholes, .inl (c_t_wholes, 3001, .inr (.inl (fun _ => 0)))), (t_reals, .inl (c_t_reals, 3001, .inr (.inr (.inr (.inl (fun _ => 0))))))] sz)) 0 0 (va_A [(h0, .inr (6, [.ref a_tok, .ref r_names, .ref a_draft, .ref r_faults, .ref r_variables, .int 0, .int 0, .int 0, .int 0, .int 0, .int 0])), (a_draft, .inr (7, [.ref g_code, .int 0, .ref g_constants, .ref g_names, .ref g_starts, .ref g_parameters, .ref g_variables, .int 0])), (g_constants, .inr (8, [.ref k_kinds, .ref k_wholes, .ref k_reals, .int 0])), (k_kinds, .inl (c_k_kinds, 32, .inl f_kk)), (r_faults, .inl (c_r_faults, 4, .inl (fun _ => 0))), (a_tok, .inr (9, [.ref t_text, .ref t_words, .ref t_kinds, .ref t_places, .ref t_wholes, .ref t_reals, .int 0, .int 0, .int 0, .int 0, .int 0, .int 0, .int 0, .int 0, .long 0, .double FP.dconst0])), (t_text, .inl (c_t_text, 3000, .inl f_text)), (t_kinds, .inl (c_t_kinds, 3001, .inl (fun _ => 0))), (t_places, .inl (c_t_places, 3001, .inl (fun _ => 0))), (t_wholes, .inl (c_t_wholes, 3001, .inr (.inl (fun _ => 0)))), (t_reals, .inl (c_t_reals, 3001, .inr (.inr (.inr (.inl (fun _ => 0))))))] sz) := by
  refine Met.ofW (cc := cX7_parse) (maxL := 5) (ret := none) (by decide) rfl ?_
  intro p e s m args below meth c s₁ B hml hv
  obtain ⟨rfl, ⟨hsz, hP, hK, hD0⟩, hNk⟩ := hv
  have hx := B.exec
  have hb := B.bytes
  have hr := B.returns
  have hts := atoms_spec (ws := wqX7_parse) B.pre
  have hown : s.vm.findClass RX7 = some m.cls := findClass_of_methodNamed B.named
  have hlocks := B.notSynchronized
  subst hsz
  have hD := hD0.self (sz := s.heap.size)
  generalize hAe : va_A [(h0, .inr (6, [.ref a_tok, .ref r_names, .ref a_draft, .ref r_faults, .ref r_variables, .int 0, .int 0, .int 0, .int 0, .int 0, .int 0])), (a_draft, .inr (7, [.ref g_code, .int 0, .ref g_constants, .ref g_names, .ref g_starts, .ref g_parameters, .ref g_variables, .int 0])), (g_constants, .inr (8, [.ref k_kinds, .ref k_wholes, .ref k_reals, .int 0])), (k_kinds, .inl (c_k_kinds, 32, .inl f_kk)), (r_faults, .inl (c_r_faults, 4, .inl (fun _ => 0))), (a_tok, .inr (9, [.ref t_text, .ref t_words, .ref t_kinds, .ref t_places, .ref t_wholes, .ref t_reals, .int 0, .int 0, .int 0, .int 0, .int 0, .int 0, .int 0, .int 0, .long 0, .double FP.dconst0])), (t_text, .inl (c_t_text, 3000, .inl f_text)), (t_kinds, .inl (c_t_kinds, 3001, .inl (fun _ => 0))), (t_places, .inl (c_t_places, 3001, .inl (fun _ => 0))), (t_wholes, .inl (c_t_wholes, 3001, .inr (.inl (fun _ => 0)))), (t_reals, .inl (c_t_reals, 3001, .inr (.inr (.inr (.inl (fun _ => 0))))))] s.heap.size = A at hD  ⊢
  have hA : ∀ q : Nat, s.heap.size ≤ q → A q := fun q h => by rw [← hAe]; exact Or.inr h
  have hS : va_S A s.heap s.heap [] := va_S.rf
  have hl := lv_entry ([.ref h0, .int xt, .int 0, .ref a_draft]) (n := 5) (Nat.le_of_ble_eq_true rfl)
  rw [lg_entry_eq]
  generalize (lg_sl ([.ref h0, .int xt, .int 0, .ref a_draft]) ++ List.replicate (5 - (lg_sl ([.ref h0, .int xt, .int 0, .ref a_draft])).length) Slot.unset).toArray = ls at hl ⊢
  have hl : lv_has ls 5 [(0, .ref h0), (1, .int xt), (2, .int 0), (3, .ref a_draft)] := hl
  refine lv_aload_n hx hb dX7_parse_0 rfl (lv_at hl 0 rfl) ?_
  refine lv_aload_n hx hb dX7_parse_1 rfl (lv_at hl 3 rfl) ?_
  refine va_put (D := (dC, dI)) (ci := 6) (v := .ref a_draft) (ty := .object "FourTongues$Program") (C := RX7) (T := TX7) (N := 11) hx hb hts in_wqX7_parse_RX7 tyX7 tyX7_ok nmX7 hown hK hP hD hS 0 rfl rfl 2 (by decide) (hts (.fieldLink RX7 51 "FourTongues$Parser" "program" "LFourTongues$Program;") (by decide +kernel)) (fun _ h9 => h9) rfl (by decide +kernel) rfl rfl (Nat.le_of_ble_eq_true rfl) dX7_parse_2 (fun H locs hP hD hS => ?_)
  have hP : va_P (dC, dI) vwCl [(h0, .inr (6, [.ref a_tok, .ref r_names, .ref a_draft, .ref r_faults, .ref r_variables, .int 0, .int 0, .int 0, .int 0, .int 0, .int 0])), (a_draft, .inr (7, [.ref g_code, .int 0, .ref g_constants, .ref g_names, .ref g_starts, .ref g_parameters, .ref g_variables, .int 0])), (g_constants, .inr (8, [.ref k_kinds, .ref k_wholes, .ref k_reals, .int 0])), (k_kinds, .inl (c_k_kinds, 32, .inl f_kk)), (r_faults, .inl (c_r_faults, 4, .inl (fun _ => 0))), (a_tok, .inr (9, [.ref t_text, .ref t_words, .ref t_kinds, .ref t_places, .ref t_wholes, .ref t_reals, .int 0, .int 0, .int 0, .int 0, .int 0, .int 0, .int 0, .int 0, .long 0, .double FP.dconst0])), (t_text, .inl (c_t_text, 3000, .inl f_text)), (t_kinds, .inl (c_t_kinds, 3001, .inl (fun _ => 0))), (t_places, .inl (c_t_places, 3001, .inl (fun _ => 0))), (t_wholes, .inl (c_t_wholes, 3001, .inr (.inl (fun _ => 0)))), (t_reals, .inl (c_t_reals, 3001, .inr (.inr (.inr (.inl (fun _ => 0))))))] _ := hP
  have hD : va_D A [(h0, .inr (6, [.ref a_tok, .ref r_names, .ref a_draft, .ref r_faults, .ref r_variables, .int 0, .int 0, .int 0, .int 0, .int 0, .int 0])), (a_draft, .inr (7, [.ref g_code, .int 0, .ref g_constants, .ref g_names, .ref g_starts, .ref g_parameters, .ref g_variables, .int 0])), (g_constants, .inr (8, [.ref k_kinds, .ref k_wholes, .ref k_reals, .int 0])), (k_kinds, .inl (c_k_kinds, 32, .inl f_kk)), (r_faults, .inl (c_r_faults, 4, .inl (fun _ => 0))), (a_tok, .inr (9, [.ref t_text, .ref t_words, .ref t_kinds, .ref t_places, .ref t_wholes, .ref t_reals, .int 0, .int 0, .int 0, .int 0, .int 0, .int 0, .int 0, .int 0, .long 0, .double FP.dconst0])), (t_text, .inl (c_t_text, 3000, .inl f_text)), (t_kinds, .inl (c_t_kinds, 3001, .inl (fun _ => 0))), (t_places, .inl (c_t_places, 3001, .inl (fun _ => 0))), (t_wholes, .inl (c_t_wholes, 3001, .inr (.inl (fun _ => 0)))), (t_reals, .inl (c_t_reals, 3001, .inr (.inr (.inr (.inl (fun _ => 0))))))] := hD
  refine lv_aload_n hx hb dX7_parse_5 rfl (lv_at hl 0 rfl) ?_
  refine va_get (D := (dC, dI)) (ci := 6) (v := .ref a_draft) (C := RX7) (T := TX7) (N := 11) hx hb hts in_wqX7_parse_RX7 hown hK hP 0 rfl rfl 2 (by decide) (hts (.fieldLink RX7 51 "FourTongues$Parser" "program" "LFourTongues$Program;") (by decide +kernel)) (fun _ h9 => h9) rfl dX7_parse_6 ?_
  have hPc := hP.sub (ws' := [(a_draft, .inr (7, [.ref g_code, .int 0, .ref g_constants, .ref g_names, .ref g_starts, .ref g_parameters, .ref g_variables, .int 0])), (g_constants, .inr (8, [.ref k_kinds, .ref k_wholes, .ref k_reals, .int 0])), (k_kinds, .inl (c_k_kinds, 32, .inl f_kk))]) [1, 2, 3] rfl
  have hDc := hD.sub (ws' := [(a_draft, .inr (7, [.ref g_code, .int 0, .ref g_constants, .ref g_names, .ref g_starts, .ref g_parameters, .ref g_variables, .int 0])), (g_constants, .inr (8, [.ref k_kinds, .ref k_wholes, .ref k_reals, .int 0])), (k_kinds, .inl (c_k_kinds, 32, .inl f_kk))]) [1, 2, 3] (by decide) rfl
  have hKc := hK.sub (tys' := [(c_k_kinds, .int)]) [0] rfl
  have hFc := va_free (wc := [(a_draft, .inr (7, [.ref g_code, .int 0, .ref g_constants, .ref g_names, .ref g_starts, .ref g_parameters, .ref g_variables, .int 0])), (g_constants, .inr (8, [.ref k_kinds, .ref k_wholes, .ref k_reals, .int 0])), (k_kinds, .inl (c_k_kinds, 32, .inl f_kk))]) hD hS hA [1, 2, 3] rfl
  refine va_callv (va_runV (As := []) (rest := []) ⟨hx, hb, hml, hown, hts⟩ (c_X8_clear l dC dI H.size a_draft g_code g_constants g_names g_starts g_parameters g_variables k_kinds k_wholes k_reals c_k_kinds f_kk ) (cwV 0 hts gq_wqX7_parse_wqX8_clear_65 rfl rfl rfl (by decide +kernel) ⟨Nat.le_of_ble_eq_true rfl, Nat.le_of_ble_eq_true rfl⟩) ⟨fb_M, va_recv hK hP (ci := 7) (q0 := 1) rfl rfl, fun U hU hW => ⟨rfl, xM.at hPc hKc hDc hU hW⟩⟩ rfl rfl hl.1 rfl (lv_room (Nat.le_of_ble_eq_true rfl)) dX7_parse_9 ⟨Nat.le_of_ble_eq_true rfl, Nat.le_of_ble_eq_true rfl⟩) hS (fun q _ h => hFc q h) hFc (fun u t H locs ht hvm hw hB hz1 hk1 hS => ?_)
  obtain ⟨hP, hD, hK⟩ := xB.join (wr := [(h0, .inr (6, [.ref a_tok, .ref r_names, .ref a_draft, .ref r_faults, .ref r_variables, .int 0, .int 0, .int 0, .int 0, .int 0, .int 0])), (r_faults, .inl (c_r_faults, 4, .inl (fun _ => 0))), (a_tok, .inr (9, [.ref t_text, .ref t_words, .ref t_kinds, .ref t_places, .ref t_wholes, .ref t_reals, .int 0, .int 0, .int 0, .int 0, .int 0, .int 0, .int 0, .int 0, .long 0, .double FP.dconst0])), (t_text, .inl (c_t_text, 3000, .inl f_text)), (t_kinds, .inl (c_t_kinds, 3001, .inl (fun _ => 0))), (t_places, .inl (c_t_places, 3001, .inl (fun _ => 0))), (t_wholes, .inl (c_t_wholes, 3001, .inr (.inl (fun _ => 0)))), (t_reals, .inl (c_t_reals, 3001, .inr (.inr (.inr (.inl (fun _ => 0))))))]) (w1 := [(a_draft, .inr (7, [.ref g_code, .int 0, .ref g_constants, .ref g_names, .ref g_starts, .ref g_parameters, .ref g_variables, .int 0])), (g_constants, .inr (8, [.ref k_kinds, .ref k_wholes, .ref k_reals, .int 0])), (k_kinds, .inl (c_k_kinds, 32, .inl f_kk))]) hP hD hK [1, 2, 3] [0, 4, 5, 6, 7, 8, 9, 10] rfl rfl (by decide) (by decide) hk1 hFc hB ht hvm
  have hP : va_P (dC, dI) vwCl [(h0, .inr (6, [.ref a_tok, .ref r_names, .ref a_draft, .ref r_faults, .ref r_variables, .int 0, .int 0, .int 0, .int 0, .int 0, .int 0])), (r_faults, .inl (c_r_faults, 4, .inl (fun _ => 0))), (a_tok, .inr (9, [.ref t_text, .ref t_words, .ref t_kinds, .ref t_places, .ref t_wholes, .ref t_reals, .int 0, .int 0, .int 0, .int 0, .int 0, .int 0, .int 0, .int 0, .long 0, .double FP.dconst0])), (t_text, .inl (c_t_text, 3000, .inl f_text)), (t_kinds, .inl (c_t_kinds, 3001, .inl (fun _ => 0))), (t_places, .inl (c_t_places, 3001, .inl (fun _ => 0))), (t_wholes, .inl (c_t_wholes, 3001, .inr (.inl (fun _ => 0)))), (t_reals, .inl (c_t_reals, 3001, .inr (.inr (.inr (.inl (fun _ => 0)))))), (a_draft, .inr (7, [.ref g_code, .int 0, .ref g_constants, .ref g_names, .ref g_starts, .ref g_parameters, .ref g_variables, .int 0])), (g_constants, .inr (8, [.ref k_kinds, .ref k_wholes, .ref k_reals, .int 0])), (k_kinds, .inl (c_k_kinds, 32, .inl f_kk))] _ := hP
  have hD : va_D A [(h0, .inr (6, [.ref a_tok, .ref r_names, .ref a_draft, .ref r_faults, .ref r_variables, .int 0, .int 0, .int 0, .int 0, .int 0, .int 0])), (r_faults, .inl (c_r_faults, 4, .inl (fun _ => 0))), (a_tok, .inr (9, [.ref t_text, .ref t_words, .ref t_kinds, .ref t_places, .ref t_wholes, .ref t_reals, .int 0, .int 0, .int 0, .int 0, .int 0, .int 0, .int 0, .int 0, .long 0, .double FP.dconst0])), (t_text, .inl (c_t_text, 3000, .inl f_text)), (t_kinds, .inl (c_t_kinds, 3001, .inl (fun _ => 0))), (t_places, .inl (c_t_places, 3001, .inl (fun _ => 0))), (t_wholes, .inl (c_t_wholes, 3001, .inr (.inl (fun _ => 0)))), (t_reals, .inl (c_t_reals, 3001, .inr (.inr (.inr (.inl (fun _ => 0)))))), (a_draft, .inr (7, [.ref g_code, .int 0, .ref g_constants, .ref g_names, .ref g_starts, .ref g_parameters, .ref g_variables, .int 0])), (g_constants, .inr (8, [.ref k_kinds, .ref k_wholes, .ref k_reals, .int 0])), (k_kinds, .inl (c_k_kinds, 32, .inl f_kk))] := hD
  have hK : va_K (dC, dI) vwCl [(c_k_kinds, .int), (c_r_faults, .int), (c_t_text, .byte), (c_t_kinds, .int), (c_t_places, .int), (c_t_wholes, .long), (c_t_reals, .double), (c_k_kinds, .int), (c_k_kinds, .int)] s := hK
  refine lv_aload_n hx hb dX7_parse_12 rfl (lv_at hl 0 rfl) ?_
  refine lv_iload_n hx hb dX7_parse_13 rfl (lv_at hl 1 rfl) ?_
  refine va_put (D := (dC, dI)) (ci := 6) (v := .int xt) (ty := .int) (C := RX7) (T := TX7) (N := 11) hx hb hts in_wqX7_parse_RX7 tyX7 tyX7_ok nmX7 hown hK hP hD hS 0 rfl rfl 8 (by decide) (hts (.fieldLink RX7 29 "FourTongues$Parser" "tongue" "I") (by decide +kernel)) (fun _ h9 => h9) rfl (by decide +kernel) rfl rfl (Nat.le_of_ble_eq_true rfl) dX7_parse_14 (fun H locs hP hD hS => ?_)
  have hP : va_P (dC, dI) vwCl [(h0, .inr (6, [.ref a_tok, .ref r_names, .ref a_draft, .ref r_faults, .ref r_variables, .int 0, .int 0, .int 0, .int xt, .int 0, .int 0])), (r_faults, .inl (c_r_faults, 4, .inl (fun _ => 0))), (a_tok, .inr (9, [.ref t_text, .ref t_words, .ref t_kinds, .ref t_places, .ref t_wholes, .ref t_reals, .int 0, .int 0, .int 0, .int 0, .int 0, .int 0, .int 0, .int 0, .long 0, .double FP.dconst0])), (t_text, .inl (c_t_text, 3000, .inl f_text)), (t_kinds, .inl (c_t_kinds, 3001, .inl (fun _ => 0))), (t_places, .inl (c_t_places, 3001, .inl (fun _ => 0))), (t_wholes, .inl (c_t_wholes, 3001, .inr (.inl (fun _ => 0)))), (t_reals, .inl (c_t_reals, 3001, .inr (.inr (.inr (.inl (fun _ => 0)))))), (a_draft, .inr (7, [.ref g_code, .int 0, .ref g_constants, .ref g_names, .ref g_starts, .ref g_parameters, .ref g_variables, .int 0])), (g_constants, .inr (8, [.ref k_kinds, .ref k_wholes, .ref k_reals, .int 0])), (k_kinds, .inl (c_k_kinds, 32, .inl f_kk))] _ := hP
  have hD : va_D A [(h0, .inr (6, [.ref a_tok, .ref r_names, .ref a_draft, .ref r_faults, .ref r_variables, .int 0, .int 0, .int 0, .int xt, .int 0, .int 0])), (r_faults, .inl (c_r_faults, 4, .inl (fun _ => 0))), (a_tok, .inr (9, [.ref t_text, .ref t_words, .ref t_kinds, .ref t_places, .ref t_wholes, .ref t_reals, .int 0, .int 0, .int 0, .int 0, .int 0, .int 0, .int 0, .int 0, .long 0, .double FP.dconst0])), (t_text, .inl (c_t_text, 3000, .inl f_text)), (t_kinds, .inl (c_t_kinds, 3001, .inl (fun _ => 0))), (t_places, .inl (c_t_places, 3001, .inl (fun _ => 0))), (t_wholes, .inl (c_t_wholes, 3001, .inr (.inl (fun _ => 0)))), (t_reals, .inl (c_t_reals, 3001, .inr (.inr (.inr (.inl (fun _ => 0)))))), (a_draft, .inr (7, [.ref g_code, .int 0, .ref g_constants, .ref g_names, .ref g_starts, .ref g_parameters, .ref g_variables, .int 0])), (g_constants, .inr (8, [.ref k_kinds, .ref k_wholes, .ref k_reals, .int 0])), (k_kinds, .inl (c_k_kinds, 32, .inl f_kk))] := hD
  refine lv_aload_n hx hb dX7_parse_17 rfl (lv_at hl 0 rfl) ?_
  refine lv_iconst (v := 0) hx hb dX7_parse_18 (by decide) ?_
  refine va_put (D := (dC, dI)) (ci := 6) (v := .int 0) (ty := .int) (C := RX7) (T := TX7) (N := 11) hx hb hts in_wqX7_parse_RX7 tyX7 tyX7_ok nmX7 hown hK hP hD hS 0 rfl rfl 9 (by decide) (hts (.fieldLink RX7 32 "FourTongues$Parser" "depth" "I") (by decide +kernel)) (fun _ h9 => h9) rfl (by decide +kernel) rfl rfl (Nat.le_of_ble_eq_true rfl) dX7_parse_19 (fun H locs hP hD hS => ?_)
  have hP : va_P (dC, dI) vwCl [(h0, .inr (6, [.ref a_tok, .ref r_names, .ref a_draft, .ref r_faults, .ref r_variables, .int 0, .int 0, .int 0, .int xt, .int 0, .int 0])), (r_faults, .inl (c_r_faults, 4, .inl (fun _ => 0))), (a_tok, .inr (9, [.ref t_text, .ref t_words, .ref t_kinds, .ref t_places, .ref t_wholes, .ref t_reals, .int 0, .int 0, .int 0, .int 0, .int 0, .int 0, .int 0, .int 0, .long 0, .double FP.dconst0])), (t_text, .inl (c_t_text, 3000, .inl f_text)), (t_kinds, .inl (c_t_kinds, 3001, .inl (fun _ => 0))), (t_places, .inl (c_t_places, 3001, .inl (fun _ => 0))), (t_wholes, .inl (c_t_wholes, 3001, .inr (.inl (fun _ => 0)))), (t_reals, .inl (c_t_reals, 3001, .inr (.inr (.inr (.inl (fun _ => 0)))))), (a_draft, .inr (7, [.ref g_code, .int 0, .ref g_constants, .ref g_names, .ref g_starts, .ref g_parameters, .ref g_variables, .int 0])), (g_constants, .inr (8, [.ref k_kinds, .ref k_wholes, .ref k_reals, .int 0])), (k_kinds, .inl (c_k_kinds, 32, .inl f_kk))] _ := hP
  have hD : va_D A [(h0, .inr (6, [.ref a_tok, .ref r_names, .ref a_draft, .ref r_faults, .ref r_variables, .int 0, .int 0, .int 0, .int xt, .int 0, .int 0])), (r_faults, .inl (c_r_faults, 4, .inl (fun _ => 0))), (a_tok, .inr (9, [.ref t_text, .ref t_words, .ref t_kinds, .ref t_places, .ref t_wholes, .ref t_reals, .int 0, .int 0, .int 0, .int 0, .int 0, .int 0, .int 0, .int 0, .long 0, .double FP.dconst0])), (t_text, .inl (c_t_text, 3000, .inl f_text)), (t_kinds, .inl (c_t_kinds, 3001, .inl (fun _ => 0))), (t_places, .inl (c_t_places, 3001, .inl (fun _ => 0))), (t_wholes, .inl (c_t_wholes, 3001, .inr (.inl (fun _ => 0)))), (t_reals, .inl (c_t_reals, 3001, .inr (.inr (.inr (.inl (fun _ => 0)))))), (a_draft, .inr (7, [.ref g_code, .int 0, .ref g_constants, .ref g_names, .ref g_starts, .ref g_parameters, .ref g_variables, .int 0])), (g_constants, .inr (8, [.ref k_kinds, .ref k_wholes, .ref k_reals, .int 0])), (k_kinds, .inl (c_k_kinds, 32, .inl f_kk))] := hD
  refine lv_aload_n hx hb dX7_parse_22 rfl (lv_at hl 0 rfl) ?_
  refine lv_iconst (v := 0) hx hb dX7_parse_23 (by decide) ?_
  refine va_put (D := (dC, dI)) (ci := 6) (v := .int 0) (ty := .int) (C := RX7) (T := TX7) (N := 11) hx hb hts in_wqX7_parse_RX7 tyX7 tyX7_ok nmX7 hown hK hP hD hS 0 rfl rfl 7 (by decide) (hts (.fieldLink RX7 26 "FourTongues$Parser" "told" "I") (by decide +kernel)) (fun _ h9 => h9) rfl (by decide +kernel) rfl rfl (Nat.le_of_ble_eq_true rfl) dX7_parse_24 (fun H locs hP hD hS => ?_)
  have hP : va_P (dC, dI) vwCl [(h0, .inr (6, [.ref a_tok, .ref r_names, .ref a_draft, .ref r_faults, .ref r_variables, .int 0, .int 0, .int 0, .int xt, .int 0, .int 0])), (r_faults, .inl (c_r_faults, 4, .inl (fun _ => 0))), (a_tok, .inr (9, [.ref t_text, .ref t_words, .ref t_kinds, .ref t_places, .ref t_wholes, .ref t_reals, .int 0, .int 0, .int 0, .int 0, .int 0, .int 0, .int 0, .int 0, .long 0, .double FP.dconst0])), (t_text, .inl (c_t_text, 3000, .inl f_text)), (t_kinds, .inl (c_t_kinds, 3001, .inl (fun _ => 0))), (t_places, .inl (c_t_places, 3001, .inl (fun _ => 0))), (t_wholes, .inl (c_t_wholes, 3001, .inr (.inl (fun _ => 0)))), (t_reals, .inl (c_t_reals, 3001, .inr (.inr (.inr (.inl (fun _ => 0)))))), (a_draft, .inr (7, [.ref g_code, .int 0, .ref g_constants, .ref g_names, .ref g_starts, .ref g_parameters, .ref g_variables, .int 0])), (g_constants, .inr (8, [.ref k_kinds, .ref k_wholes, .ref k_reals, .int 0])), (k_kinds, .inl (c_k_kinds, 32, .inl f_kk))] _ := hP
  have hD : va_D A [(h0, .inr (6, [.ref a_tok, .ref r_names, .ref a_draft, .ref r_faults, .ref r_variables, .int 0, .int 0, .int 0, .int xt, .int 0, .int 0])), (r_faults, .inl (c_r_faults, 4, .inl (fun _ => 0))), (a_tok, .inr (9, [.ref t_text, .ref t_words, .ref t_kinds, .ref t_places, .ref t_wholes, .ref t_reals, .int 0, .int 0, .int 0, .int 0, .int 0, .int 0, .int 0, .int 0, .long 0, .double FP.dconst0])), (t_text, .inl (c_t_text, 3000, .inl f_text)), (t_kinds, .inl (c_t_kinds, 3001, .inl (fun _ => 0))), (t_places, .inl (c_t_places, 3001, .inl (fun _ => 0))), (t_wholes, .inl (c_t_wholes, 3001, .inr (.inl (fun _ => 0)))), (t_reals, .inl (c_t_reals, 3001, .inr (.inr (.inr (.inl (fun _ => 0)))))), (a_draft, .inr (7, [.ref g_code, .int 0, .ref g_constants, .ref g_names, .ref g_starts, .ref g_parameters, .ref g_variables, .int 0])), (g_constants, .inr (8, [.ref k_kinds, .ref k_wholes, .ref k_reals, .int 0])), (k_kinds, .inl (c_k_kinds, 32, .inl f_kk))] := hD
  refine lv_aload_n hx hb dX7_parse_27 rfl (lv_at hl 0 rfl) ?_
  refine va_get (D := (dC, dI)) (ci := 6) (v := .ref r_faults) (C := RX7) (T := TX7) (N := 11) hx hb hts in_wqX7_parse_RX7 hown hK hP 0 rfl rfl 3 (by decide) (hts (.fieldLink RX7 9 "FourTongues$Parser" "faults" "[I") (by decide +kernel)) (fun _ h9 => h9) rfl dX7_parse_28 ?_
  refine lv_iconst (v := (-1)) hx hb dX7_parse_31 (by decide) ?_
  have hPc := hP.sub (ws' := [(r_faults, .inl (c_r_faults, 4, .inl (fun _ => 0)))]) [1] rfl
  have hDc := hD.sub (ws' := [(r_faults, .inl (c_r_faults, 4, .inl (fun _ => 0)))]) [1] (by decide) rfl
  have hKc := hK.sub (tys' := [(c_r_faults, .int)]) [1] rfl
  have hFc := va_free (wc := [(r_faults, .inl (c_r_faults, 4, .inl (fun _ => 0)))]) hD hS hA [1] rfl
  refine va_callv (va_runS (As := [.ref r_faults, .int (-1)]) (rest := []) ⟨hx, hb, hml, hown, hts⟩ (c_J7_fill_53178 l dC dI H.size r_faults c_r_faults 4 (fun _ => 0) (-1) (by decide)) (va_cwS 2 hts gq_wqX7_parse_wsJ7_fill_53178_70 rfl rfl rfl (by decide +kernel) ⟨Nat.le_of_ble_eq_true rfl, Nat.le_of_ble_eq_true rfl⟩) ⟨fb_M, fun U hU hW => ⟨rfl, xM.at hPc hKc hDc hU hW⟩⟩ rfl rfl hl.1 rfl (lv_room (Nat.le_of_ble_eq_true rfl)) dX7_parse_32 ⟨Nat.le_of_ble_eq_true rfl, Nat.le_of_ble_eq_true rfl⟩) hS (fun q _ h => hFc q h) hFc (fun u t H locs ht hvm hw hB hz1 hk1 hS => ?_)
  obtain ⟨f_1, hf_2, hB⟩ := hB
  obtain ⟨hP, hD, hK⟩ := xB.join (wr := [(h0, .inr (6, [.ref a_tok, .ref r_names, .ref a_draft, .ref r_faults, .ref r_variables, .int 0, .int 0, .int 0, .int xt, .int 0, .int 0])), (a_tok, .inr (9, [.ref t_text, .ref t_words, .ref t_kinds, .ref t_places, .ref t_wholes, .ref t_reals, .int 0, .int 0, .int 0, .int 0, .int 0, .int 0, .int 0, .int 0, .long 0, .double FP.dconst0])), (t_text, .inl (c_t_text, 3000, .inl f_text)), (t_kinds, .inl (c_t_kinds, 3001, .inl (fun _ => 0))), (t_places, .inl (c_t_places, 3001, .inl (fun _ => 0))), (t_wholes, .inl (c_t_wholes, 3001, .inr (.inl (fun _ => 0)))), (t_reals, .inl (c_t_reals, 3001, .inr (.inr (.inr (.inl (fun _ => 0)))))), (a_draft, .inr (7, [.ref g_code, .int 0, .ref g_constants, .ref g_names, .ref g_starts, .ref g_parameters, .ref g_variables, .int 0])), (g_constants, .inr (8, [.ref k_kinds, .ref k_wholes, .ref k_reals, .int 0])), (k_kinds, .inl (c_k_kinds, 32, .inl f_kk))]) (w1 := [(r_faults, .inl (c_r_faults, 4, .inl f_1))]) hP hD hK [1] [0, 2, 3, 4, 5, 6, 7, 8, 9, 10] rfl rfl (by decide) (by decide) hk1 hFc hB ht hvm
  have hP : va_P (dC, dI) vwCl [(h0, .inr (6, [.ref a_tok, .ref r_names, .ref a_draft, .ref r_faults, .ref r_variables, .int 0, .int 0, .int 0, .int xt, .int 0, .int 0])), (a_tok, .inr (9, [.ref t_text, .ref t_words, .ref t_kinds, .ref t_places, .ref t_wholes, .ref t_reals, .int 0, .int 0, .int 0, .int 0, .int 0, .int 0, .int 0, .int 0, .long 0, .double FP.dconst0])), (t_text, .inl (c_t_text, 3000, .inl f_text)), (t_kinds, .inl (c_t_kinds, 3001, .inl (fun _ => 0))), (t_places, .inl (c_t_places, 3001, .inl (fun _ => 0))), (t_wholes, .inl (c_t_wholes, 3001, .inr (.inl (fun _ => 0)))), (t_reals, .inl (c_t_reals, 3001, .inr (.inr (.inr (.inl (fun _ => 0)))))), (a_draft, .inr (7, [.ref g_code, .int 0, .ref g_constants, .ref g_names, .ref g_starts, .ref g_parameters, .ref g_variables, .int 0])), (g_constants, .inr (8, [.ref k_kinds, .ref k_wholes, .ref k_reals, .int 0])), (k_kinds, .inl (c_k_kinds, 32, .inl f_kk)), (r_faults, .inl (c_r_faults, 4, .inl f_1))] _ := hP
  have hD : va_D A [(h0, .inr (6, [.ref a_tok, .ref r_names, .ref a_draft, .ref r_faults, .ref r_variables, .int 0, .int 0, .int 0, .int xt, .int 0, .int 0])), (a_tok, .inr (9, [.ref t_text, .ref t_words, .ref t_kinds, .ref t_places, .ref t_wholes, .ref t_reals, .int 0, .int 0, .int 0, .int 0, .int 0, .int 0, .int 0, .int 0, .long 0, .double FP.dconst0])), (t_text, .inl (c_t_text, 3000, .inl f_text)), (t_kinds, .inl (c_t_kinds, 3001, .inl (fun _ => 0))), (t_places, .inl (c_t_places, 3001, .inl (fun _ => 0))), (t_wholes, .inl (c_t_wholes, 3001, .inr (.inl (fun _ => 0)))), (t_reals, .inl (c_t_reals, 3001, .inr (.inr (.inr (.inl (fun _ => 0)))))), (a_draft, .inr (7, [.ref g_code, .int 0, .ref g_constants, .ref g_names, .ref g_starts, .ref g_parameters, .ref g_variables, .int 0])), (g_constants, .inr (8, [.ref k_kinds, .ref k_wholes, .ref k_reals, .int 0])), (k_kinds, .inl (c_k_kinds, 32, .inl f_kk)), (r_faults, .inl (c_r_faults, 4, .inl f_1))] := hD
  have hK : va_K (dC, dI) vwCl [(c_k_kinds, .int), (c_r_faults, .int), (c_t_text, .byte), (c_t_kinds, .int), (c_t_places, .int), (c_t_wholes, .long), (c_t_reals, .double), (c_k_kinds, .int), (c_k_kinds, .int), (c_r_faults, .int)] s := hK
  refine lv_aload_n hx hb dX7_parse_35 rfl (lv_at hl 0 rfl) ?_
  refine va_get (D := (dC, dI)) (ci := 6) (v := .ref a_tok) (C := RX7) (T := TX7) (N := 11) hx hb hts in_wqX7_parse_RX7 hown hK hP 0 rfl rfl 0 (by decide) (hts (.fieldLink RX7 43 "FourTongues$Parser" "tokens" "LFourTongues$Tokens;") (by decide +kernel)) (fun _ h9 => h9) rfl dX7_parse_36 ?_
  refine lv_iload_n hx hb dX7_parse_39 rfl (lv_at hl 1 rfl) ?_
  refine lv_iload_n hx hb dX7_parse_40 rfl (lv_at hl 2 rfl) ?_
  have hPc := hP.sub (ws' := [(a_tok, .inr (9, [.ref t_text, .ref t_words, .ref t_kinds, .ref t_places, .ref t_wholes, .ref t_reals, .int 0, .int 0, .int 0, .int 0, .int 0, .int 0, .int 0, .int 0, .long 0, .double FP.dconst0])), (t_text, .inl (c_t_text, 3000, .inl f_text)), (t_kinds, .inl (c_t_kinds, 3001, .inl (fun _ => 0))), (t_places, .inl (c_t_places, 3001, .inl (fun _ => 0))), (t_wholes, .inl (c_t_wholes, 3001, .inr (.inl (fun _ => 0)))), (t_reals, .inl (c_t_reals, 3001, .inr (.inr (.inr (.inl (fun _ => 0))))))]) [1, 2, 3, 4, 5, 6] rfl
  have hDc := hD.sub (ws' := [(a_tok, .inr (9, [.ref t_text, .ref t_words, .ref t_kinds, .ref t_places, .ref t_wholes, .ref t_reals, .int 0, .int 0, .int 0, .int 0, .int 0, .int 0, .int 0, .int 0, .long 0, .double FP.dconst0])), (t_text, .inl (c_t_text, 3000, .inl f_text)), (t_kinds, .inl (c_t_kinds, 3001, .inl (fun _ => 0))), (t_places, .inl (c_t_places, 3001, .inl (fun _ => 0))), (t_wholes, .inl (c_t_wholes, 3001, .inr (.inl (fun _ => 0)))), (t_reals, .inl (c_t_reals, 3001, .inr (.inr (.inr (.inl (fun _ => 0))))))]) [1, 2, 3, 4, 5, 6] (by decide) rfl
  have hKc := hK.sub (tys' := [(c_t_text, .byte), (c_t_kinds, .int), (c_t_places, .int), (c_t_wholes, .long), (c_t_reals, .double)]) [2, 3, 4, 5, 6] rfl
  have hFc := va_free (wc := [(a_tok, .inr (9, [.ref t_text, .ref t_words, .ref t_kinds, .ref t_places, .ref t_wholes, .ref t_reals, .int 0, .int 0, .int 0, .int 0, .int 0, .int 0, .int 0, .int 0, .long 0, .double FP.dconst0])), (t_text, .inl (c_t_text, 3000, .inl f_text)), (t_kinds, .inl (c_t_kinds, 3001, .inl (fun _ => 0))), (t_places, .inl (c_t_places, 3001, .inl (fun _ => 0))), (t_wholes, .inl (c_t_wholes, 3001, .inr (.inl (fun _ => 0)))), (t_reals, .inl (c_t_reals, 3001, .inr (.inr (.inr (.inl (fun _ => 0))))))]) hD hS hA [1, 2, 3, 4, 5, 6] rfl
  refine va_callv (va_runV (As := [.int xt, .int 0]) (rest := []) ⟨hx, hb, hml, hown, hts⟩ (c_X10_begin l dC dI H.size a_tok t_text t_words t_kinds t_places t_wholes t_reals c_t_text f_text c_t_kinds c_t_places c_t_wholes c_t_reals xt ) (cwV 2 hts gq_wqX7_parse_wqX10_begin_76 rfl rfl rfl (by decide +kernel) ⟨Nat.le_of_ble_eq_true rfl, Nat.le_of_ble_eq_true rfl⟩) ⟨fb_M, va_recv hK hP (ci := 9) (q0 := 1) rfl rfl, fun U hU hW => ⟨rfl, xM.at hPc hKc hDc hU hW⟩⟩ rfl rfl hl.1 rfl (lv_room (Nat.le_of_ble_eq_true rfl)) dX7_parse_41 ⟨Nat.le_of_ble_eq_true rfl, Nat.le_of_ble_eq_true rfl⟩) hS (fun q _ h => hFc q h) hFc (fun u t H locs ht hvm hw hB hz1 hk1 hS => ?_)
  obtain ⟨f_3, f_4, f_5, hB⟩ := hB
  obtain ⟨hP, hD, hK⟩ := xB.join (wr := [(h0, .inr (6, [.ref a_tok, .ref r_names, .ref a_draft, .ref r_faults, .ref r_variables, .int 0, .int 0, .int 0, .int xt, .int 0, .int 0])), (a_draft, .inr (7, [.ref g_code, .int 0, .ref g_constants, .ref g_names, .ref g_starts, .ref g_parameters, .ref g_variables, .int 0])), (g_constants, .inr (8, [.ref k_kinds, .ref k_wholes, .ref k_reals, .int 0])), (k_kinds, .inl (c_k_kinds, 32, .inl f_kk)), (r_faults, .inl (c_r_faults, 4, .inl f_1))]) (w1 := [(a_tok, .inr (9, [.ref t_text, .ref t_words, .ref t_kinds, .ref t_places, .ref t_wholes, .ref t_reals, .int 1, .int 0, .int xt, .int 0, .int 0, .int 0, .int 0, .int (f_3 0), .long (f_4 0), .double (f_5 0)]))]) hP hD hK [1, 2, 3, 4, 5, 6] [0, 7, 8, 9, 10] rfl rfl (by decide) (by decide) hk1 hFc hB ht hvm
  have hP : va_P (dC, dI) vwCl [(h0, .inr (6, [.ref a_tok, .ref r_names, .ref a_draft, .ref r_faults, .ref r_variables, .int 0, .int 0, .int 0, .int xt, .int 0, .int 0])), (a_draft, .inr (7, [.ref g_code, .int 0, .ref g_constants, .ref g_names, .ref g_starts, .ref g_parameters, .ref g_variables, .int 0])), (g_constants, .inr (8, [.ref k_kinds, .ref k_wholes, .ref k_reals, .int 0])), (k_kinds, .inl (c_k_kinds, 32, .inl f_kk)), (r_faults, .inl (c_r_faults, 4, .inl f_1)), (a_tok, .inr (9, [.ref t_text, .ref t_words, .ref t_kinds, .ref t_places, .ref t_wholes, .ref t_reals, .int 1, .int 0, .int xt, .int 0, .int 0, .int 0, .int 0, .int (f_3 0), .long (f_4 0), .double (f_5 0)]))] _ := hP
  have hD : va_D A [(h0, .inr (6, [.ref a_tok, .ref r_names, .ref a_draft, .ref r_faults, .ref r_variables, .int 0, .int 0, .int 0, .int xt, .int 0, .int 0])), (a_draft, .inr (7, [.ref g_code, .int 0, .ref g_constants, .ref g_names, .ref g_starts, .ref g_parameters, .ref g_variables, .int 0])), (g_constants, .inr (8, [.ref k_kinds, .ref k_wholes, .ref k_reals, .int 0])), (k_kinds, .inl (c_k_kinds, 32, .inl f_kk)), (r_faults, .inl (c_r_faults, 4, .inl f_1)), (a_tok, .inr (9, [.ref t_text, .ref t_words, .ref t_kinds, .ref t_places, .ref t_wholes, .ref t_reals, .int 1, .int 0, .int xt, .int 0, .int 0, .int 0, .int 0, .int (f_3 0), .long (f_4 0), .double (f_5 0)]))] := hD
  have hK : va_K (dC, dI) vwCl [(c_k_kinds, .int), (c_r_faults, .int), (c_t_text, .byte), (c_t_kinds, .int), (c_t_places, .int), (c_t_wholes, .long), (c_t_reals, .double), (c_k_kinds, .int), (c_k_kinds, .int), (c_r_faults, .int)] s := hK
  refine lv_iconst (v := 0) hx hb dX7_parse_44 (by decide) ?_
  refine lv_istore (lv' := [(4, .int 0), (0, .ref h0), (1, .int xt), (2, .int 0), (3, .ref a_draft)]) hx hb dX7_parse_45 hl (by decide) rfl (fun ls hl => ?_)
  refine lv_iload hx hb dX7_parse_47 (lv_at hl 0 rfl) ?_
  refine lv_sipush (v := 3000) hx hb dX7_parse_49 (by decide) ?_
  refine lv_icmp_ge (tgt := 130) hx hb dX7_parse_52 (by decide) (fun c_52 => absurd c_52 (by decide)) (fun c_52 => ?_)
  refine lv_aload_n hx hb dX7_parse_55 rfl (lv_at hl 1 rfl) ?_
  refine va_get (D := (dC, dI)) (ci := 6) (v := .ref a_tok) (C := RX7) (T := TX7) (N := 11) hx hb hts in_wqX7_parse_RX7 hown hK hP 0 rfl rfl 0 (by decide) (hts (.fieldLink RX7 43 "FourTongues$Parser" "tokens" "LFourTongues$Tokens;") (by decide +kernel)) (fun _ h9 => h9) rfl dX7_parse_56 ?_
  refine va_getN (D := (dC, dI)) (ci := 9) (v := .int 0) (C := RX10) (T := TX10) (N := 16) hx hb hts in_wqX7_parse_RX10 hown hK hP 5 rfl rfl 12 (by decide) (va_Nw.use rfl hNk) (fun _ h9 => h9) rfl dX7_parse_59 ?_
  refine lv_if_eq (tgt := 130) hx hb dX7_parse_62 (by decide) (fun c_62 => ?_) (fun c_62 => absurd c_62 (by decide))
  refine lv_aload_n hx hb dX7_parse_130 rfl (lv_at hl 1 rfl) ?_
  refine va_get (D := (dC, dI)) (ci := 6) (v := .ref a_tok) (C := RX7) (T := TX7) (N := 11) hx hb hts in_wqX7_parse_RX7 hown hK hP 0 rfl rfl 0 (by decide) (hts (.fieldLink RX7 43 "FourTongues$Parser" "tokens" "LFourTongues$Tokens;") (by decide +kernel)) (fun _ h9 => h9) rfl dX7_parse_131 ?_
  refine va_getN (D := (dC, dI)) (ci := 9) (v := .int 0) (C := RX10) (T := TX10) (N := 16) hx hb hts in_wqX7_parse_RX10 hown hK hP 5 rfl rfl 12 (by decide) (va_Nw.use rfl hNk) (fun _ h9 => h9) rfl dX7_parse_134 ?_
  refine lv_iconst (v := 3) hx hb dX7_parse_137 (by decide) ?_
  refine lv_icmp_ne (tgt := 154) hx hb dX7_parse_138 (by decide) (fun c_138 => ?_) (fun c_138 => absurd c_138 (by decide))
  have hP := hP.sub (ws' := [(h0, .inr (6, [.ref a_tok, .ref r_names, .ref a_draft, .ref r_faults, .ref r_variables, .int 0, .int 0, .int 0, .int xt, .int 0, .int 0])), (a_draft, .inr (7, [.ref g_code, .int 0, .ref g_constants, .ref g_names, .ref g_starts, .ref g_parameters, .ref g_variables, .int 0])), (r_faults, .inl (c_r_faults, 4, .inl f_1))]) [0, 1, 4] rfl
  have hD := hD.sub (ws' := [(h0, .inr (6, [.ref a_tok, .ref r_names, .ref a_draft, .ref r_faults, .ref r_variables, .int 0, .int 0, .int 0, .int xt, .int 0, .int 0])), (a_draft, .inr (7, [.ref g_code, .int 0, .ref g_constants, .ref g_names, .ref g_starts, .ref g_parameters, .ref g_variables, .int 0])), (r_faults, .inl (c_r_faults, 4, .inl f_1))]) [0, 1, 4] (by decide) rfl
  have hP9 := hP.sub (ws' := [(h0, .inr (6, [.ref a_tok, .ref r_names, .ref a_draft, .ref r_faults, .ref r_variables, .int 0, .int 0, .int 0, .int xt, .int 0, .int 0])), (a_draft, .inr (7, [.ref g_code, .int 0, .ref g_constants, .ref g_names, .ref g_starts, .ref g_parameters, .ref g_variables, .int 0])), (r_faults, .inl (c_r_faults, 4, .inl f_1))]) [0, 1, 2] rfl
  have hD9 := hD.sub (ws' := [(h0, .inr (6, [.ref a_tok, .ref r_names, .ref a_draft, .ref r_faults, .ref r_variables, .int 0, .int 0, .int 0, .int xt, .int 0, .int 0])), (a_draft, .inr (7, [.ref g_code, .int 0, .ref g_constants, .ref g_names, .ref g_starts, .ref g_parameters, .ref g_variables, .int 0])), (r_faults, .inl (c_r_faults, 4, .inl f_1))]) [0, 1, 2] (by decide) rfl
  have hK9 := hK.sub (tys' := [(c_r_faults, .int), (c_r_faults, .int)]) [1, 1] rfl
  exact W.vret hx hb hr (fun t ht hW => ⟨⟨(), rfl, trivial, ⟨f_1, hf_2, by rw [ht]; exact hP9, va_K.moved hW.alike hK9, hD9⟩⟩, hS.F ht⟩) hS.2.2 dX7_parse_154

def wqX7_faultKind : List Cond := .code yX7_faultKind cX7_faultKind 2 (some .int) :: (([.fieldLink RX7 9 "FourTongues$Parser" "faults" "[I"] : List Cond) ++ wsX70)
theorem in_wqX7_faultKind_RX7 : ∀ w ∈ u_ws RX7 TX7 11, w ∈ wqX7_faultKind := fun w h => (List.mem_cons_of_mem _ (List.mem_append_right _ h))
set_option maxHeartbeats 4000000 in
set_option maxRecDepth 100000 in
theorem c_X7_faultKind (l : Launch) (dC : Nat → ClassId) (dI : Nat → Nat → Nat) (h0 : Nat) (a_tok : Nat) (a_draft : Nat) (r_names : Nat) (r_faults : Nat) (r_variables : Nat) (c_r_faults : ClassId) (f_fl : Nat → Int32) (xt : Int32) (hf : ∀ j, j < 4 → f_fl j = -1) : Met l yX7_faultKind wqX7_faultKind ({ frames := 0, cells := 0, slots := 0, locals := 0 }) (va_Pc [.ref h0] (fun U => xR (dC, dI) [(h0, .inr (6, [.ref a_tok, .ref r_names, .ref a_draft, .ref r_faults, .ref r_variables, .int 0, .int 0, .int 0, .int xt, .int 0, .int 0])), (r_faults, .inl (c_r_faults, 4, .inl f_fl))] [(c_r_faults, .int)] U)) (va_Qi (fun (r : Int32) (_ : Unit) => r = 0) (fun (_ : Unit) _ => True) (fun _ => False)) 0 0 (fun _ => False) := by
  refine Met.ofW (cc := cX7_faultKind) (maxL := 2) (ret := (some .int)) (by decide) rfl ?_
  intro p e s m args below meth c s₁ B hml hv
  obtain ⟨rfl, hP, hK⟩ := hv
  have hx := B.exec
  have hb := B.bytes
  have hr := B.returns
  have hts := atoms_spec (ws := wqX7_faultKind) B.pre
  have hown : s.vm.findClass RX7 = some m.cls := findClass_of_methodNamed B.named
  have hlocks := B.notSynchronized
  have hS : va_S (fun _ => False) s.heap s.heap [] := va_S.rf
  have hl := lv_entry ([.ref h0]) (n := 2) (Nat.le_of_ble_eq_true rfl)
  rw [lg_entry_eq]
  generalize (lg_sl ([.ref h0]) ++ List.replicate (2 - (lg_sl ([.ref h0])).length) Slot.unset).toArray = ls at hl ⊢
  have hl : lv_has ls 2 [(0, .ref h0)] := hl
  refine lv_iconst (v := 1) hx hb dX7_faultKind_0 (by decide) ?_
  refine lv_istore_n (lv' := [(1, .int 1), (0, .ref h0)]) hx hb dX7_faultKind_1 rfl hl (by decide) rfl (fun ls hl => ?_)
  refine lv_iload_n hx hb dX7_faultKind_2 rfl (lv_at hl 0 rfl) ?_
  refine lv_iconst (v := 3) hx hb dX7_faultKind_3 (by decide) ?_
  refine lv_icmp_gt (tgt := 24) hx hb dX7_faultKind_4 (by decide) (fun c_4 => absurd c_4 (by decide)) (fun c_4 => ?_)
  refine lv_aload_n hx hb dX7_faultKind_7 rfl (lv_at hl 1 rfl) ?_
  refine va_get (D := (dC, dI)) (ci := 6) (v := .ref r_faults) (C := RX7) (T := TX7) (N := 11) hx hb hts in_wqX7_faultKind_RX7 hown hK hP 0 rfl rfl 3 (by decide) (hts (.fieldLink RX7 9 "FourTongues$Parser" "faults" "[I") (by decide +kernel)) (fun _ h9 => h9) rfl dX7_faultKind_8 ?_
  refine lv_iload_n hx hb dX7_faultKind_11 rfl (lv_at hl 0 rfl) ?_
  refine va_iald hx hb hK hP 1 0 rfl rfl (by unfold vp_in; decide) dX7_faultKind_12 ?_
  try rw [show ((1 : Int32).toNatClampNeg) = 1 from by decide]
  refine my_ti (v := -1) (hf 1 (by decide)) ?_
  refine lv_if_lt (tgt := 18) hx hb dX7_faultKind_13 (by decide) (fun c_13 => ?_) (fun c_13 => absurd c_13 (by decide))
  refine lv_iinc (v := 2) (lv' := [(1, .int 2), (0, .ref h0)]) hx hb dX7_faultKind_18 hl (k := 0) rfl (by decide) (by decide) rfl (fun ls hl => ?_)
  refine lv_goto (tgt := 2) hx hb dX7_faultKind_21 (by decide) ?_
  refine lv_iload_n hx hb dX7_faultKind_2 rfl (lv_at hl 0 rfl) ?_
  refine lv_iconst (v := 3) hx hb dX7_faultKind_3 (by decide) ?_
  refine lv_icmp_gt (tgt := 24) hx hb dX7_faultKind_4 (by decide) (fun c_4 => absurd c_4 (by decide)) (fun c_4 => ?_)
  refine lv_aload_n hx hb dX7_faultKind_7 rfl (lv_at hl 1 rfl) ?_
  refine va_get (D := (dC, dI)) (ci := 6) (v := .ref r_faults) (C := RX7) (T := TX7) (N := 11) hx hb hts in_wqX7_faultKind_RX7 hown hK hP 0 rfl rfl 3 (by decide) (hts (.fieldLink RX7 9 "FourTongues$Parser" "faults" "[I") (by decide +kernel)) (fun _ h9 => h9) rfl dX7_faultKind_8 ?_
  refine lv_iload_n hx hb dX7_faultKind_11 rfl (lv_at hl 0 rfl) ?_
  refine va_iald hx hb hK hP 1 0 rfl rfl (by unfold vp_in; decide) dX7_faultKind_12 ?_
  try rw [show ((2 : Int32).toNatClampNeg) = 2 from by decide]
  refine my_ti (v := -1) (hf 2 (by decide)) ?_
  refine lv_if_lt (tgt := 18) hx hb dX7_faultKind_13 (by decide) (fun c_13 => ?_) (fun c_13 => absurd c_13 (by decide))
  refine lv_iinc (v := 3) (lv' := [(1, .int 3), (0, .ref h0)]) hx hb dX7_faultKind_18 hl (k := 0) rfl (by decide) (by decide) rfl (fun ls hl => ?_)
  refine lv_goto (tgt := 2) hx hb dX7_faultKind_21 (by decide) ?_
  refine lv_iload_n hx hb dX7_faultKind_2 rfl (lv_at hl 0 rfl) ?_
  refine lv_iconst (v := 3) hx hb dX7_faultKind_3 (by decide) ?_
  refine lv_icmp_gt (tgt := 24) hx hb dX7_faultKind_4 (by decide) (fun c_4 => absurd c_4 (by decide)) (fun c_4 => ?_)
  refine lv_aload_n hx hb dX7_faultKind_7 rfl (lv_at hl 1 rfl) ?_
  refine va_get (D := (dC, dI)) (ci := 6) (v := .ref r_faults) (C := RX7) (T := TX7) (N := 11) hx hb hts in_wqX7_faultKind_RX7 hown hK hP 0 rfl rfl 3 (by decide) (hts (.fieldLink RX7 9 "FourTongues$Parser" "faults" "[I") (by decide +kernel)) (fun _ h9 => h9) rfl dX7_faultKind_8 ?_
  refine lv_iload_n hx hb dX7_faultKind_11 rfl (lv_at hl 0 rfl) ?_
  refine va_iald hx hb hK hP 1 0 rfl rfl (by unfold vp_in; decide) dX7_faultKind_12 ?_
  try rw [show ((3 : Int32).toNatClampNeg) = 3 from by decide]
  refine my_ti (v := -1) (hf 3 (by decide)) ?_
  refine lv_if_lt (tgt := 18) hx hb dX7_faultKind_13 (by decide) (fun c_13 => ?_) (fun c_13 => absurd c_13 (by decide))
  refine lv_iinc (v := 4) (lv' := [(1, .int 4), (0, .ref h0)]) hx hb dX7_faultKind_18 hl (k := 0) rfl (by decide) (by decide) rfl (fun ls hl => ?_)
  refine lv_goto (tgt := 2) hx hb dX7_faultKind_21 (by decide) ?_
  refine lv_iload_n hx hb dX7_faultKind_2 rfl (lv_at hl 0 rfl) ?_
  refine lv_iconst (v := 3) hx hb dX7_faultKind_3 (by decide) ?_
  refine lv_icmp_gt (tgt := 24) hx hb dX7_faultKind_4 (by decide) (fun c_4 => ?_) (fun c_4 => absurd c_4 (by decide))
  refine lv_iconst (v := 0) hx hb dX7_faultKind_24 (by decide) ?_
  exact W.iret (v := 0) hx hb hr (fun t ht hW => ⟨⟨0, (), rfl, rfl, trivial⟩, hS.F ht⟩) hS.2.2 dX7_faultKind_25

def wqX11_load : List Cond := .code yX11_load cX11_load 4 (some .int) :: (([.methodLink RX11 67 yX11_isTongue, .static yX11_isTongue, .initialized RX11, .fieldLink RX11 13 "FourTongues" "taped" "I", .fieldLink RX11 23 "FourTongues" "names" "LFourTongues$Names;", .methodLink RX11 71 yX5_keep, .instanceMethod yX5_keep, .selects RX5 yX5_keep yX5_keep, .initialized RX5, .fieldLink RX11 50 "FourTongues" "parser" "LFourTongues$Parser;", .fieldLink RX11 41 "FourTongues" "draft" "LFourTongues$Program;", .methodLink RX11 74 yX7_parse, .instanceMethod yX7_parse, .selects RX7 yX7_parse yX7_parse, .initialized RX7, .methodLink RX11 78 yX7_faultKind, .instanceMethod yX7_faultKind, .selects RX7 yX7_faultKind yX7_faultKind, .fieldLink RX11 17 "FourTongues" "faultKind" "I", .fieldLink RX11 36 "FourTongues" "programs" "[LFourTongues$Program;", .methodLink RX11 87 yX8_functions, .instanceMethod yX8_functions, .selects RX8 yX8_functions yX8_functions, .initialized RX8] : List Cond) ++ (wsX11_isTongue ++ (wsX110 ++ (wqX5_keep ++ (wqX7_parse ++ (wqX7_faultKind ++ wsX8_functions))))))
theorem in_wqX11_load_RX11 : ∀ w ∈ u_ws RX11 TX11 9, w ∈ wqX11_load := fun w h => (List.mem_cons_of_mem _ (List.mem_append_right _ (List.mem_append_right _ (List.mem_append_left _ h))))
set_option maxRecDepth 100000 in
theorem ggq_wqX11_load_wsX11_isTongue : GoodIn wqX11_load wsX11_isTongue := goodIn_sub (fun w h => (List.mem_cons_of_mem _ (List.mem_append_right _ (List.mem_append_left _ h)))) (by decide +kernel)
set_option maxRecDepth 100000 in
theorem gq_wqX11_load_wsX11_isTongue_67 : GoodIn wqX11_load (va_wsS RX11 67 yX11_isTongue wsX11_isTongue) := goodIn_app (goodIn_of _ (by decide +kernel)) ggq_wqX11_load_wsX11_isTongue
set_option maxRecDepth 100000 in
theorem ggq_wqX11_load_wqX5_keep : GoodIn wqX11_load wqX5_keep := goodIn_sub (fun w h => (List.mem_cons_of_mem _ (List.mem_append_right _ (List.mem_append_right _ (List.mem_append_right _ (List.mem_append_left _ h)))))) (by decide +kernel)
set_option maxRecDepth 100000 in
theorem gq_wqX11_load_wqX5_keep_71 : GoodIn wqX11_load (wsV RX11 71 RX5 yX5_keep wqX5_keep) := goodIn_app (goodIn_of _ (by decide +kernel)) ggq_wqX11_load_wqX5_keep
set_option maxRecDepth 100000 in
theorem ggq_wqX11_load_wqX7_parse : GoodIn wqX11_load wqX7_parse := goodIn_sub (fun w h => (List.mem_cons_of_mem _ (List.mem_append_right _ (List.mem_append_right _ (List.mem_append_right _ (List.mem_append_right _ (List.mem_append_left _ h))))))) (by decide +kernel)
set_option maxRecDepth 100000 in
theorem gq_wqX11_load_wqX7_parse_74 : GoodIn wqX11_load (wsV RX11 74 RX7 yX7_parse wqX7_parse) := goodIn_app (goodIn_of _ (by decide +kernel)) ggq_wqX11_load_wqX7_parse
set_option maxRecDepth 100000 in
theorem ggq_wqX11_load_wqX7_faultKind : GoodIn wqX11_load wqX7_faultKind := goodIn_sub (fun w h => (List.mem_cons_of_mem _ (List.mem_append_right _ (List.mem_append_right _ (List.mem_append_right _ (List.mem_append_right _ (List.mem_append_right _ (List.mem_append_left _ h)))))))) (by decide +kernel)
set_option maxRecDepth 100000 in
theorem gq_wqX11_load_wqX7_faultKind_78 : GoodIn wqX11_load (wsV RX11 78 RX7 yX7_faultKind wqX7_faultKind) := goodIn_app (goodIn_of _ (by decide +kernel)) ggq_wqX11_load_wqX7_faultKind
set_option maxRecDepth 100000 in
theorem ggq_wqX11_load_wsX8_functions : GoodIn wqX11_load wsX8_functions := goodIn_sub (fun w h => (List.mem_cons_of_mem _ (List.mem_append_right _ (List.mem_append_right _ (List.mem_append_right _ (List.mem_append_right _ (List.mem_append_right _ (List.mem_append_right _ h)))))))) (by decide +kernel)
set_option maxRecDepth 100000 in
theorem gq_wqX11_load_wsX8_functions_87 : GoodIn wqX11_load (wsV RX11 87 RX8 yX8_functions wsX8_functions) := goodIn_app (goodIn_of _ (by decide +kernel)) ggq_wqX11_load_wsX8_functions
set_option maxHeartbeats 4000000 in
set_option maxRecDepth 100000 in
theorem c_X11_load (l : Launch) (dC : Nat → ClassId) (dI : Nat → Nat → Nat) (sz : Nat) (h0 : Nat) (v_parser : Nat) (v_draft : Nat) (a_tok : Nat) (v_names : Nat) (v_borders : Nat) (v_programs : Nat) (v_machine : Nat) (n_packed : Nat) (n_above : Nat) (n_keptAbove : Nat) (c_n_above : ClassId) (f_above : Nat → Int32) (c_n_keptAbove : ClassId) (f_kept : Nat → Int32) (r_names : Nat) (r_faults : Nat) (r_variables : Nat) (t_text : Nat) (t_words : Nat) (t_kinds : Nat) (t_places : Nat) (t_wholes : Nat) (t_reals : Nat) (c_t_text : ClassId) (f_text : Nat → Int32) (c_t_kinds : ClassId) (c_t_places : ClassId) (c_t_wholes : ClassId) (c_t_reals : ClassId) (g_code : Nat) (g_constants : Nat) (g_names : Nat) (g_starts : Nat) (g_parameters : Nat) (g_variables : Nat) (k_kinds : Nat) (k_wholes : Nat) (k_reals : Nat) (c_k_kinds : ClassId) (f_kk : Nat → Int32) (c_r_faults : ClassId) (c_v_programs : ClassId) (f_prog : Nat → Option Nat) (p0 : Nat) (p1 : Nat) (p2 : Nat) (p3 : Nat) (x1 : Int32) (x2 : Int32) (hp0 : f_prog 0 = some p0) (hp1 : f_prog 1 = some p1) (hp2 : f_prog 2 = some p2) (hp3 : f_prog 3 = some p3) : Met l yX11_load wqX11_load ({ frames := 4, cells := 0, slots := 0, locals := 100 }) (va_Pc [.ref h0, .int x1, .int x2] (fun U => xM (dC, dI) sz [(h0, .inr (10, [.ref t_text, .int 0, .int 0, .ref v_names, .ref v_borders, .ref v_programs, .ref v_draft, .ref v_parser, .ref v_machine])), (v_names, .inr (5, [.ref n_packed, .ref n_above, .ref n_keptAbove, .int 11, .int 0])), (n_above, .inl (c_n_above, 52, .inl f_above)), (n_keptAbove, .inl (c_n_keptAbove, 52, .inl f_kept)), (v_parser, .inr (6, [.ref a_tok, .ref r_names, .ref v_draft, .ref r_faults, .ref r_variables, .int 0, .int 0, .int 0, .int 0, .int 0, .int 0])), (v_draft, .inr (7, [.ref g_code, .int 0, .ref g_constants, .ref g_names, .ref g_starts, .ref g_parameters, .ref g_variables, .int 0])), (g_constants, .inr (8, [.ref k_kinds, .ref k_wholes, .ref k_reals, .int 0])), (k_kinds, .inl (c_k_kinds, 32, .inl f_kk)), (r_faults, .inl (c_r_faults, 4, .inl (fun _ => 0))), (a_tok, .inr (9, [.ref t_text, .ref t_words, .ref t_kinds, .ref t_places, .ref t_wholes, .ref t_reals, .int 0, .int 0, .int 0, .int 0, .int 0, .int 0, .int 0, .int 0, .long 0, .double FP.dconst0])), (t_text, .inl (c_t_text, 3000, .inl f_text)), (t_kinds, .inl (c_t_kinds, 3001, .inl (fun _ => 0))), (t_places, .inl (c_t_places, 3001, .inl (fun _ => 0))), (t_wholes, .inl (c_t_wholes, 3001, .inr (.inl (fun _ => 0)))), (t_reals, .inl (c_t_reals, 3001, .inr (.inr (.inr (.inl (fun _ => 0)))))), (v_programs, .inl (c_v_programs, 4, .inr (.inr (.inr (.inr f_prog)))))] [(c_n_above, .int), (c_n_keptAbove, .int), (c_k_kinds, .int), (c_r_faults, .int), (c_t_text, .byte), (c_t_kinds, .int), (c_t_places, .int), (c_t_wholes, .long), (c_t_reals, .double), (c_v_programs, .object RX8)] U ∧ va_Nw (.fieldLinkNest RX7 80 RX10 "kind" "I" RX11) U)) (va_Qi (fun (r : Int32) (_ : Unit) => (ldC x1 x2 ∧ r = -5000) ∨ (¬ ldC x1 x2 ∧ r = 0)) (fun (_ : Unit) _ => True) (va_A [(h0, .inr (10, [.ref t_text, .int 0, .int 0, .ref v_names, .ref v_borders, .ref v_programs, .ref v_draft, .ref v_parser, .ref v_machine])), (v_names, .inr (5, [.ref n_packed, .ref n_above, .ref n_keptAbove, .int 11, .int 0])), (n_above, .inl (c_n_above, 52, .inl f_above)), (n_keptAbove, .inl (c_n_keptAbove, 52, .inl f_kept)), (v_parser, .inr (6, [.ref a_tok, .ref r_names, .ref v_draft, .ref r_faults, .ref r_variables, .int 0, .int 0, .int 0, .int 0, .int 0, .int 0])), (v_draft, .inr (7, [.ref g_code, .int 0, .ref g_constants, .ref g_names, .ref g_starts, .ref g_parameters, .ref g_variables, .int 0])), (g_constants, .inr (8, [.ref k_kinds, .ref k_wholes, .ref k_reals, .int 0])), (k_kinds, .inl (c_k_kinds, 32, .inl f_kk)), (r_faults, .inl (c_r_faults, 4, .inl (fun _ => 0))), (a_tok, .inr (9, [.ref t_text, .ref t_words, .ref t_kinds, .ref t_places, .ref t_wholes, .ref t_reals, .int 0, .int 0, .int 0, .int 0, .int 0, .int 0, .int 0, .int 0, .long 0, .double FP.dconst0])), (t_text, .inl (c_t_text, 3000, .inl f_text)), (t_kinds, .inl (c_t_kinds, 3001, .inl (fun _ => 0))), (t_places, .inl (c_t_places, 3001, .inl (fun _ => 0))), (t_wholes, .inl (c_t_wholes, 3001, .inr (.inl (fun _ => 0)))), (t_reals, .inl (c_t_reals, 3001, .inr (.inr (.inr (.inl (fun _ => 0)))))), (v_programs, .inl (c_v_programs, 4, .inr (.inr (.inr (.inr f_prog)))))] sz)) 0 0 (va_A [(h0, .inr (10, [.ref t_text, .int 0, .int 0, .ref v_names, .ref v_borders, .ref v_programs, .ref v_draft, .ref v_parser, .ref v_machine])), (v_names, .inr (5, [.ref n_packed, .ref n_above, .ref n_keptAbove, .int 11, .int 0])), (n_above, .inl (c_n_above, 52, .inl f_above)), (n_keptAbove, .inl (c_n_keptAbove, 52, .inl f_kept)), (v_parser, .inr (6, [.ref a_tok, .ref r_names, .ref v_draft, .ref r_faults, .ref r_variables, .int 0, .int 0, .int 0, .int 0, .int 0, .int 0])), (v_draft, .inr (7, [.ref g_code, .int 0, .ref g_constants, .ref g_names, .ref g_starts, .ref g_parameters, .ref g_variables, .int 0])), (g_constants, .inr (8, [.ref k_kinds, .ref k_wholes, .ref k_reals, .int 0])), (k_kinds, .inl (c_k_kinds, 32, .inl f_kk)), (r_faults, .inl (c_r_faults, 4, .inl (fun _ => 0))), (a_tok, .inr (9, [.ref t_text, .ref t_words, .ref t_kinds, .ref t_places, .ref t_wholes, .ref t_reals, .int 0, .int 0, .int 0, .int 0, .int 0, .int 0, .int 0, .int 0, .long 0, .double FP.dconst0])), (t_text, .inl (c_t_text, 3000, .inl f_text)), (t_kinds, .inl (c_t_kinds, 3001, .inl (fun _ => 0))), (t_places, .inl (c_t_places, 3001, .inl (fun _ => 0))), (t_wholes, .inl (c_t_wholes, 3001, .inr (.inl (fun _ => 0)))), (t_reals, .inl (c_t_reals, 3001, .inr (.inr (.inr (.inl (fun _ => 0)))))), (v_programs, .inl (c_v_programs, 4, .inr (.inr (.inr (.inr f_prog)))))] sz) := by
  refine Met.ofW (cc := cX11_load) (maxL := 4) (ret := (some .int)) (by decide) rfl ?_
  intro p e s m args below meth c s₁ B hml hv
  obtain ⟨rfl, ⟨hsz, hP, hK, hD0⟩, hNk⟩ := hv
  have hx := B.exec
  have hb := B.bytes
  have hr := B.returns
  have hts := atoms_spec (ws := wqX11_load) B.pre
  have hown : s.vm.findClass RX11 = some m.cls := findClass_of_methodNamed B.named
  have hlocks := B.notSynchronized
  subst hsz
  have hD := hD0.self (sz := s.heap.size)
  generalize hAe : va_A [(h0, .inr (10, [.ref t_text, .int 0, .int 0, .ref v_names, .ref v_borders, .ref v_programs, .ref v_draft, .ref v_parser, .ref v_machine])), (v_names, .inr (5, [.ref n_packed, .ref n_above, .ref n_keptAbove, .int 11, .int 0])), (n_above, .inl (c_n_above, 52, .inl f_above)), (n_keptAbove, .inl (c_n_keptAbove, 52, .inl f_kept)), (v_parser, .inr (6, [.ref a_tok, .ref r_names, .ref v_draft, .ref r_faults, .ref r_variables, .int 0, .int 0, .int 0, .int 0, .int 0, .int 0])), (v_draft, .inr (7, [.ref g_code, .int 0, .ref g_constants, .ref g_names, .ref g_starts, .ref g_parameters, .ref g_variables, .int 0])), (g_constants, .inr (8, [.ref k_kinds, .ref k_wholes, .ref k_reals, .int 0])), (k_kinds, .inl (c_k_kinds, 32, .inl f_kk)), (r_faults, .inl (c_r_faults, 4, .inl (fun _ => 0))), (a_tok, .inr (9, [.ref t_text, .ref t_words, .ref t_kinds, .ref t_places, .ref t_wholes, .ref t_reals, .int 0, .int 0, .int 0, .int 0, .int 0, .int 0, .int 0, .int 0, .long 0, .double FP.dconst0])), (t_text, .inl (c_t_text, 3000, .inl f_text)), (t_kinds, .inl (c_t_kinds, 3001, .inl (fun _ => 0))), (t_places, .inl (c_t_places, 3001, .inl (fun _ => 0))), (t_wholes, .inl (c_t_wholes, 3001, .inr (.inl (fun _ => 0)))), (t_reals, .inl (c_t_reals, 3001, .inr (.inr (.inr (.inl (fun _ => 0)))))), (v_programs, .inl (c_v_programs, 4, .inr (.inr (.inr (.inr f_prog)))))] s.heap.size = A at hD  ⊢
  have hA : ∀ q : Nat, s.heap.size ≤ q → A q := fun q h => by rw [← hAe]; exact Or.inr h
  have hS : va_S A s.heap s.heap [] := va_S.rf
  have hl := lv_entry ([.ref h0, .int x1, .int x2]) (n := 4) (Nat.le_of_ble_eq_true rfl)
  rw [lg_entry_eq]
  generalize (lg_sl ([.ref h0, .int x1, .int x2]) ++ List.replicate (4 - (lg_sl ([.ref h0, .int x1, .int x2])).length) Slot.unset).toArray = ls at hl ⊢
  have hl : lv_has ls 4 [(0, .ref h0), (1, .int x1), (2, .int x2)] := hl
  refine lv_iload_n hx hb dX11_load_0 rfl (lv_at hl 1 rfl) ?_
  refine va_calli (va_runS (As := [.int x1]) (rest := []) ⟨hx, hb, hml, hown, hts⟩ (c_X11_isTongue l dC dI x1 ) (va_cwS 1 hts gq_wqX11_load_wsX11_isTongue_67 rfl rfl rfl (by decide +kernel) ⟨Nat.le_of_ble_eq_true rfl, Nat.le_of_ble_eq_true rfl⟩) ⟨fb_R, fun U hU hW => ⟨rfl, xR.at (hP.sub (ws' := []) [] rfl) (hK.sub (tys' := []) [] rfl) hU hW⟩⟩ rfl rfl hl.1 rfl (lv_room (Nat.le_of_ble_eq_true rfl)) dX11_load_1 ⟨Nat.le_of_ble_eq_true rfl, Nat.le_of_ble_eq_true rfl⟩) hS (fun q _ h => h.elim) (fun q h => h.elim) (fun r_1 u t H locs ht hvm hw hB hz1 hk1 hS => ?_)
  have hw_2 := hw
  have hP := xR.keep hP hk1
  rcases hw_2 with ⟨ht1, rfl⟩ | ⟨ht1, rfl⟩
  · have _ := ht1
    refine lv_if_eq (tgt := 19) hx hb dX11_load_4 (by decide) (fun c_4 => ?_) (fun c_4 => absurd c_4 (by decide))
    refine lv_sipush (v := (-5000)) hx hb dX11_load_19 (by decide) ?_
    exact W.iret (v := (-5000)) hx hb hr (fun t ht hW => ⟨⟨(-5000), (), rfl, Or.inl ⟨Or.inl ht1, rfl⟩, trivial⟩, hS.F ht⟩) hS.2.2 dX11_load_22
  · have _ := ht1
    refine lv_if_eq (tgt := 19) hx hb dX11_load_4 (by decide) (fun c_4 => absurd c_4 (by decide)) (fun c_4 => ?_)
    refine lv_iload_n hx hb dX11_load_7 rfl (lv_at hl 2 rfl) ?_
    refine lv_if_lt (tgt := 19) hx hb dX11_load_8 (by decide) (fun c_8 => ?_) (fun c_8 => ?_)
    · refine lv_sipush (v := (-5000)) hx hb dX11_load_19 (by decide) ?_
      exact W.iret (v := (-5000)) hx hb hr (fun t ht hW => ⟨⟨(-5000), (), rfl, Or.inl ⟨Or.inr (ne0_lt c_8), rfl⟩, trivial⟩, hS.F ht⟩) hS.2.2 dX11_load_22
    · refine lv_iload_n hx hb dX11_load_11 rfl (lv_at hl 2 rfl) ?_
      refine lv_aload_n hx hb dX11_load_12 rfl (lv_at hl 0 rfl) ?_
      refine va_get (D := (dC, dI)) (ci := 10) (v := .int 0) (C := RX11) (T := TX11) (N := 9) hx hb hts in_wqX11_load_RX11 hown hK hP 0 rfl rfl 1 (by decide) (hts (.fieldLink RX11 13 "FourTongues" "taped" "I") (by decide +kernel)) (fun _ h9 => h9) rfl dX11_load_13 ?_
      refine lv_icmp_le (tgt := 23) hx hb dX11_load_16 (by decide) (fun c_16 => ?_) (fun c_16 => ?_)
      · obtain rfl : x2 = 0 := eq0_of c_8 c_16
        refine lv_aload_n hx hb dX11_load_23 rfl (lv_at hl 0 rfl) ?_
        refine lv_iconst (v := 0) hx hb dX11_load_24 (by decide) ?_
        refine va_put (D := (dC, dI)) (ci := 10) (v := .int 0) (ty := .int) (C := RX11) (T := TX11) (N := 9) hx hb hts in_wqX11_load_RX11 tyX11 tyX11_ok nmX11 hown hK hP hD hS 0 rfl rfl 1 (by decide) (hts (.fieldLink RX11 13 "FourTongues" "taped" "I") (by decide +kernel)) (fun _ h9 => h9) rfl (by decide +kernel) rfl rfl (Nat.le_of_ble_eq_true rfl) dX11_load_25 (fun H locs hP hD hS => ?_)
        have hP : va_P (dC, dI) vwCl [(h0, .inr (10, [.ref t_text, .int 0, .int 0, .ref v_names, .ref v_borders, .ref v_programs, .ref v_draft, .ref v_parser, .ref v_machine])), (v_names, .inr (5, [.ref n_packed, .ref n_above, .ref n_keptAbove, .int 11, .int 0])), (n_above, .inl (c_n_above, 52, .inl f_above)), (n_keptAbove, .inl (c_n_keptAbove, 52, .inl f_kept)), (v_parser, .inr (6, [.ref a_tok, .ref r_names, .ref v_draft, .ref r_faults, .ref r_variables, .int 0, .int 0, .int 0, .int 0, .int 0, .int 0])), (v_draft, .inr (7, [.ref g_code, .int 0, .ref g_constants, .ref g_names, .ref g_starts, .ref g_parameters, .ref g_variables, .int 0])), (g_constants, .inr (8, [.ref k_kinds, .ref k_wholes, .ref k_reals, .int 0])), (k_kinds, .inl (c_k_kinds, 32, .inl f_kk)), (r_faults, .inl (c_r_faults, 4, .inl (fun _ => 0))), (a_tok, .inr (9, [.ref t_text, .ref t_words, .ref t_kinds, .ref t_places, .ref t_wholes, .ref t_reals, .int 0, .int 0, .int 0, .int 0, .int 0, .int 0, .int 0, .int 0, .long 0, .double FP.dconst0])), (t_text, .inl (c_t_text, 3000, .inl f_text)), (t_kinds, .inl (c_t_kinds, 3001, .inl (fun _ => 0))), (t_places, .inl (c_t_places, 3001, .inl (fun _ => 0))), (t_wholes, .inl (c_t_wholes, 3001, .inr (.inl (fun _ => 0)))), (t_reals, .inl (c_t_reals, 3001, .inr (.inr (.inr (.inl (fun _ => 0)))))), (v_programs, .inl (c_v_programs, 4, .inr (.inr (.inr (.inr f_prog)))))] _ := hP
        have hD : va_D A [(h0, .inr (10, [.ref t_text, .int 0, .int 0, .ref v_names, .ref v_borders, .ref v_programs, .ref v_draft, .ref v_parser, .ref v_machine])), (v_names, .inr (5, [.ref n_packed, .ref n_above, .ref n_keptAbove, .int 11, .int 0])), (n_above, .inl (c_n_above, 52, .inl f_above)), (n_keptAbove, .inl (c_n_keptAbove, 52, .inl f_kept)), (v_parser, .inr (6, [.ref a_tok, .ref r_names, .ref v_draft, .ref r_faults, .ref r_variables, .int 0, .int 0, .int 0, .int 0, .int 0, .int 0])), (v_draft, .inr (7, [.ref g_code, .int 0, .ref g_constants, .ref g_names, .ref g_starts, .ref g_parameters, .ref g_variables, .int 0])), (g_constants, .inr (8, [.ref k_kinds, .ref k_wholes, .ref k_reals, .int 0])), (k_kinds, .inl (c_k_kinds, 32, .inl f_kk)), (r_faults, .inl (c_r_faults, 4, .inl (fun _ => 0))), (a_tok, .inr (9, [.ref t_text, .ref t_words, .ref t_kinds, .ref t_places, .ref t_wholes, .ref t_reals, .int 0, .int 0, .int 0, .int 0, .int 0, .int 0, .int 0, .int 0, .long 0, .double FP.dconst0])), (t_text, .inl (c_t_text, 3000, .inl f_text)), (t_kinds, .inl (c_t_kinds, 3001, .inl (fun _ => 0))), (t_places, .inl (c_t_places, 3001, .inl (fun _ => 0))), (t_wholes, .inl (c_t_wholes, 3001, .inr (.inl (fun _ => 0)))), (t_reals, .inl (c_t_reals, 3001, .inr (.inr (.inr (.inl (fun _ => 0)))))), (v_programs, .inl (c_v_programs, 4, .inr (.inr (.inr (.inr f_prog)))))] := hD
        refine lv_aload_n hx hb dX11_load_28 rfl (lv_at hl 0 rfl) ?_
        refine va_get (D := (dC, dI)) (ci := 10) (v := .ref v_names) (C := RX11) (T := TX11) (N := 9) hx hb hts in_wqX11_load_RX11 hown hK hP 0 rfl rfl 3 (by decide) (hts (.fieldLink RX11 23 "FourTongues" "names" "LFourTongues$Names;") (by decide +kernel)) (fun _ h9 => h9) rfl dX11_load_29 ?_
        have hPc := hP.sub (ws' := [(v_names, .inr (5, [.ref n_packed, .ref n_above, .ref n_keptAbove, .int 11, .int 0])), (n_above, .inl (c_n_above, 52, .inl f_above)), (n_keptAbove, .inl (c_n_keptAbove, 52, .inl f_kept))]) [1, 2, 3] rfl
        have hDc := hD.sub (ws' := [(v_names, .inr (5, [.ref n_packed, .ref n_above, .ref n_keptAbove, .int 11, .int 0])), (n_above, .inl (c_n_above, 52, .inl f_above)), (n_keptAbove, .inl (c_n_keptAbove, 52, .inl f_kept))]) [1, 2, 3] (by decide) rfl
        have hKc := hK.sub (tys' := [(c_n_above, .int), (c_n_keptAbove, .int)]) [0, 1] rfl
        have hFc := va_free (wc := [(v_names, .inr (5, [.ref n_packed, .ref n_above, .ref n_keptAbove, .int 11, .int 0])), (n_above, .inl (c_n_above, 52, .inl f_above)), (n_keptAbove, .inl (c_n_keptAbove, 52, .inl f_kept))]) hD hS hA [1, 2, 3] rfl
        refine va_callv (va_runV (As := []) (rest := []) ⟨hx, hb, hml, hown, hts⟩ (c_X5_keep l dC dI H.size v_names n_packed n_above n_keptAbove c_n_above f_above c_n_keptAbove f_kept ) (cwV 0 hts gq_wqX11_load_wqX5_keep_71 rfl rfl rfl (by decide +kernel) ⟨Nat.le_of_ble_eq_true rfl, Nat.le_of_ble_eq_true rfl⟩) ⟨fb_M, va_recv hK hP (ci := 5) (q0 := 1) rfl rfl, fun U hU hW => ⟨rfl, xM.at hPc hKc hDc hU hW⟩⟩ rfl rfl hl.1 rfl (lv_room (Nat.le_of_ble_eq_true rfl)) dX11_load_32 ⟨Nat.le_of_ble_eq_true rfl, Nat.le_of_ble_eq_true rfl⟩) hS (fun q _ h => hFc q h) hFc (fun u t H locs ht hvm hw hB hz1 hk1 hS => ?_)
        obtain ⟨hP, hD, hK⟩ := xB.join (wr := [(h0, .inr (10, [.ref t_text, .int 0, .int 0, .ref v_names, .ref v_borders, .ref v_programs, .ref v_draft, .ref v_parser, .ref v_machine])), (v_parser, .inr (6, [.ref a_tok, .ref r_names, .ref v_draft, .ref r_faults, .ref r_variables, .int 0, .int 0, .int 0, .int 0, .int 0, .int 0])), (v_draft, .inr (7, [.ref g_code, .int 0, .ref g_constants, .ref g_names, .ref g_starts, .ref g_parameters, .ref g_variables, .int 0])), (g_constants, .inr (8, [.ref k_kinds, .ref k_wholes, .ref k_reals, .int 0])), (k_kinds, .inl (c_k_kinds, 32, .inl f_kk)), (r_faults, .inl (c_r_faults, 4, .inl (fun _ => 0))), (a_tok, .inr (9, [.ref t_text, .ref t_words, .ref t_kinds, .ref t_places, .ref t_wholes, .ref t_reals, .int 0, .int 0, .int 0, .int 0, .int 0, .int 0, .int 0, .int 0, .long 0, .double FP.dconst0])), (t_text, .inl (c_t_text, 3000, .inl f_text)), (t_kinds, .inl (c_t_kinds, 3001, .inl (fun _ => 0))), (t_places, .inl (c_t_places, 3001, .inl (fun _ => 0))), (t_wholes, .inl (c_t_wholes, 3001, .inr (.inl (fun _ => 0)))), (t_reals, .inl (c_t_reals, 3001, .inr (.inr (.inr (.inl (fun _ => 0)))))), (v_programs, .inl (c_v_programs, 4, .inr (.inr (.inr (.inr f_prog)))))]) (w1 := []) hP hD hK [1, 2, 3] [0, 4, 5, 6, 7, 8, 9, 10, 11, 12, 13, 14, 15] rfl rfl (by decide) (by decide) hk1 hFc (xB.nil hvm hK) ht hvm
        have hP : va_P (dC, dI) vwCl [(h0, .inr (10, [.ref t_text, .int 0, .int 0, .ref v_names, .ref v_borders, .ref v_programs, .ref v_draft, .ref v_parser, .ref v_machine])), (v_parser, .inr (6, [.ref a_tok, .ref r_names, .ref v_draft, .ref r_faults, .ref r_variables, .int 0, .int 0, .int 0, .int 0, .int 0, .int 0])), (v_draft, .inr (7, [.ref g_code, .int 0, .ref g_constants, .ref g_names, .ref g_starts, .ref g_parameters, .ref g_variables, .int 0])), (g_constants, .inr (8, [.ref k_kinds, .ref k_wholes, .ref k_reals, .int 0])), (k_kinds, .inl (c_k_kinds, 32, .inl f_kk)), (r_faults, .inl (c_r_faults, 4, .inl (fun _ => 0))), (a_tok, .inr (9, [.ref t_text, .ref t_words, .ref t_kinds, .ref t_places, .ref t_wholes, .ref t_reals, .int 0, .int 0, .int 0, .int 0, .int 0, .int 0, .int 0, .int 0, .long 0, .double FP.dconst0])), (t_text, .inl (c_t_text, 3000, .inl f_text)), (t_kinds, .inl (c_t_kinds, 3001, .inl (fun _ => 0))), (t_places, .inl (c_t_places, 3001, .inl (fun _ => 0))), (t_wholes, .inl (c_t_wholes, 3001, .inr (.inl (fun _ => 0)))), (t_reals, .inl (c_t_reals, 3001, .inr (.inr (.inr (.inl (fun _ => 0)))))), (v_programs, .inl (c_v_programs, 4, .inr (.inr (.inr (.inr f_prog)))))] _ := hP
        have hD : va_D A [(h0, .inr (10, [.ref t_text, .int 0, .int 0, .ref v_names, .ref v_borders, .ref v_programs, .ref v_draft, .ref v_parser, .ref v_machine])), (v_parser, .inr (6, [.ref a_tok, .ref r_names, .ref v_draft, .ref r_faults, .ref r_variables, .int 0, .int 0, .int 0, .int 0, .int 0, .int 0])), (v_draft, .inr (7, [.ref g_code, .int 0, .ref g_constants, .ref g_names, .ref g_starts, .ref g_parameters, .ref g_variables, .int 0])), (g_constants, .inr (8, [.ref k_kinds, .ref k_wholes, .ref k_reals, .int 0])), (k_kinds, .inl (c_k_kinds, 32, .inl f_kk)), (r_faults, .inl (c_r_faults, 4, .inl (fun _ => 0))), (a_tok, .inr (9, [.ref t_text, .ref t_words, .ref t_kinds, .ref t_places, .ref t_wholes, .ref t_reals, .int 0, .int 0, .int 0, .int 0, .int 0, .int 0, .int 0, .int 0, .long 0, .double FP.dconst0])), (t_text, .inl (c_t_text, 3000, .inl f_text)), (t_kinds, .inl (c_t_kinds, 3001, .inl (fun _ => 0))), (t_places, .inl (c_t_places, 3001, .inl (fun _ => 0))), (t_wholes, .inl (c_t_wholes, 3001, .inr (.inl (fun _ => 0)))), (t_reals, .inl (c_t_reals, 3001, .inr (.inr (.inr (.inl (fun _ => 0)))))), (v_programs, .inl (c_v_programs, 4, .inr (.inr (.inr (.inr f_prog)))))] := hD
        have hK : va_K (dC, dI) vwCl [(c_n_above, .int), (c_n_keptAbove, .int), (c_k_kinds, .int), (c_r_faults, .int), (c_t_text, .byte), (c_t_kinds, .int), (c_t_places, .int), (c_t_wholes, .long), (c_t_reals, .double), (c_v_programs, .object RX8)] s := hK
        refine lv_aload_n hx hb dX11_load_35 rfl (lv_at hl 0 rfl) ?_
        refine va_get (D := (dC, dI)) (ci := 10) (v := .ref v_parser) (C := RX11) (T := TX11) (N := 9) hx hb hts in_wqX11_load_RX11 hown hK hP 0 rfl rfl 7 (by decide) (hts (.fieldLink RX11 50 "FourTongues" "parser" "LFourTongues$Parser;") (by decide +kernel)) (fun _ h9 => h9) rfl dX11_load_36 ?_
        refine lv_iload_n hx hb dX11_load_39 rfl (lv_at hl 1 rfl) ?_
        refine lv_iload_n hx hb dX11_load_40 rfl (lv_at hl 2 rfl) ?_
        refine lv_aload_n hx hb dX11_load_41 rfl (lv_at hl 0 rfl) ?_
        refine va_get (D := (dC, dI)) (ci := 10) (v := .ref v_draft) (C := RX11) (T := TX11) (N := 9) hx hb hts in_wqX11_load_RX11 hown hK hP 0 rfl rfl 6 (by decide) (hts (.fieldLink RX11 41 "FourTongues" "draft" "LFourTongues$Program;") (by decide +kernel)) (fun _ h9 => h9) rfl dX11_load_42 ?_
        have hPc := hP.sub (ws' := [(v_parser, .inr (6, [.ref a_tok, .ref r_names, .ref v_draft, .ref r_faults, .ref r_variables, .int 0, .int 0, .int 0, .int 0, .int 0, .int 0])), (v_draft, .inr (7, [.ref g_code, .int 0, .ref g_constants, .ref g_names, .ref g_starts, .ref g_parameters, .ref g_variables, .int 0])), (g_constants, .inr (8, [.ref k_kinds, .ref k_wholes, .ref k_reals, .int 0])), (k_kinds, .inl (c_k_kinds, 32, .inl f_kk)), (r_faults, .inl (c_r_faults, 4, .inl (fun _ => 0))), (a_tok, .inr (9, [.ref t_text, .ref t_words, .ref t_kinds, .ref t_places, .ref t_wholes, .ref t_reals, .int 0, .int 0, .int 0, .int 0, .int 0, .int 0, .int 0, .int 0, .long 0, .double FP.dconst0])), (t_text, .inl (c_t_text, 3000, .inl f_text)), (t_kinds, .inl (c_t_kinds, 3001, .inl (fun _ => 0))), (t_places, .inl (c_t_places, 3001, .inl (fun _ => 0))), (t_wholes, .inl (c_t_wholes, 3001, .inr (.inl (fun _ => 0)))), (t_reals, .inl (c_t_reals, 3001, .inr (.inr (.inr (.inl (fun _ => 0))))))]) [1, 2, 3, 4, 5, 6, 7, 8, 9, 10, 11] rfl
        have hDc := hD.sub (ws' := [(v_parser, .inr (6, [.ref a_tok, .ref r_names, .ref v_draft, .ref r_faults, .ref r_variables, .int 0, .int 0, .int 0, .int 0, .int 0, .int 0])), (v_draft, .inr (7, [.ref g_code, .int 0, .ref g_constants, .ref g_names, .ref g_starts, .ref g_parameters, .ref g_variables, .int 0])), (g_constants, .inr (8, [.ref k_kinds, .ref k_wholes, .ref k_reals, .int 0])), (k_kinds, .inl (c_k_kinds, 32, .inl f_kk)), (r_faults, .inl (c_r_faults, 4, .inl (fun _ => 0))), (a_tok, .inr (9, [.ref t_text, .ref t_words, .ref t_kinds, .ref t_places, .ref t_wholes, .ref t_reals, .int 0, .int 0, .int 0, .int 0, .int 0, .int 0, .int 0, .int 0, .long 0, .double FP.dconst0])), (t_text, .inl (c_t_text, 3000, .inl f_text)), (t_kinds, .inl (c_t_kinds, 3001, .inl (fun _ => 0))), (t_places, .inl (c_t_places, 3001, .inl (fun _ => 0))), (t_wholes, .inl (c_t_wholes, 3001, .inr (.inl (fun _ => 0)))), (t_reals, .inl (c_t_reals, 3001, .inr (.inr (.inr (.inl (fun _ => 0))))))]) [1, 2, 3, 4, 5, 6, 7, 8, 9, 10, 11] (by decide) rfl
        have hKc := hK.sub (tys' := [(c_k_kinds, .int), (c_r_faults, .int), (c_t_text, .byte), (c_t_kinds, .int), (c_t_places, .int), (c_t_wholes, .long), (c_t_reals, .double)]) [2, 3, 4, 5, 6, 7, 8] rfl
        have hFc := va_free (wc := [(v_parser, .inr (6, [.ref a_tok, .ref r_names, .ref v_draft, .ref r_faults, .ref r_variables, .int 0, .int 0, .int 0, .int 0, .int 0, .int 0])), (v_draft, .inr (7, [.ref g_code, .int 0, .ref g_constants, .ref g_names, .ref g_starts, .ref g_parameters, .ref g_variables, .int 0])), (g_constants, .inr (8, [.ref k_kinds, .ref k_wholes, .ref k_reals, .int 0])), (k_kinds, .inl (c_k_kinds, 32, .inl f_kk)), (r_faults, .inl (c_r_faults, 4, .inl (fun _ => 0))), (a_tok, .inr (9, [.ref t_text, .ref t_words, .ref t_kinds, .ref t_places, .ref t_wholes, .ref t_reals, .int 0, .int 0, .int 0, .int 0, .int 0, .int 0, .int 0, .int 0, .long 0, .double FP.dconst0])), (t_text, .inl (c_t_text, 3000, .inl f_text)), (t_kinds, .inl (c_t_kinds, 3001, .inl (fun _ => 0))), (t_places, .inl (c_t_places, 3001, .inl (fun _ => 0))), (t_wholes, .inl (c_t_wholes, 3001, .inr (.inl (fun _ => 0)))), (t_reals, .inl (c_t_reals, 3001, .inr (.inr (.inr (.inl (fun _ => 0))))))]) hD hS hA [1, 2, 3, 4, 5, 6, 7, 8, 9, 10, 11] rfl
        refine va_callv (va_runV (As := [.int x1, .int 0, .ref v_draft]) (rest := []) ⟨hx, hb, hml, hown, hts⟩ (c_X7_parse l dC dI H.size v_parser a_tok v_draft r_names r_faults r_variables t_text t_words t_kinds t_places t_wholes t_reals c_t_text f_text c_t_kinds c_t_places c_t_wholes c_t_reals g_code g_constants g_names g_starts g_parameters g_variables k_kinds k_wholes k_reals c_k_kinds f_kk c_r_faults x1 ) (cwV 3 hts gq_wqX11_load_wqX7_parse_74 rfl rfl rfl (by decide +kernel) ⟨Nat.le_of_ble_eq_true rfl, Nat.le_of_ble_eq_true rfl⟩) ⟨(fb_ME eF_fb), va_recv hK hP (ci := 6) (q0 := 1) rfl rfl, fun U hU hW => ⟨rfl, ⟨xM.at hPc hKc hDc hU hW, eF_at hNk hW⟩⟩⟩ rfl rfl hl.1 rfl (lv_room (Nat.le_of_ble_eq_true rfl)) dX11_load_45 ⟨Nat.le_of_ble_eq_true rfl, Nat.le_of_ble_eq_true rfl⟩) hS (fun q _ h => hFc q h) hFc (fun u t H locs ht hvm hw hB hz1 hk1 hS => ?_)
        obtain ⟨f_3, hf_4, hB⟩ := hB
        obtain ⟨hP, hD, hK⟩ := xB.join (wr := [(h0, .inr (10, [.ref t_text, .int 0, .int 0, .ref v_names, .ref v_borders, .ref v_programs, .ref v_draft, .ref v_parser, .ref v_machine])), (v_programs, .inl (c_v_programs, 4, .inr (.inr (.inr (.inr f_prog)))))]) (w1 := [(v_parser, .inr (6, [.ref a_tok, .ref r_names, .ref v_draft, .ref r_faults, .ref r_variables, .int 0, .int 0, .int 0, .int x1, .int 0, .int 0])), (v_draft, .inr (7, [.ref g_code, .int 0, .ref g_constants, .ref g_names, .ref g_starts, .ref g_parameters, .ref g_variables, .int 0])), (r_faults, .inl (c_r_faults, 4, .inl f_3))]) hP hD hK [1, 2, 3, 4, 5, 6, 7, 8, 9, 10, 11] [0, 12] rfl rfl (by decide) (by decide) hk1 hFc hB ht hvm
        have hP : va_P (dC, dI) vwCl [(h0, .inr (10, [.ref t_text, .int 0, .int 0, .ref v_names, .ref v_borders, .ref v_programs, .ref v_draft, .ref v_parser, .ref v_machine])), (v_programs, .inl (c_v_programs, 4, .inr (.inr (.inr (.inr f_prog))))), (v_parser, .inr (6, [.ref a_tok, .ref r_names, .ref v_draft, .ref r_faults, .ref r_variables, .int 0, .int 0, .int 0, .int x1, .int 0, .int 0])), (v_draft, .inr (7, [.ref g_code, .int 0, .ref g_constants, .ref g_names, .ref g_starts, .ref g_parameters, .ref g_variables, .int 0])), (r_faults, .inl (c_r_faults, 4, .inl f_3))] _ := hP
        have hD : va_D A [(h0, .inr (10, [.ref t_text, .int 0, .int 0, .ref v_names, .ref v_borders, .ref v_programs, .ref v_draft, .ref v_parser, .ref v_machine])), (v_programs, .inl (c_v_programs, 4, .inr (.inr (.inr (.inr f_prog))))), (v_parser, .inr (6, [.ref a_tok, .ref r_names, .ref v_draft, .ref r_faults, .ref r_variables, .int 0, .int 0, .int 0, .int x1, .int 0, .int 0])), (v_draft, .inr (7, [.ref g_code, .int 0, .ref g_constants, .ref g_names, .ref g_starts, .ref g_parameters, .ref g_variables, .int 0])), (r_faults, .inl (c_r_faults, 4, .inl f_3))] := hD
        have hK : va_K (dC, dI) vwCl [(c_n_above, .int), (c_n_keptAbove, .int), (c_k_kinds, .int), (c_r_faults, .int), (c_t_text, .byte), (c_t_kinds, .int), (c_t_places, .int), (c_t_wholes, .long), (c_t_reals, .double), (c_v_programs, .object RX8), (c_r_faults, .int), (c_r_faults, .int)] s := hK
        refine lv_aload_n hx hb dX11_load_48 rfl (lv_at hl 0 rfl) ?_
        refine lv_aload_n hx hb dX11_load_49 rfl (lv_at hl 0 rfl) ?_
        refine va_get (D := (dC, dI)) (ci := 10) (v := .ref v_parser) (C := RX11) (T := TX11) (N := 9) hx hb hts in_wqX11_load_RX11 hown hK hP 0 rfl rfl 7 (by decide) (hts (.fieldLink RX11 50 "FourTongues" "parser" "LFourTongues$Parser;") (by decide +kernel)) (fun _ h9 => h9) rfl dX11_load_50 ?_
        refine va_calli (va_runV (As := []) (rest := [.ref h0]) ⟨hx, hb, hml, hown, hts⟩ (c_X7_faultKind l dC dI v_parser a_tok v_draft r_names r_faults r_variables c_r_faults f_3 x1 hf_4) (cwV 0 hts gq_wqX11_load_wqX7_faultKind_78 rfl rfl rfl (by decide +kernel) ⟨Nat.le_of_ble_eq_true rfl, Nat.le_of_ble_eq_true rfl⟩) ⟨fb_R, va_recv hK hP (ci := 6) (q0 := 2) rfl rfl, fun U hU hW => ⟨rfl, xR.at (hP.sub (ws' := [(v_parser, .inr (6, [.ref a_tok, .ref r_names, .ref v_draft, .ref r_faults, .ref r_variables, .int 0, .int 0, .int 0, .int x1, .int 0, .int 0])), (r_faults, .inl (c_r_faults, 4, .inl f_3))]) [2, 4] rfl) (hK.sub (tys' := [(c_r_faults, .int)]) [3] rfl) hU hW⟩⟩ rfl rfl hl.1 rfl (lv_room (Nat.le_of_ble_eq_true rfl)) dX11_load_53 ⟨Nat.le_of_ble_eq_true rfl, Nat.le_of_ble_eq_true rfl⟩) hS (fun q _ h => h.elim) (fun q h => h.elim) (fun r_5 u t H locs ht hvm hw hB hz1 hk1 hS => ?_)
        have hw_6 := hw
        have hP := xR.keep hP hk1
        subst hw_6
        refine va_put (D := (dC, dI)) (ci := 10) (v := .int 0) (ty := .int) (C := RX11) (T := TX11) (N := 9) hx hb hts in_wqX11_load_RX11 tyX11 tyX11_ok nmX11 hown hK hP hD hS 0 rfl rfl 2 (by decide) (hts (.fieldLink RX11 17 "FourTongues" "faultKind" "I") (by decide +kernel)) (fun _ h9 => h9) rfl (by decide +kernel) rfl rfl (Nat.le_of_ble_eq_true rfl) dX11_load_56 (fun H locs hP hD hS => ?_)
        have hP : va_P (dC, dI) vwCl [(h0, .inr (10, [.ref t_text, .int 0, .int 0, .ref v_names, .ref v_borders, .ref v_programs, .ref v_draft, .ref v_parser, .ref v_machine])), (v_programs, .inl (c_v_programs, 4, .inr (.inr (.inr (.inr f_prog))))), (v_parser, .inr (6, [.ref a_tok, .ref r_names, .ref v_draft, .ref r_faults, .ref r_variables, .int 0, .int 0, .int 0, .int x1, .int 0, .int 0])), (v_draft, .inr (7, [.ref g_code, .int 0, .ref g_constants, .ref g_names, .ref g_starts, .ref g_parameters, .ref g_variables, .int 0])), (r_faults, .inl (c_r_faults, 4, .inl f_3))] _ := hP
        have hD : va_D A [(h0, .inr (10, [.ref t_text, .int 0, .int 0, .ref v_names, .ref v_borders, .ref v_programs, .ref v_draft, .ref v_parser, .ref v_machine])), (v_programs, .inl (c_v_programs, 4, .inr (.inr (.inr (.inr f_prog))))), (v_parser, .inr (6, [.ref a_tok, .ref r_names, .ref v_draft, .ref r_faults, .ref r_variables, .int 0, .int 0, .int 0, .int x1, .int 0, .int 0])), (v_draft, .inr (7, [.ref g_code, .int 0, .ref g_constants, .ref g_names, .ref g_starts, .ref g_parameters, .ref g_variables, .int 0])), (r_faults, .inl (c_r_faults, 4, .inl f_3))] := hD
        refine lv_aload_n hx hb dX11_load_59 rfl (lv_at hl 0 rfl) ?_
        refine va_get (D := (dC, dI)) (ci := 10) (v := .int 0) (C := RX11) (T := TX11) (N := 9) hx hb hts in_wqX11_load_RX11 hown hK hP 0 rfl rfl 2 (by decide) (hts (.fieldLink RX11 17 "FourTongues" "faultKind" "I") (by decide +kernel)) (fun _ h9 => h9) rfl dX11_load_60 ?_
        refine lv_if_eq (tgt := 84) hx hb dX11_load_63 (by decide) (fun c_63 => ?_) (fun c_63 => absurd c_63 (by decide))
        refine lv_aload_n hx hb dX11_load_84 rfl (lv_at hl 0 rfl) ?_
        refine va_get (D := (dC, dI)) (ci := 10) (v := .ref v_programs) (C := RX11) (T := TX11) (N := 9) hx hb hts in_wqX11_load_RX11 hown hK hP 0 rfl rfl 5 (by decide) (hts (.fieldLink RX11 36 "FourTongues" "programs" "[LFourTongues$Program;") (by decide +kernel)) (fun _ h9 => h9) rfl dX11_load_85 ?_
        refine lv_iload_n hx hb dX11_load_88 rfl (lv_at hl 1 rfl) ?_
        rcases ng_cases ht1 with rfl | rfl | rfl | rfl
        · have _ := hp0
          refine va_aldq hx hb hK hP 1 9 rfl rfl (by unfold vp_in; decide) dX11_load_89 ?_
          refine my_tv (v := .ref p0) (congrArg va_rf hp0) ?_
          refine lv_astore_n (lv' := [(3, .ref p0), (0, .ref h0), (1, .int 0), (2, .int 0)]) hx hb dX11_load_90 rfl hl (by decide) rfl (fun ls hl => ?_)
          refine lv_aload_n hx hb dX11_load_91 rfl (lv_at hl 1 rfl) ?_
          refine va_get (D := (dC, dI)) (ci := 10) (v := .ref v_programs) (C := RX11) (T := TX11) (N := 9) hx hb hts in_wqX11_load_RX11 hown hK hP 0 rfl rfl 5 (by decide) (hts (.fieldLink RX11 36 "FourTongues" "programs" "[LFourTongues$Program;") (by decide +kernel)) (fun _ h9 => h9) rfl dX11_load_92 ?_
          refine lv_iload_n hx hb dX11_load_95 rfl (lv_at hl 2 rfl) ?_
          refine lv_aload_n hx hb dX11_load_96 rfl (lv_at hl 1 rfl) ?_
          refine va_get (D := (dC, dI)) (ci := 10) (v := .ref v_draft) (C := RX11) (T := TX11) (N := 9) hx hb hts in_wqX11_load_RX11 hown hK hP 0 rfl rfl 6 (by decide) (hts (.fieldLink RX11 41 "FourTongues" "draft" "LFourTongues$Program;") (by decide +kernel)) (fun _ h9 => h9) rfl dX11_load_97 ?_
          refine va_astq hx hb hK hP hD hS 1 9 3 7 rfl rfl rfl rfl (by unfold vp_in; decide) dX11_load_100 (fun H locs hP hD hS => ?_)
          obtain ⟨f_7, ef_7⟩ : ∃ y : Nat → Option Nat, y = va_up f_prog ((0 : Int32).toNatClampNeg) (some v_draft) := ⟨_, rfl⟩
          rw [← ef_7] at hP hD
          have hP : va_P (dC, dI) vwCl [(h0, .inr (10, [.ref t_text, .int 0, .int 0, .ref v_names, .ref v_borders, .ref v_programs, .ref v_draft, .ref v_parser, .ref v_machine])), (v_programs, .inl (c_v_programs, 4, .inr (.inr (.inr (.inr f_7))))), (v_parser, .inr (6, [.ref a_tok, .ref r_names, .ref v_draft, .ref r_faults, .ref r_variables, .int 0, .int 0, .int 0, .int 0, .int 0, .int 0])), (v_draft, .inr (7, [.ref g_code, .int 0, .ref g_constants, .ref g_names, .ref g_starts, .ref g_parameters, .ref g_variables, .int 0])), (r_faults, .inl (c_r_faults, 4, .inl f_3))] _ := hP
          have hD : va_D A [(h0, .inr (10, [.ref t_text, .int 0, .int 0, .ref v_names, .ref v_borders, .ref v_programs, .ref v_draft, .ref v_parser, .ref v_machine])), (v_programs, .inl (c_v_programs, 4, .inr (.inr (.inr (.inr f_7))))), (v_parser, .inr (6, [.ref a_tok, .ref r_names, .ref v_draft, .ref r_faults, .ref r_variables, .int 0, .int 0, .int 0, .int 0, .int 0, .int 0])), (v_draft, .inr (7, [.ref g_code, .int 0, .ref g_constants, .ref g_names, .ref g_starts, .ref g_parameters, .ref g_variables, .int 0])), (r_faults, .inl (c_r_faults, 4, .inl f_3))] := hD
          refine lv_aload_n hx hb dX11_load_101 rfl (lv_at hl 1 rfl) ?_
          refine lv_aload_n hx hb dX11_load_102 rfl (lv_at hl 0 rfl) ?_
          refine va_put (D := (dC, dI)) (ci := 10) (v := .ref p0) (ty := .object "FourTongues$Program") (C := RX11) (T := TX11) (N := 9) hx hb hts in_wqX11_load_RX11 tyX11 tyX11_ok nmX11 hown hK hP hD hS 0 rfl rfl 6 (by decide) (hts (.fieldLink RX11 41 "FourTongues" "draft" "LFourTongues$Program;") (by decide +kernel)) (fun _ h9 => h9) rfl (by decide +kernel) rfl rfl (Nat.le_of_ble_eq_true rfl) dX11_load_103 (fun H locs hP hD hS => ?_)
          have hP : va_P (dC, dI) vwCl [(h0, .inr (10, [.ref t_text, .int 0, .int 0, .ref v_names, .ref v_borders, .ref v_programs, .ref p0, .ref v_parser, .ref v_machine])), (v_programs, .inl (c_v_programs, 4, .inr (.inr (.inr (.inr f_7))))), (v_parser, .inr (6, [.ref a_tok, .ref r_names, .ref v_draft, .ref r_faults, .ref r_variables, .int 0, .int 0, .int 0, .int 0, .int 0, .int 0])), (v_draft, .inr (7, [.ref g_code, .int 0, .ref g_constants, .ref g_names, .ref g_starts, .ref g_parameters, .ref g_variables, .int 0])), (r_faults, .inl (c_r_faults, 4, .inl f_3))] _ := hP
          have hD : va_D A [(h0, .inr (10, [.ref t_text, .int 0, .int 0, .ref v_names, .ref v_borders, .ref v_programs, .ref p0, .ref v_parser, .ref v_machine])), (v_programs, .inl (c_v_programs, 4, .inr (.inr (.inr (.inr f_7))))), (v_parser, .inr (6, [.ref a_tok, .ref r_names, .ref v_draft, .ref r_faults, .ref r_variables, .int 0, .int 0, .int 0, .int 0, .int 0, .int 0])), (v_draft, .inr (7, [.ref g_code, .int 0, .ref g_constants, .ref g_names, .ref g_starts, .ref g_parameters, .ref g_variables, .int 0])), (r_faults, .inl (c_r_faults, 4, .inl f_3))] := hD
          refine lv_aload_n hx hb dX11_load_106 rfl (lv_at hl 1 rfl) ?_
          refine va_get (D := (dC, dI)) (ci := 10) (v := .ref v_programs) (C := RX11) (T := TX11) (N := 9) hx hb hts in_wqX11_load_RX11 hown hK hP 0 rfl rfl 5 (by decide) (hts (.fieldLink RX11 36 "FourTongues" "programs" "[LFourTongues$Program;") (by decide +kernel)) (fun _ h9 => h9) rfl dX11_load_107 ?_
          refine lv_iload_n hx hb dX11_load_110 rfl (lv_at hl 2 rfl) ?_
          refine va_aldq hx hb hK hP 1 9 rfl rfl (by unfold vp_in; decide) dX11_load_111 ?_
          refine my_tv (v := .ref v_draft) (by rw [ef_7]; rfl) ?_
          refine va_calli (va_runV (As := []) (rest := []) ⟨hx, hb, hml, hown, hts⟩ (c_X8_functions l dC dI v_draft g_code g_constants g_names g_starts g_parameters g_variables ) (cwV 0 hts gq_wqX11_load_wsX8_functions_87 rfl rfl rfl (by decide +kernel) ⟨Nat.le_of_ble_eq_true rfl, Nat.le_of_ble_eq_true rfl⟩) ⟨fb_R, va_recv hK hP (ci := 7) (q0 := 3) rfl rfl, fun U hU hW => ⟨rfl, xR.at (hP.sub (ws' := [(v_draft, .inr (7, [.ref g_code, .int 0, .ref g_constants, .ref g_names, .ref g_starts, .ref g_parameters, .ref g_variables, .int 0]))]) [3] rfl) (hK.sub (tys' := []) [] rfl) hU hW⟩⟩ rfl rfl hl.1 rfl (lv_room (Nat.le_of_ble_eq_true rfl)) dX11_load_112 ⟨Nat.le_of_ble_eq_true rfl, Nat.le_of_ble_eq_true rfl⟩) hS (fun q _ h => h.elim) (fun q h => h.elim) (fun r_8 u t H locs ht hvm hw hB hz1 hk1 hS => ?_)
          have hw_9 := hw
          have hP := xR.keep hP hk1
          subst hw_9
          exact W.iret (v := 0) hx hb hr (fun t ht hW => ⟨⟨0, (), rfl, Or.inr ⟨fun q => q.elim ht1 (fun z => z rfl), rfl⟩, trivial⟩, hS.F ht⟩) hS.2.2 dX11_load_115
        · have _ := hp1
          refine va_aldq hx hb hK hP 1 9 rfl rfl (by unfold vp_in; decide) dX11_load_89 ?_
          refine my_tv (v := .ref p1) (congrArg va_rf hp1) ?_
          refine lv_astore_n (lv' := [(3, .ref p1), (0, .ref h0), (1, .int 1), (2, .int 0)]) hx hb dX11_load_90 rfl hl (by decide) rfl (fun ls hl => ?_)
          refine lv_aload_n hx hb dX11_load_91 rfl (lv_at hl 1 rfl) ?_
          refine va_get (D := (dC, dI)) (ci := 10) (v := .ref v_programs) (C := RX11) (T := TX11) (N := 9) hx hb hts in_wqX11_load_RX11 hown hK hP 0 rfl rfl 5 (by decide) (hts (.fieldLink RX11 36 "FourTongues" "programs" "[LFourTongues$Program;") (by decide +kernel)) (fun _ h9 => h9) rfl dX11_load_92 ?_
          refine lv_iload_n hx hb dX11_load_95 rfl (lv_at hl 2 rfl) ?_
          refine lv_aload_n hx hb dX11_load_96 rfl (lv_at hl 1 rfl) ?_
          refine va_get (D := (dC, dI)) (ci := 10) (v := .ref v_draft) (C := RX11) (T := TX11) (N := 9) hx hb hts in_wqX11_load_RX11 hown hK hP 0 rfl rfl 6 (by decide) (hts (.fieldLink RX11 41 "FourTongues" "draft" "LFourTongues$Program;") (by decide +kernel)) (fun _ h9 => h9) rfl dX11_load_97 ?_
          refine va_astq hx hb hK hP hD hS 1 9 3 7 rfl rfl rfl rfl (by unfold vp_in; decide) dX11_load_100 (fun H locs hP hD hS => ?_)
          obtain ⟨f_10, ef_10⟩ : ∃ y : Nat → Option Nat, y = va_up f_prog ((1 : Int32).toNatClampNeg) (some v_draft) := ⟨_, rfl⟩
          rw [← ef_10] at hP hD
          have hP : va_P (dC, dI) vwCl [(h0, .inr (10, [.ref t_text, .int 0, .int 0, .ref v_names, .ref v_borders, .ref v_programs, .ref v_draft, .ref v_parser, .ref v_machine])), (v_programs, .inl (c_v_programs, 4, .inr (.inr (.inr (.inr f_10))))), (v_parser, .inr (6, [.ref a_tok, .ref r_names, .ref v_draft, .ref r_faults, .ref r_variables, .int 0, .int 0, .int 0, .int 1, .int 0, .int 0])), (v_draft, .inr (7, [.ref g_code, .int 0, .ref g_constants, .ref g_names, .ref g_starts, .ref g_parameters, .ref g_variables, .int 0])), (r_faults, .inl (c_r_faults, 4, .inl f_3))] _ := hP
          have hD : va_D A [(h0, .inr (10, [.ref t_text, .int 0, .int 0, .ref v_names, .ref v_borders, .ref v_programs, .ref v_draft, .ref v_parser, .ref v_machine])), (v_programs, .inl (c_v_programs, 4, .inr (.inr (.inr (.inr f_10))))), (v_parser, .inr (6, [.ref a_tok, .ref r_names, .ref v_draft, .ref r_faults, .ref r_variables, .int 0, .int 0, .int 0, .int 1, .int 0, .int 0])), (v_draft, .inr (7, [.ref g_code, .int 0, .ref g_constants, .ref g_names, .ref g_starts, .ref g_parameters, .ref g_variables, .int 0])), (r_faults, .inl (c_r_faults, 4, .inl f_3))] := hD
          refine lv_aload_n hx hb dX11_load_101 rfl (lv_at hl 1 rfl) ?_
          refine lv_aload_n hx hb dX11_load_102 rfl (lv_at hl 0 rfl) ?_
          refine va_put (D := (dC, dI)) (ci := 10) (v := .ref p1) (ty := .object "FourTongues$Program") (C := RX11) (T := TX11) (N := 9) hx hb hts in_wqX11_load_RX11 tyX11 tyX11_ok nmX11 hown hK hP hD hS 0 rfl rfl 6 (by decide) (hts (.fieldLink RX11 41 "FourTongues" "draft" "LFourTongues$Program;") (by decide +kernel)) (fun _ h9 => h9) rfl (by decide +kernel) rfl rfl (Nat.le_of_ble_eq_true rfl) dX11_load_103 (fun H locs hP hD hS => ?_)
          have hP : va_P (dC, dI) vwCl [(h0, .inr (10, [.ref t_text, .int 0, .int 0, .ref v_names, .ref v_borders, .ref v_programs, .ref p1, .ref v_parser, .ref v_machine])), (v_programs, .inl (c_v_programs, 4, .inr (.inr (.inr (.inr f_10))))), (v_parser, .inr (6, [.ref a_tok, .ref r_names, .ref v_draft, .ref r_faults, .ref r_variables, .int 0, .int 0, .int 0, .int 1, .int 0, .int 0])), (v_draft, .inr (7, [.ref g_code, .int 0, .ref g_constants, .ref g_names, .ref g_starts, .ref g_parameters, .ref g_variables, .int 0])), (r_faults, .inl (c_r_faults, 4, .inl f_3))] _ := hP
          have hD : va_D A [(h0, .inr (10, [.ref t_text, .int 0, .int 0, .ref v_names, .ref v_borders, .ref v_programs, .ref p1, .ref v_parser, .ref v_machine])), (v_programs, .inl (c_v_programs, 4, .inr (.inr (.inr (.inr f_10))))), (v_parser, .inr (6, [.ref a_tok, .ref r_names, .ref v_draft, .ref r_faults, .ref r_variables, .int 0, .int 0, .int 0, .int 1, .int 0, .int 0])), (v_draft, .inr (7, [.ref g_code, .int 0, .ref g_constants, .ref g_names, .ref g_starts, .ref g_parameters, .ref g_variables, .int 0])), (r_faults, .inl (c_r_faults, 4, .inl f_3))] := hD
          refine lv_aload_n hx hb dX11_load_106 rfl (lv_at hl 1 rfl) ?_
          refine va_get (D := (dC, dI)) (ci := 10) (v := .ref v_programs) (C := RX11) (T := TX11) (N := 9) hx hb hts in_wqX11_load_RX11 hown hK hP 0 rfl rfl 5 (by decide) (hts (.fieldLink RX11 36 "FourTongues" "programs" "[LFourTongues$Program;") (by decide +kernel)) (fun _ h9 => h9) rfl dX11_load_107 ?_
          refine lv_iload_n hx hb dX11_load_110 rfl (lv_at hl 2 rfl) ?_
          refine va_aldq hx hb hK hP 1 9 rfl rfl (by unfold vp_in; decide) dX11_load_111 ?_
          refine my_tv (v := .ref v_draft) (by rw [ef_10]; rfl) ?_
          refine va_calli (va_runV (As := []) (rest := []) ⟨hx, hb, hml, hown, hts⟩ (c_X8_functions l dC dI v_draft g_code g_constants g_names g_starts g_parameters g_variables ) (cwV 0 hts gq_wqX11_load_wsX8_functions_87 rfl rfl rfl (by decide +kernel) ⟨Nat.le_of_ble_eq_true rfl, Nat.le_of_ble_eq_true rfl⟩) ⟨fb_R, va_recv hK hP (ci := 7) (q0 := 3) rfl rfl, fun U hU hW => ⟨rfl, xR.at (hP.sub (ws' := [(v_draft, .inr (7, [.ref g_code, .int 0, .ref g_constants, .ref g_names, .ref g_starts, .ref g_parameters, .ref g_variables, .int 0]))]) [3] rfl) (hK.sub (tys' := []) [] rfl) hU hW⟩⟩ rfl rfl hl.1 rfl (lv_room (Nat.le_of_ble_eq_true rfl)) dX11_load_112 ⟨Nat.le_of_ble_eq_true rfl, Nat.le_of_ble_eq_true rfl⟩) hS (fun q _ h => h.elim) (fun q h => h.elim) (fun r_11 u t H locs ht hvm hw hB hz1 hk1 hS => ?_)
          have hw_12 := hw
          have hP := xR.keep hP hk1
          subst hw_12
          exact W.iret (v := 0) hx hb hr (fun t ht hW => ⟨⟨0, (), rfl, Or.inr ⟨fun q => q.elim ht1 (fun z => z rfl), rfl⟩, trivial⟩, hS.F ht⟩) hS.2.2 dX11_load_115
        · have _ := hp2
          refine va_aldq hx hb hK hP 1 9 rfl rfl (by unfold vp_in; decide) dX11_load_89 ?_
          refine my_tv (v := .ref p2) (congrArg va_rf hp2) ?_
          refine lv_astore_n (lv' := [(3, .ref p2), (0, .ref h0), (1, .int 2), (2, .int 0)]) hx hb dX11_load_90 rfl hl (by decide) rfl (fun ls hl => ?_)
          refine lv_aload_n hx hb dX11_load_91 rfl (lv_at hl 1 rfl) ?_
          refine va_get (D := (dC, dI)) (ci := 10) (v := .ref v_programs) (C := RX11) (T := TX11) (N := 9) hx hb hts in_wqX11_load_RX11 hown hK hP 0 rfl rfl 5 (by decide) (hts (.fieldLink RX11 36 "FourTongues" "programs" "[LFourTongues$Program;") (by decide +kernel)) (fun _ h9 => h9) rfl dX11_load_92 ?_
          refine lv_iload_n hx hb dX11_load_95 rfl (lv_at hl 2 rfl) ?_
          refine lv_aload_n hx hb dX11_load_96 rfl (lv_at hl 1 rfl) ?_
          refine va_get (D := (dC, dI)) (ci := 10) (v := .ref v_draft) (C := RX11) (T := TX11) (N := 9) hx hb hts in_wqX11_load_RX11 hown hK hP 0 rfl rfl 6 (by decide) (hts (.fieldLink RX11 41 "FourTongues" "draft" "LFourTongues$Program;") (by decide +kernel)) (fun _ h9 => h9) rfl dX11_load_97 ?_
          refine va_astq hx hb hK hP hD hS 1 9 3 7 rfl rfl rfl rfl (by unfold vp_in; decide) dX11_load_100 (fun H locs hP hD hS => ?_)
          obtain ⟨f_13, ef_13⟩ : ∃ y : Nat → Option Nat, y = va_up f_prog ((2 : Int32).toNatClampNeg) (some v_draft) := ⟨_, rfl⟩
          rw [← ef_13] at hP hD
          have hP : va_P (dC, dI) vwCl [(h0, .inr (10, [.ref t_text, .int 0, .int 0, .ref v_names, .ref v_borders, .ref v_programs, .ref v_draft, .ref v_parser, .ref v_machine])), (v_programs, .inl (c_v_programs, 4, .inr (.inr (.inr (.inr f_13))))), (v_parser, .inr (6, [.ref a_tok, .ref r_names, .ref v_draft, .ref r_faults, .ref r_variables, .int 0, .int 0, .int 0, .int 2, .int 0, .int 0])), (v_draft, .inr (7, [.ref g_code, .int 0, .ref g_constants, .ref g_names, .ref g_starts, .ref g_parameters, .ref g_variables, .int 0])), (r_faults, .inl (c_r_faults, 4, .inl f_3))] _ := hP
          have hD : va_D A [(h0, .inr (10, [.ref t_text, .int 0, .int 0, .ref v_names, .ref v_borders, .ref v_programs, .ref v_draft, .ref v_parser, .ref v_machine])), (v_programs, .inl (c_v_programs, 4, .inr (.inr (.inr (.inr f_13))))), (v_parser, .inr (6, [.ref a_tok, .ref r_names, .ref v_draft, .ref r_faults, .ref r_variables, .int 0, .int 0, .int 0, .int 2, .int 0, .int 0])), (v_draft, .inr (7, [.ref g_code, .int 0, .ref g_constants, .ref g_names, .ref g_starts, .ref g_parameters, .ref g_variables, .int 0])), (r_faults, .inl (c_r_faults, 4, .inl f_3))] := hD
          refine lv_aload_n hx hb dX11_load_101 rfl (lv_at hl 1 rfl) ?_
          refine lv_aload_n hx hb dX11_load_102 rfl (lv_at hl 0 rfl) ?_
          refine va_put (D := (dC, dI)) (ci := 10) (v := .ref p2) (ty := .object "FourTongues$Program") (C := RX11) (T := TX11) (N := 9) hx hb hts in_wqX11_load_RX11 tyX11 tyX11_ok nmX11 hown hK hP hD hS 0 rfl rfl 6 (by decide) (hts (.fieldLink RX11 41 "FourTongues" "draft" "LFourTongues$Program;") (by decide +kernel)) (fun _ h9 => h9) rfl (by decide +kernel) rfl rfl (Nat.le_of_ble_eq_true rfl) dX11_load_103 (fun H locs hP hD hS => ?_)
          have hP : va_P (dC, dI) vwCl [(h0, .inr (10, [.ref t_text, .int 0, .int 0, .ref v_names, .ref v_borders, .ref v_programs, .ref p2, .ref v_parser, .ref v_machine])), (v_programs, .inl (c_v_programs, 4, .inr (.inr (.inr (.inr f_13))))), (v_parser, .inr (6, [.ref a_tok, .ref r_names, .ref v_draft, .ref r_faults, .ref r_variables, .int 0, .int 0, .int 0, .int 2, .int 0, .int 0])), (v_draft, .inr (7, [.ref g_code, .int 0, .ref g_constants, .ref g_names, .ref g_starts, .ref g_parameters, .ref g_variables, .int 0])), (r_faults, .inl (c_r_faults, 4, .inl f_3))] _ := hP
          have hD : va_D A [(h0, .inr (10, [.ref t_text, .int 0, .int 0, .ref v_names, .ref v_borders, .ref v_programs, .ref p2, .ref v_parser, .ref v_machine])), (v_programs, .inl (c_v_programs, 4, .inr (.inr (.inr (.inr f_13))))), (v_parser, .inr (6, [.ref a_tok, .ref r_names, .ref v_draft, .ref r_faults, .ref r_variables, .int 0, .int 0, .int 0, .int 2, .int 0, .int 0])), (v_draft, .inr (7, [.ref g_code, .int 0, .ref g_constants, .ref g_names, .ref g_starts, .ref g_parameters, .ref g_variables, .int 0])), (r_faults, .inl (c_r_faults, 4, .inl f_3))] := hD
          refine lv_aload_n hx hb dX11_load_106 rfl (lv_at hl 1 rfl) ?_
          refine va_get (D := (dC, dI)) (ci := 10) (v := .ref v_programs) (C := RX11) (T := TX11) (N := 9) hx hb hts in_wqX11_load_RX11 hown hK hP 0 rfl rfl 5 (by decide) (hts (.fieldLink RX11 36 "FourTongues" "programs" "[LFourTongues$Program;") (by decide +kernel)) (fun _ h9 => h9) rfl dX11_load_107 ?_
          refine lv_iload_n hx hb dX11_load_110 rfl (lv_at hl 2 rfl) ?_
          refine va_aldq hx hb hK hP 1 9 rfl rfl (by unfold vp_in; decide) dX11_load_111 ?_
          refine my_tv (v := .ref v_draft) (by rw [ef_13]; rfl) ?_
          refine va_calli (va_runV (As := []) (rest := []) ⟨hx, hb, hml, hown, hts⟩ (c_X8_functions l dC dI v_draft g_code g_constants g_names g_starts g_parameters g_variables ) (cwV 0 hts gq_wqX11_load_wsX8_functions_87 rfl rfl rfl (by decide +kernel) ⟨Nat.le_of_ble_eq_true rfl, Nat.le_of_ble_eq_true rfl⟩) ⟨fb_R, va_recv hK hP (ci := 7) (q0 := 3) rfl rfl, fun U hU hW => ⟨rfl, xR.at (hP.sub (ws' := [(v_draft, .inr (7, [.ref g_code, .int 0, .ref g_constants, .ref g_names, .ref g_starts, .ref g_parameters, .ref g_variables, .int 0]))]) [3] rfl) (hK.sub (tys' := []) [] rfl) hU hW⟩⟩ rfl rfl hl.1 rfl (lv_room (Nat.le_of_ble_eq_true rfl)) dX11_load_112 ⟨Nat.le_of_ble_eq_true rfl, Nat.le_of_ble_eq_true rfl⟩) hS (fun q _ h => h.elim) (fun q h => h.elim) (fun r_14 u t H locs ht hvm hw hB hz1 hk1 hS => ?_)
          have hw_15 := hw
          have hP := xR.keep hP hk1
          subst hw_15
          exact W.iret (v := 0) hx hb hr (fun t ht hW => ⟨⟨0, (), rfl, Or.inr ⟨fun q => q.elim ht1 (fun z => z rfl), rfl⟩, trivial⟩, hS.F ht⟩) hS.2.2 dX11_load_115
        · have _ := hp3
          refine va_aldq hx hb hK hP 1 9 rfl rfl (by unfold vp_in; decide) dX11_load_89 ?_
          refine my_tv (v := .ref p3) (congrArg va_rf hp3) ?_
          refine lv_astore_n (lv' := [(3, .ref p3), (0, .ref h0), (1, .int 3), (2, .int 0)]) hx hb dX11_load_90 rfl hl (by decide) rfl (fun ls hl => ?_)
          refine lv_aload_n hx hb dX11_load_91 rfl (lv_at hl 1 rfl) ?_
          refine va_get (D := (dC, dI)) (ci := 10) (v := .ref v_programs) (C := RX11) (T := TX11) (N := 9) hx hb hts in_wqX11_load_RX11 hown hK hP 0 rfl rfl 5 (by decide) (hts (.fieldLink RX11 36 "FourTongues" "programs" "[LFourTongues$Program;") (by decide +kernel)) (fun _ h9 => h9) rfl dX11_load_92 ?_
          refine lv_iload_n hx hb dX11_load_95 rfl (lv_at hl 2 rfl) ?_
          refine lv_aload_n hx hb dX11_load_96 rfl (lv_at hl 1 rfl) ?_
          refine va_get (D := (dC, dI)) (ci := 10) (v := .ref v_draft) (C := RX11) (T := TX11) (N := 9) hx hb hts in_wqX11_load_RX11 hown hK hP 0 rfl rfl 6 (by decide) (hts (.fieldLink RX11 41 "FourTongues" "draft" "LFourTongues$Program;") (by decide +kernel)) (fun _ h9 => h9) rfl dX11_load_97 ?_
          refine va_astq hx hb hK hP hD hS 1 9 3 7 rfl rfl rfl rfl (by unfold vp_in; decide) dX11_load_100 (fun H locs hP hD hS => ?_)
          obtain ⟨f_16, ef_16⟩ : ∃ y : Nat → Option Nat, y = va_up f_prog ((3 : Int32).toNatClampNeg) (some v_draft) := ⟨_, rfl⟩
          rw [← ef_16] at hP hD
          have hP : va_P (dC, dI) vwCl [(h0, .inr (10, [.ref t_text, .int 0, .int 0, .ref v_names, .ref v_borders, .ref v_programs, .ref v_draft, .ref v_parser, .ref v_machine])), (v_programs, .inl (c_v_programs, 4, .inr (.inr (.inr (.inr f_16))))), (v_parser, .inr (6, [.ref a_tok, .ref r_names, .ref v_draft, .ref r_faults, .ref r_variables, .int 0, .int 0, .int 0, .int 3, .int 0, .int 0])), (v_draft, .inr (7, [.ref g_code, .int 0, .ref g_constants, .ref g_names, .ref g_starts, .ref g_parameters, .ref g_variables, .int 0])), (r_faults, .inl (c_r_faults, 4, .inl f_3))] _ := hP
          have hD : va_D A [(h0, .inr (10, [.ref t_text, .int 0, .int 0, .ref v_names, .ref v_borders, .ref v_programs, .ref v_draft, .ref v_parser, .ref v_machine])), (v_programs, .inl (c_v_programs, 4, .inr (.inr (.inr (.inr f_16))))), (v_parser, .inr (6, [.ref a_tok, .ref r_names, .ref v_draft, .ref r_faults, .ref r_variables, .int 0, .int 0, .int 0, .int 3, .int 0, .int 0])), (v_draft, .inr (7, [.ref g_code, .int 0, .ref g_constants, .ref g_names, .ref g_starts, .ref g_parameters, .ref g_variables, .int 0])), (r_faults, .inl (c_r_faults, 4, .inl f_3))] := hD
          refine lv_aload_n hx hb dX11_load_101 rfl (lv_at hl 1 rfl) ?_
          refine lv_aload_n hx hb dX11_load_102 rfl (lv_at hl 0 rfl) ?_
          refine va_put (D := (dC, dI)) (ci := 10) (v := .ref p3) (ty := .object "FourTongues$Program") (C := RX11) (T := TX11) (N := 9) hx hb hts in_wqX11_load_RX11 tyX11 tyX11_ok nmX11 hown hK hP hD hS 0 rfl rfl 6 (by decide) (hts (.fieldLink RX11 41 "FourTongues" "draft" "LFourTongues$Program;") (by decide +kernel)) (fun _ h9 => h9) rfl (by decide +kernel) rfl rfl (Nat.le_of_ble_eq_true rfl) dX11_load_103 (fun H locs hP hD hS => ?_)
          have hP : va_P (dC, dI) vwCl [(h0, .inr (10, [.ref t_text, .int 0, .int 0, .ref v_names, .ref v_borders, .ref v_programs, .ref p3, .ref v_parser, .ref v_machine])), (v_programs, .inl (c_v_programs, 4, .inr (.inr (.inr (.inr f_16))))), (v_parser, .inr (6, [.ref a_tok, .ref r_names, .ref v_draft, .ref r_faults, .ref r_variables, .int 0, .int 0, .int 0, .int 3, .int 0, .int 0])), (v_draft, .inr (7, [.ref g_code, .int 0, .ref g_constants, .ref g_names, .ref g_starts, .ref g_parameters, .ref g_variables, .int 0])), (r_faults, .inl (c_r_faults, 4, .inl f_3))] _ := hP
          have hD : va_D A [(h0, .inr (10, [.ref t_text, .int 0, .int 0, .ref v_names, .ref v_borders, .ref v_programs, .ref p3, .ref v_parser, .ref v_machine])), (v_programs, .inl (c_v_programs, 4, .inr (.inr (.inr (.inr f_16))))), (v_parser, .inr (6, [.ref a_tok, .ref r_names, .ref v_draft, .ref r_faults, .ref r_variables, .int 0, .int 0, .int 0, .int 3, .int 0, .int 0])), (v_draft, .inr (7, [.ref g_code, .int 0, .ref g_constants, .ref g_names, .ref g_starts, .ref g_parameters, .ref g_variables, .int 0])), (r_faults, .inl (c_r_faults, 4, .inl f_3))] := hD
          refine lv_aload_n hx hb dX11_load_106 rfl (lv_at hl 1 rfl) ?_
          refine va_get (D := (dC, dI)) (ci := 10) (v := .ref v_programs) (C := RX11) (T := TX11) (N := 9) hx hb hts in_wqX11_load_RX11 hown hK hP 0 rfl rfl 5 (by decide) (hts (.fieldLink RX11 36 "FourTongues" "programs" "[LFourTongues$Program;") (by decide +kernel)) (fun _ h9 => h9) rfl dX11_load_107 ?_
          refine lv_iload_n hx hb dX11_load_110 rfl (lv_at hl 2 rfl) ?_
          refine va_aldq hx hb hK hP 1 9 rfl rfl (by unfold vp_in; decide) dX11_load_111 ?_
          refine my_tv (v := .ref v_draft) (by rw [ef_16]; rfl) ?_
          refine va_calli (va_runV (As := []) (rest := []) ⟨hx, hb, hml, hown, hts⟩ (c_X8_functions l dC dI v_draft g_code g_constants g_names g_starts g_parameters g_variables ) (cwV 0 hts gq_wqX11_load_wsX8_functions_87 rfl rfl rfl (by decide +kernel) ⟨Nat.le_of_ble_eq_true rfl, Nat.le_of_ble_eq_true rfl⟩) ⟨fb_R, va_recv hK hP (ci := 7) (q0 := 3) rfl rfl, fun U hU hW => ⟨rfl, xR.at (hP.sub (ws' := [(v_draft, .inr (7, [.ref g_code, .int 0, .ref g_constants, .ref g_names, .ref g_starts, .ref g_parameters, .ref g_variables, .int 0]))]) [3] rfl) (hK.sub (tys' := []) [] rfl) hU hW⟩⟩ rfl rfl hl.1 rfl (lv_room (Nat.le_of_ble_eq_true rfl)) dX11_load_112 ⟨Nat.le_of_ble_eq_true rfl, Nat.le_of_ble_eq_true rfl⟩) hS (fun q _ h => h.elim) (fun q h => h.elim) (fun r_17 u t H locs ht hvm hw hB hz1 hk1 hS => ?_)
          have hw_18 := hw
          have hP := xR.keep hP hk1
          subst hw_18
          exact W.iret (v := 0) hx hb hr (fun t ht hW => ⟨⟨0, (), rfl, Or.inr ⟨fun q => q.elim ht1 (fun z => z rfl), rfl⟩, trivial⟩, hS.F ht⟩) hS.2.2 dX11_load_115
      · refine lv_sipush (v := (-5000)) hx hb dX11_load_19 (by decide) ?_
        exact W.iret (v := (-5000)) hx hb hr (fun t ht hW => ⟨⟨(-5000), (), rfl, Or.inl ⟨Or.inr (ne0_gt c_16), rfl⟩, trivial⟩, hS.F ht⟩) hS.2.2 dX11_load_22

def wqX11_callq : List Cond := .code yX11_call cX11_call 5 (some .int) :: (([.methodLink RX11 67 yX11_isTongue, .static yX11_isTongue, .initialized RX11, .fieldLink RX11 36 "FourTongues" "programs" "[LFourTongues$Program;", .methodLink RX11 87 yX8_functions, .instanceMethod yX8_functions, .selects RX8 yX8_functions yX8_functions, .initialized RX8] : List Cond) ++ (wsX11_isTongue ++ (wsX110 ++ wsX8_functions)))
theorem in_wqX11_callq_RX11 : ∀ w ∈ u_ws RX11 TX11 9, w ∈ wqX11_callq := fun w h => (List.mem_cons_of_mem _ (List.mem_append_right _ (List.mem_append_right _ (List.mem_append_left _ h))))
set_option maxRecDepth 100000 in
theorem ggq_wqX11_callq_wsX11_isTongue : GoodIn wqX11_callq wsX11_isTongue := goodIn_sub (fun w h => (List.mem_cons_of_mem _ (List.mem_append_right _ (List.mem_append_left _ h)))) (by decide +kernel)
set_option maxRecDepth 100000 in
theorem gq_wqX11_callq_wsX11_isTongue_67 : GoodIn wqX11_callq (va_wsS RX11 67 yX11_isTongue wsX11_isTongue) := goodIn_app (goodIn_of _ (by decide +kernel)) ggq_wqX11_callq_wsX11_isTongue
set_option maxRecDepth 100000 in
theorem ggq_wqX11_callq_wsX8_functions : GoodIn wqX11_callq wsX8_functions := goodIn_sub (fun w h => (List.mem_cons_of_mem _ (List.mem_append_right _ (List.mem_append_right _ (List.mem_append_right _ h))))) (by decide +kernel)
set_option maxRecDepth 100000 in
theorem gq_wqX11_callq_wsX8_functions_87 : GoodIn wqX11_callq (wsV RX11 87 RX8 yX8_functions wsX8_functions) := goodIn_app (goodIn_of _ (by decide +kernel)) ggq_wqX11_callq_wsX8_functions
set_option maxHeartbeats 4000000 in
set_option maxRecDepth 100000 in
theorem c_X11_callq (l : Launch) (dC : Nat → ClassId) (dI : Nat → Nat → Nat) (h0 : Nat) (v_tape : Nat) (v_names : Nat) (v_borders : Nat) (v_programs : Nat) (v_draft : Nat) (v_parser : Nat) (v_machine : Nat) (c_v_programs : ClassId) (f_prog : Nat → Option Nat) (p0 : Nat) (p0_code : Nat) (p0_constants : Nat) (p0_names : Nat) (p0_starts : Nat) (p0_parameters : Nat) (p0_variables : Nat) (p1 : Nat) (p1_code : Nat) (p1_constants : Nat) (p1_names : Nat) (p1_starts : Nat) (p1_parameters : Nat) (p1_variables : Nat) (p2 : Nat) (p2_code : Nat) (p2_constants : Nat) (p2_names : Nat) (p2_starts : Nat) (p2_parameters : Nat) (p2_variables : Nat) (p3 : Nat) (p3_code : Nat) (p3_constants : Nat) (p3_names : Nat) (p3_starts : Nat) (p3_parameters : Nat) (p3_variables : Nat) (x1 : Int32) (x2 : Int32) (x3 : Int64) (hp0 : f_prog 0 = some p0) (hp1 : f_prog 1 = some p1) (hp2 : f_prog 2 = some p2) (hp3 : f_prog 3 = some p3) : Met l yX11_call wqX11_callq ({ frames := 1, cells := 0, slots := 0, locals := 20 }) (va_Pc [.ref h0, .int x1, .int x2, .long x3] (fun U => xR (dC, dI) [(h0, .inr (10, [.ref v_tape, .int 0, .int 0, .ref v_names, .ref v_borders, .ref v_programs, .ref v_draft, .ref v_parser, .ref v_machine])), (v_programs, .inl (c_v_programs, 4, .inr (.inr (.inr (.inr f_prog))))), (p0, .inr (7, [.ref p0_code, .int 0, .ref p0_constants, .ref p0_names, .ref p0_starts, .ref p0_parameters, .ref p0_variables, .int 0])), (p1, .inr (7, [.ref p1_code, .int 0, .ref p1_constants, .ref p1_names, .ref p1_starts, .ref p1_parameters, .ref p1_variables, .int 0])), (p2, .inr (7, [.ref p2_code, .int 0, .ref p2_constants, .ref p2_names, .ref p2_starts, .ref p2_parameters, .ref p2_variables, .int 0])), (p3, .inr (7, [.ref p3_code, .int 0, .ref p3_constants, .ref p3_names, .ref p3_starts, .ref p3_parameters, .ref p3_variables, .int 0]))] [(c_v_programs, .object RX8)] U)) (va_Qi (fun (r : Int32) (_ : Unit) => r = 3) (fun (_ : Unit) _ => True) (fun _ => False)) 0 0 (fun _ => False) := by
  refine Met.ofW (cc := cX11_call) (maxL := 5) (ret := (some .int)) (by decide) rfl ?_
  intro p e s m args below meth c s₁ B hml hv
  obtain ⟨rfl, hP, hK⟩ := hv
  have hx := B.exec
  have hb := B.bytes
  have hr := B.returns
  have hts := atoms_spec (ws := wqX11_callq) B.pre
  have hown : s.vm.findClass RX11 = some m.cls := findClass_of_methodNamed B.named
  have hlocks := B.notSynchronized
  have hS : va_S (fun _ => False) s.heap s.heap [] := va_S.rf
  have hl := lv_entry ([.ref h0, .int x1, .int x2, .long x3]) (n := 5) (Nat.le_of_ble_eq_true rfl)
  rw [lg_entry_eq]
  generalize (lg_sl ([.ref h0, .int x1, .int x2, .long x3]) ++ List.replicate (5 - (lg_sl ([.ref h0, .int x1, .int x2, .long x3])).length) Slot.unset).toArray = ls at hl ⊢
  have hl : lv_has ls 5 [(0, .ref h0), (1, .int x1), (2, .int x2), (3, .long x3)] := hl
  refine lv_iload_n hx hb dX11_call_0 rfl (lv_at hl 1 rfl) ?_
  refine va_calli (va_runS (As := [.int x1]) (rest := []) ⟨hx, hb, hml, hown, hts⟩ (c_X11_isTongue l dC dI x1 ) (va_cwS 1 hts gq_wqX11_callq_wsX11_isTongue_67 rfl rfl rfl (by decide +kernel) ⟨Nat.le_of_ble_eq_true rfl, Nat.le_of_ble_eq_true rfl⟩) ⟨fb_R, fun U hU hW => ⟨rfl, xR.at (hP.sub (ws' := []) [] rfl) (hK.sub (tys' := []) [] rfl) hU hW⟩⟩ rfl rfl hl.1 rfl (lv_room (Nat.le_of_ble_eq_true rfl)) dX11_call_1 ⟨Nat.le_of_ble_eq_true rfl, Nat.le_of_ble_eq_true rfl⟩) hS (fun q _ h => h.elim) (fun q h => h.elim) (fun r_1 u t H locs ht hvm hw hB hz1 hk1 hS => ?_)
  have hw_2 := hw
  have hP := xR.keep hP hk1
  rcases hw_2 with ⟨ht1, rfl⟩ | ⟨ht1, rfl⟩
  · have _ := ht1
    refine lv_if_eq (tgt := 24) hx hb dX11_call_4 (by decide) (fun c_4 => ?_) (fun c_4 => absurd c_4 (by decide))
    refine lv_iconst (v := 3) hx hb dX11_call_24 (by decide) ?_
    exact W.iret (v := 3) hx hb hr (fun t ht hW => ⟨⟨3, (), rfl, rfl, trivial⟩, hS.F ht⟩) hS.2.2 dX11_call_25
  · have _ := ht1
    refine lv_if_eq (tgt := 24) hx hb dX11_call_4 (by decide) (fun c_4 => absurd c_4 (by decide)) (fun c_4 => ?_)
    refine lv_iload_n hx hb dX11_call_7 rfl (lv_at hl 2 rfl) ?_
    refine lv_if_lt (tgt := 24) hx hb dX11_call_8 (by decide) (fun c_8 => ?_) (fun c_8 => ?_)
    · refine lv_iconst (v := 3) hx hb dX11_call_24 (by decide) ?_
      exact W.iret (v := 3) hx hb hr (fun t ht hW => ⟨⟨3, (), rfl, rfl, trivial⟩, hS.F ht⟩) hS.2.2 dX11_call_25
    · refine lv_iload_n hx hb dX11_call_11 rfl (lv_at hl 2 rfl) ?_
      refine lv_aload_n hx hb dX11_call_12 rfl (lv_at hl 0 rfl) ?_
      refine va_get (D := (dC, dI)) (ci := 10) (v := .ref v_programs) (C := RX11) (T := TX11) (N := 9) hx hb hts in_wqX11_callq_RX11 hown hK hP 0 rfl rfl 5 (by decide) (hts (.fieldLink RX11 36 "FourTongues" "programs" "[LFourTongues$Program;") (by decide +kernel)) (fun _ h9 => h9) rfl dX11_call_13 ?_
      refine lv_iload_n hx hb dX11_call_16 rfl (lv_at hl 1 rfl) ?_
      rcases ng_cases ht1 with rfl | rfl | rfl | rfl
      · have _ := hp0
        refine va_aldq hx hb hK hP 1 0 rfl rfl (by unfold vp_in; decide) dX11_call_17 ?_
        refine my_tv (v := .ref p0) (congrArg va_rf hp0) ?_
        refine va_calli (va_runV (As := []) (rest := [.int x2]) ⟨hx, hb, hml, hown, hts⟩ (c_X8_functions l dC dI p0 p0_code p0_constants p0_names p0_starts p0_parameters p0_variables ) (cwV 0 hts gq_wqX11_callq_wsX8_functions_87 rfl rfl rfl (by decide +kernel) ⟨Nat.le_of_ble_eq_true rfl, Nat.le_of_ble_eq_true rfl⟩) ⟨fb_R, va_recv hK hP (ci := 7) (q0 := 2) rfl rfl, fun U hU hW => ⟨rfl, xR.at (hP.sub (ws' := [(p0, .inr (7, [.ref p0_code, .int 0, .ref p0_constants, .ref p0_names, .ref p0_starts, .ref p0_parameters, .ref p0_variables, .int 0]))]) [2] rfl) (hK.sub (tys' := []) [] rfl) hU hW⟩⟩ rfl rfl hl.1 rfl (lv_room (Nat.le_of_ble_eq_true rfl)) dX11_call_18 ⟨Nat.le_of_ble_eq_true rfl, Nat.le_of_ble_eq_true rfl⟩) hS (fun q _ h => h.elim) (fun q h => h.elim) (fun r_3 u t H locs ht hvm hw hB hz1 hk1 hS => ?_)
        have hw_4 := hw
        have hP := xR.keep hP hk1
        subst hw_4
        refine lv_icmp_lt (tgt := 26) hx hb dX11_call_21 (by decide) (fun c_21 => absurd c_21 (c_8)) (fun c_21 => ?_)
        refine lv_iconst (v := 3) hx hb dX11_call_24 (by decide) ?_
        exact W.iret (v := 3) hx hb hr (fun t ht hW => ⟨⟨3, (), rfl, rfl, trivial⟩, hS.F ht⟩) hS.2.2 dX11_call_25
      · have _ := hp1
        refine va_aldq hx hb hK hP 1 0 rfl rfl (by unfold vp_in; decide) dX11_call_17 ?_
        refine my_tv (v := .ref p1) (congrArg va_rf hp1) ?_
        refine va_calli (va_runV (As := []) (rest := [.int x2]) ⟨hx, hb, hml, hown, hts⟩ (c_X8_functions l dC dI p1 p1_code p1_constants p1_names p1_starts p1_parameters p1_variables ) (cwV 0 hts gq_wqX11_callq_wsX8_functions_87 rfl rfl rfl (by decide +kernel) ⟨Nat.le_of_ble_eq_true rfl, Nat.le_of_ble_eq_true rfl⟩) ⟨fb_R, va_recv hK hP (ci := 7) (q0 := 3) rfl rfl, fun U hU hW => ⟨rfl, xR.at (hP.sub (ws' := [(p1, .inr (7, [.ref p1_code, .int 0, .ref p1_constants, .ref p1_names, .ref p1_starts, .ref p1_parameters, .ref p1_variables, .int 0]))]) [3] rfl) (hK.sub (tys' := []) [] rfl) hU hW⟩⟩ rfl rfl hl.1 rfl (lv_room (Nat.le_of_ble_eq_true rfl)) dX11_call_18 ⟨Nat.le_of_ble_eq_true rfl, Nat.le_of_ble_eq_true rfl⟩) hS (fun q _ h => h.elim) (fun q h => h.elim) (fun r_5 u t H locs ht hvm hw hB hz1 hk1 hS => ?_)
        have hw_6 := hw
        have hP := xR.keep hP hk1
        subst hw_6
        refine lv_icmp_lt (tgt := 26) hx hb dX11_call_21 (by decide) (fun c_21 => absurd c_21 (c_8)) (fun c_21 => ?_)
        refine lv_iconst (v := 3) hx hb dX11_call_24 (by decide) ?_
        exact W.iret (v := 3) hx hb hr (fun t ht hW => ⟨⟨3, (), rfl, rfl, trivial⟩, hS.F ht⟩) hS.2.2 dX11_call_25
      · have _ := hp2
        refine va_aldq hx hb hK hP 1 0 rfl rfl (by unfold vp_in; decide) dX11_call_17 ?_
        refine my_tv (v := .ref p2) (congrArg va_rf hp2) ?_
        refine va_calli (va_runV (As := []) (rest := [.int x2]) ⟨hx, hb, hml, hown, hts⟩ (c_X8_functions l dC dI p2 p2_code p2_constants p2_names p2_starts p2_parameters p2_variables ) (cwV 0 hts gq_wqX11_callq_wsX8_functions_87 rfl rfl rfl (by decide +kernel) ⟨Nat.le_of_ble_eq_true rfl, Nat.le_of_ble_eq_true rfl⟩) ⟨fb_R, va_recv hK hP (ci := 7) (q0 := 4) rfl rfl, fun U hU hW => ⟨rfl, xR.at (hP.sub (ws' := [(p2, .inr (7, [.ref p2_code, .int 0, .ref p2_constants, .ref p2_names, .ref p2_starts, .ref p2_parameters, .ref p2_variables, .int 0]))]) [4] rfl) (hK.sub (tys' := []) [] rfl) hU hW⟩⟩ rfl rfl hl.1 rfl (lv_room (Nat.le_of_ble_eq_true rfl)) dX11_call_18 ⟨Nat.le_of_ble_eq_true rfl, Nat.le_of_ble_eq_true rfl⟩) hS (fun q _ h => h.elim) (fun q h => h.elim) (fun r_7 u t H locs ht hvm hw hB hz1 hk1 hS => ?_)
        have hw_8 := hw
        have hP := xR.keep hP hk1
        subst hw_8
        refine lv_icmp_lt (tgt := 26) hx hb dX11_call_21 (by decide) (fun c_21 => absurd c_21 (c_8)) (fun c_21 => ?_)
        refine lv_iconst (v := 3) hx hb dX11_call_24 (by decide) ?_
        exact W.iret (v := 3) hx hb hr (fun t ht hW => ⟨⟨3, (), rfl, rfl, trivial⟩, hS.F ht⟩) hS.2.2 dX11_call_25
      · have _ := hp3
        refine va_aldq hx hb hK hP 1 0 rfl rfl (by unfold vp_in; decide) dX11_call_17 ?_
        refine my_tv (v := .ref p3) (congrArg va_rf hp3) ?_
        refine va_calli (va_runV (As := []) (rest := [.int x2]) ⟨hx, hb, hml, hown, hts⟩ (c_X8_functions l dC dI p3 p3_code p3_constants p3_names p3_starts p3_parameters p3_variables ) (cwV 0 hts gq_wqX11_callq_wsX8_functions_87 rfl rfl rfl (by decide +kernel) ⟨Nat.le_of_ble_eq_true rfl, Nat.le_of_ble_eq_true rfl⟩) ⟨fb_R, va_recv hK hP (ci := 7) (q0 := 5) rfl rfl, fun U hU hW => ⟨rfl, xR.at (hP.sub (ws' := [(p3, .inr (7, [.ref p3_code, .int 0, .ref p3_constants, .ref p3_names, .ref p3_starts, .ref p3_parameters, .ref p3_variables, .int 0]))]) [5] rfl) (hK.sub (tys' := []) [] rfl) hU hW⟩⟩ rfl rfl hl.1 rfl (lv_room (Nat.le_of_ble_eq_true rfl)) dX11_call_18 ⟨Nat.le_of_ble_eq_true rfl, Nat.le_of_ble_eq_true rfl⟩) hS (fun q _ h => h.elim) (fun q h => h.elim) (fun r_9 u t H locs ht hvm hw hB hz1 hk1 hS => ?_)
        have hw_10 := hw
        have hP := xR.keep hP hk1
        subst hw_10
        refine lv_icmp_lt (tgt := 26) hx hb dX11_call_21 (by decide) (fun c_21 => absurd c_21 (c_8)) (fun c_21 => ?_)
        refine lv_iconst (v := 3) hx hb dX11_call_24 (by decide) ?_
        exact W.iret (v := 3) hx hb hr (fun t ht hW => ⟨⟨3, (), rfl, rfl, trivial⟩, hS.F ht⟩) hS.2.2 dX11_call_25
