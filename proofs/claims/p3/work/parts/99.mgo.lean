abbrev cX12_catches : ByteArray := prog_14_method_104_code
def yX12_catches : MethodName := ⟨RX12, "catches", "(II)Z"⟩
abbrev cX12_opensTo : ByteArray := prog_14_method_105_code
def yX12_opensTo : MethodName := ⟨RX12, "opensTo", "(II)Z"⟩
abbrev cX12_ends : ByteArray := prog_14_method_107_code
def yX12_ends : MethodName := ⟨RX12, "ends", "(IIJ)V"⟩
abbrev cX12_indexOf : ByteArray := prog_14_method_119_code
def yX12_indexOf : MethodName := ⟨RX12, "indexOf", "(IJI)I"⟩
abbrev cX12_functionOf : ByteArray := prog_14_method_124_code
def yX12_functionOf : MethodName := ⟨RX12, "functionOf", "(IJ)I"⟩
abbrev cX12_enters : ByteArray := prog_14_method_127_code
def yX12_enters : MethodName := ⟨RX12, "enters", "(II)V"⟩
theorem dX12_catches_0 : decode cX12_catches 0 = .ok (.iconst 0, 1) := by decide +kernel
theorem dX12_catches_1 : decode cX12_catches 1 = .ok (.aload_n 0, 1) := by decide +kernel
theorem dX12_catches_2 : decode cX12_catches 2 = .ok (.getfield 91, 3) := by decide +kernel
theorem dX12_catches_5 : decode cX12_catches 5 = .ok (.iload_n 1, 1) := by decide +kernel
theorem dX12_catches_6 : decode cX12_catches 6 = .ok (.iaload, 1) := by decide +kernel
theorem dX12_catches_7 : decode cX12_catches 7 = .ok (.iadd, 1) := by decide +kernel
theorem dX12_catches_8 : decode cX12_catches 8 = .ok (.istore_n 3, 1) := by decide +kernel
theorem dX12_catches_9 : decode cX12_catches 9 = .ok (.aload_n 0, 1) := by decide +kernel
theorem dX12_catches_10 : decode cX12_catches 10 = .ok (.getfield 27, 3) := by decide +kernel
theorem dX12_catches_13 : decode cX12_catches 13 = .ok (.iload_n 3, 1) := by decide +kernel
theorem dX12_catches_14 : decode cX12_catches 14 = .ok (.iaload, 1) := by decide +kernel
theorem dX12_catches_15 : decode cX12_catches 15 = .ok (.iconst (-1), 1) := by decide +kernel
theorem dX12_catches_16 : decode cX12_catches 16 = .ok (.if_icmp .eq 88, 3) := by decide +kernel
theorem dX12_catches_19 : decode cX12_catches 19 = .ok (.aload_n 0, 1) := by decide +kernel
theorem dX12_catches_20 : decode cX12_catches 20 = .ok (.aload_n 0, 1) := by decide +kernel
theorem dX12_catches_21 : decode cX12_catches 21 = .ok (.getfield 127, 3) := by decide +kernel
theorem dX12_catches_24 : decode cX12_catches 24 = .ok (.iload_n 2, 1) := by decide +kernel
theorem dX12_catches_25 : decode cX12_catches 25 = .ok (.iaload, 1) := by decide +kernel
theorem dX12_catches_26 : decode cX12_catches 26 = .ok (.aload_n 0, 1) := by decide +kernel
theorem dX12_catches_27 : decode cX12_catches 27 = .ok (.getfield 27, 3) := by decide +kernel
theorem dX12_catches_30 : decode cX12_catches 30 = .ok (.iload_n 3, 1) := by decide +kernel
theorem dX12_catches_31 : decode cX12_catches 31 = .ok (.iaload, 1) := by decide +kernel
theorem dX12_catches_32 : decode cX12_catches 32 = .ok (.invokevirtual 651, 3) := by decide +kernel
theorem dX12_catches_35 : decode cX12_catches 35 = .ok (.ifCond .eq 54, 3) := by decide +kernel
theorem dX12_catches_38 : decode cX12_catches 38 = .ok (.aload_n 0, 1) := by decide +kernel
theorem dX12_catches_39 : decode cX12_catches 39 = .ok (.aload_n 0, 1) := by decide +kernel
theorem dX12_catches_40 : decode cX12_catches 40 = .ok (.getfield 97, 3) := by decide +kernel
theorem dX12_catches_43 : decode cX12_catches 43 = .ok (.iload_n 1, 1) := by decide +kernel
theorem dX12_catches_44 : decode cX12_catches 44 = .ok (.iaload, 1) := by decide +kernel
theorem dX12_catches_45 : decode cX12_catches 45 = .ok (.putfield 574, 3) := by decide +kernel
theorem dX12_catches_48 : decode cX12_catches 48 = .ok (.aload_n 0, 1) := by decide +kernel
theorem dX12_catches_49 : decode cX12_catches 49 = .ok (.aload_n 0, 1) := by decide +kernel
theorem dX12_catches_50 : decode cX12_catches 50 = .ok (.getfield 24, 3) := by decide +kernel
theorem dX12_catches_53 : decode cX12_catches 53 = .ok (.iload_n 3, 1) := by decide +kernel
theorem dX12_catches_54 : decode cX12_catches 54 = .ok (.laload, 1) := by decide +kernel
theorem dX12_catches_55 : decode cX12_catches 55 = .ok (.l2i, 1) := by decide +kernel
theorem dX12_catches_56 : decode cX12_catches 56 = .ok (.aload_n 0, 1) := by decide +kernel
theorem dX12_catches_57 : decode cX12_catches 57 = .ok (.getfield 130, 3) := by decide +kernel
theorem dX12_catches_60 : decode cX12_catches 60 = .ok (.iload_n 2, 1) := by decide +kernel
theorem dX12_catches_61 : decode cX12_catches 61 = .ok (.baload, 1) := by decide +kernel
theorem dX12_catches_62 : decode cX12_catches 62 = .ok (.aload_n 0, 1) := by decide +kernel
theorem dX12_catches_63 : decode cX12_catches 63 = .ok (.getfield 133, 3) := by decide +kernel
theorem dX12_catches_66 : decode cX12_catches 66 = .ok (.iload_n 2, 1) := by decide +kernel
theorem dX12_catches_67 : decode cX12_catches 67 = .ok (.laload, 1) := by decide +kernel
theorem dX12_catches_68 : decode cX12_catches 68 = .ok (.invokevirtual 654, 3) := by decide +kernel
theorem dX12_catches_71 : decode cX12_catches 71 = .ok (.aload_n 0, 1) := by decide +kernel
theorem dX12_catches_72 : decode cX12_catches 72 = .ok (.getfield 63, 3) := by decide +kernel
theorem dX12_catches_75 : decode cX12_catches 75 = .ok (.aload_n 0, 1) := by decide +kernel
theorem dX12_catches_76 : decode cX12_catches 76 = .ok (.getfield 580, 3) := by decide +kernel
theorem dX12_catches_79 : decode cX12_catches 79 = .ok (.iconst 1, 1) := by decide +kernel
theorem dX12_catches_80 : decode cX12_catches 80 = .ok (.isub, 1) := by decide +kernel
theorem dX12_catches_81 : decode cX12_catches 81 = .ok (.iload_n 3, 1) := by decide +kernel
theorem dX12_catches_82 : decode cX12_catches 82 = .ok (.iconst 2, 1) := by decide +kernel
theorem dX12_catches_83 : decode cX12_catches 83 = .ok (.iadd, 1) := by decide +kernel
theorem dX12_catches_84 : decode cX12_catches 84 = .ok (.iconst 0, 1) := by decide +kernel
theorem dX12_catches_85 : decode cX12_catches 85 = .ok (.isub, 1) := by decide +kernel
theorem dX12_catches_86 : decode cX12_catches 86 = .ok (.iastore, 1) := by decide +kernel
theorem dX12_catches_87 : decode cX12_catches 87 = .ok (.iconst 1, 1) := by decide +kernel
theorem dX12_catches_88 : decode cX12_catches 88 = .ok (.ireturn, 1) := by decide +kernel
theorem dX12_catches_89 : decode cX12_catches 89 = .ok (.iconst 0, 1) := by decide +kernel
theorem dX12_catches_90 : decode cX12_catches 90 = .ok (.aload_n 0, 1) := by decide +kernel
theorem dX12_catches_91 : decode cX12_catches 91 = .ok (.getfield 24, 3) := by decide +kernel
theorem dX12_catches_94 : decode cX12_catches 94 = .ok (.iload_n 3, 1) := by decide +kernel
theorem dX12_catches_95 : decode cX12_catches 95 = .ok (.iconst 1, 1) := by decide +kernel
theorem dX12_catches_96 : decode cX12_catches 96 = .ok (.iadd, 1) := by decide +kernel
theorem dX12_catches_97 : decode cX12_catches 97 = .ok (.laload, 1) := by decide +kernel
theorem dX12_catches_98 : decode cX12_catches 98 = .ok (.l2i, 1) := by decide +kernel
theorem dX12_catches_99 : decode cX12_catches 99 = .ok (.iadd, 1) := by decide +kernel
theorem dX12_catches_100 : decode cX12_catches 100 = .ok (.istore_n 3, 1) := by decide +kernel
theorem dX12_catches_101 : decode cX12_catches 101 = .ok (.goto (-92), 3) := by decide +kernel
theorem dX12_catches_104 : decode cX12_catches 104 = .ok (.iconst 0, 1) := by decide +kernel
theorem dX12_catches_105 : decode cX12_catches 105 = .ok (.ireturn, 1) := by decide +kernel
theorem dX12_opensTo_0 : decode cX12_opensTo 0 = .ok (.aload_n 0, 1) := by decide +kernel
theorem dX12_opensTo_1 : decode cX12_opensTo 1 = .ok (.getfield 580, 3) := by decide +kernel
theorem dX12_opensTo_4 : decode cX12_opensTo 4 = .ok (.iconst 1, 1) := by decide +kernel
theorem dX12_opensTo_5 : decode cX12_opensTo 5 = .ok (.isub, 1) := by decide +kernel
theorem dX12_opensTo_6 : decode cX12_opensTo 6 = .ok (.istore_n 3, 1) := by decide +kernel
theorem dX12_opensTo_7 : decode cX12_opensTo 7 = .ok (.aload_n 0, 1) := by decide +kernel
theorem dX12_opensTo_8 : decode cX12_opensTo 8 = .ok (.aload_n 0, 1) := by decide +kernel
theorem dX12_opensTo_9 : decode cX12_opensTo 9 = .ok (.getfield 97, 3) := by decide +kernel
theorem dX12_opensTo_12 : decode cX12_opensTo 12 = .ok (.iload_n 1, 1) := by decide +kernel
theorem dX12_opensTo_13 : decode cX12_opensTo 13 = .ok (.iaload, 1) := by decide +kernel
theorem dX12_opensTo_14 : decode cX12_opensTo 14 = .ok (.putfield 574, 3) := by decide +kernel
theorem dX12_opensTo_17 : decode cX12_opensTo 17 = .ok (.aload_n 0, 1) := by decide +kernel
theorem dX12_opensTo_18 : decode cX12_opensTo 18 = .ok (.aload_n 0, 1) := by decide +kernel
theorem dX12_opensTo_19 : decode cX12_opensTo 19 = .ok (.getfield 24, 3) := by decide +kernel
theorem dX12_opensTo_22 : decode cX12_opensTo 22 = .ok (.sipush 27000, 3) := by decide +kernel
theorem dX12_opensTo_25 : decode cX12_opensTo 25 = .ok (.aload_n 0, 1) := by decide +kernel
theorem dX12_opensTo_26 : decode cX12_opensTo 26 = .ok (.getfield 100, 3) := by decide +kernel
theorem dX12_opensTo_29 : decode cX12_opensTo 29 = .ok (.iload_n 1, 1) := by decide +kernel
theorem dX12_opensTo_30 : decode cX12_opensTo 30 = .ok (.iaload, 1) := by decide +kernel
theorem dX12_opensTo_31 : decode cX12_opensTo 31 = .ok (.iadd, 1) := by decide +kernel
theorem dX12_opensTo_32 : decode cX12_opensTo 32 = .ok (.laload, 1) := by decide +kernel
theorem dX12_opensTo_33 : decode cX12_opensTo 33 = .ok (.l2i, 1) := by decide +kernel
theorem dX12_opensTo_34 : decode cX12_opensTo 34 = .ok (.aload_n 0, 1) := by decide +kernel
theorem dX12_opensTo_35 : decode cX12_opensTo 35 = .ok (.getfield 130, 3) := by decide +kernel
theorem dX12_opensTo_38 : decode cX12_opensTo 38 = .ok (.iload_n 2, 1) := by decide +kernel
theorem dX12_opensTo_39 : decode cX12_opensTo 39 = .ok (.baload, 1) := by decide +kernel
theorem dX12_opensTo_40 : decode cX12_opensTo 40 = .ok (.aload_n 0, 1) := by decide +kernel
theorem dX12_opensTo_41 : decode cX12_opensTo 41 = .ok (.getfield 133, 3) := by decide +kernel
theorem dX12_opensTo_44 : decode cX12_opensTo 44 = .ok (.iload_n 2, 1) := by decide +kernel
theorem dX12_opensTo_45 : decode cX12_opensTo 45 = .ok (.laload, 1) := by decide +kernel
theorem dX12_opensTo_46 : decode cX12_opensTo 46 = .ok (.invokevirtual 654, 3) := by decide +kernel
theorem dX12_opensTo_49 : decode cX12_opensTo 49 = .ok (.aload_n 0, 1) := by decide +kernel
theorem dX12_opensTo_50 : decode cX12_opensTo 50 = .ok (.getfield 63, 3) := by decide +kernel
theorem dX12_opensTo_53 : decode cX12_opensTo 53 = .ok (.iload_n 3, 1) := by decide +kernel
theorem dX12_opensTo_54 : decode cX12_opensTo 54 = .ok (.aload_n 0, 1) := by decide +kernel
theorem dX12_opensTo_55 : decode cX12_opensTo 55 = .ok (.getfield 91, 3) := by decide +kernel
theorem dX12_opensTo_58 : decode cX12_opensTo 58 = .ok (.iload_n 1, 1) := by decide +kernel
theorem dX12_opensTo_59 : decode cX12_opensTo 59 = .ok (.iaload, 1) := by decide +kernel
theorem dX12_opensTo_60 : decode cX12_opensTo 60 = .ok (.iastore, 1) := by decide +kernel
theorem dX12_opensTo_61 : decode cX12_opensTo 61 = .ok (.iconst 1, 1) := by decide +kernel
theorem dX12_opensTo_62 : decode cX12_opensTo 62 = .ok (.ireturn, 1) := by decide +kernel
theorem dX12_ends_0 : decode cX12_ends 0 = .ok (.aload_n 0, 1) := by decide +kernel
theorem dX12_ends_1 : decode cX12_ends 1 = .ok (.iconst 1, 1) := by decide +kernel
theorem dX12_ends_2 : decode cX12_ends 2 = .ok (.putfield 593, 3) := by decide +kernel
theorem dX12_ends_5 : decode cX12_ends 5 = .ok (.aload_n 0, 1) := by decide +kernel
theorem dX12_ends_6 : decode cX12_ends 6 = .ok (.iload_n 1, 1) := by decide +kernel
theorem dX12_ends_7 : decode cX12_ends 7 = .ok (.putfield 590, 3) := by decide +kernel
theorem dX12_ends_10 : decode cX12_ends 10 = .ok (.aload_n 0, 1) := by decide +kernel
theorem dX12_ends_11 : decode cX12_ends 11 = .ok (.iload_n 1, 1) := by decide +kernel
theorem dX12_ends_12 : decode cX12_ends 12 = .ok (.ifCond .ne 7, 3) := by decide +kernel
theorem dX12_ends_15 : decode cX12_ends 15 = .ok (.iload_n 2, 1) := by decide +kernel
theorem dX12_ends_16 : decode cX12_ends 16 = .ok (.goto 4, 3) := by decide +kernel
theorem dX12_ends_19 : decode cX12_ends 19 = .ok (.iconst 0, 1) := by decide +kernel
theorem dX12_ends_20 : decode cX12_ends 20 = .ok (.putfield 657, 3) := by decide +kernel
theorem dX12_ends_23 : decode cX12_ends 23 = .ok (.aload_n 0, 1) := by decide +kernel
theorem dX12_ends_24 : decode cX12_ends 24 = .ok (.iload_n 1, 1) := by decide +kernel
theorem dX12_ends_25 : decode cX12_ends 25 = .ok (.ifCond .ne 7, 3) := by decide +kernel
theorem dX12_ends_28 : decode cX12_ends 28 = .ok (.lload_n 3, 1) := by decide +kernel
theorem dX12_ends_29 : decode cX12_ends 29 = .ok (.goto 4, 3) := by decide +kernel
theorem dX12_ends_32 : decode cX12_ends 32 = .ok (.lconst 0, 1) := by decide +kernel
theorem dX12_ends_33 : decode cX12_ends 33 = .ok (.putfield 660, 3) := by decide +kernel
theorem dX12_ends_36 : decode cX12_ends 36 = .ok (.aload_n 0, 1) := by decide +kernel
theorem dX12_ends_37 : decode cX12_ends 37 = .ok (.iload_n 1, 1) := by decide +kernel
theorem dX12_ends_38 : decode cX12_ends 38 = .ok (.iconst 1, 1) := by decide +kernel
theorem dX12_ends_39 : decode cX12_ends 39 = .ok (.if_icmp .ne 8, 3) := by decide +kernel
theorem dX12_ends_42 : decode cX12_ends 42 = .ok (.lload_n 3, 1) := by decide +kernel
theorem dX12_ends_43 : decode cX12_ends 43 = .ok (.l2i, 1) := by decide +kernel
theorem dX12_ends_44 : decode cX12_ends 44 = .ok (.goto 4, 3) := by decide +kernel
theorem dX12_ends_47 : decode cX12_ends 47 = .ok (.iconst (-1), 1) := by decide +kernel
theorem dX12_ends_48 : decode cX12_ends 48 = .ok (.putfield 663, 3) := by decide +kernel
theorem dX12_ends_51 : decode cX12_ends 51 = .ok (.return_, 1) := by decide +kernel
theorem dX12_indexOf_0 : decode cX12_indexOf 0 = .ok (.iload_n 1, 1) := by decide +kernel
theorem dX12_indexOf_1 : decode cX12_indexOf 1 = .ok (.iconst 3, 1) := by decide +kernel
theorem dX12_indexOf_2 : decode cX12_indexOf 2 = .ok (.if_icmp .ne 43, 3) := by decide +kernel
theorem dX12_indexOf_5 : decode cX12_indexOf 5 = .ok (.lload_n 2, 1) := by decide +kernel
theorem dX12_indexOf_6 : decode cX12_indexOf 6 = .ok (.invokestatic 545, 3) := by decide +kernel
theorem dX12_indexOf_9 : decode cX12_indexOf 9 = .ok (.dstore 5, 2) := by decide +kernel
theorem dX12_indexOf_11 : decode cX12_indexOf 11 = .ok (.dload 5, 2) := by decide +kernel
theorem dX12_indexOf_13 : decode cX12_indexOf 13 = .ok (.dconst 0, 1) := by decide +kernel
theorem dX12_indexOf_14 : decode cX12_indexOf 14 = .ok (.dcmp .l, 1) := by decide +kernel
theorem dX12_indexOf_15 : decode cX12_indexOf 15 = .ok (.ifCond .lt 28, 3) := by decide +kernel
theorem dX12_indexOf_18 : decode cX12_indexOf 18 = .ok (.dload 5, 2) := by decide +kernel
theorem dX12_indexOf_20 : decode cX12_indexOf 20 = .ok (.iload 4, 2) := by decide +kernel
theorem dX12_indexOf_22 : decode cX12_indexOf 22 = .ok (.i2d, 1) := by decide +kernel
theorem dX12_indexOf_23 : decode cX12_indexOf 23 = .ok (.dcmp .g, 1) := by decide +kernel
theorem dX12_indexOf_24 : decode cX12_indexOf 24 = .ok (.ifCond .gt 19, 3) := by decide +kernel
theorem dX12_indexOf_27 : decode cX12_indexOf 27 = .ok (.dload 5, 2) := by decide +kernel
theorem dX12_indexOf_29 : decode cX12_indexOf 29 = .ok (.dload 5, 2) := by decide +kernel
theorem dX12_indexOf_31 : decode cX12_indexOf 31 = .ok (.d2i, 1) := by decide +kernel
theorem dX12_indexOf_32 : decode cX12_indexOf 32 = .ok (.i2d, 1) := by decide +kernel
theorem dX12_indexOf_33 : decode cX12_indexOf 33 = .ok (.dcmp .l, 1) := by decide +kernel
theorem dX12_indexOf_34 : decode cX12_indexOf 34 = .ok (.ifCond .ne 9, 3) := by decide +kernel
theorem dX12_indexOf_37 : decode cX12_indexOf 37 = .ok (.dload 5, 2) := by decide +kernel
theorem dX12_indexOf_39 : decode cX12_indexOf 39 = .ok (.d2i, 1) := by decide +kernel
theorem dX12_indexOf_40 : decode cX12_indexOf 40 = .ok (.goto 4, 3) := by decide +kernel
theorem dX12_indexOf_43 : decode cX12_indexOf 43 = .ok (.iconst (-1), 1) := by decide +kernel
theorem dX12_indexOf_44 : decode cX12_indexOf 44 = .ok (.ireturn, 1) := by decide +kernel
theorem dX12_indexOf_45 : decode cX12_indexOf 45 = .ok (.lload_n 2, 1) := by decide +kernel
theorem dX12_indexOf_46 : decode cX12_indexOf 46 = .ok (.lconst 0, 1) := by decide +kernel
theorem dX12_indexOf_47 : decode cX12_indexOf 47 = .ok (.lcmp, 1) := by decide +kernel
theorem dX12_indexOf_48 : decode cX12_indexOf 48 = .ok (.ifCond .lt 16, 3) := by decide +kernel
theorem dX12_indexOf_51 : decode cX12_indexOf 51 = .ok (.lload_n 2, 1) := by decide +kernel
theorem dX12_indexOf_52 : decode cX12_indexOf 52 = .ok (.iload 4, 2) := by decide +kernel
theorem dX12_indexOf_54 : decode cX12_indexOf 54 = .ok (.i2l, 1) := by decide +kernel
theorem dX12_indexOf_55 : decode cX12_indexOf 55 = .ok (.lcmp, 1) := by decide +kernel
theorem dX12_indexOf_56 : decode cX12_indexOf 56 = .ok (.ifCond .gt 8, 3) := by decide +kernel
theorem dX12_indexOf_59 : decode cX12_indexOf 59 = .ok (.lload_n 2, 1) := by decide +kernel
theorem dX12_indexOf_60 : decode cX12_indexOf 60 = .ok (.l2i, 1) := by decide +kernel
theorem dX12_indexOf_61 : decode cX12_indexOf 61 = .ok (.goto 4, 3) := by decide +kernel
theorem dX12_indexOf_64 : decode cX12_indexOf 64 = .ok (.iconst (-1), 1) := by decide +kernel
theorem dX12_indexOf_65 : decode cX12_indexOf 65 = .ok (.ireturn, 1) := by decide +kernel
theorem dX12_functionOf_0 : decode cX12_functionOf 0 = .ok (.iconst 0, 1) := by decide +kernel
theorem dX12_functionOf_1 : decode cX12_functionOf 1 = .ok (.istore 4, 2) := by decide +kernel
theorem dX12_functionOf_3 : decode cX12_functionOf 3 = .ok (.iload 4, 2) := by decide +kernel
theorem dX12_functionOf_5 : decode cX12_functionOf 5 = .ok (.aload_n 0, 1) := by decide +kernel
theorem dX12_functionOf_6 : decode cX12_functionOf 6 = .ok (.getfield 42, 3) := by decide +kernel
theorem dX12_functionOf_9 : decode cX12_functionOf 9 = .ok (.iload_n 1, 1) := by decide +kernel
theorem dX12_functionOf_10 : decode cX12_functionOf 10 = .ok (.iaload, 1) := by decide +kernel
theorem dX12_functionOf_11 : decode cX12_functionOf 11 = .ok (.if_icmp .ge 29, 3) := by decide +kernel
theorem dX12_functionOf_14 : decode cX12_functionOf 14 = .ok (.aload_n 0, 1) := by decide +kernel
theorem dX12_functionOf_15 : decode cX12_functionOf 15 = .ok (.getfield 30, 3) := by decide +kernel
theorem dX12_functionOf_18 : decode cX12_functionOf 18 = .ok (.bipush 40, 2) := by decide +kernel
theorem dX12_functionOf_20 : decode cX12_functionOf 20 = .ok (.iload_n 1, 1) := by decide +kernel
theorem dX12_functionOf_21 : decode cX12_functionOf 21 = .ok (.imul, 1) := by decide +kernel
theorem dX12_functionOf_22 : decode cX12_functionOf 22 = .ok (.iload 4, 2) := by decide +kernel
theorem dX12_functionOf_24 : decode cX12_functionOf 24 = .ok (.iadd, 1) := by decide +kernel
theorem dX12_functionOf_25 : decode cX12_functionOf 25 = .ok (.laload, 1) := by decide +kernel
theorem dX12_functionOf_26 : decode cX12_functionOf 26 = .ok (.lload_n 2, 1) := by decide +kernel
theorem dX12_functionOf_27 : decode cX12_functionOf 27 = .ok (.lcmp, 1) := by decide +kernel
theorem dX12_functionOf_28 : decode cX12_functionOf 28 = .ok (.ifCond .ne 6, 3) := by decide +kernel
theorem dX12_functionOf_31 : decode cX12_functionOf 31 = .ok (.iload 4, 2) := by decide +kernel
theorem dX12_functionOf_33 : decode cX12_functionOf 33 = .ok (.ireturn, 1) := by decide +kernel
theorem dX12_functionOf_34 : decode cX12_functionOf 34 = .ok (.iinc 4 1, 3) := by decide +kernel
theorem dX12_functionOf_37 : decode cX12_functionOf 37 = .ok (.goto (-34), 3) := by decide +kernel
theorem dX12_functionOf_40 : decode cX12_functionOf 40 = .ok (.iconst (-1), 1) := by decide +kernel
theorem dX12_functionOf_41 : decode cX12_functionOf 41 = .ok (.ireturn, 1) := by decide +kernel
theorem dX12_enters_0 : decode cX12_enters 0 = .ok (.aload_n 0, 1) := by decide +kernel
theorem dX12_enters_1 : decode cX12_enters 1 = .ok (.getfield 580, 3) := by decide +kernel
theorem dX12_enters_4 : decode cX12_enters 4 = .ok (.istore_n 3, 1) := by decide +kernel
theorem dX12_enters_5 : decode cX12_enters 5 = .ok (.aload_n 0, 1) := by decide +kernel
theorem dX12_enters_6 : decode cX12_enters 6 = .ok (.dup, 1) := by decide +kernel
theorem dX12_enters_7 : decode cX12_enters 7 = .ok (.getfield 580, 3) := by decide +kernel
theorem dX12_enters_10 : decode cX12_enters 10 = .ok (.iconst 1, 1) := by decide +kernel
theorem dX12_enters_11 : decode cX12_enters 11 = .ok (.iadd, 1) := by decide +kernel
theorem dX12_enters_12 : decode cX12_enters 12 = .ok (.putfield 580, 3) := by decide +kernel
theorem dX12_enters_15 : decode cX12_enters 15 = .ok (.aload_n 0, 1) := by decide +kernel
theorem dX12_enters_16 : decode cX12_enters 16 = .ok (.aload_n 0, 1) := by decide +kernel
theorem dX12_enters_17 : decode cX12_enters 17 = .ok (.getfield 763, 3) := by decide +kernel
theorem dX12_enters_20 : decode cX12_enters 20 = .ok (.aload_n 0, 1) := by decide +kernel
theorem dX12_enters_21 : decode cX12_enters 21 = .ok (.getfield 580, 3) := by decide +kernel
theorem dX12_enters_24 : decode cX12_enters 24 = .ok (.invokestatic 766, 3) := by decide +kernel
theorem dX12_enters_27 : decode cX12_enters 27 = .ok (.putfield 763, 3) := by decide +kernel
theorem dX12_enters_30 : decode cX12_enters 30 = .ok (.aload_n 0, 1) := by decide +kernel
theorem dX12_enters_31 : decode cX12_enters 31 = .ok (.getfield 57, 3) := by decide +kernel
theorem dX12_enters_34 : decode cX12_enters 34 = .ok (.iload_n 3, 1) := by decide +kernel
theorem dX12_enters_35 : decode cX12_enters 35 = .ok (.iload_n 1, 1) := by decide +kernel
theorem dX12_enters_36 : decode cX12_enters 36 = .ok (.iastore, 1) := by decide +kernel
theorem dX12_enters_37 : decode cX12_enters 37 = .ok (.aload_n 0, 1) := by decide +kernel
theorem dX12_enters_38 : decode cX12_enters 38 = .ok (.getfield 60, 3) := by decide +kernel
theorem dX12_enters_41 : decode cX12_enters 41 = .ok (.iload_n 3, 1) := by decide +kernel
theorem dX12_enters_42 : decode cX12_enters 42 = .ok (.iload_n 2, 1) := by decide +kernel
theorem dX12_enters_43 : decode cX12_enters 43 = .ok (.iastore, 1) := by decide +kernel
theorem dX12_enters_44 : decode cX12_enters 44 = .ok (.aload_n 0, 1) := by decide +kernel
theorem dX12_enters_45 : decode cX12_enters 45 = .ok (.getfield 63, 3) := by decide +kernel
theorem dX12_enters_48 : decode cX12_enters 48 = .ok (.iload_n 3, 1) := by decide +kernel
theorem dX12_enters_49 : decode cX12_enters 49 = .ok (.aload_n 0, 1) := by decide +kernel
theorem dX12_enters_50 : decode cX12_enters 50 = .ok (.getfield 33, 3) := by decide +kernel
theorem dX12_enters_53 : decode cX12_enters 53 = .ok (.bipush 40, 2) := by decide +kernel
theorem dX12_enters_55 : decode cX12_enters 55 = .ok (.iload_n 1, 1) := by decide +kernel
theorem dX12_enters_56 : decode cX12_enters 56 = .ok (.imul, 1) := by decide +kernel
theorem dX12_enters_57 : decode cX12_enters 57 = .ok (.iload_n 2, 1) := by decide +kernel
theorem dX12_enters_58 : decode cX12_enters 58 = .ok (.iadd, 1) := by decide +kernel
theorem dX12_enters_59 : decode cX12_enters 59 = .ok (.iaload, 1) := by decide +kernel
theorem dX12_enters_60 : decode cX12_enters 60 = .ok (.iastore, 1) := by decide +kernel
theorem dX12_enters_61 : decode cX12_enters 61 = .ok (.aload_n 0, 1) := by decide +kernel
theorem dX12_enters_62 : decode cX12_enters 62 = .ok (.getfield 66, 3) := by decide +kernel
theorem dX12_enters_65 : decode cX12_enters 65 = .ok (.iload_n 3, 1) := by decide +kernel
theorem dX12_enters_66 : decode cX12_enters 66 = .ok (.iconst 0, 1) := by decide +kernel
theorem dX12_enters_67 : decode cX12_enters 67 = .ok (.iastore, 1) := by decide +kernel
theorem dX12_enters_68 : decode cX12_enters 68 = .ok (.aload_n 0, 1) := by decide +kernel
theorem dX12_enters_69 : decode cX12_enters 69 = .ok (.getfield 69, 3) := by decide +kernel
theorem dX12_enters_72 : decode cX12_enters 72 = .ok (.iload_n 3, 1) := by decide +kernel
theorem dX12_enters_73 : decode cX12_enters 73 = .ok (.aload_n 0, 1) := by decide +kernel
theorem dX12_enters_74 : decode cX12_enters 74 = .ok (.getfield 574, 3) := by decide +kernel
theorem dX12_enters_77 : decode cX12_enters 77 = .ok (.iastore, 1) := by decide +kernel
theorem dX12_enters_78 : decode cX12_enters 78 = .ok (.aload_n 0, 1) := by decide +kernel
theorem dX12_enters_79 : decode cX12_enters 79 = .ok (.getfield 72, 3) := by decide +kernel
theorem dX12_enters_82 : decode cX12_enters 82 = .ok (.iload_n 3, 1) := by decide +kernel
theorem dX12_enters_83 : decode cX12_enters 83 = .ok (.aload_n 0, 1) := by decide +kernel
theorem dX12_enters_84 : decode cX12_enters 84 = .ok (.getfield 596, 3) := by decide +kernel
theorem dX12_enters_87 : decode cX12_enters 87 = .ok (.iastore, 1) := by decide +kernel
theorem dX12_enters_88 : decode cX12_enters 88 = .ok (.iconst 0, 1) := by decide +kernel
theorem dX12_enters_89 : decode cX12_enters 89 = .ok (.istore 4, 2) := by decide +kernel
theorem dX12_enters_91 : decode cX12_enters 91 = .ok (.iload 4, 2) := by decide +kernel
theorem dX12_enters_93 : decode cX12_enters 93 = .ok (.aload_n 0, 1) := by decide +kernel
theorem dX12_enters_94 : decode cX12_enters 94 = .ok (.getfield 39, 3) := by decide +kernel
theorem dX12_enters_97 : decode cX12_enters 97 = .ok (.bipush 40, 2) := by decide +kernel
theorem dX12_enters_99 : decode cX12_enters 99 = .ok (.iload_n 1, 1) := by decide +kernel
theorem dX12_enters_100 : decode cX12_enters 100 = .ok (.imul, 1) := by decide +kernel
theorem dX12_enters_101 : decode cX12_enters 101 = .ok (.iload_n 2, 1) := by decide +kernel
theorem dX12_enters_102 : decode cX12_enters 102 = .ok (.iadd, 1) := by decide +kernel
theorem dX12_enters_103 : decode cX12_enters 103 = .ok (.iaload, 1) := by decide +kernel
theorem dX12_enters_104 : decode cX12_enters 104 = .ok (.if_icmp .ge 17, 3) := by decide +kernel
theorem dX12_enters_107 : decode cX12_enters 107 = .ok (.aload_n 0, 1) := by decide +kernel
theorem dX12_enters_108 : decode cX12_enters 108 = .ok (.iload 4, 2) := by decide +kernel
theorem dX12_enters_110 : decode cX12_enters 110 = .ok (.iconst 0, 1) := by decide +kernel
theorem dX12_enters_111 : decode cX12_enters 111 = .ok (.lconst 0, 1) := by decide +kernel
theorem dX12_enters_112 : decode cX12_enters 112 = .ok (.invokevirtual 654, 3) := by decide +kernel
theorem dX12_enters_115 : decode cX12_enters 115 = .ok (.iinc 4 1, 3) := by decide +kernel
theorem dX12_enters_118 : decode cX12_enters 118 = .ok (.goto (-27), 3) := by decide +kernel
theorem dX12_enters_121 : decode cX12_enters 121 = .ok (.return_, 1) := by decide +kernel
set_option maxHeartbeats 4000000 in
set_option maxRecDepth 100000 in
theorem c_X12_puts_r (ω : Om) (l : Launch) (μ : M3) (x1 : Int) (x2 : Int) (x3 : Int) (n : Int) (hx1 : ir x1) (hx2 : ir x2) (hx3 : jr x3) (hn : n = μ.1 111 47) (h1 : 1 ≤ n ∧ n ≤ 24) (hxv : 0 ≤ x1 ∧ x1 < 320) (hv5 : 0 ≤ x2 ∧ x2 ≤ 4) : CtV ω l yX12_puts cX12_puts 5 0 0 [.ref (oP ω 111), .int (iv x1), .int (iv x2), .long (jv x3)] μ (fun (μ' : M3) => (FrM [133, 134] μ μ') ∧ (μ'.1 133 (320 * (n - 1) + x1) = x2) ∧ (μ'.1 134 (320 * (n - 1) + x1) = x3) ∧ (∀ j, j ≠ 320 * (n - 1) + x1 → μ'.1 133 j = μ.1 133 j) ∧ (∀ j, j ≠ 320 * (n - 1) + x1 → μ'.1 134 j = μ.1 134 j)) := by
  refine CtV.go (by decide) (Nat.le_of_ble_eq_true rfl) (fun ρ p e s m below meth c R ls G hR hret hlk hl => ?_)
  have hx := G.1.1
  have hb := G.1.2.1
  have hl : lv_has ls 5 [(0, .ref (oP ω 111)), (1, .int (iv x1)), (2, .int (iv x2)), (3, .long (jv x3))] := hl
  generalize s.drawn = d0 at G ⊢
  have hr_x1 : -2147483648 ≤ x1 ∧ x1 ≤ 2147483647 := hx1
  have hr_x2 : -2147483648 ≤ x2 ∧ x2 ≤ 2147483647 := hx2
  refine lv_aload_n hx hb dX12_puts_0 rfl (lv_at hl 0 rfl) ?_
  refine xa_getr G fd_X12 (a := 111) (x := 133) 49 rfl (by decide) rfl (wm 7 198 rfl rfl) ⟨rfl, rfl, rfl⟩ dX12_puts_1 rfl (G.sk 131 rfl) (by decide) rfl ?_
  refine lv_sipush (v := iv 320) hx hb dX12_puts_4 rfl ?_
  refine lv_aload_n hx hb dX12_puts_7 rfl (lv_at hl 0 rfl) ?_
  refine xa_geti G fd_X12 (a := 111) (x := n) 47 rfl (by decide) rfl (wm 7 196 rfl rfl) ⟨rfl, rfl, rfl⟩ dX12_puts_8 rfl hn.symm ?_
  have hr_1 : -2147483648 ≤ n ∧ n ≤ 2147483647 := by have h9 := G.hr (a := 111) (k := 47) rfl; rw [show μ.1 111 47 = n from hn.symm] at h9; exact h9
  refine lv_iconst (v := iv 1) hx hb dX12_puts_11 rfl ?_
  refine xb_isub hx hb dX12_puts_12 ?_
  refine xb_imul hx hb dX12_puts_13 ?_
  refine lv_iload_n hx hb dX12_puts_14 rfl (lv_at hl 1 rfl) ?_
  refine xb_iadd hx hb dX12_puts_15 ?_
  refine lv_iload_n hx hb dX12_puts_16 rfl (lv_at hl 2 rfl) ?_
  refine xb_i2bx hx hb (x := x2) (by omega) dX12_puts_17 ?_
  refine xa_bast G (a := 133) (i := (320 * (n - 1)) + x1) (x := x2) rfl (by have h9 := G.lc (a := 133) (n := 8400) 71 rfl; omega) (by omega) dX12_puts_18 rfl (fun H locs G => ?_)
  refine lv_aload_n hx hb dX12_puts_19 rfl (lv_at hl 0 rfl) ?_
  refine xa_getr G fd_X12 (a := 111) (x := 134) 50 rfl (by decide) rfl (wm 7 199 rfl rfl) ⟨rfl, rfl, rfl⟩ dX12_puts_20 rfl (G.sk 132 rfl) (by decide) rfl ?_
  refine lv_sipush (v := iv 320) hx hb dX12_puts_23 rfl ?_
  refine lv_aload_n hx hb dX12_puts_26 rfl (lv_at hl 0 rfl) ?_
  refine xa_geti G fd_X12 (a := 111) (x := n) 47 rfl (by decide) rfl (wm 7 196 rfl rfl) ⟨rfl, rfl, rfl⟩ dX12_puts_27 rfl ((sv_n _ (fun h9 => absurd h9.1 (by decide))).trans hn.symm) ?_
  refine lv_iconst (v := iv 1) hx hb dX12_puts_30 rfl ?_
  refine xb_isub hx hb dX12_puts_31 ?_
  refine xb_imul hx hb dX12_puts_32 ?_
  refine lv_iload_n hx hb dX12_puts_33 rfl (lv_at hl 1 rfl) ?_
  refine xb_iadd hx hb dX12_puts_34 ?_
  refine lv_lload_n hx hb dX12_puts_35 rfl (lv_at hl 3 rfl) ?_
  refine xa_last G (a := 134) (i := (320 * (n - 1)) + x1) (x := x3) rfl (by have h9 := G.lc (a := 134) (n := 8400) 72 rfl; omega) hx3 dX12_puts_36 rfl (fun H locs G => ?_)
  exact xr_v G hret hlk dX12_puts_37 ⟨(FrM.put (FrM.put FrM.rf (by decide)) (by decide)), ((sv_n _ (fun h9 => absurd h9.1 (by decide))).trans (sv_s _ _ _ _)), (sv_s _ _ _ _), (fun j hj => ((sv_n _ (by omega)).trans (sv_n _ (by omega)))), (fun j hj => ((sv_n _ (by omega)).trans (sv_n _ (by omega))))⟩

set_option maxHeartbeats 4000000 in
set_option maxRecDepth 100000 in
theorem c_X12_indexOf (ω : Om) (l : Launch) (μ : M3) (x1 : Int) (x2 : Int) (x3 : Int) (hx1 : ir x1) (hx2 : jr x2) (hx3 : ir x3) (hq3 : -1 ≤ x3 ∧ x3 ≤ 400) : CtI ω l yX12_indexOf cX12_indexOf 7 .int 2 61 [.ref (oP ω 111), .int (iv x1), .long (jv x2), .int (iv x3)] μ (fun (r : Int) (μ' : M3) => (μ' = μ) ∧ (r = -1 ∨ (0 ≤ r ∧ r ≤ x3))) := by
  refine CtI.go (by decide) (Nat.le_of_ble_eq_true rfl) (fun ρ p e s m below meth c R ls G hR hret hlk hl => ?_)
  have hx := G.1.1
  have hb := G.1.2.1
  have hl : lv_has ls 7 [(0, .ref (oP ω 111)), (1, .int (iv x1)), (2, .long (jv x2)), (4, .int (iv x3))] := hl
  generalize s.drawn = d0 at G ⊢
  have hr_x1 : -2147483648 ≤ x1 ∧ x1 ≤ 2147483647 := hx1
  have hr_x3 : -2147483648 ≤ x3 ∧ x3 ≤ 2147483647 := hx3
  refine lv_iload_n hx hb dX12_indexOf_0 rfl (lv_at hl 1 rfl) ?_
  refine lv_iconst (v := iv 3) hx hb dX12_indexOf_1 rfl ?_
  refine xb_icmp_ne (tgt := 45) hx hb (by unfold ir; omega) (by unfold ir; omega) dX12_indexOf_2 (by decide) (fun c_2 => ?_) (fun c_2 => ?_)
  · refine lv_lload_n hx hb dX12_indexOf_45 rfl (lv_at hl 2 rfl) ?_
    refine lv_lconst (v := jv 0) hx hb dX12_indexOf_46 rfl ?_
    refine xb_lcmp hx hb hx2 (by unfold jr; omega) dX12_indexOf_47 ?_
    have hr_1 : -2147483648 ≤ lcm x2 0 ∧ lcm x2 0 ≤ 2147483647 := lcm_ir _ _
    have hlc_2 := lcm_f x2 0
    refine xb_if_lt (tgt := 64) hx hb (by unfold ir; omega) dX12_indexOf_48 (by decide) (fun c_48 => ?_) (fun c_48 => ?_)
    · refine lv_iconst (v := iv (-1)) hx hb dX12_indexOf_64 rfl ?_
      exact xr_i G (x := (-1)) hret hlk (by unfold ir; omega) rfl dX12_indexOf_65 ⟨rfl, (Or.inl rfl)⟩
    · refine lv_lload_n hx hb dX12_indexOf_51 rfl (lv_at hl 2 rfl) ?_
      refine lv_iload hx hb dX12_indexOf_52 (lv_at hl 3 rfl) ?_
      refine xb_i2l hx hb (by unfold ir; omega) dX12_indexOf_54 ?_
      refine xb_lcmp hx hb hx2 (by unfold jr; omega) dX12_indexOf_55 ?_
      have hr_3 : -2147483648 ≤ lcm x2 x3 ∧ lcm x2 x3 ≤ 2147483647 := lcm_ir _ _
      have hlc_4 := lcm_f x2 x3
      refine xb_if_gt (tgt := 64) hx hb (by unfold ir; omega) dX12_indexOf_56 (by decide) (fun c_56 => ?_) (fun c_56 => ?_)
      · refine lv_iconst (v := iv (-1)) hx hb dX12_indexOf_64 rfl ?_
        exact xr_i G (x := (-1)) hret hlk (by unfold ir; omega) rfl dX12_indexOf_65 ⟨rfl, (Or.inl rfl)⟩
      · refine lv_lload_n hx hb dX12_indexOf_59 rfl (lv_at hl 2 rfl) ?_
        refine xb_l2i hx hb dX12_indexOf_60 ?_
        refine xb_topi (fun y_5 hr_y_5 he_y_5 => ?_)
        have hr_y_5 : -2147483648 ≤ y_5 ∧ y_5 ≤ 2147483647 := hr_y_5
        have hli_y_5 : ir x2 → y_5 = x2 := fun h9 => (iv_eq hr_y_5 h9).mp he_y_5
        unfold ir at hli_y_5
        refine lv_goto (tgt := 65) hx hb dX12_indexOf_61 (by decide) ?_
        exact xr_i G (x := y_5) hret hlk (by unfold ir; omega) rfl dX12_indexOf_65 ⟨rfl, (Or.inr (by omega))⟩
  · refine lv_lload_n hx hb dX12_indexOf_5 rfl (lv_at hl 2 rfl) ?_
    refine xc_dS G (rest := []) (As := [.long (jv x2)]) (c_X12_real ω l μ x2 hx2) (wm 10 91 rfl rfl) (wm 10 92 rfl rfl) (wm 1 18 rfl rfl) (wm 10 93 rfl rfl) (by decide) hR (by decide) (n := 1) rfl rfl (Nat.le_of_ble_eq_true rfl) hl.1 dX12_indexOf_6 (fun r_7 μ6 ρ d0 H locs hp G => ?_)
    have hsm_8 := hp
    have hsm_8 := Eq.symm hsm_8
    subst hsm_8
    refine lv_dstore (lv' := [(5, .double (dv r_7)), (0, .ref (oP ω 111)), (1, .int (iv x1)), (2, .long (jv x2)), (4, .int (iv x3))]) hx hb dX12_indexOf_9 hl (by decide) rfl (fun ls hl => ?_)
    refine lv_dload hx hb dX12_indexOf_11 (lv_at hl 0 rfl) ?_
    refine lv_dconst0 hx hb dX12_indexOf_13 ?_
    refine xb_topd (fun dd_9 he_dd_9 => ?_)
    refine lv_dcmp hx hb dX12_indexOf_14 ?_
    refine xb_topi (fun y_10 hr_y_10 he_y_10 => ?_)
    have hr_y_10 : -2147483648 ≤ y_10 ∧ y_10 ≤ 2147483647 := hr_y_10
    refine xb_if_lt (tgt := 43) hx hb (by unfold ir; omega) dX12_indexOf_15 (by decide) (fun c_15 => ?_) (fun c_15 => ?_)
    · refine lv_iconst (v := iv (-1)) hx hb dX12_indexOf_43 rfl ?_
      exact xr_i G (x := (-1)) hret hlk (by unfold ir; omega) rfl dX12_indexOf_44 ⟨rfl, (Or.inl rfl)⟩
    · refine lv_dload hx hb dX12_indexOf_18 (lv_at hl 0 rfl) ?_
      refine lv_iload hx hb dX12_indexOf_20 (lv_at hl 4 rfl) ?_
      refine lv_i2d hx hb dX12_indexOf_22 ?_
      refine xb_topd (fun dd_11 he_dd_11 => ?_)
      refine lv_dcmp hx hb dX12_indexOf_23 ?_
      refine xb_topi (fun y_12 hr_y_12 he_y_12 => ?_)
      have hr_y_12 : -2147483648 ≤ y_12 ∧ y_12 ≤ 2147483647 := hr_y_12
      refine xb_if_gt (tgt := 43) hx hb (by unfold ir; omega) dX12_indexOf_24 (by decide) (fun c_24 => ?_) (fun c_24 => ?_)
      · refine lv_iconst (v := iv (-1)) hx hb dX12_indexOf_43 rfl ?_
        exact xr_i G (x := (-1)) hret hlk (by unfold ir; omega) rfl dX12_indexOf_44 ⟨rfl, (Or.inl rfl)⟩
      · refine lv_dload hx hb dX12_indexOf_27 (lv_at hl 0 rfl) ?_
        refine lv_dload hx hb dX12_indexOf_29 (lv_at hl 0 rfl) ?_
        refine lv_d2i hx hb dX12_indexOf_31 ?_
        refine xb_topi (fun y_13 hr_y_13 he_y_13 => ?_)
        have hr_y_13 : -2147483648 ≤ y_13 ∧ y_13 ≤ 2147483647 := hr_y_13
        refine lv_i2d hx hb dX12_indexOf_32 ?_
        refine xb_topd (fun dd_14 he_dd_14 => ?_)
        refine lv_dcmp hx hb dX12_indexOf_33 ?_
        refine xb_topi (fun y_15 hr_y_15 he_y_15 => ?_)
        have hr_y_15 : -2147483648 ≤ y_15 ∧ y_15 ≤ 2147483647 := hr_y_15
        refine xb_if_ne (tgt := 43) hx hb (by unfold ir; omega) dX12_indexOf_34 (by decide) (fun c_34 => ?_) (fun c_34 => ?_)
        · refine lv_iconst (v := iv (-1)) hx hb dX12_indexOf_43 rfl ?_
          exact xr_i G (x := (-1)) hret hlk (by unfold ir; omega) rfl dX12_indexOf_44 ⟨rfl, (Or.inl rfl)⟩
        · refine lv_dload hx hb dX12_indexOf_37 (lv_at hl 0 rfl) ?_
          refine lv_d2i hx hb dX12_indexOf_39 ?_
          refine xb_topi (fun y_16 hr_y_16 he_y_16 => ?_)
          have hr_y_16 : -2147483648 ≤ y_16 ∧ y_16 ≤ 2147483647 := hr_y_16
          refine lv_goto (tgt := 44) hx hb dX12_indexOf_40 (by decide) ?_
          exact xr_i G (x := y_16) hret hlk (by unfold ir; omega) rfl dX12_indexOf_44 ⟨rfl, (Or.inr (dsi (a := y_10) (b := y_12) (y := y_16) he_dd_9 hq3 (by unfold ir; omega) he_y_10 (by omega) (by unfold ir; omega) (by rw [← he_dd_11]; exact he_y_12) (by omega) (by unfold ir; omega) he_y_16))⟩

set_option maxHeartbeats 4000000 in
set_option maxRecDepth 100000 in
theorem c_X12_functionOf (ω : Om) (l : Launch) (μ : M3) (x1 : Int) (x2 : Int) (hx1 : ir x1) (hx2 : jr x2) (hq1 : 0 ≤ x1 ∧ x1 ≤ 3) (hPR : mPR μ) : CtI ω l yX12_functionOf cX12_functionOf 5 .int 0 0 [.ref (oP ω 111), .int (iv x1), .long (jv x2)] μ (fun (r : Int) (μ' : M3) => (μ' = μ) ∧ (r = -1 ∨ (0 ≤ r ∧ r < μ.1 122 x1))) := by
  refine CtI.go (by decide) (Nat.le_of_ble_eq_true rfl) (fun ρ p e s m below meth c R ls G hR hret hlk hl => ?_)
  have hx := G.1.1
  have hb := G.1.2.1
  have hl : lv_has ls 5 [(0, .ref (oP ω 111)), (1, .int (iv x1)), (2, .long (jv x2))] := hl
  generalize s.drawn = d0 at G ⊢
  have hr_x1 : -2147483648 ≤ x1 ∧ x1 ≤ 2147483647 := hx1
  have hfn9 := (hPR x1 hq1.1 hq1.2).1
  refine lv_iconst (v := iv 0) hx hb dX12_functionOf_0 rfl ?_
  refine lv_istore (lv' := [(4, .int (iv 0)), (0, .ref (oP ω 111)), (1, .int (iv x1)), (2, .long (jv x2))]) hx hb dX12_functionOf_1 hl (by decide) rfl (fun ls hl => ?_)
  refine xl (fun n_9 μ' ls => ∃ (k9 : Int), (μ' = μ) ∧ (-2147483648 ≤ k9 ∧ k9 ≤ 2147483647) ∧ (0 ≤ k9 ∧ k9 ≤ 40) ∧ n_9 = Int.toNat (40 - k9) ∧ lv_has ls 5 [(4, .int (iv k9)), (0, .ref (oP ω 111)), (1, .int (iv x1)), (2, .long (jv x2))]) (fun n_9 ρ μL1 d0 H locs ls hI_l G ih => ?_) _ _ _ _ _ _ _ ⟨0, rfl, (by omega), (by omega), rfl, lv_sub hl [0, 1, 2, 3] rfl⟩ G
  obtain ⟨k9, FL2, hi_4, hi_5, hn3, hl⟩ := hI_l
  have FL2 := Eq.symm FL2
  subst FL2
  refine lv_iload hx hb dX12_functionOf_3 (lv_at hl 0 rfl) ?_
  refine lv_aload_n hx hb dX12_functionOf_5 rfl (lv_at hl 1 rfl) ?_
  refine xa_getr G fd_X12 (a := 111) (x := 122) 27 rfl (by decide) rfl (wm 7 176 rfl rfl) ⟨rfl, rfl, rfl⟩ dX12_functionOf_6 rfl (G.sk 120 rfl) (by decide) rfl ?_
  refine lv_iload_n hx hb dX12_functionOf_9 rfl (lv_at hl 2 rfl) ?_
  refine xa_iald G (a := 122) (i := x1) rfl (by have h9 := G.lc (a := 122) (n := 5) 60 rfl; omega) dX12_functionOf_10 rfl ?_
  have hr_6 : -2147483648 ≤ μ.1 122 x1 ∧ μ.1 122 x1 ≤ 2147483647 := by have h9 := G.hr (a := 122) (k := x1) rfl; exact h9
  refine xb_icmp_ge (tgt := 40) hx hb (by unfold ir; omega) (by unfold ir; omega) dX12_functionOf_11 (by decide) (fun c_11 => ?_) (fun c_11 => ?_)
  · refine lv_iconst (v := iv (-1)) hx hb dX12_functionOf_40 rfl ?_
    exact xr_i G (x := (-1)) hret hlk (by unfold ir; omega) rfl dX12_functionOf_41 ⟨rfl, (by omega)⟩
  · refine lv_aload_n hx hb dX12_functionOf_14 rfl (lv_at hl 1 rfl) ?_
    refine xa_getr G fd_X12 (a := 111) (x := 118) 23 rfl (by decide) rfl (wm 7 172 rfl rfl) ⟨rfl, rfl, rfl⟩ dX12_functionOf_15 rfl (G.sk 116 rfl) (by decide) rfl ?_
    refine lv_bipush (v := iv 40) hx hb dX12_functionOf_18 rfl ?_
    refine lv_iload_n hx hb dX12_functionOf_20 rfl (lv_at hl 2 rfl) ?_
    refine xb_imul hx hb dX12_functionOf_21 ?_
    refine lv_iload hx hb dX12_functionOf_22 (lv_at hl 0 rfl) ?_
    refine xb_iadd hx hb dX12_functionOf_24 ?_
    refine xa_lald G (a := 118) (i := (40 * x1) + k9) rfl (by have h9 := G.lc (a := 118) (n := 200) 56 rfl; omega) dX12_functionOf_25 rfl ?_
    have hj_7 : jr (μ.1 118 ((40 * x1) + k9)) := (by have h9 := G.hj (a := 118) (k := (40 * x1) + k9) rfl; exact h9)
    refine lv_lload_n hx hb dX12_functionOf_26 rfl (lv_at hl 3 rfl) ?_
    refine xb_lcmp hx hb hj_7 hx2 dX12_functionOf_27 ?_
    have hr_8 : -2147483648 ≤ lcm (μ.1 118 ((40 * x1) + k9)) x2 ∧ lcm (μ.1 118 ((40 * x1) + k9)) x2 ≤ 2147483647 := lcm_ir _ _
    refine xb_if_ne (tgt := 34) hx hb (by unfold ir; omega) dX12_functionOf_28 (by decide) (fun c_28 => ?_) (fun c_28 => ?_)
    · refine lv_iinc (v := iv (k9 + 1)) (lv' := [(4, .int (iv (k9 + 1))), (0, .ref (oP ω 111)), (1, .int (iv x1)), (2, .long (jv x2))]) hx hb dX12_functionOf_34 hl (k := 0) rfl (by rw [show Int32.ofInt 1 = iv 1 from rfl, iv_add]) (by decide) rfl (fun ls hl => ?_)
      refine lv_goto (tgt := 3) hx hb dX12_functionOf_37 (by decide) ?_
      exact ih _ _ _ _ _ _ _ (by omega) ⟨k9 + 1, rfl, (by omega), (by omega), rfl, lv_sub hl [0, 1, 2, 3] rfl⟩ G
    · refine lv_iload hx hb dX12_functionOf_31 (lv_at hl 0 rfl) ?_
      exact xr_i G (x := k9) hret hlk (by unfold ir; omega) rfl dX12_functionOf_33 ⟨rfl, (by omega)⟩

set_option maxHeartbeats 4000000 in
set_option maxRecDepth 100000 in
theorem c_X12_ends (ω : Om) (l : Launch) (μ : M3) (x1 : Int) (x2 : Int) (x3 : Int) (hx1 : ir x1) (hx2 : ir x2) (hx3 : jr x3) (hMZ : MZ μ) (hvv : x1 = 0 → VV (μ.1 111 65) (μ.1 111 82) x2 x3) (hgf : x1 = 1 → 0 ≤ x3 ∧ x3 < μ.1 111 82) : CtV ω l yX12_ends cX12_ends 5 0 0 [.ref (oP ω 111), .int (iv x1), .int (iv x2), .long (jv x3)] μ (fun (μ' : M3) => (FrM [111] μ μ') ∧ (∀ j, j ∉ ([93, 94, 95, 96, 97] : List Int) → μ'.1 111 j = μ.1 111 j) ∧ (MZ μ') ∧ (μ'.1 111 94 = 1)) := by
  refine CtV.go (by decide) (Nat.le_of_ble_eq_true rfl) (fun ρ p e s m below meth c R ls G hR hret hlk hl => ?_)
  have hx := G.1.1
  have hb := G.1.2.1
  have hl : lv_has ls 5 [(0, .ref (oP ω 111)), (1, .int (iv x1)), (2, .int (iv x2)), (3, .long (jv x3))] := hl
  generalize s.drawn = d0 at G ⊢
  have hr_x1 : -2147483648 ≤ x1 ∧ x1 ≤ 2147483647 := hx1
  have hr_x2 : -2147483648 ≤ x2 ∧ x2 ≤ 2147483647 := hx2
  have hzn_ := hMZ.n
  obtain ⟨hz47, hzFB, hzFL, hz81, hz82, hz84, hz65, hz4, hz104⟩ := hzn_
  refine lv_aload_n hx hb dX12_ends_0 rfl (lv_at hl 0 rfl) ?_
  refine lv_iconst (v := iv 1) hx hb dX12_ends_1 rfl ?_
  refine xa_putz G fd_X12 (a := 111) (x := 1) 94 (kz := 94) rfl rfl (by decide) rfl (by omega) (wm 8 3 rfl rfl) ⟨rfl, rfl, rfl, rfl⟩ rfl dX12_ends_2 rfl (fun H locs G => ?_)
  refine lv_aload_n hx hb dX12_ends_5 rfl (lv_at hl 0 rfl) ?_
  refine lv_iload_n hx hb dX12_ends_6 rfl (lv_at hl 1 rfl) ?_
  refine xa_puti G fd_X12 (a := 111) (x := x1) 93 (kz := 93) rfl rfl (by decide) rfl (by unfold ir; omega) (wm 8 2 rfl rfl) ⟨rfl, rfl, rfl, rfl⟩ rfl dX12_ends_7 rfl (fun H locs G => ?_)
  refine lv_aload_n hx hb dX12_ends_10 rfl (lv_at hl 0 rfl) ?_
  refine lv_iload_n hx hb dX12_ends_11 rfl (lv_at hl 1 rfl) ?_
  refine xb_if_ne (tgt := 19) hx hb (by unfold ir; omega) dX12_ends_12 (by decide) (fun c_12 => ?_) (fun c_12 => ?_)
  · refine lv_iconst (v := iv 0) hx hb dX12_ends_19 rfl ?_
    refine xa_puti G fd_X12 (a := 111) (x := 0) 95 (kz := 95) rfl rfl (by decide) rfl (by unfold ir; omega) (wm 8 4 rfl rfl) ⟨rfl, rfl, rfl, rfl⟩ rfl dX12_ends_20 rfl (fun H locs G => ?_)
    refine lv_aload_n hx hb dX12_ends_23 rfl (lv_at hl 0 rfl) ?_
    refine lv_iload_n hx hb dX12_ends_24 rfl (lv_at hl 1 rfl) ?_
    refine xb_if_ne (tgt := 32) hx hb (by unfold ir; omega) dX12_ends_25 (by decide) (fun c_25 => ?_) (fun c_25 => absurd c_25 c_12)
    refine lv_lconst (v := jv 0) hx hb dX12_ends_32 rfl ?_
    refine xa_putl G fd_X12 (a := 111) (x := 0) 96 (kz := 96) rfl rfl (by decide) rfl (by unfold jr; omega) (wm 8 5 rfl rfl) ⟨rfl, rfl, rfl, rfl⟩ rfl dX12_ends_33 rfl (fun H locs G => ?_)
    refine lv_aload_n hx hb dX12_ends_36 rfl (lv_at hl 0 rfl) ?_
    refine lv_iload_n hx hb dX12_ends_37 rfl (lv_at hl 1 rfl) ?_
    refine lv_iconst (v := iv 1) hx hb dX12_ends_38 rfl ?_
    refine xb_icmp_ne (tgt := 47) hx hb (by unfold ir; omega) (by unfold ir; omega) dX12_ends_39 (by decide) (fun c_39 => ?_) (fun c_39 => ?_)
    · refine lv_iconst (v := iv (-1)) hx hb dX12_ends_47 rfl ?_
      refine xa_puti G fd_X12 (a := 111) (x := (-1)) 97 (kz := 97) rfl rfl (by decide) rfl (by unfold ir; omega) (wm 8 6 rfl rfl) ⟨rfl, rfl, rfl, rfl⟩ rfl dX12_ends_48 rfl (fun H locs G => ?_)
      have e_1 : (sv (sv (sv (sv (sv μ 111 94 1) 111 93 x1) 111 95 0) 111 96 0) 111 97 (-1)).1 111 94 = 1 := ((sv_n _ (by decide)).trans ((sv_n _ (by decide)).trans ((sv_n _ (by decide)).trans ((sv_n _ (by decide)).trans (sv_s _ _ _ _)))))
      exact xr_v G hret hlk dX12_ends_51 ⟨(FrM.put (FrM.put (FrM.put (FrM.put (FrM.put FrM.rf (by decide)) (by decide)) (by decide)) (by decide)) (by decide)), (fun j hj => ((sv_n _ (fun h9 => hj (by rw [h9.2]; decide))).trans ((sv_n _ (fun h9 => hj (by rw [h9.2]; decide))).trans ((sv_n _ (fun h9 => hj (by rw [h9.2]; decide))).trans ((sv_n _ (fun h9 => hj (by rw [h9.2]; decide))).trans (sv_n _ (fun h9 => hj (by rw [h9.2]; decide)))))))), (MZ.an hMZ (Eqa.fr (L := [111]) (FrM.put (FrM.put (FrM.put (FrM.put (FrM.put FrM.rf (by decide)) (by decide)) (by decide)) (by decide)) (by decide)) (by decide)) (Eqf.fd (L := [93, 94, 95, 96, 97]) (fun j hj => ((sv_n _ (fun h9 => hj (by rw [h9.2]; decide))).trans ((sv_n _ (fun h9 => hj (by rw [h9.2]; decide))).trans ((sv_n _ (fun h9 => hj (by rw [h9.2]; decide))).trans ((sv_n _ (fun h9 => hj (by rw [h9.2]; decide))).trans (sv_n _ (fun h9 => hj (by rw [h9.2]; decide)))))))) (by decide)) (by rw [(show (sv (sv (sv (sv (sv μ 111 94 1) 111 93 x1) 111 95 0) 111 96 0) 111 97 (-1)).1 111 95 = 0 from ((sv_n _ (by decide)).trans ((sv_n _ (by decide)).trans (sv_s _ _ _ _)))), (show (sv (sv (sv (sv (sv μ 111 94 1) 111 93 x1) 111 95 0) 111 96 0) 111 97 (-1)).1 111 96 = 0 from ((sv_n _ (by decide)).trans (sv_s _ _ _ _)))]; exact VV.n0) (by rw [(show (sv (sv (sv (sv (sv μ 111 94 1) 111 93 x1) 111 95 0) 111 96 0) 111 97 (-1)).1 111 97 = (-1) from (sv_s _ _ _ _))]; omega)), (by omega)⟩
    · refine lv_lload_n hx hb dX12_ends_42 rfl (lv_at hl 3 rfl) ?_
      refine xb_l2i hx hb dX12_ends_43 ?_
      refine xb_topi (fun y_2 hr_y_2 he_y_2 => ?_)
      have hr_y_2 : -2147483648 ≤ y_2 ∧ y_2 ≤ 2147483647 := hr_y_2
      have hli_y_2 : ir x3 → y_2 = x3 := fun h9 => (iv_eq hr_y_2 h9).mp he_y_2
      unfold ir at hli_y_2
      refine lv_goto (tgt := 48) hx hb dX12_ends_44 (by decide) ?_
      refine xa_puti G fd_X12 (a := 111) (x := y_2) 97 (kz := 97) rfl rfl (by decide) rfl (by unfold ir; omega) (wm 8 6 rfl rfl) ⟨rfl, rfl, rfl, rfl⟩ rfl dX12_ends_48 rfl (fun H locs G => ?_)
      have e_3 : (sv (sv (sv (sv (sv μ 111 94 1) 111 93 x1) 111 95 0) 111 96 0) 111 97 y_2).1 111 94 = 1 := ((sv_n _ (by decide)).trans ((sv_n _ (by decide)).trans ((sv_n _ (by decide)).trans ((sv_n _ (by decide)).trans (sv_s _ _ _ _)))))
      exact xr_v G hret hlk dX12_ends_51 ⟨(FrM.put (FrM.put (FrM.put (FrM.put (FrM.put FrM.rf (by decide)) (by decide)) (by decide)) (by decide)) (by decide)), (fun j hj => ((sv_n _ (fun h9 => hj (by rw [h9.2]; decide))).trans ((sv_n _ (fun h9 => hj (by rw [h9.2]; decide))).trans ((sv_n _ (fun h9 => hj (by rw [h9.2]; decide))).trans ((sv_n _ (fun h9 => hj (by rw [h9.2]; decide))).trans (sv_n _ (fun h9 => hj (by rw [h9.2]; decide)))))))), (MZ.an hMZ (Eqa.fr (L := [111]) (FrM.put (FrM.put (FrM.put (FrM.put (FrM.put FrM.rf (by decide)) (by decide)) (by decide)) (by decide)) (by decide)) (by decide)) (Eqf.fd (L := [93, 94, 95, 96, 97]) (fun j hj => ((sv_n _ (fun h9 => hj (by rw [h9.2]; decide))).trans ((sv_n _ (fun h9 => hj (by rw [h9.2]; decide))).trans ((sv_n _ (fun h9 => hj (by rw [h9.2]; decide))).trans ((sv_n _ (fun h9 => hj (by rw [h9.2]; decide))).trans (sv_n _ (fun h9 => hj (by rw [h9.2]; decide)))))))) (by decide)) (by rw [(show (sv (sv (sv (sv (sv μ 111 94 1) 111 93 x1) 111 95 0) 111 96 0) 111 97 y_2).1 111 95 = 0 from ((sv_n _ (by decide)).trans ((sv_n _ (by decide)).trans (sv_s _ _ _ _)))), (show (sv (sv (sv (sv (sv μ 111 94 1) 111 93 x1) 111 95 0) 111 96 0) 111 97 y_2).1 111 96 = 0 from ((sv_n _ (by decide)).trans (sv_s _ _ _ _)))]; exact VV.n0) (by rw [(show (sv (sv (sv (sv (sv μ 111 94 1) 111 93 x1) 111 95 0) 111 96 0) 111 97 y_2).1 111 97 = y_2 from (sv_s _ _ _ _))]; omega)), (by omega)⟩
  · refine lv_iload_n hx hb dX12_ends_15 rfl (lv_at hl 2 rfl) ?_
    refine lv_goto (tgt := 20) hx hb dX12_ends_16 (by decide) ?_
    refine xa_puti G fd_X12 (a := 111) (x := x2) 95 (kz := 95) rfl rfl (by decide) rfl (by unfold ir; omega) (wm 8 4 rfl rfl) ⟨rfl, rfl, rfl, rfl⟩ rfl dX12_ends_20 rfl (fun H locs G => ?_)
    refine lv_aload_n hx hb dX12_ends_23 rfl (lv_at hl 0 rfl) ?_
    refine lv_iload_n hx hb dX12_ends_24 rfl (lv_at hl 1 rfl) ?_
    refine xb_if_ne (tgt := 32) hx hb (by unfold ir; omega) dX12_ends_25 (by decide) (fun c_25 => absurd c_25 (fun h => h c_12)) (fun c_25 => ?_)
    refine lv_lload_n hx hb dX12_ends_28 rfl (lv_at hl 3 rfl) ?_
    refine lv_goto (tgt := 33) hx hb dX12_ends_29 (by decide) ?_
    refine xa_putl G fd_X12 (a := 111) (x := x3) 96 (kz := 96) rfl rfl (by decide) rfl hx3 (wm 8 5 rfl rfl) ⟨rfl, rfl, rfl, rfl⟩ rfl dX12_ends_33 rfl (fun H locs G => ?_)
    refine lv_aload_n hx hb dX12_ends_36 rfl (lv_at hl 0 rfl) ?_
    refine lv_iload_n hx hb dX12_ends_37 rfl (lv_at hl 1 rfl) ?_
    refine lv_iconst (v := iv 1) hx hb dX12_ends_38 rfl ?_
    refine xb_icmp_ne (tgt := 47) hx hb (by unfold ir; omega) (by unfold ir; omega) dX12_ends_39 (by decide) (fun c_39 => ?_) (fun c_39 => ?_)
    · refine lv_iconst (v := iv (-1)) hx hb dX12_ends_47 rfl ?_
      refine xa_puti G fd_X12 (a := 111) (x := (-1)) 97 (kz := 97) rfl rfl (by decide) rfl (by unfold ir; omega) (wm 8 6 rfl rfl) ⟨rfl, rfl, rfl, rfl⟩ rfl dX12_ends_48 rfl (fun H locs G => ?_)
      have e_4 : (sv (sv (sv (sv (sv μ 111 94 1) 111 93 x1) 111 95 x2) 111 96 x3) 111 97 (-1)).1 111 94 = 1 := ((sv_n _ (by decide)).trans ((sv_n _ (by decide)).trans ((sv_n _ (by decide)).trans ((sv_n _ (by decide)).trans (sv_s _ _ _ _)))))
      exact xr_v G hret hlk dX12_ends_51 ⟨(FrM.put (FrM.put (FrM.put (FrM.put (FrM.put FrM.rf (by decide)) (by decide)) (by decide)) (by decide)) (by decide)), (fun j hj => ((sv_n _ (fun h9 => hj (by rw [h9.2]; decide))).trans ((sv_n _ (fun h9 => hj (by rw [h9.2]; decide))).trans ((sv_n _ (fun h9 => hj (by rw [h9.2]; decide))).trans ((sv_n _ (fun h9 => hj (by rw [h9.2]; decide))).trans (sv_n _ (fun h9 => hj (by rw [h9.2]; decide)))))))), (MZ.an hMZ (Eqa.fr (L := [111]) (FrM.put (FrM.put (FrM.put (FrM.put (FrM.put FrM.rf (by decide)) (by decide)) (by decide)) (by decide)) (by decide)) (by decide)) (Eqf.fd (L := [93, 94, 95, 96, 97]) (fun j hj => ((sv_n _ (fun h9 => hj (by rw [h9.2]; decide))).trans ((sv_n _ (fun h9 => hj (by rw [h9.2]; decide))).trans ((sv_n _ (fun h9 => hj (by rw [h9.2]; decide))).trans ((sv_n _ (fun h9 => hj (by rw [h9.2]; decide))).trans (sv_n _ (fun h9 => hj (by rw [h9.2]; decide)))))))) (by decide)) (by rw [(show (sv (sv (sv (sv (sv μ 111 94 1) 111 93 x1) 111 95 x2) 111 96 x3) 111 97 (-1)).1 111 95 = x2 from ((sv_n _ (by decide)).trans ((sv_n _ (by decide)).trans (sv_s _ _ _ _)))), (show (sv (sv (sv (sv (sv μ 111 94 1) 111 93 x1) 111 95 x2) 111 96 x3) 111 97 (-1)).1 111 96 = x3 from ((sv_n _ (by decide)).trans (sv_s _ _ _ _)))]; exact hvv (by omega)) (by rw [(show (sv (sv (sv (sv (sv μ 111 94 1) 111 93 x1) 111 95 x2) 111 96 x3) 111 97 (-1)).1 111 97 = (-1) from (sv_s _ _ _ _))]; omega)), (by omega)⟩
    · refine lv_lload_n hx hb dX12_ends_42 rfl (lv_at hl 3 rfl) ?_
      refine xb_l2i hx hb dX12_ends_43 ?_
      refine xb_topi (fun y_5 hr_y_5 he_y_5 => ?_)
      have hr_y_5 : -2147483648 ≤ y_5 ∧ y_5 ≤ 2147483647 := hr_y_5
      have hli_y_5 : ir x3 → y_5 = x3 := fun h9 => (iv_eq hr_y_5 h9).mp he_y_5
      unfold ir at hli_y_5
      refine lv_goto (tgt := 48) hx hb dX12_ends_44 (by decide) ?_
      refine xa_puti G fd_X12 (a := 111) (x := y_5) 97 (kz := 97) rfl rfl (by decide) rfl (by unfold ir; omega) (wm 8 6 rfl rfl) ⟨rfl, rfl, rfl, rfl⟩ rfl dX12_ends_48 rfl (fun H locs G => ?_)
      have e_6 : (sv (sv (sv (sv (sv μ 111 94 1) 111 93 x1) 111 95 x2) 111 96 x3) 111 97 y_5).1 111 94 = 1 := ((sv_n _ (by decide)).trans ((sv_n _ (by decide)).trans ((sv_n _ (by decide)).trans ((sv_n _ (by decide)).trans (sv_s _ _ _ _)))))
      exact xr_v G hret hlk dX12_ends_51 ⟨(FrM.put (FrM.put (FrM.put (FrM.put (FrM.put FrM.rf (by decide)) (by decide)) (by decide)) (by decide)) (by decide)), (fun j hj => ((sv_n _ (fun h9 => hj (by rw [h9.2]; decide))).trans ((sv_n _ (fun h9 => hj (by rw [h9.2]; decide))).trans ((sv_n _ (fun h9 => hj (by rw [h9.2]; decide))).trans ((sv_n _ (fun h9 => hj (by rw [h9.2]; decide))).trans (sv_n _ (fun h9 => hj (by rw [h9.2]; decide)))))))), (MZ.an hMZ (Eqa.fr (L := [111]) (FrM.put (FrM.put (FrM.put (FrM.put (FrM.put FrM.rf (by decide)) (by decide)) (by decide)) (by decide)) (by decide)) (by decide)) (Eqf.fd (L := [93, 94, 95, 96, 97]) (fun j hj => ((sv_n _ (fun h9 => hj (by rw [h9.2]; decide))).trans ((sv_n _ (fun h9 => hj (by rw [h9.2]; decide))).trans ((sv_n _ (fun h9 => hj (by rw [h9.2]; decide))).trans ((sv_n _ (fun h9 => hj (by rw [h9.2]; decide))).trans (sv_n _ (fun h9 => hj (by rw [h9.2]; decide)))))))) (by decide)) (by rw [(show (sv (sv (sv (sv (sv μ 111 94 1) 111 93 x1) 111 95 x2) 111 96 x3) 111 97 y_5).1 111 95 = x2 from ((sv_n _ (by decide)).trans ((sv_n _ (by decide)).trans (sv_s _ _ _ _)))), (show (sv (sv (sv (sv (sv μ 111 94 1) 111 93 x1) 111 95 x2) 111 96 x3) 111 97 y_5).1 111 96 = x3 from ((sv_n _ (by decide)).trans (sv_s _ _ _ _)))]; exact hvv (by omega)) (by rw [(show (sv (sv (sv (sv (sv μ 111 94 1) 111 93 x1) 111 95 x2) 111 96 x3) 111 97 y_5).1 111 97 = y_5 from (sv_s _ _ _ _))]; omega)), (by omega)⟩

set_option maxHeartbeats 4000000 in
set_option maxRecDepth 100000 in
theorem c_X12_catches (ω : Om) (l : Launch) (μ : M3) (x1 : Int) (x2 : Int) (n : Int) (bo : Int) (hx1 : ir x1) (hx2 : ir x2) (hn : n = μ.1 111 47) (hbo : bo = μ.1 111 61) (hMZ : MZ μ) (h1 : 1 ≤ n ∧ n ≤ 24) (hkb : x1 = bo) (hbk : BK μ (n - 1) x1) (hgr : 0 ≤ x2 ∧ x2 < μ.1 111 82) (h94 : μ.1 111 94 = 0) (hq4 : 0 ≤ x1 ∧ x1 < 900) (hk0 : μ.1 137 x1 = 0) (hgt : μ.1 149 x2 = 0) : CtI ω l yX12_catches cX12_catches 4 .boolean 1 24 [.ref (oP ω 111), .int (iv x1), .int (iv x2)] μ (fun (r : Int) (μ' : M3) => (FrM [111, 129, 133, 134] μ μ') ∧ (∀ j, j ∉ ([53] : List Int) → μ'.1 111 j = μ.1 111 j) ∧ (MZ μ') ∧ (0 ≤ r ∧ r ≤ 1) ∧ (r = 1 → RES μ' (RX μ + 9000))) := by
  refine CtI.go (by decide) (Nat.le_of_ble_eq_true rfl) (fun ρ p e s m below meth c R ls G hR hret hlk hl => ?_)
  have hx := G.1.1
  have hb := G.1.2.1
  have hl : lv_has ls 4 [(0, .ref (oP ω 111)), (1, .int (iv x1)), (2, .int (iv x2))] := hl
  generalize s.drawn = d0 at G ⊢
  have hr_x1 : -2147483648 ≤ x1 ∧ x1 ≤ 2147483647 := hx1
  have hr_x2 : -2147483648 ≤ x2 ∧ x2 ≤ 2147483647 := hx2
  have hzn_ := hMZ.n
  rw [← hn] at hzn_
  obtain ⟨hz47, hzFB, hzFL, hz81, hz82, hz84, hz65, hz4, hz104⟩ := hzn_
  have hfr_ := (hMZ.2.2.1 (n - 1) (by omega) (by omega)).1.1
  have hzB := FB_1 (μ := μ) (n := n) (by omega)
  have hzL := FL_1 (μ := μ) (n := n) (by omega)
  have hgv := hMZ.1.2.2.2.1.2.2.1 x2 hgr.1 hgr.2
  have hbl_ := (by have h9 := hMZ.n.2.2.1; rw [← hn] at h9; exact h9 : 0 ≤ FL μ n ∧ FL μ n ≤ μ.1 111 53 ∧ μ.1 111 53 ≤ 8000)
  have hb1_ := hbk.1
  have hlc := hbk.2.2.2.1 hk0
  have hlr := hlc.2.r
  have hwt := (hMZ.1.2.2.2.1.2.1 x2 hgr.1 hgr.2).2.1 (by omega)
  have hnm := hMZ.1.1
  refine lv_iconst (v := iv 0) hx hb dX12_catches_0 rfl ?_
  refine lv_aload_n hx hb dX12_catches_1 rfl (lv_at hl 0 rfl) ?_
  refine xa_getr G fd_X12 (a := 111) (x := 138) 55 rfl (by decide) rfl (wm 7 204 rfl rfl) ⟨rfl, rfl, rfl⟩ dX12_catches_2 rfl (G.sk 136 rfl) (by decide) rfl ?_
  refine lv_iload_n hx hb dX12_catches_5 rfl (lv_at hl 1 rfl) ?_
  refine xa_iald G (a := 138) (i := x1) rfl (by have h9 := G.lc (a := 138) (n := 900) 76 rfl; omega) dX12_catches_6 rfl ?_
  have hr_1 : -2147483648 ≤ μ.1 138 x1 ∧ μ.1 138 x1 ≤ 2147483647 := by have h9 := G.hr (a := 138) (k := x1) rfl; exact h9
  refine xb_iadd hx hb dX12_catches_7 ?_
  refine lv_istore_n (lv' := [(3, .int (iv (0 + (μ.1 138 x1)))), (0, .ref (oP ω 111)), (1, .int (iv x1)), (2, .int (iv x2))]) hx hb dX12_catches_8 rfl hl (by decide) rfl (fun ls hl => ?_)
  refine xl (fun n_9 μ' ls => ∃ (c9 : Int), (μ' = μ) ∧ (-2147483648 ≤ c9 ∧ c9 ≤ 2147483647) ∧ (0 ≤ c9 ∧ c9 ≤ 8989) ∧ (LC μ (n - 1) x1 c9) ∧ n_9 = Int.toNat (9000 - c9) ∧ lv_has ls 4 [(3, .int (iv c9)), (0, .ref (oP ω 111)), (1, .int (iv x1)), (2, .int (iv x2))]) (fun n_9 ρ μL2 d0 H locs ls hI_l G ih => ?_) _ _ _ _ _ _ _ ⟨0 + (μ.1 138 x1), rfl, (by omega), (by omega), (by rw [show 0 + (μ.1 138 x1) = μ.1 138 x1 by omega]; exact hlc.2), rfl, lv_sub hl [0, 1, 2, 3] rfl⟩ G
  obtain ⟨c9, FL3, hi_5, hi_6, hi_7, hn4, hl⟩ := hI_l
  have FL3 := Eq.symm FL3
  subst FL3
  refine lv_aload_n hx hb dX12_catches_9 rfl (lv_at hl 1 rfl) ?_
  refine xa_getr G fd_X12 (a := 111) (x := 117) 21 rfl (by decide) rfl (wm 7 170 rfl rfl) ⟨rfl, rfl, rfl⟩ dX12_catches_10 rfl (G.sk 115 rfl) (by decide) rfl ?_
  refine lv_iload_n hx hb dX12_catches_13 rfl (lv_at hl 0 rfl) ?_
  refine xa_iald G (a := 117) (i := c9) rfl (by have h9 := G.lc (a := 117) (n := 45000) 55 rfl; omega) dX12_catches_14 rfl ?_
  have hr_8 : -2147483648 ≤ μ.1 117 c9 ∧ μ.1 117 c9 ≤ 2147483647 := by have h9 := G.hr (a := 117) (k := c9) rfl; exact h9
  refine lv_iconst (v := iv (-1)) hx hb dX12_catches_15 rfl ?_
  refine xb_icmp_eq (tgt := 104) hx hb (by unfold ir; omega) (by unfold ir; omega) dX12_catches_16 (by decide) (fun c_16 => ?_) (fun c_16 => ?_)
  · refine lv_iconst (v := iv 0) hx hb dX12_catches_104 rfl ?_
    exact xr_i G (x := 0) hret hlk (by unfold ir; omega) (zr (by omega)) dX12_catches_105 ⟨FrM.rf, (fun j hj => rfl), hMZ, ⟨by omega, by omega⟩, (fun h9 => absurd h9 (by decide))⟩
  · obtain ⟨g1, g2, g3, g4, g5⟩ := LC.go hi_7 hlc.1 (by omega)
    refine lv_aload_n hx hb dX12_catches_19 rfl (lv_at hl 1 rfl) ?_
    refine lv_aload_n hx hb dX12_catches_20 rfl (lv_at hl 1 rfl) ?_
    refine xa_getr G fd_X12 (a := 111) (x := 150) 71 rfl (by decide) rfl (wm 7 220 rfl rfl) ⟨rfl, rfl, rfl⟩ dX12_catches_21 rfl (G.sk 148 rfl) (by decide) rfl ?_
    refine lv_iload_n hx hb dX12_catches_24 rfl (lv_at hl 3 rfl) ?_
    refine xa_iald G (a := 150) (i := x2) rfl (by have h9 := G.lc (a := 150) (n := 12000) 88 rfl; omega) dX12_catches_25 rfl ?_
    have hr_9 : -2147483648 ≤ μ.1 150 x2 ∧ μ.1 150 x2 ≤ 2147483647 := by have h9 := G.hr (a := 150) (k := x2) rfl; exact h9
    refine lv_aload_n hx hb dX12_catches_26 rfl (lv_at hl 1 rfl) ?_
    refine xa_getr G fd_X12 (a := 111) (x := 117) 21 rfl (by decide) rfl (wm 7 170 rfl rfl) ⟨rfl, rfl, rfl⟩ dX12_catches_27 rfl (G.sk 115 rfl) (by decide) rfl ?_
    refine lv_iload_n hx hb dX12_catches_30 rfl (lv_at hl 0 rfl) ?_
    refine xa_iald G (a := 117) (i := c9) rfl (by have h9 := G.lc (a := 117) (n := 45000) 55 rfl; omega) dX12_catches_31 rfl ?_
    refine xc_iV G (b := 111) (rest := []) (As := [.int (iv (μ.1 150 x2)), .int (iv (μ.1 117 c9))]) (c_X12_isUnder ω l μ (μ.1 150 x2) (μ.1 117 c9) (by unfold ir; omega) (by unfold ir; omega) (by omega) (by omega)) (wm 10 151 rfl rfl) (wm 10 153 rfl rfl) (wm 0 201 rfl rfl) rfl rfl (by decide) rfl (wm 1 18 rfl rfl) (wm 10 154 rfl rfl) (by decide) hR (by decide) (n := 2) rfl rfl (Nat.le_of_ble_eq_true rfl) hl.1 dX12_catches_32 (fun r_11 μ10 ρ d0 H locs hr_r_11 hp G => ?_)
    have hr_r_11 : -2147483648 ≤ r_11 ∧ r_11 ≤ 2147483647 := hr_r_11
    obtain ⟨hsm_12, hp_13⟩ := hp
    have hsm_12 := Eq.symm hsm_12
    subst hsm_12
    refine xb_if_eq (tgt := 89) hx hb (by unfold ir; omega) dX12_catches_35 (by decide) (fun c_35 => ?_) (fun c_35 => ?_)
    · refine lv_iconst (v := iv 0) hx hb dX12_catches_89 rfl ?_
      refine lv_aload_n hx hb dX12_catches_90 rfl (lv_at hl 1 rfl) ?_
      refine xa_getr G fd_X12 (a := 111) (x := 116) 20 rfl (by decide) rfl (wm 7 169 rfl rfl) ⟨rfl, rfl, rfl⟩ dX12_catches_91 rfl (G.sk 114 rfl) (by decide) rfl ?_
      refine lv_iload_n hx hb dX12_catches_94 rfl (lv_at hl 0 rfl) ?_
      refine lv_iconst (v := iv 1) hx hb dX12_catches_95 rfl ?_
      refine xb_iadd hx hb dX12_catches_96 ?_
      refine xa_lald G (a := 116) (i := c9 + 1) rfl (by have h9 := G.lc (a := 116) (n := 45000) 54 rfl; omega) dX12_catches_97 rfl ?_
      have hj_14 : jr (μ.1 116 (c9 + 1)) := (by have h9 := G.hj (a := 116) (k := c9 + 1) rfl; exact h9)
      refine xb_l2i hx hb dX12_catches_98 ?_
      refine xb_topi (fun y_15 hr_y_15 he_y_15 => ?_)
      have hr_y_15 : -2147483648 ≤ y_15 ∧ y_15 ≤ 2147483647 := hr_y_15
      have hli_y_15 : ir (μ.1 116 (c9 + 1)) → y_15 = μ.1 116 (c9 + 1) := fun h9 => (iv_eq hr_y_15 h9).mp he_y_15
      unfold ir at hli_y_15
      refine xb_iadd hx hb dX12_catches_99 ?_
      refine lv_istore_n (lv' := [(3, .int (iv (0 + y_15))), (0, .ref (oP ω 111)), (1, .int (iv x1)), (2, .int (iv x2))]) hx hb dX12_catches_100 rfl hl (by decide) rfl (fun ls hl => ?_)
      refine lv_goto (tgt := 9) hx hb dX12_catches_101 (by decide) ?_
      exact ih _ _ _ _ _ _ _ (by omega) ⟨0 + y_15, rfl, (by omega), (by omega), (by rw [show 0 + y_15 = μ.1 116 (c9 + 1) by omega]; exact g5), rfl, lv_sub hl [0, 1, 2, 3] rfl⟩ G
    · refine lv_aload_n hx hb dX12_catches_38 rfl (lv_at hl 1 rfl) ?_
      refine lv_aload_n hx hb dX12_catches_39 rfl (lv_at hl 1 rfl) ?_
      refine xa_getr G fd_X12 (a := 111) (x := 140) 57 rfl (by decide) rfl (wm 7 206 rfl rfl) ⟨rfl, rfl, rfl⟩ dX12_catches_40 rfl (G.sk 138 rfl) (by decide) rfl ?_
      refine lv_iload_n hx hb dX12_catches_43 rfl (lv_at hl 2 rfl) ?_
      refine xa_iald G (a := 140) (i := x1) rfl (by have h9 := G.lc (a := 140) (n := 900) 78 rfl; omega) dX12_catches_44 rfl ?_
      have hr_16 : -2147483648 ≤ μ.1 140 x1 ∧ μ.1 140 x1 ≤ 2147483647 := by have h9 := G.hr (a := 140) (k := x1) rfl; exact h9
      refine xa_puti G fd_X12 (a := 111) (x := μ.1 140 x1) 53 (kz := 53) rfl rfl (by decide) rfl (by unfold ir; omega) (wm 7 202 rfl rfl) ⟨rfl, rfl, rfl, rfl⟩ rfl dX12_catches_45 rfl (fun H locs G => ?_)
      refine lv_aload_n hx hb dX12_catches_48 rfl (lv_at hl 1 rfl) ?_
      refine lv_aload_n hx hb dX12_catches_49 rfl (lv_at hl 1 rfl) ?_
      refine xa_getr G fd_X12 (a := 111) (x := 116) 20 rfl (by decide) rfl (wm 7 169 rfl rfl) ⟨rfl, rfl, rfl⟩ dX12_catches_50 rfl (G.sk 114 rfl) (by decide) rfl ?_
      refine lv_iload_n hx hb dX12_catches_53 rfl (lv_at hl 0 rfl) ?_
      refine xa_lald G (a := 116) (i := c9) rfl (by have h9 := G.lc (a := 116) (n := 45000) 54 rfl; omega) dX12_catches_54 rfl ?_
      refine xb_tl (y := μ.1 116 c9) (sv_n _ (fun h9 => absurd h9.1 (by decide))) ?_
      have hj_17 : jr (μ.1 116 c9) := (by have h9 := G.hj (a := 116) (k := c9) rfl; rw [(sv_n _ (fun h9 => absurd h9.1 (by decide)))] at h9; exact h9)
      refine xb_l2i hx hb dX12_catches_55 ?_
      refine xb_topi (fun y_18 hr_y_18 he_y_18 => ?_)
      have hr_y_18 : -2147483648 ≤ y_18 ∧ y_18 ≤ 2147483647 := hr_y_18
      have hli_y_18 : ir (μ.1 116 c9) → y_18 = μ.1 116 c9 := fun h9 => (iv_eq hr_y_18 h9).mp he_y_18
      unfold ir at hli_y_18
      refine lv_aload_n hx hb dX12_catches_56 rfl (lv_at hl 1 rfl) ?_
      refine xa_getr G fd_X12 (a := 111) (x := 151) 72 rfl (by decide) rfl (wm 7 221 rfl rfl) ⟨rfl, rfl, rfl⟩ dX12_catches_57 rfl (G.sk 149 rfl) (by decide) rfl ?_
      refine lv_iload_n hx hb dX12_catches_60 rfl (lv_at hl 3 rfl) ?_
      refine xa_bald G (a := 151) (i := x2) rfl (by have h9 := G.lc (a := 151) (n := 12000) 89 rfl; omega) dX12_catches_61 rfl ?_
      refine xb_ti (y := μ.1 151 x2) (sv_n _ (fun h9 => absurd h9.1 (by decide))) ?_
      have hr_19 : -2147483648 ≤ μ.1 151 x2 ∧ μ.1 151 x2 ≤ 2147483647 := by have h9 := G.hr3 (a := 151) (k := x2) rfl; rw [(sv_n _ (fun h9 => absurd h9.1 (by decide)))] at h9; exact h9
      refine lv_aload_n hx hb dX12_catches_62 rfl (lv_at hl 1 rfl) ?_
      refine xa_getr G fd_X12 (a := 111) (x := 152) 73 rfl (by decide) rfl (wm 7 222 rfl rfl) ⟨rfl, rfl, rfl⟩ dX12_catches_63 rfl (G.sk 150 rfl) (by decide) rfl ?_
      refine lv_iload_n hx hb dX12_catches_66 rfl (lv_at hl 3 rfl) ?_
      refine xa_lald G (a := 152) (i := x2) rfl (by have h9 := G.lc (a := 152) (n := 12000) 90 rfl; omega) dX12_catches_67 rfl ?_
      refine xb_tl (y := μ.1 152 x2) (sv_n _ (fun h9 => absurd h9.1 (by decide))) ?_
      have hj_20 : jr (μ.1 152 x2) := (by have h9 := G.hj (a := 152) (k := x2) rfl; rw [(sv_n _ (fun h9 => absurd h9.1 (by decide)))] at h9; exact h9)
      have e_21 : (sv μ 111 53 (μ.1 140 x1)).1 111 65 = μ.1 111 65 := (sv_n _ (by decide))
      have e_22 : (sv μ 111 53 (μ.1 140 x1)).1 111 82 = μ.1 111 82 := (sv_n _ (by decide))
      have e_23 : (sv μ 111 53 (μ.1 140 x1)).1 111 47 = n := ((sv_n _ (by decide)).trans hn.symm)
      have hMZ_24 : MZ (sv μ 111 53 (μ.1 140 x1)) := MZ.mn1 hMZ (n := n) (s := μ.1 131 (n - 1)) (hn.symm) (by have h9 : μ.1 131 (n - 1) = μ.1 131 (n - 1) := rfl; exact h9) (by omega) (by have h9 : μ.1 111 53 = μ.1 111 53 := rfl; omega)
      refine xc_vV G (b := 111) (rest := []) (As := [.int (iv y_18), .int (iv (μ.1 151 x2)), .long (jv (μ.1 152 x2))]) (c_X12_puts ω l (sv μ 111 53 (μ.1 140 x1)) y_18 (μ.1 151 x2) (μ.1 152 x2) n (by unfold ir; omega) (by unfold ir; omega) hj_20 (by omega) hMZ_24 (by omega) (by omega) (by rw [(show (sv μ 111 53 (μ.1 140 x1)).1 111 65 = μ.1 111 65 from (sv_n _ (by decide))), (show (sv μ 111 53 (μ.1 140 x1)).1 111 82 = μ.1 111 82 from (sv_n _ (by decide)))]; exact hgv)) (wm 10 110 rfl rfl) (wm 10 112 rfl rfl) (wm 0 191 rfl rfl) rfl rfl (by decide) rfl (wm 1 18 rfl rfl) (wm 10 113 rfl rfl) (by decide) hR (by decide) (n := 3) rfl rfl (Nat.le_of_ble_eq_true rfl) hl.1 dX12_catches_68 (fun μ25 ρ d0 H locs hp G => ?_)
      obtain ⟨F_26, hp_27⟩ := hp
      refine lv_aload_n hx hb dX12_catches_71 rfl (lv_at hl 1 rfl) ?_
      refine xa_getr G fd_X12 (a := 111) (x := 129) 43 rfl (by decide) rfl (wm 7 192 rfl rfl) ⟨rfl, rfl, rfl⟩ dX12_catches_72 rfl (G.sk 127 rfl) (by decide) rfl ?_
      refine lv_aload_n hx hb dX12_catches_75 rfl (lv_at hl 1 rfl) ?_
      refine xa_geti G fd_X12 (a := 111) (x := n) 47 rfl (by decide) rfl (wm 7 196 rfl rfl) ⟨rfl, rfl, rfl⟩ dX12_catches_76 rfl ((F_26.1 111 (by decide) 47).trans ((sv_n _ (by decide)).trans hn.symm)) ?_
      have hr_28 : -2147483648 ≤ n ∧ n ≤ 2147483647 := by have h9 := G.hr (a := 111) (k := 47) rfl; rw [show μ25.1 111 47 = n from ((F_26.1 111 (by decide) 47).trans ((sv_n _ (by decide)).trans hn.symm))] at h9; exact h9
      refine lv_iconst (v := iv 1) hx hb dX12_catches_79 rfl ?_
      refine xb_isub hx hb dX12_catches_80 ?_
      refine lv_iload_n hx hb dX12_catches_81 rfl (lv_at hl 0 rfl) ?_
      refine lv_iconst (v := iv 2) hx hb dX12_catches_82 rfl ?_
      refine xb_iadd hx hb dX12_catches_83 ?_
      refine lv_iconst (v := iv 0) hx hb dX12_catches_84 rfl ?_
      refine xb_isub hx hb dX12_catches_85 ?_
      refine xb_ti (y := c9 + 2) (by omega) ?_
      refine xa_iast G (a := 129) (i := n - 1) (x := c9 + 2) rfl (by have h9 := G.lc (a := 129) (n := 26) 67 rfl; omega) (by unfold ir; omega) dX12_catches_86 rfl (fun H locs G => ?_)
      refine lv_iconst (v := iv 1) hx hb dX12_catches_87 rfl ?_
      have e_29 : (sv μ25 129 (n - 1) (c9 + 2)).1 111 83 = μ.1 111 83 := ((sv_n _ (fun h9 => absurd h9.1 (by decide))).trans ((F_26.1 111 (by decide) 83).trans (sv_n _ (by decide))))
      have hrx_30 := RX.eq (μ := μ) (ν := (sv μ25 129 (n - 1) (c9 + 2))) (Eqa.fr (L := [129, 133, 134, 111]) (FrM.put (FrM.tr (FrM.put FrM.rf (by decide)) F_26 (by decide)) (by decide)) (by decide)) (Eqf.fd (L := [53]) (fun j hj => ((sv_n _ (fun h9 => absurd h9.1 (by decide))).trans ((F_26.1 111 (by decide) j).trans (sv_n _ (fun h9 => hj (by rw [h9.2]; decide)))))) (by decide))
      have hMZ_31 : MZ (sv μ25 129 (n - 1) (c9 + 2)) := MZ.pc hp_27 (by rw [show μ25.1 111 47 = n from ((F_26.1 111 (by decide) 47).trans ((sv_n _ (by decide)).trans hn.symm))])
      exact xr_i G (x := 1) hret hlk (by unfold ir; omega) (zr (by omega)) dX12_catches_88 ⟨(FrM.put (FrM.tr (FrM.put FrM.rf (by decide)) F_26 (by decide)) (by decide)), (fun j hj => ((sv_n _ (fun h9 => absurd h9.1 (by decide))).trans ((F_26.1 111 (by decide) j).trans (sv_n _ (fun h9 => hj (by rw [h9.2]; decide)))))), hMZ_31, ⟨by omega, by omega⟩, (fun _ => RES.le (RES.at_ (n := n) (x := (c9 + 2)) hMZ_31 (by have h8 : (sv μ25 129 (n - 1) (c9 + 2)).1 111 47 = n := ((sv_n _ (fun h9 => absurd h9.1 (by decide))).trans ((F_26.1 111 (by decide) 47).trans ((sv_n _ (by decide)).trans hn.symm))); omega) (by omega) (by have h8 : (sv μ25 129 (n - 1) (c9 + 2)).1 111 94 = μ.1 111 94 := ((sv_n _ (fun h9 => absurd h9.1 (by decide))).trans ((F_26.1 111 (by decide) 94).trans (sv_n _ (by decide)))); omega) (by have h8 : (sv μ25 129 (n - 1) (c9 + 2)).1 129 (n - 1) = c9 + 2 := (sv_s _ _ _ _); omega) (TP.mv2 g3.1 (Eqa.fr (L := [129, 133, 134, 111]) (FrM.put (FrM.tr (FrM.put FrM.rf (by decide)) F_26 (by decide)) (by decide)) (by decide)) ((sv_n _ (fun h9 => absurd h9.1 (by decide))).trans ((F_26.1 111 (by decide) 4).trans (sv_n _ (by decide)))) (by rw [(show (sv μ25 129 (n - 1) (c9 + 2)).1 111 53 = μ.1 140 x1 from ((sv_n _ (fun h9 => absurd h9.1 (by decide))).trans ((F_26.1 111 (by decide) 53).trans (sv_s _ _ _ _))))]; exact hbk.1) (by rw [(show (sv μ25 129 (n - 1) (c9 + 2)).1 111 61 = bo from ((sv_n _ (fun h9 => absurd h9.1 (by decide))).trans ((F_26.1 111 (by decide) 61).trans ((sv_n _ (by decide)).trans hbo.symm))))]; exact hkb.symm)) (by rw [fC.mv (Eqa.fr (L := [129, 133, 134, 111]) (FrM.put (FrM.tr (FrM.put FrM.rf (by decide)) F_26 (by decide)) (by decide)) (by decide)) ((sv_n _ (fun h9 => absurd h9.1 (by decide))).trans ((F_26.1 111 (by decide) 4).trans (sv_n _ (by decide))))]; exact g3.2)) (by omega))⟩

set_option maxHeartbeats 4000000 in
set_option maxRecDepth 100000 in
theorem c_X12_opensTo (ω : Om) (l : Launch) (μ : M3) (x1 : Int) (x2 : Int) (n : Int) (bo : Int) (hx1 : ir x1) (hx2 : ir x2) (hn : n = μ.1 111 47) (hbo : bo = μ.1 111 61) (hMZ : MZ μ) (h1 : 1 ≤ n ∧ n ≤ 24) (hkb : x1 = bo) (hbk : BK μ (n - 1) x1) (hgr : 0 ≤ x2 ∧ x2 < μ.1 111 82) (h94 : μ.1 111 94 = 0) (hq4 : 0 ≤ x1 ∧ x1 < 900) (hk4 : μ.1 137 x1 = 4) : CtI ω l yX12_opensTo cX12_opensTo 4 .boolean 1 24 [.ref (oP ω 111), .int (iv x1), .int (iv x2)] μ (fun (r : Int) (μ' : M3) => (FrM [111, 129, 133, 134] μ μ') ∧ (∀ j, j ∉ ([53] : List Int) → μ'.1 111 j = μ.1 111 j) ∧ (RES μ' (RX μ + 9000)) ∧ (r = 1)) := by
  refine CtI.go (by decide) (Nat.le_of_ble_eq_true rfl) (fun ρ p e s m below meth c R ls G hR hret hlk hl => ?_)
  have hx := G.1.1
  have hb := G.1.2.1
  have hl : lv_has ls 4 [(0, .ref (oP ω 111)), (1, .int (iv x1)), (2, .int (iv x2))] := hl
  generalize s.drawn = d0 at G ⊢
  have hr_x1 : -2147483648 ≤ x1 ∧ x1 ≤ 2147483647 := hx1
  have hr_x2 : -2147483648 ≤ x2 ∧ x2 ≤ 2147483647 := hx2
  have hzn_ := hMZ.n
  rw [← hn] at hzn_
  obtain ⟨hz47, hzFB, hzFL, hz81, hz82, hz84, hz65, hz4, hz104⟩ := hzn_
  have hfr_ := (hMZ.2.2.1 (n - 1) (by omega) (by omega)).1.1
  have hzB := FB_1 (μ := μ) (n := n) (by omega)
  have hzL := FL_1 (μ := μ) (n := n) (by omega)
  have hgv := hMZ.1.2.2.2.1.2.2.1 x2 hgr.1 hgr.2
  have hbl_ := (by have h9 := hMZ.n.2.2.1; rw [← hn] at h9; exact h9 : 0 ≤ FL μ n ∧ FL μ n ≤ μ.1 111 53 ∧ μ.1 111 53 ≤ 8000)
  have hb1_ := hbk.1
  have htp := (hbk.2.2.2.2.2.1 (Or.inr hk4)).tp0
  have htq := htp.1.pc
  have hop := (hbk.2.2.2.2.2.2.1 hk4).2
  refine lv_aload_n hx hb dX12_opensTo_0 rfl (lv_at hl 0 rfl) ?_
  refine xa_geti G fd_X12 (a := 111) (x := n) 47 rfl (by decide) rfl (wm 7 196 rfl rfl) ⟨rfl, rfl, rfl⟩ dX12_opensTo_1 rfl hn.symm ?_
  have hr_1 : -2147483648 ≤ n ∧ n ≤ 2147483647 := by have h9 := G.hr (a := 111) (k := 47) rfl; rw [show μ.1 111 47 = n from hn.symm] at h9; exact h9
  refine lv_iconst (v := iv 1) hx hb dX12_opensTo_4 rfl ?_
  refine xb_isub hx hb dX12_opensTo_5 ?_
  refine lv_istore_n (lv' := [(3, .int (iv (n - 1))), (0, .ref (oP ω 111)), (1, .int (iv x1)), (2, .int (iv x2))]) hx hb dX12_opensTo_6 rfl hl (by decide) rfl (fun ls hl => ?_)
  refine lv_aload_n hx hb dX12_opensTo_7 rfl (lv_at hl 1 rfl) ?_
  refine lv_aload_n hx hb dX12_opensTo_8 rfl (lv_at hl 1 rfl) ?_
  refine xa_getr G fd_X12 (a := 111) (x := 140) 57 rfl (by decide) rfl (wm 7 206 rfl rfl) ⟨rfl, rfl, rfl⟩ dX12_opensTo_9 rfl (G.sk 138 rfl) (by decide) rfl ?_
  refine lv_iload_n hx hb dX12_opensTo_12 rfl (lv_at hl 2 rfl) ?_
  refine xa_iald G (a := 140) (i := x1) rfl (by have h9 := G.lc (a := 140) (n := 900) 78 rfl; omega) dX12_opensTo_13 rfl ?_
  have hr_2 : -2147483648 ≤ μ.1 140 x1 ∧ μ.1 140 x1 ≤ 2147483647 := by have h9 := G.hr (a := 140) (k := x1) rfl; exact h9
  refine xa_puti G fd_X12 (a := 111) (x := μ.1 140 x1) 53 (kz := 53) rfl rfl (by decide) rfl (by unfold ir; omega) (wm 7 202 rfl rfl) ⟨rfl, rfl, rfl, rfl⟩ rfl dX12_opensTo_14 rfl (fun H locs G => ?_)
  refine lv_aload_n hx hb dX12_opensTo_17 rfl (lv_at hl 1 rfl) ?_
  refine lv_aload_n hx hb dX12_opensTo_18 rfl (lv_at hl 1 rfl) ?_
  refine xa_getr G fd_X12 (a := 111) (x := 116) 20 rfl (by decide) rfl (wm 7 169 rfl rfl) ⟨rfl, rfl, rfl⟩ dX12_opensTo_19 rfl (G.sk 114 rfl) (by decide) rfl ?_
  refine lv_sipush (v := iv 27000) hx hb dX12_opensTo_22 rfl ?_
  refine lv_aload_n hx hb dX12_opensTo_25 rfl (lv_at hl 1 rfl) ?_
  refine xa_getr G fd_X12 (a := 111) (x := 141) 58 rfl (by decide) rfl (wm 7 207 rfl rfl) ⟨rfl, rfl, rfl⟩ dX12_opensTo_26 rfl (G.sk 139 rfl) (by decide) rfl ?_
  refine lv_iload_n hx hb dX12_opensTo_29 rfl (lv_at hl 2 rfl) ?_
  refine xa_iald G (a := 141) (i := x1) rfl (by have h9 := G.lc (a := 141) (n := 900) 79 rfl; omega) dX12_opensTo_30 rfl ?_
  refine xb_ti (y := μ.1 141 x1) (sv_n _ (fun h9 => absurd h9.1 (by decide))) ?_
  have hr_3 : -2147483648 ≤ μ.1 141 x1 ∧ μ.1 141 x1 ≤ 2147483647 := by have h9 := G.hr (a := 141) (k := x1) rfl; rw [(sv_n _ (fun h9 => absurd h9.1 (by decide)))] at h9; exact h9
  refine xb_iadd hx hb dX12_opensTo_31 ?_
  refine xa_lald G (a := 116) (i := 27000 + (μ.1 141 x1)) rfl (by have h9 := G.lc (a := 116) (n := 45000) 54 rfl; omega) dX12_opensTo_32 rfl ?_
  refine xb_tl (y := μ.1 116 (27000 + (μ.1 141 x1))) (sv_n _ (fun h9 => absurd h9.1 (by decide))) ?_
  have hj_4 : jr (μ.1 116 (27000 + (μ.1 141 x1))) := (by have h9 := G.hj (a := 116) (k := 27000 + (μ.1 141 x1)) rfl; rw [(sv_n _ (fun h9 => absurd h9.1 (by decide)))] at h9; exact h9)
  refine xb_l2i hx hb dX12_opensTo_33 ?_
  refine xb_topi (fun y_5 hr_y_5 he_y_5 => ?_)
  have hr_y_5 : -2147483648 ≤ y_5 ∧ y_5 ≤ 2147483647 := hr_y_5
  have hli_y_5 : ir (μ.1 116 (27000 + (μ.1 141 x1))) → y_5 = μ.1 116 (27000 + (μ.1 141 x1)) := fun h9 => (iv_eq hr_y_5 h9).mp he_y_5
  unfold ir at hli_y_5
  refine lv_aload_n hx hb dX12_opensTo_34 rfl (lv_at hl 1 rfl) ?_
  refine xa_getr G fd_X12 (a := 111) (x := 151) 72 rfl (by decide) rfl (wm 7 221 rfl rfl) ⟨rfl, rfl, rfl⟩ dX12_opensTo_35 rfl (G.sk 149 rfl) (by decide) rfl ?_
  refine lv_iload_n hx hb dX12_opensTo_38 rfl (lv_at hl 3 rfl) ?_
  refine xa_bald G (a := 151) (i := x2) rfl (by have h9 := G.lc (a := 151) (n := 12000) 89 rfl; omega) dX12_opensTo_39 rfl ?_
  refine xb_ti (y := μ.1 151 x2) (sv_n _ (fun h9 => absurd h9.1 (by decide))) ?_
  have hr_6 : -2147483648 ≤ μ.1 151 x2 ∧ μ.1 151 x2 ≤ 2147483647 := by have h9 := G.hr3 (a := 151) (k := x2) rfl; rw [(sv_n _ (fun h9 => absurd h9.1 (by decide)))] at h9; exact h9
  refine lv_aload_n hx hb dX12_opensTo_40 rfl (lv_at hl 1 rfl) ?_
  refine xa_getr G fd_X12 (a := 111) (x := 152) 73 rfl (by decide) rfl (wm 7 222 rfl rfl) ⟨rfl, rfl, rfl⟩ dX12_opensTo_41 rfl (G.sk 150 rfl) (by decide) rfl ?_
  refine lv_iload_n hx hb dX12_opensTo_44 rfl (lv_at hl 3 rfl) ?_
  refine xa_lald G (a := 152) (i := x2) rfl (by have h9 := G.lc (a := 152) (n := 12000) 90 rfl; omega) dX12_opensTo_45 rfl ?_
  refine xb_tl (y := μ.1 152 x2) (sv_n _ (fun h9 => absurd h9.1 (by decide))) ?_
  have hj_7 : jr (μ.1 152 x2) := (by have h9 := G.hj (a := 152) (k := x2) rfl; rw [(sv_n _ (fun h9 => absurd h9.1 (by decide)))] at h9; exact h9)
  have e_8 : (sv μ 111 53 (μ.1 140 x1)).1 111 65 = μ.1 111 65 := (sv_n _ (by decide))
  have e_9 : (sv μ 111 53 (μ.1 140 x1)).1 111 82 = μ.1 111 82 := (sv_n _ (by decide))
  have e_10 : (sv μ 111 53 (μ.1 140 x1)).1 111 47 = n := ((sv_n _ (by decide)).trans hn.symm)
  have hMZ_11 : MZ (sv μ 111 53 (μ.1 140 x1)) := MZ.mn1 hMZ (n := n) (s := μ.1 131 (n - 1)) (hn.symm) (by have h9 : μ.1 131 (n - 1) = μ.1 131 (n - 1) := rfl; exact h9) (by omega) (by have h9 : μ.1 111 53 = μ.1 111 53 := rfl; omega)
  refine xc_vV G (b := 111) (rest := []) (As := [.int (iv y_5), .int (iv (μ.1 151 x2)), .long (jv (μ.1 152 x2))]) (c_X12_puts ω l (sv μ 111 53 (μ.1 140 x1)) y_5 (μ.1 151 x2) (μ.1 152 x2) n (by unfold ir; omega) (by unfold ir; omega) hj_7 (by omega) hMZ_11 (by omega) (by omega) (by rw [(show (sv μ 111 53 (μ.1 140 x1)).1 111 65 = μ.1 111 65 from (sv_n _ (by decide))), (show (sv μ 111 53 (μ.1 140 x1)).1 111 82 = μ.1 111 82 from (sv_n _ (by decide)))]; exact hgv)) (wm 10 110 rfl rfl) (wm 10 112 rfl rfl) (wm 0 191 rfl rfl) rfl rfl (by decide) rfl (wm 1 18 rfl rfl) (wm 10 113 rfl rfl) (by decide) hR (by decide) (n := 3) rfl rfl (Nat.le_of_ble_eq_true rfl) hl.1 dX12_opensTo_46 (fun μ12 ρ d0 H locs hp G => ?_)
  obtain ⟨F_13, hp_14⟩ := hp
  refine lv_aload_n hx hb dX12_opensTo_49 rfl (lv_at hl 1 rfl) ?_
  refine xa_getr G fd_X12 (a := 111) (x := 129) 43 rfl (by decide) rfl (wm 7 192 rfl rfl) ⟨rfl, rfl, rfl⟩ dX12_opensTo_50 rfl (G.sk 127 rfl) (by decide) rfl ?_
  refine lv_iload_n hx hb dX12_opensTo_53 rfl (lv_at hl 0 rfl) ?_
  refine lv_aload_n hx hb dX12_opensTo_54 rfl (lv_at hl 1 rfl) ?_
  refine xa_getr G fd_X12 (a := 111) (x := 138) 55 rfl (by decide) rfl (wm 7 204 rfl rfl) ⟨rfl, rfl, rfl⟩ dX12_opensTo_55 rfl (G.sk 136 rfl) (by decide) rfl ?_
  refine lv_iload_n hx hb dX12_opensTo_58 rfl (lv_at hl 2 rfl) ?_
  refine xa_iald G (a := 138) (i := x1) rfl (by have h9 := G.lc (a := 138) (n := 900) 76 rfl; omega) dX12_opensTo_59 rfl ?_
  refine xb_ti (y := μ.1 138 x1) ((F_13.1 138 (by decide) x1).trans (sv_n _ (fun h9 => absurd h9.1 (by decide)))) ?_
  have hr_15 : -2147483648 ≤ μ.1 138 x1 ∧ μ.1 138 x1 ≤ 2147483647 := by have h9 := G.hr (a := 138) (k := x1) rfl; rw [((F_13.1 138 (by decide) x1).trans (sv_n _ (fun h9 => absurd h9.1 (by decide))))] at h9; exact h9
  refine xa_iast G (a := 129) (i := n - 1) (x := μ.1 138 x1) rfl (by have h9 := G.lc (a := 129) (n := 26) 67 rfl; omega) (by unfold ir; omega) dX12_opensTo_60 rfl (fun H locs G => ?_)
  refine lv_iconst (v := iv 1) hx hb dX12_opensTo_61 rfl ?_
  have e_16 : (sv μ12 129 (n - 1) (μ.1 138 x1)).1 111 83 = μ.1 111 83 := ((sv_n _ (fun h9 => absurd h9.1 (by decide))).trans ((F_13.1 111 (by decide) 83).trans (sv_n _ (by decide))))
  have hrx_17 := RX.eq (μ := μ) (ν := (sv μ12 129 (n - 1) (μ.1 138 x1))) (Eqa.fr (L := [129, 133, 134, 111]) (FrM.put (FrM.tr (FrM.put FrM.rf (by decide)) F_13 (by decide)) (by decide)) (by decide)) (Eqf.fd (L := [53]) (fun j hj => ((sv_n _ (fun h9 => absurd h9.1 (by decide))).trans ((F_13.1 111 (by decide) j).trans (sv_n _ (fun h9 => hj (by rw [h9.2]; decide)))))) (by decide))
  have hMZ_18 : MZ (sv μ12 129 (n - 1) (μ.1 138 x1)) := MZ.pc hp_14 (by rw [show μ12.1 111 47 = n from ((F_13.1 111 (by decide) 47).trans ((sv_n _ (by decide)).trans hn.symm))])
  exact xr_i G (x := 1) hret hlk (by unfold ir; omega) (zr (by omega)) dX12_opensTo_62 ⟨(FrM.put (FrM.tr (FrM.put FrM.rf (by decide)) F_13 (by decide)) (by decide)), (fun j hj => ((sv_n _ (fun h9 => absurd h9.1 (by decide))).trans ((F_13.1 111 (by decide) j).trans (sv_n _ (fun h9 => hj (by rw [h9.2]; decide)))))), (RES.le (RES.at_ (n := n) (x := (μ.1 138 x1)) hMZ_18 (by have h8 : (sv μ12 129 (n - 1) (μ.1 138 x1)).1 111 47 = n := ((sv_n _ (fun h9 => absurd h9.1 (by decide))).trans ((F_13.1 111 (by decide) 47).trans ((sv_n _ (by decide)).trans hn.symm))); omega) (by omega) (by have h8 : (sv μ12 129 (n - 1) (μ.1 138 x1)).1 111 94 = μ.1 111 94 := ((sv_n _ (fun h9 => absurd h9.1 (by decide))).trans ((F_13.1 111 (by decide) 94).trans (sv_n _ (by decide)))); omega) (by have h8 : (sv μ12 129 (n - 1) (μ.1 138 x1)).1 129 (n - 1) = μ.1 138 x1 := (sv_s _ _ _ _); omega) (TP.mv2 htp.1 (Eqa.fr (L := [129, 133, 134, 111]) (FrM.put (FrM.tr (FrM.put FrM.rf (by decide)) F_13 (by decide)) (by decide)) (by decide)) ((sv_n _ (fun h9 => absurd h9.1 (by decide))).trans ((F_13.1 111 (by decide) 4).trans (sv_n _ (by decide)))) (by rw [(show (sv μ12 129 (n - 1) (μ.1 138 x1)).1 111 53 = μ.1 140 x1 from ((sv_n _ (fun h9 => absurd h9.1 (by decide))).trans ((F_13.1 111 (by decide) 53).trans (sv_s _ _ _ _))))]; exact hbk.1) (by rw [(show (sv μ12 129 (n - 1) (μ.1 138 x1)).1 111 61 = bo from ((sv_n _ (fun h9 => absurd h9.1 (by decide))).trans ((F_13.1 111 (by decide) 61).trans ((sv_n _ (by decide)).trans hbo.symm))))]; exact hkb.symm)) (by rw [fC.mv (Eqa.fr (L := [129, 133, 134, 111]) (FrM.put (FrM.tr (FrM.put FrM.rf (by decide)) F_13 (by decide)) (by decide)) (by decide)) ((sv_n _ (fun h9 => absurd h9.1 (by decide))).trans ((F_13.1 111 (by decide) 4).trans (sv_n _ (by decide))))]; exact htp.2)) (by omega)), (by omega)⟩

set_option maxHeartbeats 4000000 in
set_option maxRecDepth 100000 in
theorem c_X12_enters (ω : Om) (l : Launch) (μ : M3) (x1 : Int) (x2 : Int) (n : Int) (hx1 : ir x1) (hx2 : ir x2) (hn : n = μ.1 111 47) (hMZ : MZ μ) (hn23 : 0 ≤ n ∧ n ≤ 23) (hq1 : 0 ≤ x1 ∧ x1 ≤ 3) (hq2 : 0 ≤ x2 ∧ x2 < μ.1 122 x1) (hA1 : 1 ≤ n → A1 μ) (hm0 : n = 0 → μ.1 111 53 = 0 ∧ μ.1 111 61 = 0) (h94 : μ.1 111 94 = 0) : CtV ω l yX12_enters cX12_enters 5 1 24 [.ref (oP ω 111), .int (iv x1), .int (iv x2)] μ (fun (μ' : M3) => (FrM [111, 127, 128, 129, 130, 131, 132, 133, 134] μ μ') ∧ (∀ j, j ∉ ([47, 48] : List Int) → μ'.1 111 j = μ.1 111 j) ∧ (MZ μ') ∧ (RES μ' (RX μ + 29000)) ∧ (μ'.1 111 47 = n + 1)) := by
  refine CtV.go (by decide) (Nat.le_of_ble_eq_true rfl) (fun ρ p e s m below meth c R ls G hR hret hlk hl => ?_)
  have hx := G.1.1
  have hb := G.1.2.1
  have hl : lv_has ls 5 [(0, .ref (oP ω 111)), (1, .int (iv x1)), (2, .int (iv x2))] := hl
  generalize s.drawn = d0 at G ⊢
  have hr_x1 : -2147483648 ≤ x1 ∧ x1 ≤ 2147483647 := hx1
  have hr_x2 : -2147483648 ≤ x2 ∧ x2 ≤ 2147483647 := hx2
  have hzn_ := hMZ.n
  rw [← hn] at hzn_
  obtain ⟨hz47, hzFB, hzFL, hz81, hz82, hz84, hz65, hz4, hz104⟩ := hzn_
  obtain ⟨E9, row9⟩ := (hMZ.1.2.1 x1 hq1.1 hq1.2).2 x2 hq2.1 hq2.2
  have hr9 := row9.2.2.2
  have hf9 := (hMZ.1.2.1 x1 hq1.1 hq1.2).1
  refine lv_aload_n hx hb dX12_enters_0 rfl (lv_at hl 0 rfl) ?_
  refine xa_geti G fd_X12 (a := 111) (x := n) 47 rfl (by decide) rfl (wm 7 196 rfl rfl) ⟨rfl, rfl, rfl⟩ dX12_enters_1 rfl hn.symm ?_
  have hr_1 : -2147483648 ≤ n ∧ n ≤ 2147483647 := by have h9 := G.hr (a := 111) (k := 47) rfl; rw [show μ.1 111 47 = n from hn.symm] at h9; exact h9
  refine lv_istore_n (lv' := [(3, .int (iv n)), (0, .ref (oP ω 111)), (1, .int (iv x1)), (2, .int (iv x2))]) hx hb dX12_enters_4 rfl hl (by decide) rfl (fun ls hl => ?_)
  refine lv_aload_n hx hb dX12_enters_5 rfl (lv_at hl 1 rfl) ?_
  refine lv_dup hx hb dX12_enters_6 rfl ?_
  refine xa_geti G fd_X12 (a := 111) (x := n) 47 rfl (by decide) rfl (wm 7 196 rfl rfl) ⟨rfl, rfl, rfl⟩ dX12_enters_7 rfl hn.symm ?_
  refine lv_iconst (v := iv 1) hx hb dX12_enters_10 rfl ?_
  refine xb_iadd hx hb dX12_enters_11 ?_
  refine xa_puti G fd_X12 (a := 111) (x := n + 1) 47 (kz := 47) rfl rfl (by decide) rfl (by unfold ir; omega) (wm 7 196 rfl rfl) ⟨rfl, rfl, rfl, rfl⟩ rfl dX12_enters_12 rfl (fun H locs G => ?_)
  refine lv_aload_n hx hb dX12_enters_15 rfl (lv_at hl 1 rfl) ?_
  refine lv_aload_n hx hb dX12_enters_16 rfl (lv_at hl 1 rfl) ?_
  refine xa_geti G fd_X12 (a := 111) (x := μ.1 111 48) 48 rfl (by decide) rfl (wm 7 197 rfl rfl) ⟨rfl, rfl, rfl⟩ dX12_enters_17 rfl (sv_n _ (by decide)) ?_
  have hr_2 : -2147483648 ≤ μ.1 111 48 ∧ μ.1 111 48 ≤ 2147483647 := by have h9 := G.hr (a := 111) (k := 48) rfl; rw [show (sv μ 111 47 (n + 1)).1 111 48 = μ.1 111 48 from (sv_n _ (by decide))] at h9; exact h9
  refine lv_aload_n hx hb dX12_enters_20 rfl (lv_at hl 1 rfl) ?_
  refine xa_geti G fd_X12 (a := 111) (x := n + 1) 47 rfl (by decide) rfl (wm 7 196 rfl rfl) ⟨rfl, rfl, rfl⟩ dX12_enters_21 rfl (sv_s _ _ _ _) ?_
  have hr_3 : -2147483648 ≤ n + 1 ∧ n + 1 ≤ 2147483647 := by have h9 := G.hr (a := 111) (k := 47) rfl; rw [show (sv μ 111 47 (n + 1)).1 111 47 = n + 1 from (sv_s _ _ _ _)] at h9; exact h9
  refine xm_max G (x := μ.1 111 48) (y := n + 1) (wm 10 109 rfl rfl) (wm 1 148 rfl rfl) (wm 1 11 rfl rfl) (wm 1 149 rfl rfl) hR (by decide) (Nat.le_of_ble_eq_true rfl) hl.1 (by unfold ir; omega) (by unfold ir; omega) dX12_enters_24 ?_
  refine xa_puti G fd_X12 (a := 111) (x := max (μ.1 111 48) (n + 1)) 48 (kz := 48) rfl rfl (by decide) rfl (by unfold ir; omega) (wm 7 197 rfl rfl) ⟨rfl, rfl, rfl, rfl⟩ rfl dX12_enters_27 rfl (fun H locs G => ?_)
  refine lv_aload_n hx hb dX12_enters_30 rfl (lv_at hl 1 rfl) ?_
  refine xa_getr G fd_X12 (a := 111) (x := 127) 41 rfl (by decide) rfl (wm 7 190 rfl rfl) ⟨rfl, rfl, rfl⟩ dX12_enters_31 rfl (G.sk 125 rfl) (by decide) rfl ?_
  refine lv_iload_n hx hb dX12_enters_34 rfl (lv_at hl 0 rfl) ?_
  refine lv_iload_n hx hb dX12_enters_35 rfl (lv_at hl 2 rfl) ?_
  refine xa_iast G (a := 127) (i := n) (x := x1) rfl (by have h9 := G.lc (a := 127) (n := 26) 65 rfl; omega) (by unfold ir; omega) dX12_enters_36 rfl (fun H locs G => ?_)
  refine lv_aload_n hx hb dX12_enters_37 rfl (lv_at hl 1 rfl) ?_
  refine xa_getr G fd_X12 (a := 111) (x := 128) 42 rfl (by decide) rfl (wm 7 191 rfl rfl) ⟨rfl, rfl, rfl⟩ dX12_enters_38 rfl (G.sk 126 rfl) (by decide) rfl ?_
  refine lv_iload_n hx hb dX12_enters_41 rfl (lv_at hl 0 rfl) ?_
  refine lv_iload_n hx hb dX12_enters_42 rfl (lv_at hl 3 rfl) ?_
  refine xa_iast G (a := 128) (i := n) (x := x2) rfl (by have h9 := G.lc (a := 128) (n := 26) 66 rfl; omega) (by unfold ir; omega) dX12_enters_43 rfl (fun H locs G => ?_)
  refine lv_aload_n hx hb dX12_enters_44 rfl (lv_at hl 1 rfl) ?_
  refine xa_getr G fd_X12 (a := 111) (x := 129) 43 rfl (by decide) rfl (wm 7 192 rfl rfl) ⟨rfl, rfl, rfl⟩ dX12_enters_45 rfl (G.sk 127 rfl) (by decide) rfl ?_
  refine lv_iload_n hx hb dX12_enters_48 rfl (lv_at hl 0 rfl) ?_
  refine lv_aload_n hx hb dX12_enters_49 rfl (lv_at hl 1 rfl) ?_
  refine xa_getr G fd_X12 (a := 111) (x := 119) 24 rfl (by decide) rfl (wm 7 173 rfl rfl) ⟨rfl, rfl, rfl⟩ dX12_enters_50 rfl (G.sk 117 rfl) (by decide) rfl ?_
  refine lv_bipush (v := iv 40) hx hb dX12_enters_53 rfl ?_
  refine lv_iload_n hx hb dX12_enters_55 rfl (lv_at hl 2 rfl) ?_
  refine xb_imul hx hb dX12_enters_56 ?_
  refine lv_iload_n hx hb dX12_enters_57 rfl (lv_at hl 3 rfl) ?_
  refine xb_iadd hx hb dX12_enters_58 ?_
  refine xa_iald G (a := 119) (i := (40 * x1) + x2) rfl (by have h9 := G.lc (a := 119) (n := 200) 57 rfl; omega) dX12_enters_59 rfl ?_
  refine xb_ti (y := μ.1 119 ((40 * x1) + x2)) ((sv_n _ (fun h9 => absurd h9.1 (by decide))).trans ((sv_n _ (fun h9 => absurd h9.1 (by decide))).trans ((sv_n _ (fun h9 => absurd h9.1 (by decide))).trans (sv_n _ (fun h9 => absurd h9.1 (by decide)))))) ?_
  have hr_4 : -2147483648 ≤ μ.1 119 ((40 * x1) + x2) ∧ μ.1 119 ((40 * x1) + x2) ≤ 2147483647 := by have h9 := G.hr (a := 119) (k := (40 * x1) + x2) rfl; rw [((sv_n _ (fun h9 => absurd h9.1 (by decide))).trans ((sv_n _ (fun h9 => absurd h9.1 (by decide))).trans ((sv_n _ (fun h9 => absurd h9.1 (by decide))).trans (sv_n _ (fun h9 => absurd h9.1 (by decide))))))] at h9; exact h9
  refine xa_iast G (a := 129) (i := n) (x := μ.1 119 ((40 * x1) + x2)) rfl (by have h9 := G.lc (a := 129) (n := 26) 67 rfl; omega) (by unfold ir; omega) dX12_enters_60 rfl (fun H locs G => ?_)
  refine lv_aload_n hx hb dX12_enters_61 rfl (lv_at hl 1 rfl) ?_
  refine xa_getr G fd_X12 (a := 111) (x := 130) 44 rfl (by decide) rfl (wm 7 193 rfl rfl) ⟨rfl, rfl, rfl⟩ dX12_enters_62 rfl (G.sk 128 rfl) (by decide) rfl ?_
  refine lv_iload_n hx hb dX12_enters_65 rfl (lv_at hl 0 rfl) ?_
  refine lv_iconst (v := iv 0) hx hb dX12_enters_66 rfl ?_
  refine xa_iast G (a := 130) (i := n) (x := 0) rfl (by have h9 := G.lc (a := 130) (n := 26) 68 rfl; omega) (by unfold ir; omega) dX12_enters_67 rfl (fun H locs G => ?_)
  refine lv_aload_n hx hb dX12_enters_68 rfl (lv_at hl 1 rfl) ?_
  refine xa_getr G fd_X12 (a := 111) (x := 131) 45 rfl (by decide) rfl (wm 7 194 rfl rfl) ⟨rfl, rfl, rfl⟩ dX12_enters_69 rfl (G.sk 129 rfl) (by decide) rfl ?_
  refine lv_iload_n hx hb dX12_enters_72 rfl (lv_at hl 0 rfl) ?_
  refine lv_aload_n hx hb dX12_enters_73 rfl (lv_at hl 1 rfl) ?_
  refine xa_geti G fd_X12 (a := 111) (x := μ.1 111 53) 53 rfl (by decide) rfl (wm 7 202 rfl rfl) ⟨rfl, rfl, rfl⟩ dX12_enters_74 rfl ((sv_n _ (fun h9 => absurd h9.1 (by decide))).trans ((sv_n _ (fun h9 => absurd h9.1 (by decide))).trans ((sv_n _ (fun h9 => absurd h9.1 (by decide))).trans ((sv_n _ (fun h9 => absurd h9.1 (by decide))).trans ((sv_n _ (by decide)).trans (sv_n _ (by decide))))))) ?_
  have hr_5 : -2147483648 ≤ μ.1 111 53 ∧ μ.1 111 53 ≤ 2147483647 := by have h9 := G.hr (a := 111) (k := 53) rfl; rw [show (sv (sv (sv (sv (sv (sv μ 111 47 (n + 1)) 111 48 (max (μ.1 111 48) (n + 1))) 127 n x1) 128 n x2) 129 n (μ.1 119 ((40 * x1) + x2))) 130 n 0).1 111 53 = μ.1 111 53 from ((sv_n _ (fun h9 => absurd h9.1 (by decide))).trans ((sv_n _ (fun h9 => absurd h9.1 (by decide))).trans ((sv_n _ (fun h9 => absurd h9.1 (by decide))).trans ((sv_n _ (fun h9 => absurd h9.1 (by decide))).trans ((sv_n _ (by decide)).trans (sv_n _ (by decide)))))))] at h9; exact h9
  refine xa_iast G (a := 131) (i := n) (x := μ.1 111 53) rfl (by have h9 := G.lc (a := 131) (n := 26) 69 rfl; omega) (by unfold ir; omega) dX12_enters_77 rfl (fun H locs G => ?_)
  refine lv_aload_n hx hb dX12_enters_78 rfl (lv_at hl 1 rfl) ?_
  refine xa_getr G fd_X12 (a := 111) (x := 132) 46 rfl (by decide) rfl (wm 7 195 rfl rfl) ⟨rfl, rfl, rfl⟩ dX12_enters_79 rfl (G.sk 130 rfl) (by decide) rfl ?_
  refine lv_iload_n hx hb dX12_enters_82 rfl (lv_at hl 0 rfl) ?_
  refine lv_aload_n hx hb dX12_enters_83 rfl (lv_at hl 1 rfl) ?_
  refine xa_geti G fd_X12 (a := 111) (x := μ.1 111 61) 61 rfl (by decide) rfl (wm 7 210 rfl rfl) ⟨rfl, rfl, rfl⟩ dX12_enters_84 rfl ((sv_n _ (fun h9 => absurd h9.1 (by decide))).trans ((sv_n _ (fun h9 => absurd h9.1 (by decide))).trans ((sv_n _ (fun h9 => absurd h9.1 (by decide))).trans ((sv_n _ (fun h9 => absurd h9.1 (by decide))).trans ((sv_n _ (fun h9 => absurd h9.1 (by decide))).trans ((sv_n _ (by decide)).trans (sv_n _ (by decide)))))))) ?_
  have hr_6 : -2147483648 ≤ μ.1 111 61 ∧ μ.1 111 61 ≤ 2147483647 := by have h9 := G.hr (a := 111) (k := 61) rfl; rw [show (sv (sv (sv (sv (sv (sv (sv μ 111 47 (n + 1)) 111 48 (max (μ.1 111 48) (n + 1))) 127 n x1) 128 n x2) 129 n (μ.1 119 ((40 * x1) + x2))) 130 n 0) 131 n (μ.1 111 53)).1 111 61 = μ.1 111 61 from ((sv_n _ (fun h9 => absurd h9.1 (by decide))).trans ((sv_n _ (fun h9 => absurd h9.1 (by decide))).trans ((sv_n _ (fun h9 => absurd h9.1 (by decide))).trans ((sv_n _ (fun h9 => absurd h9.1 (by decide))).trans ((sv_n _ (fun h9 => absurd h9.1 (by decide))).trans ((sv_n _ (by decide)).trans (sv_n _ (by decide))))))))] at h9; exact h9
  refine xa_iast G (a := 132) (i := n) (x := μ.1 111 61) rfl (by have h9 := G.lc (a := 132) (n := 26) 70 rfl; omega) (by unfold ir; omega) dX12_enters_87 rfl (fun H locs G => ?_)
  refine lv_iconst (v := iv 0) hx hb dX12_enters_88 rfl ?_
  refine lv_istore (lv' := [(4, .int (iv 0)), (3, .int (iv n)), (0, .ref (oP ω 111)), (1, .int (iv x1)), (2, .int (iv x2))]) hx hb dX12_enters_89 hl (by decide) rfl (fun ls hl => ?_)
  refine xl (fun n_9 μ' ls => ∃ (k9 : Int), (FrM [133, 134] (sv (sv (sv (sv (sv (sv (sv (sv μ 111 47 (n + 1)) 111 48 (max (μ.1 111 48) (n + 1))) 127 n x1) 128 n x2) 129 n (μ.1 119 ((40 * x1) + x2))) 130 n 0) 131 n (μ.1 111 53)) 132 n (μ.1 111 61)) μ') ∧ (-2147483648 ≤ k9 ∧ k9 ≤ 2147483647) ∧ (0 ≤ k9 ∧ k9 ≤ μ.1 121 (40 * x1 + x2)) ∧ (∀ j, 0 ≤ j → j < k9 → μ'.1 133 (320 * n + j) = 0) ∧ (∀ j, j < 320 * n → μ'.1 133 j = μ.1 133 j) ∧ (∀ j, j < 320 * n → μ'.1 134 j = μ.1 134 j) ∧ n_9 = Int.toNat (μ.1 121 (40 * x1 + x2) - k9) ∧ lv_has ls 5 [(4, .int (iv k9)), (3, .int (iv n)), (0, .ref (oP ω 111)), (1, .int (iv x1)), (2, .int (iv x2))]) (fun n_9 ρ μL7 d0 H locs ls hI_l G ih => ?_) _ _ _ _ _ _ _ ⟨0, FrM.rf, (by omega), (by omega), (fun j h1 h2 => absurd h2 (by omega)), (fun j hj => ((sv_n _ (by omega)).trans ((sv_n _ (by omega)).trans ((sv_n _ (by omega)).trans ((sv_n _ (by omega)).trans ((sv_n _ (by omega)).trans ((sv_n _ (by omega)).trans ((sv_n _ (by omega)).trans (sv_n _ (by omega)))))))))), (fun j hj => ((sv_n _ (by omega)).trans ((sv_n _ (by omega)).trans ((sv_n _ (by omega)).trans ((sv_n _ (by omega)).trans ((sv_n _ (by omega)).trans ((sv_n _ (by omega)).trans ((sv_n _ (by omega)).trans (sv_n _ (by omega)))))))))), rfl, lv_sub hl [0, 1, 2, 3, 4] rfl⟩ G
  obtain ⟨k9, FL8, hi_10, hi_11, hi_12, hi_13, hi_14, hn9, hl⟩ := hI_l
  refine lv_iload hx hb dX12_enters_91 (lv_at hl 0 rfl) ?_
  refine lv_aload_n hx hb dX12_enters_93 rfl (lv_at hl 2 rfl) ?_
  refine xa_getr G fd_X12 (a := 111) (x := 121) 26 rfl (by decide) rfl (wm 7 175 rfl rfl) ⟨rfl, rfl, rfl⟩ dX12_enters_94 rfl (G.sk 119 rfl) (by decide) rfl ?_
  refine lv_bipush (v := iv 40) hx hb dX12_enters_97 rfl ?_
  refine lv_iload_n hx hb dX12_enters_99 rfl (lv_at hl 3 rfl) ?_
  refine xb_imul hx hb dX12_enters_100 ?_
  refine lv_iload_n hx hb dX12_enters_101 rfl (lv_at hl 4 rfl) ?_
  refine xb_iadd hx hb dX12_enters_102 ?_
  refine xa_iald G (a := 121) (i := (40 * x1) + x2) rfl (by have h9 := G.lc (a := 121) (n := 200) 59 rfl; omega) dX12_enters_103 rfl ?_
  refine xb_ti (y := μ.1 121 ((40 * x1) + x2)) ((FL8.1 121 (by decide) ((40 * x1) + x2)).trans ((sv_n _ (fun h9 => absurd h9.1 (by decide))).trans ((sv_n _ (fun h9 => absurd h9.1 (by decide))).trans ((sv_n _ (fun h9 => absurd h9.1 (by decide))).trans ((sv_n _ (fun h9 => absurd h9.1 (by decide))).trans ((sv_n _ (fun h9 => absurd h9.1 (by decide))).trans ((sv_n _ (fun h9 => absurd h9.1 (by decide))).trans ((sv_n _ (fun h9 => absurd h9.1 (by decide))).trans (sv_n _ (fun h9 => absurd h9.1 (by decide))))))))))) ?_
  have hr_15 : -2147483648 ≤ μ.1 121 ((40 * x1) + x2) ∧ μ.1 121 ((40 * x1) + x2) ≤ 2147483647 := by have h9 := G.hr (a := 121) (k := (40 * x1) + x2) rfl; rw [((FL8.1 121 (by decide) ((40 * x1) + x2)).trans ((sv_n _ (fun h9 => absurd h9.1 (by decide))).trans ((sv_n _ (fun h9 => absurd h9.1 (by decide))).trans ((sv_n _ (fun h9 => absurd h9.1 (by decide))).trans ((sv_n _ (fun h9 => absurd h9.1 (by decide))).trans ((sv_n _ (fun h9 => absurd h9.1 (by decide))).trans ((sv_n _ (fun h9 => absurd h9.1 (by decide))).trans ((sv_n _ (fun h9 => absurd h9.1 (by decide))).trans (sv_n _ (fun h9 => absurd h9.1 (by decide)))))))))))] at h9; exact h9
  refine xb_icmp_ge (tgt := 121) hx hb (by unfold ir; omega) (by unfold ir; omega) dX12_enters_104 (by decide) (fun c_104 => ?_) (fun c_104 => ?_)
  · have hen_ := MZ.en (t := x1) (g := x2) (n := n) hMZ hn (by omega) hq1 hq2 hA1 (Eqa.fr (L := [133, 134, 132, 131, 130, 129, 128, 127, 111]) (FrM.tr (FrM.put (FrM.put (FrM.put (FrM.put (FrM.put (FrM.put (FrM.put (FrM.put FrM.rf (by decide)) (by decide)) (by decide)) (by decide)) (by decide)) (by decide)) (by decide)) (by decide)) FL8 (by decide)) (by decide)) (Eqf.fd (L := [47, 48]) (fun j hj => ((FL8.1 111 (by decide) j).trans ((sv_n _ (fun h9 => absurd h9.1 (by decide))).trans ((sv_n _ (fun h9 => absurd h9.1 (by decide))).trans ((sv_n _ (fun h9 => absurd h9.1 (by decide))).trans ((sv_n _ (fun h9 => absurd h9.1 (by decide))).trans ((sv_n _ (fun h9 => absurd h9.1 (by decide))).trans ((sv_n _ (fun h9 => absurd h9.1 (by decide))).trans ((sv_n _ (fun h9 => hj (by rw [h9.2]; decide))).trans (sv_n _ (fun h9 => hj (by rw [h9.2]; decide)))))))))))) (by decide)) (by have h8 : μL7.1 111 47 = n + 1 := ((FL8.1 111 (by decide) 47).trans ((sv_n _ (fun h9 => absurd h9.1 (by decide))).trans ((sv_n _ (fun h9 => absurd h9.1 (by decide))).trans ((sv_n _ (fun h9 => absurd h9.1 (by decide))).trans ((sv_n _ (fun h9 => absurd h9.1 (by decide))).trans ((sv_n _ (fun h9 => absurd h9.1 (by decide))).trans ((sv_n _ (fun h9 => absurd h9.1 (by decide))).trans ((sv_n _ (by decide)).trans (sv_s _ _ _ _))))))))); omega) (fun j hj => ((FL8.1 127 (by decide) j).trans ((sv_n _ (by omega)).trans ((sv_n _ (by omega)).trans ((sv_n _ (by omega)).trans ((sv_n _ (by omega)).trans ((sv_n _ (by omega)).trans ((sv_n _ (by omega)).trans ((sv_n _ (by omega)).trans (sv_n _ (by omega))))))))))) (fun j hj => ((FL8.1 128 (by decide) j).trans ((sv_n _ (by omega)).trans ((sv_n _ (by omega)).trans ((sv_n _ (by omega)).trans ((sv_n _ (by omega)).trans ((sv_n _ (by omega)).trans ((sv_n _ (by omega)).trans ((sv_n _ (by omega)).trans (sv_n _ (by omega))))))))))) (fun j hj => ((FL8.1 129 (by decide) j).trans ((sv_n _ (by omega)).trans ((sv_n _ (by omega)).trans ((sv_n _ (by omega)).trans ((sv_n _ (by omega)).trans ((sv_n _ (by omega)).trans ((sv_n _ (by omega)).trans ((sv_n _ (by omega)).trans (sv_n _ (by omega))))))))))) (fun j hj => ((FL8.1 131 (by decide) j).trans ((sv_n _ (by omega)).trans ((sv_n _ (by omega)).trans ((sv_n _ (by omega)).trans ((sv_n _ (by omega)).trans ((sv_n _ (by omega)).trans ((sv_n _ (by omega)).trans ((sv_n _ (by omega)).trans (sv_n _ (by omega))))))))))) (fun j hj => ((FL8.1 132 (by decide) j).trans ((sv_n _ (by omega)).trans ((sv_n _ (by omega)).trans ((sv_n _ (by omega)).trans ((sv_n _ (by omega)).trans ((sv_n _ (by omega)).trans ((sv_n _ (by omega)).trans ((sv_n _ (by omega)).trans (sv_n _ (by omega))))))))))) ((FL8.1 127 (by decide) n).trans ((sv_n _ (fun h9 => absurd h9.1 (by decide))).trans ((sv_n _ (fun h9 => absurd h9.1 (by decide))).trans ((sv_n _ (fun h9 => absurd h9.1 (by decide))).trans ((sv_n _ (fun h9 => absurd h9.1 (by decide))).trans ((sv_n _ (fun h9 => absurd h9.1 (by decide))).trans (sv_s _ _ _ _))))))) ((FL8.1 128 (by decide) n).trans ((sv_n _ (fun h9 => absurd h9.1 (by decide))).trans ((sv_n _ (fun h9 => absurd h9.1 (by decide))).trans ((sv_n _ (fun h9 => absurd h9.1 (by decide))).trans ((sv_n _ (fun h9 => absurd h9.1 (by decide))).trans (sv_s _ _ _ _)))))) ((FL8.1 129 (by decide) n).trans ((sv_n _ (fun h9 => absurd h9.1 (by decide))).trans ((sv_n _ (fun h9 => absurd h9.1 (by decide))).trans ((sv_n _ (fun h9 => absurd h9.1 (by decide))).trans (sv_s _ _ _ _))))) ((FL8.1 131 (by decide) n).trans ((sv_n _ (fun h9 => absurd h9.1 (by decide))).trans (sv_s _ _ _ _))) ((FL8.1 132 (by decide) n).trans (sv_s _ _ _ _)) hi_13 hi_14 (fun v v0 v1 v2 => hi_12 v v0 (by omega)) (fun h9 => ⟨by have := hm0 h9; omega, by have := hm0 h9; omega⟩) (by have h8 : μL7.1 111 94 = μ.1 111 94 := ((FL8.1 111 (by decide) 94).trans ((sv_n _ (fun h9 => absurd h9.1 (by decide))).trans ((sv_n _ (fun h9 => absurd h9.1 (by decide))).trans ((sv_n _ (fun h9 => absurd h9.1 (by decide))).trans ((sv_n _ (fun h9 => absurd h9.1 (by decide))).trans ((sv_n _ (fun h9 => absurd h9.1 (by decide))).trans ((sv_n _ (fun h9 => absurd h9.1 (by decide))).trans ((sv_n _ (by decide)).trans (sv_n _ (by decide)))))))))); omega)
    have e_16 : μL7.1 111 47 = n + 1 := ((FL8.1 111 (by decide) 47).trans ((sv_n _ (fun h9 => absurd h9.1 (by decide))).trans ((sv_n _ (fun h9 => absurd h9.1 (by decide))).trans ((sv_n _ (fun h9 => absurd h9.1 (by decide))).trans ((sv_n _ (fun h9 => absurd h9.1 (by decide))).trans ((sv_n _ (fun h9 => absurd h9.1 (by decide))).trans ((sv_n _ (fun h9 => absurd h9.1 (by decide))).trans ((sv_n _ (by decide)).trans (sv_s _ _ _ _)))))))))
    exact xr_v G hret hlk dX12_enters_121 ⟨(FrM.tr (FrM.put (FrM.put (FrM.put (FrM.put (FrM.put (FrM.put (FrM.put (FrM.put FrM.rf (by decide)) (by decide)) (by decide)) (by decide)) (by decide)) (by decide)) (by decide)) (by decide)) FL8 (by decide)), (fun j hj => ((FL8.1 111 (by decide) j).trans ((sv_n _ (fun h9 => absurd h9.1 (by decide))).trans ((sv_n _ (fun h9 => absurd h9.1 (by decide))).trans ((sv_n _ (fun h9 => absurd h9.1 (by decide))).trans ((sv_n _ (fun h9 => absurd h9.1 (by decide))).trans ((sv_n _ (fun h9 => absurd h9.1 (by decide))).trans ((sv_n _ (fun h9 => absurd h9.1 (by decide))).trans ((sv_n _ (fun h9 => hj (by rw [h9.2]; decide))).trans (sv_n _ (fun h9 => hj (by rw [h9.2]; decide)))))))))))), hen_.1, hen_.2, (by omega)⟩
  · refine lv_aload_n hx hb dX12_enters_107 rfl (lv_at hl 2 rfl) ?_
    refine lv_iload hx hb dX12_enters_108 (lv_at hl 0 rfl) ?_
    refine lv_iconst (v := iv 0) hx hb dX12_enters_110 rfl ?_
    refine lv_lconst (v := jv 0) hx hb dX12_enters_111 rfl ?_
    have e_17 : μL7.1 111 47 = n + 1 := ((FL8.1 111 (by decide) 47).trans ((sv_n _ (fun h9 => absurd h9.1 (by decide))).trans ((sv_n _ (fun h9 => absurd h9.1 (by decide))).trans ((sv_n _ (fun h9 => absurd h9.1 (by decide))).trans ((sv_n _ (fun h9 => absurd h9.1 (by decide))).trans ((sv_n _ (fun h9 => absurd h9.1 (by decide))).trans ((sv_n _ (fun h9 => absurd h9.1 (by decide))).trans ((sv_n _ (by decide)).trans (sv_s _ _ _ _)))))))))
    refine xc_vV G (b := 111) (rest := []) (As := [.int (iv k9), .int (iv 0), .long (jv 0)]) (c_X12_puts_r ω l μL7 k9 0 0 (n + 1) (by unfold ir; omega) (by unfold ir; omega) (by unfold jr; omega) (by omega) (by omega) (by omega) (by omega)) (wm 10 110 rfl rfl) (wm 10 112 rfl rfl) (wm 0 191 rfl rfl) rfl rfl (by decide) rfl (wm 1 18 rfl rfl) (wm 10 113 rfl rfl) (by decide) hR (by decide) (n := 3) rfl rfl (Nat.le_of_ble_eq_true rfl) hl.1 dX12_enters_112 (fun μ18 ρ d0 H locs hp G => ?_)
    obtain ⟨F_19, hs_20, hs_21, ha_22, ha_23⟩ := hp
    refine lv_iinc (v := iv (k9 + 1)) (lv' := [(4, .int (iv (k9 + 1))), (3, .int (iv n)), (0, .ref (oP ω 111)), (1, .int (iv x1)), (2, .int (iv x2))]) hx hb dX12_enters_115 hl (k := 0) rfl (by rw [show Int32.ofInt 1 = iv 1 from rfl, iv_add]) (by decide) rfl (fun ls hl => ?_)
    refine lv_goto (tgt := 91) hx hb dX12_enters_118 (by decide) ?_
    exact ih _ _ _ _ _ _ _ (by omega) ⟨k9 + 1, (FrM.tr FL8 F_19 (by decide)), (by omega), (by omega), (fun j h1 h2 => (Classical.em (j = k9)).elim (fun h9 => by rw [show 320 * n + j = 320 * ((n + 1) - 1) + k9 by omega]; exact hs_20) (fun h9 => (ha_22 _ (by omega)).trans (hi_12 j h1 (by omega)))), (fun j hj => (ha_22 j (by omega)).trans (hi_13 j hj)), (fun j hj => (ha_23 j (by omega)).trans (hi_14 j hj)), rfl, lv_sub hl [0, 1, 2, 3, 4] rfl⟩ G
