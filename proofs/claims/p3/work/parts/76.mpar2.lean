abbrev cX12_nameOf : ByteArray := prog_14_method_4_code
def yX12_nameOf : MethodName := ⟨RX12, "nameOf", "(J)I"⟩
abbrev cX12_wantsSign : ByteArray := prog_14_method_22_code
def yX12_wantsSign : MethodName := ⟨RX12, "wantsSign", "(I)V"⟩
abbrev cX12_wantsWord : ByteArray := prog_14_method_23_code
def yX12_wantsWord : MethodName := ⟨RX12, "wantsWord", "(I)V"⟩
abbrev cX12_takesName : ByteArray := prog_14_method_24_code
def yX12_takesName : MethodName := ⟨RX12, "takesName", "()J"⟩
abbrev cX12_opens : ByteArray := prog_14_method_25_code
def yX12_opens : MethodName := ⟨RX12, "opens", "()V"⟩
abbrev cX12_opensWith : ByteArray := prog_14_method_26_code
def yX12_opensWith : MethodName := ⟨RX12, "opensWith", "(I)V"⟩
abbrev cX12_closesWith : ByteArray := prog_14_method_27_code
def yX12_closesWith : MethodName := ⟨RX12, "closesWith", "(I)V"⟩
abbrev cX12_emit : ByteArray := prog_14_method_28_code
def yX12_emit : MethodName := ⟨RX12, "emit", "(IJI)I"⟩
abbrev cX12_lands : ByteArray := prog_14_method_29_code
def yX12_lands : MethodName := ⟨RX12, "lands", "(I)V"⟩
abbrev cX12_name : ByteArray := prog_14_method_30_code
def yX12_name : MethodName := ⟨RX12, "name", "(IJ)I"⟩
abbrev cX12_takesKind : ByteArray := prog_14_method_31_code
def yX12_takesKind : MethodName := ⟨RX12, "takesKind", "()I"⟩
abbrev cX12_wrong2 : ByteArray := prog_14_method_32_code
def yX12_wrong2 : MethodName := ⟨RX12, "wrong2", "(I)V"⟩
abbrev cX12_wrong3 : ByteArray := prog_14_method_33_code
def yX12_wrong3 : MethodName := ⟨RX12, "wrong3", "(I)V"⟩
abbrev cX12_slotOf : ByteArray := prog_14_method_39_code
def yX12_slotOf : MethodName := ⟨RX12, "slotOf", "(J)I"⟩
abbrev cX12_newSlot : ByteArray := prog_14_method_40_code
def yX12_newSlot : MethodName := ⟨RX12, "newSlot", "(J)I"⟩
abbrev cX12_slot : ByteArray := prog_14_method_41_code
def yX12_slot : MethodName := ⟨RX12, "slot", "(IJ)I"⟩
abbrev cX12_anySlot : ByteArray := prog_14_method_46_code
def yX12_anySlot : MethodName := ⟨RX12, "anySlot", "(J)I"⟩
abbrev cX12_skips : ByteArray := prog_14_method_56_code
def yX12_skips : MethodName := ⟨RX12, "skips", "(I)I"⟩
abbrev cX12_landsSkip : ByteArray := prog_14_method_57_code
def yX12_landsSkip : MethodName := ⟨RX12, "landsSkip", "(I)V"⟩
abbrev cX12_isCompare : ByteArray := prog_14_method_60_code
def yX12_isCompare : MethodName := ⟨RX12, "isCompare", "(I)Z"⟩
theorem dX12_nameOf_0 : decode cX12_nameOf 0 = .ok (.iconst 1, 1) := by decide +kernel
theorem dX12_nameOf_1 : decode cX12_nameOf 1 = .ok (.istore_n 3, 1) := by decide +kernel
theorem dX12_nameOf_2 : decode cX12_nameOf 2 = .ok (.iload_n 3, 1) := by decide +kernel
theorem dX12_nameOf_3 : decode cX12_nameOf 3 = .ok (.aload_n 0, 1) := by decide +kernel
theorem dX12_nameOf_4 : decode cX12_nameOf 4 = .ok (.getfield 178, 3) := by decide +kernel
theorem dX12_nameOf_7 : decode cX12_nameOf 7 = .ok (.if_icmp .ge 22, 3) := by decide +kernel
theorem dX12_nameOf_10 : decode cX12_nameOf 10 = .ok (.aload_n 0, 1) := by decide +kernel
theorem dX12_nameOf_11 : decode cX12_nameOf 11 = .ok (.getfield 13, 3) := by decide +kernel
theorem dX12_nameOf_14 : decode cX12_nameOf 14 = .ok (.iload_n 3, 1) := by decide +kernel
theorem dX12_nameOf_15 : decode cX12_nameOf 15 = .ok (.laload, 1) := by decide +kernel
theorem dX12_nameOf_16 : decode cX12_nameOf 16 = .ok (.lload_n 1, 1) := by decide +kernel
theorem dX12_nameOf_17 : decode cX12_nameOf 17 = .ok (.lcmp, 1) := by decide +kernel
theorem dX12_nameOf_18 : decode cX12_nameOf 18 = .ok (.ifCond .ne 5, 3) := by decide +kernel
theorem dX12_nameOf_21 : decode cX12_nameOf 21 = .ok (.iload_n 3, 1) := by decide +kernel
theorem dX12_nameOf_22 : decode cX12_nameOf 22 = .ok (.ireturn, 1) := by decide +kernel
theorem dX12_nameOf_23 : decode cX12_nameOf 23 = .ok (.iinc 3 1, 3) := by decide +kernel
theorem dX12_nameOf_26 : decode cX12_nameOf 26 = .ok (.goto (-24), 3) := by decide +kernel
theorem dX12_nameOf_29 : decode cX12_nameOf 29 = .ok (.iconst (-1), 1) := by decide +kernel
theorem dX12_nameOf_30 : decode cX12_nameOf 30 = .ok (.ireturn, 1) := by decide +kernel
theorem dX12_wantsSign_0 : decode cX12_wantsSign 0 = .ok (.aload_n 0, 1) := by decide +kernel
theorem dX12_wantsSign_1 : decode cX12_wantsSign 1 = .ok (.iload_n 1, 1) := by decide +kernel
theorem dX12_wantsSign_2 : decode cX12_wantsSign 2 = .ok (.invokevirtual 301, 3) := by decide +kernel
theorem dX12_wantsSign_5 : decode cX12_wantsSign 5 = .ok (.ifCond .ne 11, 3) := by decide +kernel
theorem dX12_wantsSign_8 : decode cX12_wantsSign 8 = .ok (.aload_n 0, 1) := by decide +kernel
theorem dX12_wantsSign_9 : decode cX12_wantsSign 9 = .ok (.aload_n 0, 1) := by decide +kernel
theorem dX12_wantsSign_10 : decode cX12_wantsSign 10 = .ok (.getfield 222, 3) := by decide +kernel
theorem dX12_wantsSign_13 : decode cX12_wantsSign 13 = .ok (.invokevirtual 249, 3) := by decide +kernel
theorem dX12_wantsSign_16 : decode cX12_wantsSign 16 = .ok (.return_, 1) := by decide +kernel
theorem dX12_wantsWord_0 : decode cX12_wantsWord 0 = .ok (.aload_n 0, 1) := by decide +kernel
theorem dX12_wantsWord_1 : decode cX12_wantsWord 1 = .ok (.iload_n 1, 1) := by decide +kernel
theorem dX12_wantsWord_2 : decode cX12_wantsWord 2 = .ok (.invokevirtual 304, 3) := by decide +kernel
theorem dX12_wantsWord_5 : decode cX12_wantsWord 5 = .ok (.ifCond .ne 11, 3) := by decide +kernel
theorem dX12_wantsWord_8 : decode cX12_wantsWord 8 = .ok (.aload_n 0, 1) := by decide +kernel
theorem dX12_wantsWord_9 : decode cX12_wantsWord 9 = .ok (.aload_n 0, 1) := by decide +kernel
theorem dX12_wantsWord_10 : decode cX12_wantsWord 10 = .ok (.getfield 222, 3) := by decide +kernel
theorem dX12_wantsWord_13 : decode cX12_wantsWord 13 = .ok (.invokevirtual 249, 3) := by decide +kernel
theorem dX12_wantsWord_16 : decode cX12_wantsWord 16 = .ok (.return_, 1) := by decide +kernel
theorem dX12_takesName_0 : decode cX12_takesName 0 = .ok (.aload_n 0, 1) := by decide +kernel
theorem dX12_takesName_1 : decode cX12_takesName 1 = .ok (.invokevirtual 215, 3) := by decide +kernel
theorem dX12_takesName_4 : decode cX12_takesName 4 = .ok (.ifCond .eq 5, 3) := by decide +kernel
theorem dX12_takesName_7 : decode cX12_takesName 7 = .ok (.lconst 0, 1) := by decide +kernel
theorem dX12_takesName_8 : decode cX12_takesName 8 = .ok (.lreturn, 1) := by decide +kernel
theorem dX12_takesName_9 : decode cX12_takesName 9 = .ok (.aload_n 0, 1) := by decide +kernel
theorem dX12_takesName_10 : decode cX12_takesName 10 = .ok (.getfield 225, 3) := by decide +kernel
theorem dX12_takesName_13 : decode cX12_takesName 13 = .ok (.ifCond .eq 13, 3) := by decide +kernel
theorem dX12_takesName_16 : decode cX12_takesName 16 = .ok (.aload_n 0, 1) := by decide +kernel
theorem dX12_takesName_17 : decode cX12_takesName 17 = .ok (.aload_n 0, 1) := by decide +kernel
theorem dX12_takesName_18 : decode cX12_takesName 18 = .ok (.getfield 222, 3) := by decide +kernel
theorem dX12_takesName_21 : decode cX12_takesName 21 = .ok (.invokevirtual 249, 3) := by decide +kernel
theorem dX12_takesName_24 : decode cX12_takesName 24 = .ok (.lconst 0, 1) := by decide +kernel
theorem dX12_takesName_25 : decode cX12_takesName 25 = .ok (.lreturn, 1) := by decide +kernel
theorem dX12_takesName_26 : decode cX12_takesName 26 = .ok (.aload_n 0, 1) := by decide +kernel
theorem dX12_takesName_27 : decode cX12_takesName 27 = .ok (.getfield 245, 3) := by decide +kernel
theorem dX12_takesName_30 : decode cX12_takesName 30 = .ok (.lstore_n 1, 1) := by decide +kernel
theorem dX12_takesName_31 : decode cX12_takesName 31 = .ok (.aload_n 0, 1) := by decide +kernel
theorem dX12_takesName_32 : decode cX12_takesName 32 = .ok (.invokevirtual 295, 3) := by decide +kernel
theorem dX12_takesName_35 : decode cX12_takesName 35 = .ok (.lload_n 1, 1) := by decide +kernel
theorem dX12_takesName_36 : decode cX12_takesName 36 = .ok (.lreturn, 1) := by decide +kernel
theorem dX12_opens_0 : decode cX12_opens 0 = .ok (.aload_n 0, 1) := by decide +kernel
theorem dX12_opens_1 : decode cX12_opens 1 = .ok (.invokevirtual 215, 3) := by decide +kernel
theorem dX12_opens_4 : decode cX12_opens 4 = .ok (.ifCond .eq 4, 3) := by decide +kernel
theorem dX12_opens_7 : decode cX12_opens 7 = .ok (.return_, 1) := by decide +kernel
theorem dX12_opens_8 : decode cX12_opens 8 = .ok (.aload_n 0, 1) := by decide +kernel
theorem dX12_opens_9 : decode cX12_opens 9 = .ok (.getfield 307, 3) := by decide +kernel
theorem dX12_opens_12 : decode cX12_opens 12 = .ok (.bipush 8, 2) := by decide +kernel
theorem dX12_opens_14 : decode cX12_opens 14 = .ok (.if_icmp .ne 12, 3) := by decide +kernel
theorem dX12_opens_17 : decode cX12_opens 17 = .ok (.aload_n 0, 1) := by decide +kernel
theorem dX12_opens_18 : decode cX12_opens 18 = .ok (.aload_n 0, 1) := by decide +kernel
theorem dX12_opens_19 : decode cX12_opens 19 = .ok (.getfield 222, 3) := by decide +kernel
theorem dX12_opens_22 : decode cX12_opens 22 = .ok (.invokevirtual 249, 3) := by decide +kernel
theorem dX12_opens_25 : decode cX12_opens 25 = .ok (.return_, 1) := by decide +kernel
theorem dX12_opens_26 : decode cX12_opens 26 = .ok (.aload_n 0, 1) := by decide +kernel
theorem dX12_opens_27 : decode cX12_opens 27 = .ok (.dup, 1) := by decide +kernel
theorem dX12_opens_28 : decode cX12_opens 28 = .ok (.getfield 307, 3) := by decide +kernel
theorem dX12_opens_31 : decode cX12_opens 31 = .ok (.iconst 1, 1) := by decide +kernel
theorem dX12_opens_32 : decode cX12_opens 32 = .ok (.iadd, 1) := by decide +kernel
theorem dX12_opens_33 : decode cX12_opens 33 = .ok (.putfield 307, 3) := by decide +kernel
theorem dX12_opens_36 : decode cX12_opens 36 = .ok (.aload_n 0, 1) := by decide +kernel
theorem dX12_opens_37 : decode cX12_opens 37 = .ok (.invokevirtual 295, 3) := by decide +kernel
theorem dX12_opens_40 : decode cX12_opens 40 = .ok (.return_, 1) := by decide +kernel
theorem dX12_opensWith_0 : decode cX12_opensWith 0 = .ok (.aload_n 0, 1) := by decide +kernel
theorem dX12_opensWith_1 : decode cX12_opensWith 1 = .ok (.iload_n 1, 1) := by decide +kernel
theorem dX12_opensWith_2 : decode cX12_opensWith 2 = .ok (.invokevirtual 292, 3) := by decide +kernel
theorem dX12_opensWith_5 : decode cX12_opensWith 5 = .ok (.ifCond .ne 14, 3) := by decide +kernel
theorem dX12_opensWith_8 : decode cX12_opensWith 8 = .ok (.aload_n 0, 1) := by decide +kernel
theorem dX12_opensWith_9 : decode cX12_opensWith 9 = .ok (.aload_n 0, 1) := by decide +kernel
theorem dX12_opensWith_10 : decode cX12_opensWith 10 = .ok (.getfield 222, 3) := by decide +kernel
theorem dX12_opensWith_13 : decode cX12_opensWith 13 = .ok (.invokevirtual 249, 3) := by decide +kernel
theorem dX12_opensWith_16 : decode cX12_opensWith 16 = .ok (.goto 7, 3) := by decide +kernel
theorem dX12_opensWith_19 : decode cX12_opensWith 19 = .ok (.aload_n 0, 1) := by decide +kernel
theorem dX12_opensWith_20 : decode cX12_opensWith 20 = .ok (.invokevirtual 310, 3) := by decide +kernel
theorem dX12_opensWith_23 : decode cX12_opensWith 23 = .ok (.return_, 1) := by decide +kernel
theorem dX12_closesWith_0 : decode cX12_closesWith 0 = .ok (.aload_n 0, 1) := by decide +kernel
theorem dX12_closesWith_1 : decode cX12_closesWith 1 = .ok (.iload_n 1, 1) := by decide +kernel
theorem dX12_closesWith_2 : decode cX12_closesWith 2 = .ok (.invokevirtual 313, 3) := by decide +kernel
theorem dX12_closesWith_5 : decode cX12_closesWith 5 = .ok (.aload_n 0, 1) := by decide +kernel
theorem dX12_closesWith_6 : decode cX12_closesWith 6 = .ok (.dup, 1) := by decide +kernel
theorem dX12_closesWith_7 : decode cX12_closesWith 7 = .ok (.getfield 307, 3) := by decide +kernel
theorem dX12_closesWith_10 : decode cX12_closesWith 10 = .ok (.iconst 1, 1) := by decide +kernel
theorem dX12_closesWith_11 : decode cX12_closesWith 11 = .ok (.isub, 1) := by decide +kernel
theorem dX12_closesWith_12 : decode cX12_closesWith 12 = .ok (.putfield 307, 3) := by decide +kernel
theorem dX12_closesWith_15 : decode cX12_closesWith 15 = .ok (.return_, 1) := by decide +kernel
theorem dX12_emit_0 : decode cX12_emit 0 = .ok (.ldc_w 316, 3) := by decide +kernel
theorem dX12_emit_3 : decode cX12_emit 3 = .ok (.aload_n 0, 1) := by decide +kernel
theorem dX12_emit_4 : decode cX12_emit 4 = .ok (.getfield 317, 3) := by decide +kernel
theorem dX12_emit_7 : decode cX12_emit 7 = .ok (.iadd, 1) := by decide +kernel
theorem dX12_emit_8 : decode cX12_emit 8 = .ok (.istore 5, 2) := by decide +kernel
theorem dX12_emit_10 : decode cX12_emit 10 = .ok (.aload_n 0, 1) := by decide +kernel
theorem dX12_emit_11 : decode cX12_emit 11 = .ok (.getfield 21, 3) := by decide +kernel
theorem dX12_emit_14 : decode cX12_emit 14 = .ok (.iload 5, 2) := by decide +kernel
theorem dX12_emit_16 : decode cX12_emit 16 = .ok (.iload_n 1, 1) := by decide +kernel
theorem dX12_emit_17 : decode cX12_emit 17 = .ok (.iastore, 1) := by decide +kernel
theorem dX12_emit_18 : decode cX12_emit 18 = .ok (.aload_n 0, 1) := by decide +kernel
theorem dX12_emit_19 : decode cX12_emit 19 = .ok (.getfield 24, 3) := by decide +kernel
theorem dX12_emit_22 : decode cX12_emit 22 = .ok (.iload 5, 2) := by decide +kernel
theorem dX12_emit_24 : decode cX12_emit 24 = .ok (.lload_n 2, 1) := by decide +kernel
theorem dX12_emit_25 : decode cX12_emit 25 = .ok (.lastore, 1) := by decide +kernel
theorem dX12_emit_26 : decode cX12_emit 26 = .ok (.aload_n 0, 1) := by decide +kernel
theorem dX12_emit_27 : decode cX12_emit 27 = .ok (.getfield 27, 3) := by decide +kernel
theorem dX12_emit_30 : decode cX12_emit 30 = .ok (.iload 5, 2) := by decide +kernel
theorem dX12_emit_32 : decode cX12_emit 32 = .ok (.iload 4, 2) := by decide +kernel
theorem dX12_emit_34 : decode cX12_emit 34 = .ok (.iastore, 1) := by decide +kernel
theorem dX12_emit_35 : decode cX12_emit 35 = .ok (.aload_n 0, 1) := by decide +kernel
theorem dX12_emit_36 : decode cX12_emit 36 = .ok (.dup, 1) := by decide +kernel
theorem dX12_emit_37 : decode cX12_emit 37 = .ok (.getfield 317, 3) := by decide +kernel
theorem dX12_emit_40 : decode cX12_emit 40 = .ok (.iconst 1, 1) := by decide +kernel
theorem dX12_emit_41 : decode cX12_emit 41 = .ok (.iadd, 1) := by decide +kernel
theorem dX12_emit_42 : decode cX12_emit 42 = .ok (.putfield 317, 3) := by decide +kernel
theorem dX12_emit_45 : decode cX12_emit 45 = .ok (.aload_n 0, 1) := by decide +kernel
theorem dX12_emit_46 : decode cX12_emit 46 = .ok (.getfield 317, 3) := by decide +kernel
theorem dX12_emit_49 : decode cX12_emit 49 = .ok (.iconst 1, 1) := by decide +kernel
theorem dX12_emit_50 : decode cX12_emit 50 = .ok (.isub, 1) := by decide +kernel
theorem dX12_emit_51 : decode cX12_emit 51 = .ok (.ireturn, 1) := by decide +kernel
theorem dX12_lands_0 : decode cX12_lands 0 = .ok (.aload_n 0, 1) := by decide +kernel
theorem dX12_lands_1 : decode cX12_lands 1 = .ok (.getfield 24, 3) := by decide +kernel
theorem dX12_lands_4 : decode cX12_lands 4 = .ok (.ldc_w 316, 3) := by decide +kernel
theorem dX12_lands_7 : decode cX12_lands 7 = .ok (.iload_n 1, 1) := by decide +kernel
theorem dX12_lands_8 : decode cX12_lands 8 = .ok (.iadd, 1) := by decide +kernel
theorem dX12_lands_9 : decode cX12_lands 9 = .ok (.aload_n 0, 1) := by decide +kernel
theorem dX12_lands_10 : decode cX12_lands 10 = .ok (.getfield 317, 3) := by decide +kernel
theorem dX12_lands_13 : decode cX12_lands 13 = .ok (.i2l, 1) := by decide +kernel
theorem dX12_lands_14 : decode cX12_lands 14 = .ok (.lastore, 1) := by decide +kernel
theorem dX12_lands_15 : decode cX12_lands 15 = .ok (.return_, 1) := by decide +kernel
theorem dX12_name_0 : decode cX12_name 0 = .ok (.aload_n 0, 1) := by decide +kernel
theorem dX12_name_1 : decode cX12_name 1 = .ok (.lload_n 2, 1) := by decide +kernel
theorem dX12_name_2 : decode cX12_name 2 = .ok (.invokevirtual 320, 3) := by decide +kernel
theorem dX12_name_5 : decode cX12_name 5 = .ok (.istore 4, 2) := by decide +kernel
theorem dX12_name_7 : decode cX12_name 7 = .ok (.iload 4, 2) := by decide +kernel
theorem dX12_name_9 : decode cX12_name 9 = .ok (.iconst (-1), 1) := by decide +kernel
theorem dX12_name_10 : decode cX12_name 10 = .ok (.if_icmp .eq 6, 3) := by decide +kernel
theorem dX12_name_13 : decode cX12_name 13 = .ok (.iload 4, 2) := by decide +kernel
theorem dX12_name_15 : decode cX12_name 15 = .ok (.ireturn, 1) := by decide +kernel
theorem dX12_name_16 : decode cX12_name 16 = .ok (.aload_n 0, 1) := by decide +kernel
theorem dX12_name_17 : decode cX12_name 17 = .ok (.getfield 178, 3) := by decide +kernel
theorem dX12_name_20 : decode cX12_name 20 = .ok (.istore 5, 2) := by decide +kernel
theorem dX12_name_22 : decode cX12_name 22 = .ok (.iload 5, 2) := by decide +kernel
theorem dX12_name_24 : decode cX12_name 24 = .ok (.aload_n 0, 1) := by decide +kernel
theorem dX12_name_25 : decode cX12_name 25 = .ok (.getfield 323, 3) := by decide +kernel
theorem dX12_name_28 : decode cX12_name 28 = .ok (.if_icmp .ge 24, 3) := by decide +kernel
theorem dX12_name_31 : decode cX12_name 31 = .ok (.aload_n 0, 1) := by decide +kernel
theorem dX12_name_32 : decode cX12_name 32 = .ok (.getfield 13, 3) := by decide +kernel
theorem dX12_name_35 : decode cX12_name 35 = .ok (.iload 5, 2) := by decide +kernel
theorem dX12_name_37 : decode cX12_name 37 = .ok (.laload, 1) := by decide +kernel
theorem dX12_name_38 : decode cX12_name 38 = .ok (.lload_n 2, 1) := by decide +kernel
theorem dX12_name_39 : decode cX12_name 39 = .ok (.lcmp, 1) := by decide +kernel
theorem dX12_name_40 : decode cX12_name 40 = .ok (.ifCond .ne 6, 3) := by decide +kernel
theorem dX12_name_43 : decode cX12_name 43 = .ok (.iload 5, 2) := by decide +kernel
theorem dX12_name_45 : decode cX12_name 45 = .ok (.ireturn, 1) := by decide +kernel
theorem dX12_name_46 : decode cX12_name 46 = .ok (.iinc 5 1, 3) := by decide +kernel
theorem dX12_name_49 : decode cX12_name 49 = .ok (.goto (-27), 3) := by decide +kernel
theorem dX12_name_52 : decode cX12_name 52 = .ok (.aload_n 0, 1) := by decide +kernel
theorem dX12_name_53 : decode cX12_name 53 = .ok (.getfield 323, 3) := by decide +kernel
theorem dX12_name_56 : decode cX12_name 56 = .ok (.bipush 52, 2) := by decide +kernel
theorem dX12_name_58 : decode cX12_name 58 = .ok (.if_icmp .ne 19, 3) := by decide +kernel
theorem dX12_name_61 : decode cX12_name 61 = .ok (.aload_n 0, 1) := by decide +kernel
theorem dX12_name_62 : decode cX12_name 62 = .ok (.getfield 326, 3) := by decide +kernel
theorem dX12_name_65 : decode cX12_name 65 = .ok (.iconst (-1), 1) := by decide +kernel
theorem dX12_name_66 : decode cX12_name 66 = .ok (.if_icmp .ne 8, 3) := by decide +kernel
theorem dX12_name_69 : decode cX12_name 69 = .ok (.aload_n 0, 1) := by decide +kernel
theorem dX12_name_70 : decode cX12_name 70 = .ok (.iload_n 1, 1) := by decide +kernel
theorem dX12_name_71 : decode cX12_name 71 = .ok (.putfield 326, 3) := by decide +kernel
theorem dX12_name_74 : decode cX12_name 74 = .ok (.bipush 10, 2) := by decide +kernel
theorem dX12_name_76 : decode cX12_name 76 = .ok (.ireturn, 1) := by decide +kernel
theorem dX12_name_77 : decode cX12_name 77 = .ok (.aload_n 0, 1) := by decide +kernel
theorem dX12_name_78 : decode cX12_name 78 = .ok (.getfield 13, 3) := by decide +kernel
theorem dX12_name_81 : decode cX12_name 81 = .ok (.aload_n 0, 1) := by decide +kernel
theorem dX12_name_82 : decode cX12_name 82 = .ok (.getfield 323, 3) := by decide +kernel
theorem dX12_name_85 : decode cX12_name 85 = .ok (.lload_n 2, 1) := by decide +kernel
theorem dX12_name_86 : decode cX12_name 86 = .ok (.lastore, 1) := by decide +kernel
theorem dX12_name_87 : decode cX12_name 87 = .ok (.aload_n 0, 1) := by decide +kernel
theorem dX12_name_88 : decode cX12_name 88 = .ok (.getfield 45, 3) := by decide +kernel
theorem dX12_name_91 : decode cX12_name 91 = .ok (.aload_n 0, 1) := by decide +kernel
theorem dX12_name_92 : decode cX12_name 92 = .ok (.getfield 323, 3) := by decide +kernel
theorem dX12_name_95 : decode cX12_name 95 = .ok (.bipush 10, 2) := by decide +kernel
theorem dX12_name_97 : decode cX12_name 97 = .ok (.iastore, 1) := by decide +kernel
theorem dX12_name_98 : decode cX12_name 98 = .ok (.aload_n 0, 1) := by decide +kernel
theorem dX12_name_99 : decode cX12_name 99 = .ok (.dup, 1) := by decide +kernel
theorem dX12_name_100 : decode cX12_name 100 = .ok (.getfield 323, 3) := by decide +kernel
theorem dX12_name_103 : decode cX12_name 103 = .ok (.iconst 1, 1) := by decide +kernel
theorem dX12_name_104 : decode cX12_name 104 = .ok (.iadd, 1) := by decide +kernel
theorem dX12_name_105 : decode cX12_name 105 = .ok (.putfield 323, 3) := by decide +kernel
theorem dX12_name_108 : decode cX12_name 108 = .ok (.aload_n 0, 1) := by decide +kernel
theorem dX12_name_109 : decode cX12_name 109 = .ok (.getfield 323, 3) := by decide +kernel
theorem dX12_name_112 : decode cX12_name 112 = .ok (.iconst 1, 1) := by decide +kernel
theorem dX12_name_113 : decode cX12_name 113 = .ok (.isub, 1) := by decide +kernel
theorem dX12_name_114 : decode cX12_name 114 = .ok (.ireturn, 1) := by decide +kernel
theorem dX12_takesKind_0 : decode cX12_takesKind 0 = .ok (.aload_n 0, 1) := by decide +kernel
theorem dX12_takesKind_1 : decode cX12_takesKind 1 = .ok (.getfield 222, 3) := by decide +kernel
theorem dX12_takesKind_4 : decode cX12_takesKind 4 = .ok (.istore_n 1, 1) := by decide +kernel
theorem dX12_takesKind_5 : decode cX12_takesKind 5 = .ok (.aload_n 0, 1) := by decide +kernel
theorem dX12_takesKind_6 : decode cX12_takesKind 6 = .ok (.invokevirtual 329, 3) := by decide +kernel
theorem dX12_takesKind_9 : decode cX12_takesKind 9 = .ok (.lstore_n 2, 1) := by decide +kernel
theorem dX12_takesKind_10 : decode cX12_takesKind 10 = .ok (.aload_n 0, 1) := by decide +kernel
theorem dX12_takesKind_11 : decode cX12_takesKind 11 = .ok (.invokevirtual 215, 3) := by decide +kernel
theorem dX12_takesKind_14 : decode cX12_takesKind 14 = .ok (.ifCond .eq 8, 3) := by decide +kernel
theorem dX12_takesKind_17 : decode cX12_takesKind 17 = .ok (.bipush 10, 2) := by decide +kernel
theorem dX12_takesKind_19 : decode cX12_takesKind 19 = .ok (.goto 9, 3) := by decide +kernel
theorem dX12_takesKind_22 : decode cX12_takesKind 22 = .ok (.aload_n 0, 1) := by decide +kernel
theorem dX12_takesKind_23 : decode cX12_takesKind 23 = .ok (.iload_n 1, 1) := by decide +kernel
theorem dX12_takesKind_24 : decode cX12_takesKind 24 = .ok (.lload_n 2, 1) := by decide +kernel
theorem dX12_takesKind_25 : decode cX12_takesKind 25 = .ok (.invokevirtual 333, 3) := by decide +kernel
theorem dX12_takesKind_28 : decode cX12_takesKind 28 = .ok (.ireturn, 1) := by decide +kernel
theorem dX12_wrong2_0 : decode cX12_wrong2 0 = .ok (.aload_n 0, 1) := by decide +kernel
theorem dX12_wrong2_1 : decode cX12_wrong2 1 = .ok (.getfield 326, 3) := by decide +kernel
theorem dX12_wrong2_4 : decode cX12_wrong2 4 = .ok (.iconst (-1), 1) := by decide +kernel
theorem dX12_wrong2_5 : decode cX12_wrong2 5 = .ok (.if_icmp .ne 8, 3) := by decide +kernel
theorem dX12_wrong2_8 : decode cX12_wrong2 8 = .ok (.aload_n 0, 1) := by decide +kernel
theorem dX12_wrong2_9 : decode cX12_wrong2 9 = .ok (.iload_n 1, 1) := by decide +kernel
theorem dX12_wrong2_10 : decode cX12_wrong2 10 = .ok (.putfield 326, 3) := by decide +kernel
theorem dX12_wrong2_13 : decode cX12_wrong2 13 = .ok (.return_, 1) := by decide +kernel
theorem dX12_wrong3_0 : decode cX12_wrong3 0 = .ok (.aload_n 0, 1) := by decide +kernel
theorem dX12_wrong3_1 : decode cX12_wrong3 1 = .ok (.getfield 337, 3) := by decide +kernel
theorem dX12_wrong3_4 : decode cX12_wrong3 4 = .ok (.iconst (-1), 1) := by decide +kernel
theorem dX12_wrong3_5 : decode cX12_wrong3 5 = .ok (.if_icmp .ne 8, 3) := by decide +kernel
theorem dX12_wrong3_8 : decode cX12_wrong3 8 = .ok (.aload_n 0, 1) := by decide +kernel
theorem dX12_wrong3_9 : decode cX12_wrong3 9 = .ok (.iload_n 1, 1) := by decide +kernel
theorem dX12_wrong3_10 : decode cX12_wrong3 10 = .ok (.putfield 337, 3) := by decide +kernel
theorem dX12_wrong3_13 : decode cX12_wrong3 13 = .ok (.return_, 1) := by decide +kernel
theorem dX12_slotOf_0 : decode cX12_slotOf 0 = .ok (.aload_n 0, 1) := by decide +kernel
theorem dX12_slotOf_1 : decode cX12_slotOf 1 = .ok (.getfield 362, 3) := by decide +kernel
theorem dX12_slotOf_4 : decode cX12_slotOf 4 = .ok (.iconst 1, 1) := by decide +kernel
theorem dX12_slotOf_5 : decode cX12_slotOf 5 = .ok (.isub, 1) := by decide +kernel
theorem dX12_slotOf_6 : decode cX12_slotOf 6 = .ok (.istore_n 3, 1) := by decide +kernel
theorem dX12_slotOf_7 : decode cX12_slotOf 7 = .ok (.iload_n 3, 1) := by decide +kernel
theorem dX12_slotOf_8 : decode cX12_slotOf 8 = .ok (.ifCond .lt 22, 3) := by decide +kernel
theorem dX12_slotOf_11 : decode cX12_slotOf 11 = .ok (.aload_n 0, 1) := by decide +kernel
theorem dX12_slotOf_12 : decode cX12_slotOf 12 = .ok (.getfield 48, 3) := by decide +kernel
theorem dX12_slotOf_15 : decode cX12_slotOf 15 = .ok (.iload_n 3, 1) := by decide +kernel
theorem dX12_slotOf_16 : decode cX12_slotOf 16 = .ok (.laload, 1) := by decide +kernel
theorem dX12_slotOf_17 : decode cX12_slotOf 17 = .ok (.lload_n 1, 1) := by decide +kernel
theorem dX12_slotOf_18 : decode cX12_slotOf 18 = .ok (.lcmp, 1) := by decide +kernel
theorem dX12_slotOf_19 : decode cX12_slotOf 19 = .ok (.ifCond .ne 5, 3) := by decide +kernel
theorem dX12_slotOf_22 : decode cX12_slotOf 22 = .ok (.iload_n 3, 1) := by decide +kernel
theorem dX12_slotOf_23 : decode cX12_slotOf 23 = .ok (.ireturn, 1) := by decide +kernel
theorem dX12_slotOf_24 : decode cX12_slotOf 24 = .ok (.iinc 3 (-1), 3) := by decide +kernel
theorem dX12_slotOf_27 : decode cX12_slotOf 27 = .ok (.goto (-20), 3) := by decide +kernel
theorem dX12_slotOf_30 : decode cX12_slotOf 30 = .ok (.iconst (-1), 1) := by decide +kernel
theorem dX12_slotOf_31 : decode cX12_slotOf 31 = .ok (.ireturn, 1) := by decide +kernel
theorem dX12_newSlot_0 : decode cX12_newSlot 0 = .ok (.aload_n 0, 1) := by decide +kernel
theorem dX12_newSlot_1 : decode cX12_newSlot 1 = .ok (.getfield 48, 3) := by decide +kernel
theorem dX12_newSlot_4 : decode cX12_newSlot 4 = .ok (.aload_n 0, 1) := by decide +kernel
theorem dX12_newSlot_5 : decode cX12_newSlot 5 = .ok (.getfield 362, 3) := by decide +kernel
theorem dX12_newSlot_8 : decode cX12_newSlot 8 = .ok (.lload_n 1, 1) := by decide +kernel
theorem dX12_newSlot_9 : decode cX12_newSlot 9 = .ok (.lastore, 1) := by decide +kernel
theorem dX12_newSlot_10 : decode cX12_newSlot 10 = .ok (.aload_n 0, 1) := by decide +kernel
theorem dX12_newSlot_11 : decode cX12_newSlot 11 = .ok (.dup, 1) := by decide +kernel
theorem dX12_newSlot_12 : decode cX12_newSlot 12 = .ok (.getfield 362, 3) := by decide +kernel
theorem dX12_newSlot_15 : decode cX12_newSlot 15 = .ok (.iconst 1, 1) := by decide +kernel
theorem dX12_newSlot_16 : decode cX12_newSlot 16 = .ok (.iadd, 1) := by decide +kernel
theorem dX12_newSlot_17 : decode cX12_newSlot 17 = .ok (.putfield 362, 3) := by decide +kernel
theorem dX12_newSlot_20 : decode cX12_newSlot 20 = .ok (.aload_n 0, 1) := by decide +kernel
theorem dX12_newSlot_21 : decode cX12_newSlot 21 = .ok (.getfield 362, 3) := by decide +kernel
theorem dX12_newSlot_24 : decode cX12_newSlot 24 = .ok (.iconst 1, 1) := by decide +kernel
theorem dX12_newSlot_25 : decode cX12_newSlot 25 = .ok (.isub, 1) := by decide +kernel
theorem dX12_newSlot_26 : decode cX12_newSlot 26 = .ok (.ireturn, 1) := by decide +kernel
theorem dX12_slot_0 : decode cX12_slot 0 = .ok (.aload_n 0, 1) := by decide +kernel
theorem dX12_slot_1 : decode cX12_slot 1 = .ok (.lload_n 2, 1) := by decide +kernel
theorem dX12_slot_2 : decode cX12_slot 2 = .ok (.invokevirtual 381, 3) := by decide +kernel
theorem dX12_slot_5 : decode cX12_slot 5 = .ok (.istore 4, 2) := by decide +kernel
theorem dX12_slot_7 : decode cX12_slot 7 = .ok (.iload 4, 2) := by decide +kernel
theorem dX12_slot_9 : decode cX12_slot 9 = .ok (.iconst (-1), 1) := by decide +kernel
theorem dX12_slot_10 : decode cX12_slot 10 = .ok (.if_icmp .eq 6, 3) := by decide +kernel
theorem dX12_slot_13 : decode cX12_slot 13 = .ok (.iload 4, 2) := by decide +kernel
theorem dX12_slot_15 : decode cX12_slot 15 = .ok (.ireturn, 1) := by decide +kernel
theorem dX12_slot_16 : decode cX12_slot 16 = .ok (.aload_n 0, 1) := by decide +kernel
theorem dX12_slot_17 : decode cX12_slot 17 = .ok (.iload_n 1, 1) := by decide +kernel
theorem dX12_slot_18 : decode cX12_slot 18 = .ok (.invokevirtual 356, 3) := by decide +kernel
theorem dX12_slot_21 : decode cX12_slot 21 = .ok (.iconst 0, 1) := by decide +kernel
theorem dX12_slot_22 : decode cX12_slot 22 = .ok (.ireturn, 1) := by decide +kernel
theorem dX12_anySlot_0 : decode cX12_anySlot 0 = .ok (.aload_n 0, 1) := by decide +kernel
theorem dX12_anySlot_1 : decode cX12_anySlot 1 = .ok (.lload_n 1, 1) := by decide +kernel
theorem dX12_anySlot_2 : decode cX12_anySlot 2 = .ok (.invokevirtual 381, 3) := by decide +kernel
theorem dX12_anySlot_5 : decode cX12_anySlot 5 = .ok (.istore_n 3, 1) := by decide +kernel
theorem dX12_anySlot_6 : decode cX12_anySlot 6 = .ok (.iload_n 3, 1) := by decide +kernel
theorem dX12_anySlot_7 : decode cX12_anySlot 7 = .ok (.iconst (-1), 1) := by decide +kernel
theorem dX12_anySlot_8 : decode cX12_anySlot 8 = .ok (.if_icmp .eq 7, 3) := by decide +kernel
theorem dX12_anySlot_11 : decode cX12_anySlot 11 = .ok (.iload_n 3, 1) := by decide +kernel
theorem dX12_anySlot_12 : decode cX12_anySlot 12 = .ok (.goto 22, 3) := by decide +kernel
theorem dX12_anySlot_15 : decode cX12_anySlot 15 = .ok (.aload_n 0, 1) := by decide +kernel
theorem dX12_anySlot_16 : decode cX12_anySlot 16 = .ok (.getfield 362, 3) := by decide +kernel
theorem dX12_anySlot_19 : decode cX12_anySlot 19 = .ok (.sipush 300, 3) := by decide +kernel
theorem dX12_anySlot_22 : decode cX12_anySlot 22 = .ok (.if_icmp .ge 11, 3) := by decide +kernel
theorem dX12_anySlot_25 : decode cX12_anySlot 25 = .ok (.aload_n 0, 1) := by decide +kernel
theorem dX12_anySlot_26 : decode cX12_anySlot 26 = .ok (.lload_n 1, 1) := by decide +kernel
theorem dX12_anySlot_27 : decode cX12_anySlot 27 = .ok (.invokevirtual 384, 3) := by decide +kernel
theorem dX12_anySlot_30 : decode cX12_anySlot 30 = .ok (.goto 4, 3) := by decide +kernel
theorem dX12_anySlot_33 : decode cX12_anySlot 33 = .ok (.iconst 0, 1) := by decide +kernel
theorem dX12_anySlot_34 : decode cX12_anySlot 34 = .ok (.ireturn, 1) := by decide +kernel
theorem dX12_skips_0 : decode cX12_skips 0 = .ok (.aload_n 0, 1) := by decide +kernel
theorem dX12_skips_1 : decode cX12_skips 1 = .ok (.getfield 266, 3) := by decide +kernel
theorem dX12_skips_4 : decode cX12_skips 4 = .ok (.iconst 2, 1) := by decide +kernel
theorem dX12_skips_5 : decode cX12_skips 5 = .ok (.if_icmp .ne 14, 3) := by decide +kernel
theorem dX12_skips_8 : decode cX12_skips 8 = .ok (.aload_n 0, 1) := by decide +kernel
theorem dX12_skips_9 : decode cX12_skips 9 = .ok (.bipush 33, 2) := by decide +kernel
theorem dX12_skips_11 : decode cX12_skips 11 = .ok (.lconst 0, 1) := by decide +kernel
theorem dX12_skips_12 : decode cX12_skips 12 = .ok (.iload_n 1, 1) := by decide +kernel
theorem dX12_skips_13 : decode cX12_skips 13 = .ok (.invokevirtual 374, 3) := by decide +kernel
theorem dX12_skips_16 : decode cX12_skips 16 = .ok (.goto 4, 3) := by decide +kernel
theorem dX12_skips_19 : decode cX12_skips 19 = .ok (.iconst (-1), 1) := by decide +kernel
theorem dX12_skips_20 : decode cX12_skips 20 = .ok (.ireturn, 1) := by decide +kernel
theorem dX12_landsSkip_0 : decode cX12_landsSkip 0 = .ok (.iload_n 1, 1) := by decide +kernel
theorem dX12_landsSkip_1 : decode cX12_landsSkip 1 = .ok (.iconst (-1), 1) := by decide +kernel
theorem dX12_landsSkip_2 : decode cX12_landsSkip 2 = .ok (.if_icmp .eq 8, 3) := by decide +kernel
theorem dX12_landsSkip_5 : decode cX12_landsSkip 5 = .ok (.aload_n 0, 1) := by decide +kernel
theorem dX12_landsSkip_6 : decode cX12_landsSkip 6 = .ok (.iload_n 1, 1) := by decide +kernel
theorem dX12_landsSkip_7 : decode cX12_landsSkip 7 = .ok (.invokevirtual 421, 3) := by decide +kernel
theorem dX12_landsSkip_10 : decode cX12_landsSkip 10 = .ok (.return_, 1) := by decide +kernel
theorem dX12_isCompare_0 : decode cX12_isCompare 0 = .ok (.iload_n 0, 1) := by decide +kernel
theorem dX12_isCompare_1 : decode cX12_isCompare 1 = .ok (.sipush 317, 3) := by decide +kernel
theorem dX12_isCompare_4 : decode cX12_isCompare 4 = .ok (.if_icmp .eq 36, 3) := by decide +kernel
theorem dX12_isCompare_7 : decode cX12_isCompare 7 = .ok (.iload_n 0, 1) := by decide +kernel
theorem dX12_isCompare_8 : decode cX12_isCompare 8 = .ok (.sipush 289, 3) := by decide +kernel
theorem dX12_isCompare_11 : decode cX12_isCompare 11 = .ok (.if_icmp .eq 29, 3) := by decide +kernel
theorem dX12_isCompare_14 : decode cX12_isCompare 14 = .ok (.iload_n 0, 1) := by decide +kernel
theorem dX12_isCompare_15 : decode cX12_isCompare 15 = .ok (.bipush 60, 2) := by decide +kernel
theorem dX12_isCompare_17 : decode cX12_isCompare 17 = .ok (.if_icmp .eq 23, 3) := by decide +kernel
theorem dX12_isCompare_20 : decode cX12_isCompare 20 = .ok (.iload_n 0, 1) := by decide +kernel
theorem dX12_isCompare_21 : decode cX12_isCompare 21 = .ok (.sipush 316, 3) := by decide +kernel
theorem dX12_isCompare_24 : decode cX12_isCompare 24 = .ok (.if_icmp .eq 16, 3) := by decide +kernel
theorem dX12_isCompare_27 : decode cX12_isCompare 27 = .ok (.iload_n 0, 1) := by decide +kernel
theorem dX12_isCompare_28 : decode cX12_isCompare 28 = .ok (.bipush 62, 2) := by decide +kernel
theorem dX12_isCompare_30 : decode cX12_isCompare 30 = .ok (.if_icmp .eq 10, 3) := by decide +kernel
theorem dX12_isCompare_33 : decode cX12_isCompare 33 = .ok (.iload_n 0, 1) := by decide +kernel
theorem dX12_isCompare_34 : decode cX12_isCompare 34 = .ok (.sipush 318, 3) := by decide +kernel
theorem dX12_isCompare_37 : decode cX12_isCompare 37 = .ok (.if_icmp .ne 7, 3) := by decide +kernel
theorem dX12_isCompare_40 : decode cX12_isCompare 40 = .ok (.iconst 1, 1) := by decide +kernel
theorem dX12_isCompare_41 : decode cX12_isCompare 41 = .ok (.goto 4, 3) := by decide +kernel
theorem dX12_isCompare_44 : decode cX12_isCompare 44 = .ok (.iconst 0, 1) := by decide +kernel
theorem dX12_isCompare_45 : decode cX12_isCompare 45 = .ok (.ireturn, 1) := by decide +kernel
theorem nn_is {μ : M3} : (wr μ = 0 ∧ nn μ = μ.1 111 18) ∨ (wr μ = 1 ∧ nn μ = 9) := by
  unfold wr nn
  by_cases h : μ.1 111 15 = -1
  · rw [if_pos h, if_pos h]; exact Or.inl ⟨rfl, rfl⟩
  · rw [if_neg h, if_neg h]; exact Or.inr ⟨rfl, rfl⟩
theorem bd_2 {μ : M3} (h : μ.1 111 16 ≠ -1) : bd μ = 1 := by
  unfold bd; rw [if_neg (fun z => h z.2.1)]
theorem bd_3 {μ : M3} (h : μ.1 111 17 ≠ -1) : bd μ = 1 := by
  unfold bd; rw [if_neg (fun z => h z.2.2)]
set_option maxHeartbeats 4000000 in
set_option maxRecDepth 100000 in
theorem c_X12_wantsSign (ω : Om) (l : Launch) (μ : M3) (x1 : Int) (hx1 : ir x1) (hPM : PM μ) (hnn : 0 ≤ nn μ ∧ nn μ ≤ 9 ∧ 9 * wr μ ≤ nn μ) : CtV ω l yX12_wantsSign cX12_wantsSign 2 8 174 [.ref (oP ω 111), .int (iv x1)] μ (fun (μ' : M3) => (FrM [111] μ μ') ∧ (∀ j, j ∉ ([6, 8, 9, 10, 11, 12, 13, 15] : List Int) → μ'.1 111 j = μ.1 111 j) ∧ (PM μ') ∧ (μ.1 111 9 + 1 ≤ μ'.1 111 9 + wr μ') ∧ (μ.1 111 9 ≤ μ'.1 111 9) ∧ (wr μ ≤ wr μ' ∧ bd μ ≤ bd μ') ∧ (nn μ ≤ nn μ' ∧ nn μ' ≤ nn μ + 9 * wr μ' ∧ nn μ' ≤ 9 ∧ 9 * wr μ' ≤ nn μ')) := by
  refine CtV.go (by decide) (Nat.le_of_ble_eq_true rfl) (fun ρ p e s m below meth c R ls G hR hret hlk hl => ?_)
  have hx := G.1.1
  have hb := G.1.2.1
  have hl : lv_has ls 2 [(0, .ref (oP ω 111)), (1, .int (iv x1))] := hl
  generalize s.drawn = d0 at G ⊢
  have hr_x1 : -2147483648 ≤ x1 ∧ x1 ≤ 2147483647 := hx1
  have hw_0 := wr_r (μ := μ)
  have hpp_ := hPM.1.2.1
  have hpn_ := hPM.2.1
  have hpt_ := hPM.1.2.2.2.1
  have hpw_ := hPM.1.2.2.2.2.1
  have hpa_ := hPM.1.1
  refine lv_aload_n hx hb dX12_wantsSign_0 rfl (lv_at hl 0 rfl) ?_
  refine lv_iload_n hx hb dX12_wantsSign_1 rfl (lv_at hl 1 rfl) ?_
  refine xc_iV G (b := 111) (rest := []) (As := [.int (iv x1)]) (c_X12_takesSign ω l μ x1 (by unfold ir; omega) hPM (by omega)) (wm 9 106 rfl rfl) (wm 9 108 rfl rfl) (wm 0 139 rfl rfl) rfl rfl (by decide) rfl (wm 1 18 rfl rfl) (wm 9 109 rfl rfl) (by decide) hR (by decide) (n := 1) rfl rfl (Nat.le_of_ble_eq_true rfl) hl.1 dX12_wantsSign_2 (fun r_2 μ1 ρ d0 H locs hr_r_2 hp G => ?_)
  have hr_r_2 : -2147483648 ≤ r_2 ∧ r_2 ≤ 2147483647 := hr_r_2
  obtain ⟨F_3, hp_4, hp_5, hp_6, hp_7, hp_8, hp_9⟩ := hp
  have hpl_10 := hp_5.pl
  have hw_11 := wr_r (μ := μ1)
  refine xb_if_ne (tgt := 16) hx hb (by unfold ir; omega) dX12_wantsSign_5 (by decide) (fun c_5 => ?_) (fun c_5 => ?_)
  · exact xr_v G hret hlk dX12_wantsSign_16 ⟨(FrM.tr FrM.rf F_3 (by decide)), (fun j hj => (hp_4 j (fun h9 => hj ((by decide : ∀ x ∈ ([6, 8, 9, 10, 11, 12, 13, 15] : List Int), x ∈ ([6, 8, 9, 10, 11, 12, 13, 15] : List Int)) j h9)))), hp_5, (by omega), (by omega), (by omega), (by omega)⟩
  · refine lv_aload_n hx hb dX12_wantsSign_8 rfl (lv_at hl 0 rfl) ?_
    refine lv_aload_n hx hb dX12_wantsSign_9 rfl (lv_at hl 0 rfl) ?_
    refine xa_geti G fd_X12 (a := 111) (x := μ1.1 111 9) 9 rfl (by decide) rfl (wm 7 158 rfl rfl) ⟨rfl, rfl, rfl⟩ dX12_wantsSign_10 rfl rfl ?_
    have hr_12 : -2147483648 ≤ μ1.1 111 9 ∧ μ1.1 111 9 ≤ 2147483647 := by have h9 := G.hr (a := 111) (k := 9) rfl; exact h9
    refine xc_vV G (b := 111) (rest := []) (As := [.int (iv (μ1.1 111 9))]) (c_X12_wrong ω l μ1 (μ1.1 111 9) (by unfold ir; omega) (by omega)) (wm 9 22 rfl rfl) (wm 9 24 rfl rfl) (wm 0 123 rfl rfl) rfl rfl (by decide) rfl (wm 1 18 rfl rfl) (wm 9 25 rfl rfl) (by decide) hR (by decide) (n := 1) rfl rfl (Nat.le_of_ble_eq_true rfl) hl.1 dX12_wantsSign_13 (fun μ13 ρ d0 H locs hp G => ?_)
    obtain ⟨F_14, hp_15, hp_16⟩ := hp
    have hw_17 := wr_r (μ := μ13)
    have hPM_18 : PM μ13 := hp_5.wg ((((hp_15 4 (by decide)).trans (hp_4 4 (by decide)))).trans ((hp_4 4 (by decide))).symm) (hp_15 6 (by decide)) ((((hp_15 7 (by decide)).trans (hp_4 7 (by decide)))).trans ((hp_4 7 (by decide))).symm) (hp_15 8 (by decide)) (hp_15 9 (by decide)) (hp_15 11 (by decide)) (hp_15 12 (by decide)) ((((hp_15 14 (by decide)).trans (hp_4 14 (by decide)))).trans ((hp_4 14 (by decide))).symm) (by omega) ((((hp_15 29 (by decide)).trans (hp_4 29 (by decide)))).trans ((hp_4 29 (by decide))).symm) (fun j => (F_14.1 123 (by decide) j))
    have e_19 : μ13.1 111 9 = μ1.1 111 9 := (hp_15 9 (by decide))
    have e_20 : μ13.1 111 9 = μ1.1 111 9 := (hp_15 9 (by decide))
    exact xr_v G hret hlk dX12_wantsSign_16 ⟨(FrM.tr (FrM.tr FrM.rf F_3 (by decide)) F_14 (by decide)), (fun j hj => ((hp_15 j (fun h9 => hj ((by decide : ∀ x ∈ ([15] : List Int), x ∈ ([6, 8, 9, 10, 11, 12, 13, 15] : List Int)) j h9))).trans (hp_4 j (fun h9 => hj ((by decide : ∀ x ∈ ([6, 8, 9, 10, 11, 12, 13, 15] : List Int), x ∈ ([6, 8, 9, 10, 11, 12, 13, 15] : List Int)) j h9))))), hPM_18, (by omega), (by omega), (by omega), (by omega)⟩

set_option maxHeartbeats 4000000 in
set_option maxRecDepth 100000 in
theorem c_X12_wantsWord (ω : Om) (l : Launch) (μ : M3) (x1 : Int) (hx1 : ir x1) (hPM : PM μ) (hnn : 0 ≤ nn μ ∧ nn μ ≤ 9 ∧ 9 * wr μ ≤ nn μ) : CtV ω l yX12_wantsWord cX12_wantsWord 2 8 174 [.ref (oP ω 111), .int (iv x1)] μ (fun (μ' : M3) => (FrM [111] μ μ') ∧ (∀ j, j ∉ ([6, 8, 9, 10, 11, 12, 13, 15] : List Int) → μ'.1 111 j = μ.1 111 j) ∧ (PM μ') ∧ (μ.1 111 9 + 1 ≤ μ'.1 111 9 + wr μ') ∧ (μ.1 111 9 ≤ μ'.1 111 9) ∧ (wr μ ≤ wr μ' ∧ bd μ ≤ bd μ') ∧ (nn μ ≤ nn μ' ∧ nn μ' ≤ nn μ + 9 * wr μ' ∧ nn μ' ≤ 9 ∧ 9 * wr μ' ≤ nn μ')) := by
  refine CtV.go (by decide) (Nat.le_of_ble_eq_true rfl) (fun ρ p e s m below meth c R ls G hR hret hlk hl => ?_)
  have hx := G.1.1
  have hb := G.1.2.1
  have hl : lv_has ls 2 [(0, .ref (oP ω 111)), (1, .int (iv x1))] := hl
  generalize s.drawn = d0 at G ⊢
  have hr_x1 : -2147483648 ≤ x1 ∧ x1 ≤ 2147483647 := hx1
  have hw_0 := wr_r (μ := μ)
  have hpp_ := hPM.1.2.1
  have hpn_ := hPM.2.1
  have hpt_ := hPM.1.2.2.2.1
  have hpw_ := hPM.1.2.2.2.2.1
  have hpa_ := hPM.1.1
  refine lv_aload_n hx hb dX12_wantsWord_0 rfl (lv_at hl 0 rfl) ?_
  refine lv_iload_n hx hb dX12_wantsWord_1 rfl (lv_at hl 1 rfl) ?_
  refine xc_iV G (b := 111) (rest := []) (As := [.int (iv x1)]) (c_X12_takesWord ω l μ x1 (by unfold ir; omega) hPM (by omega)) (wm 10 18 rfl rfl) (wm 10 20 rfl rfl) (wm 0 176 rfl rfl) rfl rfl (by decide) rfl (wm 1 18 rfl rfl) (wm 10 21 rfl rfl) (by decide) hR (by decide) (n := 1) rfl rfl (Nat.le_of_ble_eq_true rfl) hl.1 dX12_wantsWord_2 (fun r_2 μ1 ρ d0 H locs hr_r_2 hp G => ?_)
  have hr_r_2 : -2147483648 ≤ r_2 ∧ r_2 ≤ 2147483647 := hr_r_2
  obtain ⟨F_3, hp_4, hp_5, hp_6, hp_7, hp_8, hp_9⟩ := hp
  have hpl_10 := hp_5.pl
  have hw_11 := wr_r (μ := μ1)
  refine xb_if_ne (tgt := 16) hx hb (by unfold ir; omega) dX12_wantsWord_5 (by decide) (fun c_5 => ?_) (fun c_5 => ?_)
  · exact xr_v G hret hlk dX12_wantsWord_16 ⟨(FrM.tr FrM.rf F_3 (by decide)), (fun j hj => (hp_4 j (fun h9 => hj ((by decide : ∀ x ∈ ([6, 8, 9, 10, 11, 12, 13, 15] : List Int), x ∈ ([6, 8, 9, 10, 11, 12, 13, 15] : List Int)) j h9)))), hp_5, (by omega), (by omega), (by omega), (by omega)⟩
  · refine lv_aload_n hx hb dX12_wantsWord_8 rfl (lv_at hl 0 rfl) ?_
    refine lv_aload_n hx hb dX12_wantsWord_9 rfl (lv_at hl 0 rfl) ?_
    refine xa_geti G fd_X12 (a := 111) (x := μ1.1 111 9) 9 rfl (by decide) rfl (wm 7 158 rfl rfl) ⟨rfl, rfl, rfl⟩ dX12_wantsWord_10 rfl rfl ?_
    have hr_12 : -2147483648 ≤ μ1.1 111 9 ∧ μ1.1 111 9 ≤ 2147483647 := by have h9 := G.hr (a := 111) (k := 9) rfl; exact h9
    refine xc_vV G (b := 111) (rest := []) (As := [.int (iv (μ1.1 111 9))]) (c_X12_wrong ω l μ1 (μ1.1 111 9) (by unfold ir; omega) (by omega)) (wm 9 22 rfl rfl) (wm 9 24 rfl rfl) (wm 0 123 rfl rfl) rfl rfl (by decide) rfl (wm 1 18 rfl rfl) (wm 9 25 rfl rfl) (by decide) hR (by decide) (n := 1) rfl rfl (Nat.le_of_ble_eq_true rfl) hl.1 dX12_wantsWord_13 (fun μ13 ρ d0 H locs hp G => ?_)
    obtain ⟨F_14, hp_15, hp_16⟩ := hp
    have hw_17 := wr_r (μ := μ13)
    have hPM_18 : PM μ13 := hp_5.wg ((((hp_15 4 (by decide)).trans (hp_4 4 (by decide)))).trans ((hp_4 4 (by decide))).symm) (hp_15 6 (by decide)) ((((hp_15 7 (by decide)).trans (hp_4 7 (by decide)))).trans ((hp_4 7 (by decide))).symm) (hp_15 8 (by decide)) (hp_15 9 (by decide)) (hp_15 11 (by decide)) (hp_15 12 (by decide)) ((((hp_15 14 (by decide)).trans (hp_4 14 (by decide)))).trans ((hp_4 14 (by decide))).symm) (by omega) ((((hp_15 29 (by decide)).trans (hp_4 29 (by decide)))).trans ((hp_4 29 (by decide))).symm) (fun j => (F_14.1 123 (by decide) j))
    have e_19 : μ13.1 111 9 = μ1.1 111 9 := (hp_15 9 (by decide))
    have e_20 : μ13.1 111 9 = μ1.1 111 9 := (hp_15 9 (by decide))
    exact xr_v G hret hlk dX12_wantsWord_16 ⟨(FrM.tr (FrM.tr FrM.rf F_3 (by decide)) F_14 (by decide)), (fun j hj => ((hp_15 j (fun h9 => hj ((by decide : ∀ x ∈ ([15] : List Int), x ∈ ([6, 8, 9, 10, 11, 12, 13, 15] : List Int)) j h9))).trans (hp_4 j (fun h9 => hj ((by decide : ∀ x ∈ ([6, 8, 9, 10, 11, 12, 13, 15] : List Int), x ∈ ([6, 8, 9, 10, 11, 12, 13, 15] : List Int)) j h9))))), hPM_18, (by omega), (by omega), (by omega), (by omega)⟩

set_option maxHeartbeats 4000000 in
set_option maxRecDepth 100000 in
theorem c_X12_takesName (ω : Om) (l : Launch) (μ : M3) (hPM : PM μ) (hnn : 0 ≤ nn μ ∧ nn μ ≤ 9 ∧ 9 * wr μ ≤ nn μ) : CtL ω l yX12_takesName cX12_takesName 3 7 153 [.ref (oP ω 111)] μ (fun (r : Int) (μ' : M3) => (FrM [111] μ μ') ∧ (∀ j, j ∉ ([6, 8, 9, 10, 11, 12, 13, 15] : List Int) → μ'.1 111 j = μ.1 111 j) ∧ (PM μ') ∧ (μ.1 111 9 + 1 ≤ μ'.1 111 9 + wr μ') ∧ (μ.1 111 9 ≤ μ'.1 111 9) ∧ (wr μ ≤ wr μ' ∧ bd μ ≤ bd μ') ∧ (nn μ ≤ nn μ' ∧ nn μ' ≤ nn μ + 9 * wr μ' ∧ nn μ' ≤ 9 ∧ 9 * wr μ' ≤ nn μ')) := by
  refine CtL.go (by decide) (Nat.le_of_ble_eq_true rfl) (fun ρ p e s m below meth c R ls G hR hret hlk hl => ?_)
  have hx := G.1.1
  have hb := G.1.2.1
  have hl : lv_has ls 3 [(0, .ref (oP ω 111))] := hl
  generalize s.drawn = d0 at G ⊢
  have hw_0 := wr_r (μ := μ)
  have hpp_ := hPM.1.2.1
  have hpn_ := hPM.2.1
  have hpt_ := hPM.1.2.2.2.1
  have hpw_ := hPM.1.2.2.2.2.1
  have hpa_ := hPM.1.1
  refine lv_aload_n hx hb dX12_takesName_0 rfl (lv_at hl 0 rfl) ?_
  refine xc_iV G (b := 111) (rest := []) (As := []) (c_X12_isWrong ω l μ  ) (wm 9 4 rfl rfl) (wm 9 6 rfl rfl) (wm 0 120 rfl rfl) rfl rfl (by decide) rfl (wm 1 18 rfl rfl) (wm 9 7 rfl rfl) (by decide) hR (by decide) (n := 0) rfl rfl (Nat.le_of_ble_eq_true rfl) hl.1 dX12_takesName_1 (fun r_2 μ1 ρ d0 H locs hr_r_2 hp G => ?_)
  have hr_r_2 : -2147483648 ≤ r_2 ∧ r_2 ≤ 2147483647 := hr_r_2
  obtain ⟨hsm_3, hp_4⟩ := hp
  have hsm_3 := Eq.symm hsm_3
  subst hsm_3
  refine xb_if_eq (tgt := 9) hx hb (by unfold ir; omega) dX12_takesName_4 (by decide) (fun c_4 => ?_) (fun c_4 => ?_)
  · refine lv_aload_n hx hb dX12_takesName_9 rfl (lv_at hl 0 rfl) ?_
    refine xa_geti G fd_X12 (a := 111) (x := μ.1 111 8) 8 rfl (by decide) rfl (wm 7 157 rfl rfl) ⟨rfl, rfl, rfl⟩ dX12_takesName_10 rfl rfl ?_
    have hr_5 : -2147483648 ≤ μ.1 111 8 ∧ μ.1 111 8 ≤ 2147483647 := by have h9 := G.hr (a := 111) (k := 8) rfl; exact h9
    refine xb_if_eq (tgt := 26) hx hb (by unfold ir; omega) dX12_takesName_13 (by decide) (fun c_13 => ?_) (fun c_13 => ?_)
    · refine lv_aload_n hx hb dX12_takesName_26 rfl (lv_at hl 0 rfl) ?_
      refine xa_getl G fd_X12 (a := 111) (x := μ.1 111 10) 10 rfl (by decide) rfl (wm 7 159 rfl rfl) ⟨rfl, rfl, rfl⟩ dX12_takesName_27 rfl rfl ?_
      have hj_6 : jr (μ.1 111 10) := by have h9 := G.hj (a := 111) (k := 10) rfl; exact h9
      refine lv_lstore_n (lv' := [(1, .long (jv (μ.1 111 10))), (0, .ref (oP ω 111))]) hx hb dX12_takesName_30 rfl hl (by decide) rfl (fun ls hl => ?_)
      refine lv_aload_n hx hb dX12_takesName_31 rfl (lv_at hl 1 rfl) ?_
      refine xc_vV G (b := 111) (rest := []) (As := []) (c_X12_next ω l μ  hPM (by omega) (by omega)) (wm 9 0 rfl rfl) (wm 9 2 rfl rfl) (wm 0 119 rfl rfl) rfl rfl (by decide) rfl (wm 1 18 rfl rfl) (wm 9 3 rfl rfl) (by decide) hR (by decide) (n := 0) rfl rfl (Nat.le_of_ble_eq_true rfl) hl.1 dX12_takesName_32 (fun μ7 ρ d0 H locs hp G => ?_)
      obtain ⟨F_8, hp_9, hp_10, hp_11, hp_12, hp_13⟩ := hp
      have hpl_14 := hp_10.pl
      have hw_15 := wr_r (μ := μ7)
      refine lv_lload_n hx hb dX12_takesName_35 rfl (lv_at hl 0 rfl) ?_
      exact xr_l G (x := μ.1 111 10) hret hlk hj_6 dX12_takesName_36 ⟨(FrM.tr FrM.rf F_8 (by decide)), (fun j hj => (hp_9 j (fun h9 => hj ((by decide : ∀ x ∈ ([6, 8, 9, 10, 11, 12, 13, 15] : List Int), x ∈ ([6, 8, 9, 10, 11, 12, 13, 15] : List Int)) j h9)))), hp_10, (by omega), (by omega), (by omega), (by omega)⟩
    · refine lv_aload_n hx hb dX12_takesName_16 rfl (lv_at hl 0 rfl) ?_
      refine lv_aload_n hx hb dX12_takesName_17 rfl (lv_at hl 0 rfl) ?_
      refine xa_geti G fd_X12 (a := 111) (x := μ.1 111 9) 9 rfl (by decide) rfl (wm 7 158 rfl rfl) ⟨rfl, rfl, rfl⟩ dX12_takesName_18 rfl rfl ?_
      have hr_16 : -2147483648 ≤ μ.1 111 9 ∧ μ.1 111 9 ≤ 2147483647 := by have h9 := G.hr (a := 111) (k := 9) rfl; exact h9
      refine xc_vV G (b := 111) (rest := []) (As := [.int (iv (μ.1 111 9))]) (c_X12_wrong ω l μ (μ.1 111 9) (by unfold ir; omega) (by omega)) (wm 9 22 rfl rfl) (wm 9 24 rfl rfl) (wm 0 123 rfl rfl) rfl rfl (by decide) rfl (wm 1 18 rfl rfl) (wm 9 25 rfl rfl) (by decide) hR (by decide) (n := 1) rfl rfl (Nat.le_of_ble_eq_true rfl) hl.1 dX12_takesName_21 (fun μ17 ρ d0 H locs hp G => ?_)
      obtain ⟨F_18, hp_19, hp_20⟩ := hp
      have hw_21 := wr_r (μ := μ17)
      refine lv_lconst (v := jv 0) hx hb dX12_takesName_24 rfl ?_
      have hPM_22 : PM μ17 := hPM.wg (hp_19 4 (by decide)) (hp_19 6 (by decide)) (hp_19 7 (by decide)) (hp_19 8 (by decide)) (hp_19 9 (by decide)) (hp_19 11 (by decide)) (hp_19 12 (by decide)) (hp_19 14 (by decide)) (by omega) (hp_19 29 (by decide)) (fun j => (F_18.1 123 (by decide) j))
      have e_23 : μ17.1 111 9 = μ.1 111 9 := (hp_19 9 (by decide))
      have e_24 : μ17.1 111 9 = μ.1 111 9 := (hp_19 9 (by decide))
      exact xr_l G (x := 0) hret hlk (by unfold jr; omega) dX12_takesName_25 ⟨(FrM.tr FrM.rf F_18 (by decide)), (fun j hj => (hp_19 j (fun h9 => hj ((by decide : ∀ x ∈ ([15] : List Int), x ∈ ([6, 8, 9, 10, 11, 12, 13, 15] : List Int)) j h9)))), hPM_22, (by omega), (by omega), (by omega), (by omega)⟩
  · refine lv_lconst (v := jv 0) hx hb dX12_takesName_7 rfl ?_
    exact xr_l G (x := 0) hret hlk (by unfold jr; omega) dX12_takesName_8 ⟨FrM.rf, (fun j hj => rfl), hPM, (by omega), (by omega), (by omega), (by omega)⟩

set_option maxHeartbeats 4000000 in
set_option maxRecDepth 100000 in
theorem c_X12_opens (ω : Om) (l : Launch) (μ : M3) (hPM : PM μ) (hnn : 0 ≤ nn μ ∧ nn μ ≤ 9 ∧ 9 * wr μ ≤ nn μ) (hne : μ.1 111 8 ≠ 4 ∨ wr μ = 1) (hn8 : nn μ ≤ 8 + wr μ) : CtV ω l yX12_opens cX12_opens 1 7 153 [.ref (oP ω 111)] μ (fun (μ' : M3) => (FrM [111] μ μ') ∧ (∀ j, j ∉ ([6, 8, 9, 10, 11, 12, 13, 15, 18] : List Int) → μ'.1 111 j = μ.1 111 j) ∧ (PM μ') ∧ (μ.1 111 9 + 1 ≤ μ'.1 111 9 + wr μ') ∧ (μ.1 111 9 ≤ μ'.1 111 9) ∧ (wr μ ≤ wr μ' ∧ bd μ ≤ bd μ') ∧ (nn μ ≤ nn μ' ∧ nn μ' ≤ nn μ + 1 + 9 * wr μ' ∧ nn μ' ≤ 9 ∧ nn μ + 1 ≤ nn μ' + wr μ ∧ nn μ' ≤ 8 + wr μ' ∧ 9 * wr μ' ≤ nn μ')) := by
  refine CtV.go (by decide) (Nat.le_of_ble_eq_true rfl) (fun ρ p e s m below meth c R ls G hR hret hlk hl => ?_)
  have hx := G.1.1
  have hb := G.1.2.1
  have hl : lv_has ls 1 [(0, .ref (oP ω 111))] := hl
  generalize s.drawn = d0 at G ⊢
  have hw_0 := wr_r (μ := μ)
  have hpp_ := hPM.1.2.1
  have hpn_ := hPM.2.1
  have hpt_ := hPM.1.2.2.2.1
  have hpw_ := hPM.1.2.2.2.2.1
  have hpa_ := hPM.1.1
  have hnn_1 : (wr μ = 0 ∧ nn μ = μ.1 111 18) ∨ (wr μ = 1 ∧ nn μ = 9) := nn_is
  refine lv_aload_n hx hb dX12_opens_0 rfl (lv_at hl 0 rfl) ?_
  refine xc_iV G (b := 111) (rest := []) (As := []) (c_X12_isWrong ω l μ  ) (wm 9 4 rfl rfl) (wm 9 6 rfl rfl) (wm 0 120 rfl rfl) rfl rfl (by decide) rfl (wm 1 18 rfl rfl) (wm 9 7 rfl rfl) (by decide) hR (by decide) (n := 0) rfl rfl (Nat.le_of_ble_eq_true rfl) hl.1 dX12_opens_1 (fun r_3 μ2 ρ d0 H locs hr_r_3 hp G => ?_)
  have hr_r_3 : -2147483648 ≤ r_3 ∧ r_3 ≤ 2147483647 := hr_r_3
  obtain ⟨hsm_4, hp_5⟩ := hp
  have hsm_4 := Eq.symm hsm_4
  subst hsm_4
  refine xb_if_eq (tgt := 8) hx hb (by unfold ir; omega) dX12_opens_4 (by decide) (fun c_4 => ?_) (fun c_4 => ?_)
  · refine lv_aload_n hx hb dX12_opens_8 rfl (lv_at hl 0 rfl) ?_
    refine xa_geti G fd_X12 (a := 111) (x := μ.1 111 18) 18 rfl (by decide) rfl (wm 7 167 rfl rfl) ⟨rfl, rfl, rfl⟩ dX12_opens_9 rfl rfl ?_
    have hr_6 : -2147483648 ≤ μ.1 111 18 ∧ μ.1 111 18 ≤ 2147483647 := by have h9 := G.hr (a := 111) (k := 18) rfl; exact h9
    refine lv_bipush (v := iv 8) hx hb dX12_opens_12 rfl ?_
    refine xb_icmp_ne (tgt := 26) hx hb (by unfold ir; omega) (by unfold ir; omega) dX12_opens_14 (by decide) (fun c_14 => ?_) (fun c_14 => ?_)
    · refine lv_aload_n hx hb dX12_opens_26 rfl (lv_at hl 0 rfl) ?_
      refine lv_dup hx hb dX12_opens_27 rfl ?_
      refine xa_geti G fd_X12 (a := 111) (x := μ.1 111 18) 18 rfl (by decide) rfl (wm 7 167 rfl rfl) ⟨rfl, rfl, rfl⟩ dX12_opens_28 rfl rfl ?_
      refine lv_iconst (v := iv 1) hx hb dX12_opens_31 rfl ?_
      refine xb_iadd hx hb dX12_opens_32 ?_
      refine xa_puti G fd_X12 (a := 111) (x := (μ.1 111 18) + 1) 18 (kz := 18) rfl rfl (by decide) rfl (by unfold ir; omega) (wm 7 167 rfl rfl) ⟨rfl, rfl, rfl, rfl⟩ rfl dX12_opens_33 rfl (fun H locs G => ?_)
      have e_7 : wr (sv μ 111 18 ((μ.1 111 18) + 1)) = wr μ := (wr_cg (sv_n _ (by decide)))
      have e_8 : bd (sv μ 111 18 ((μ.1 111 18) + 1)) = bd μ := (bd_cg (sv_n _ (by decide)) (sv_n _ (by decide)) (sv_n _ (by decide)))
      have hnn_9 : (wr (sv μ 111 18 ((μ.1 111 18) + 1)) = 0 ∧ nn (sv μ 111 18 ((μ.1 111 18) + 1)) = (sv μ 111 18 ((μ.1 111 18) + 1)).1 111 18) ∨ (wr (sv μ 111 18 ((μ.1 111 18) + 1)) = 1 ∧ nn (sv μ 111 18 ((μ.1 111 18) + 1)) = 9) := nn_is
      have e_10 : (sv μ 111 18 ((μ.1 111 18) + 1)).1 111 18 = (μ.1 111 18) + 1 := (sv_s _ _ _ _)
      have e_11 : (sv μ 111 18 ((μ.1 111 18) + 1)).1 111 18 = (μ.1 111 18) + 1 := (sv_s _ _ _ _)
      refine lv_aload_n hx hb dX12_opens_36 rfl (lv_at hl 0 rfl) ?_
      have hPM_12 : PM (sv μ 111 18 ((μ.1 111 18) + 1)) := hPM.cg (sv_n _ (by decide)) (sv_n _ (by decide)) (sv_n _ (by decide)) (sv_n _ (by decide)) (sv_n _ (by decide)) (sv_n _ (by decide)) (sv_n _ (by decide)) (sv_n _ (by decide)) (sv_n _ (by decide)) (sv_n _ (by decide)) (fun j => (sv_n _ (by omega)))
      have e_13 : wr (sv μ 111 18 ((μ.1 111 18) + 1)) = wr μ := (wr_cg (sv_n _ (by decide)))
      have e_14 : (sv μ 111 18 ((μ.1 111 18) + 1)).1 111 8 = μ.1 111 8 := (sv_n _ (by decide))
      have e_15 : wr (sv μ 111 18 ((μ.1 111 18) + 1)) = wr μ := (wr_cg (sv_n _ (by decide)))
      have e_16 : (sv μ 111 18 ((μ.1 111 18) + 1)).1 111 9 = μ.1 111 9 := (sv_n _ (by decide))
      have e_17 : wr (sv μ 111 18 ((μ.1 111 18) + 1)) = wr μ := (wr_cg (sv_n _ (by decide)))
      have e_18 : wr (sv μ 111 18 ((μ.1 111 18) + 1)) = wr μ := (wr_cg (sv_n _ (by decide)))
      have e_19 : bd (sv μ 111 18 ((μ.1 111 18) + 1)) = bd μ := (bd_cg (sv_n _ (by decide)) (sv_n _ (by decide)) (sv_n _ (by decide)))
      refine xc_vV G (b := 111) (rest := []) (As := []) (c_X12_next ω l (sv μ 111 18 ((μ.1 111 18) + 1))  hPM_12 (by omega) (by omega)) (wm 9 0 rfl rfl) (wm 9 2 rfl rfl) (wm 0 119 rfl rfl) rfl rfl (by decide) rfl (wm 1 18 rfl rfl) (wm 9 3 rfl rfl) (by decide) hR (by decide) (n := 0) rfl rfl (Nat.le_of_ble_eq_true rfl) hl.1 dX12_opens_37 (fun μ20 ρ d0 H locs hp G => ?_)
      obtain ⟨F_21, hp_22, hp_23, hp_24, hp_25, hp_26⟩ := hp
      have hpl_27 := hp_23.pl
      have hw_28 := wr_r (μ := μ20)
      have hnn_29 : (wr μ20 = 0 ∧ nn μ20 = μ20.1 111 18) ∨ (wr μ20 = 1 ∧ nn μ20 = 9) := nn_is
      have e_30 : μ20.1 111 18 = (μ.1 111 18) + 1 := ((hp_22 18 (by decide)).trans (sv_s _ _ _ _))
      have e_31 : μ20.1 111 18 = (μ.1 111 18) + 1 := ((hp_22 18 (by decide)).trans (sv_s _ _ _ _))
      exact xr_v G hret hlk dX12_opens_40 ⟨(FrM.tr (FrM.put FrM.rf (by decide)) F_21 (by decide)), (fun j hj => ((hp_22 j (fun h9 => hj ((by decide : ∀ x ∈ ([6, 8, 9, 10, 11, 12, 13, 15] : List Int), x ∈ ([6, 8, 9, 10, 11, 12, 13, 15, 18] : List Int)) j h9))).trans (sv_n _ (fun h9 => hj (by rw [h9.2]; decide))))), hp_23, (by omega), (by omega), (by omega), (by omega)⟩
    · refine lv_aload_n hx hb dX12_opens_17 rfl (lv_at hl 0 rfl) ?_
      refine lv_aload_n hx hb dX12_opens_18 rfl (lv_at hl 0 rfl) ?_
      refine xa_geti G fd_X12 (a := 111) (x := μ.1 111 9) 9 rfl (by decide) rfl (wm 7 158 rfl rfl) ⟨rfl, rfl, rfl⟩ dX12_opens_19 rfl rfl ?_
      have hr_32 : -2147483648 ≤ μ.1 111 9 ∧ μ.1 111 9 ≤ 2147483647 := by have h9 := G.hr (a := 111) (k := 9) rfl; exact h9
      refine xc_vV G (b := 111) (rest := []) (As := [.int (iv (μ.1 111 9))]) (c_X12_wrong ω l μ (μ.1 111 9) (by unfold ir; omega) (by omega)) (wm 9 22 rfl rfl) (wm 9 24 rfl rfl) (wm 0 123 rfl rfl) rfl rfl (by decide) rfl (wm 1 18 rfl rfl) (wm 9 25 rfl rfl) (by decide) hR (by decide) (n := 1) rfl rfl (Nat.le_of_ble_eq_true rfl) hl.1 dX12_opens_22 (fun μ33 ρ d0 H locs hp G => ?_)
      obtain ⟨F_34, hp_35, hp_36⟩ := hp
      have hw_37 := wr_r (μ := μ33)
      have hPM_38 : PM μ33 := hPM.wg (hp_35 4 (by decide)) (hp_35 6 (by decide)) (hp_35 7 (by decide)) (hp_35 8 (by decide)) (hp_35 9 (by decide)) (hp_35 11 (by decide)) (hp_35 12 (by decide)) (hp_35 14 (by decide)) (by omega) (hp_35 29 (by decide)) (fun j => (F_34.1 123 (by decide) j))
      have hnn_39 : (wr μ33 = 0 ∧ nn μ33 = μ33.1 111 18) ∨ (wr μ33 = 1 ∧ nn μ33 = 9) := nn_is
      have e_40 : μ33.1 111 18 = μ.1 111 18 := (hp_35 18 (by decide))
      have e_41 : μ33.1 111 18 = μ.1 111 18 := (hp_35 18 (by decide))
      have e_42 : μ33.1 111 9 = μ.1 111 9 := (hp_35 9 (by decide))
      have e_43 : μ33.1 111 9 = μ.1 111 9 := (hp_35 9 (by decide))
      exact xr_v G hret hlk dX12_opens_25 ⟨(FrM.tr FrM.rf F_34 (by decide)), (fun j hj => (hp_35 j (fun h9 => hj ((by decide : ∀ x ∈ ([15] : List Int), x ∈ ([6, 8, 9, 10, 11, 12, 13, 15, 18] : List Int)) j h9)))), hPM_38, (by omega), (by omega), (by omega), (by omega)⟩
  · have hnn_44 : (wr μ = 0 ∧ nn μ = μ.1 111 18) ∨ (wr μ = 1 ∧ nn μ = 9) := nn_is
    have e_45 : μ.1 111 18 = μ.1 111 18 := rfl
    exact xr_v G hret hlk dX12_opens_7 ⟨FrM.rf, (fun j hj => rfl), hPM, (by omega), (by omega), (by omega), (by omega)⟩

set_option maxHeartbeats 4000000 in
set_option maxRecDepth 100000 in
theorem c_X12_opensWith (ω : Om) (l : Launch) (μ : M3) (x1 : Int) (hx1 : ir x1) (hPM : PM μ) (hnn : 0 ≤ nn μ ∧ nn μ ≤ 9 ∧ 9 * wr μ ≤ nn μ) (hn8 : nn μ ≤ 8 + wr μ) : CtV ω l yX12_opensWith cX12_opensWith 2 8 173 [.ref (oP ω 111), .int (iv x1)] μ (fun (μ' : M3) => (FrM [111] μ μ') ∧ (∀ j, j ∉ ([6, 8, 9, 10, 11, 12, 13, 15, 18] : List Int) → μ'.1 111 j = μ.1 111 j) ∧ (PM μ') ∧ (μ.1 111 9 + 1 ≤ μ'.1 111 9 + wr μ') ∧ (μ.1 111 9 ≤ μ'.1 111 9) ∧ (wr μ ≤ wr μ' ∧ bd μ ≤ bd μ') ∧ (nn μ ≤ nn μ' ∧ nn μ' ≤ nn μ + 1 + 9 * wr μ' ∧ nn μ' ≤ 9 ∧ nn μ + 1 ≤ nn μ' + wr μ ∧ nn μ' ≤ 8 + wr μ' ∧ 9 * wr μ' ≤ nn μ')) := by
  refine CtV.go (by decide) (Nat.le_of_ble_eq_true rfl) (fun ρ p e s m below meth c R ls G hR hret hlk hl => ?_)
  have hx := G.1.1
  have hb := G.1.2.1
  have hl : lv_has ls 2 [(0, .ref (oP ω 111)), (1, .int (iv x1))] := hl
  generalize s.drawn = d0 at G ⊢
  have hr_x1 : -2147483648 ≤ x1 ∧ x1 ≤ 2147483647 := hx1
  have hw_0 := wr_r (μ := μ)
  have hpp_ := hPM.1.2.1
  have hpn_ := hPM.2.1
  have hpt_ := hPM.1.2.2.2.1
  have hpw_ := hPM.1.2.2.2.2.1
  have hpa_ := hPM.1.1
  refine lv_aload_n hx hb dX12_opensWith_0 rfl (lv_at hl 0 rfl) ?_
  refine lv_iload_n hx hb dX12_opensWith_1 rfl (lv_at hl 1 rfl) ?_
  refine xc_iV G (b := 111) (rest := []) (As := [.int (iv x1)]) (c_X12_isSign ω l μ x1 (by unfold ir; omega)) (wm 9 90 rfl rfl) (wm 9 92 rfl rfl) (wm 0 135 rfl rfl) rfl rfl (by decide) rfl (wm 1 18 rfl rfl) (wm 9 93 rfl rfl) (by decide) hR (by decide) (n := 1) rfl rfl (Nat.le_of_ble_eq_true rfl) hl.1 dX12_opensWith_2 (fun r_2 μ1 ρ d0 H locs hr_r_2 hp G => ?_)
  have hr_r_2 : -2147483648 ≤ r_2 ∧ r_2 ≤ 2147483647 := hr_r_2
  obtain ⟨hsm_3, hp_4⟩ := hp
  have hsm_3 := Eq.symm hsm_3
  subst hsm_3
  refine xb_if_ne (tgt := 19) hx hb (by unfold ir; omega) dX12_opensWith_5 (by decide) (fun c_5 => ?_) (fun c_5 => ?_)
  · refine lv_aload_n hx hb dX12_opensWith_19 rfl (lv_at hl 0 rfl) ?_
    refine xc_vV G (b := 111) (rest := []) (As := []) (c_X12_opens ω l μ  hPM (by omega) (by omega) (by omega)) (wm 9 94 rfl rfl) (wm 9 96 rfl rfl) (wm 0 136 rfl rfl) rfl rfl (by decide) rfl (wm 1 18 rfl rfl) (wm 9 97 rfl rfl) (by decide) hR (by decide) (n := 0) rfl rfl (Nat.le_of_ble_eq_true rfl) hl.1 dX12_opensWith_20 (fun μ5 ρ d0 H locs hp G => ?_)
    obtain ⟨F_6, hp_7, hp_8, hp_9, hp_10, hp_11, hp_12⟩ := hp
    have hpl_13 := hp_8.pl
    have hw_14 := wr_r (μ := μ5)
    exact xr_v G hret hlk dX12_opensWith_23 ⟨(FrM.tr FrM.rf F_6 (by decide)), (fun j hj => (hp_7 j (fun h9 => hj ((by decide : ∀ x ∈ ([6, 8, 9, 10, 11, 12, 13, 15, 18] : List Int), x ∈ ([6, 8, 9, 10, 11, 12, 13, 15, 18] : List Int)) j h9)))), hp_8, (by omega), (by omega), (by omega), (by omega)⟩
  · refine lv_aload_n hx hb dX12_opensWith_8 rfl (lv_at hl 0 rfl) ?_
    refine lv_aload_n hx hb dX12_opensWith_9 rfl (lv_at hl 0 rfl) ?_
    refine xa_geti G fd_X12 (a := 111) (x := μ.1 111 9) 9 rfl (by decide) rfl (wm 7 158 rfl rfl) ⟨rfl, rfl, rfl⟩ dX12_opensWith_10 rfl rfl ?_
    have hr_15 : -2147483648 ≤ μ.1 111 9 ∧ μ.1 111 9 ≤ 2147483647 := by have h9 := G.hr (a := 111) (k := 9) rfl; exact h9
    refine xc_vV G (b := 111) (rest := []) (As := [.int (iv (μ.1 111 9))]) (c_X12_wrong ω l μ (μ.1 111 9) (by unfold ir; omega) (by omega)) (wm 9 22 rfl rfl) (wm 9 24 rfl rfl) (wm 0 123 rfl rfl) rfl rfl (by decide) rfl (wm 1 18 rfl rfl) (wm 9 25 rfl rfl) (by decide) hR (by decide) (n := 1) rfl rfl (Nat.le_of_ble_eq_true rfl) hl.1 dX12_opensWith_13 (fun μ16 ρ d0 H locs hp G => ?_)
    obtain ⟨F_17, hp_18, hp_19⟩ := hp
    have hw_20 := wr_r (μ := μ16)
    refine lv_goto (tgt := 23) hx hb dX12_opensWith_16 (by decide) ?_
    have hPM_21 : PM μ16 := hPM.wg (hp_18 4 (by decide)) (hp_18 6 (by decide)) (hp_18 7 (by decide)) (hp_18 8 (by decide)) (hp_18 9 (by decide)) (hp_18 11 (by decide)) (hp_18 12 (by decide)) (hp_18 14 (by decide)) (by omega) (hp_18 29 (by decide)) (fun j => (F_17.1 123 (by decide) j))
    have e_22 : μ16.1 111 9 = μ.1 111 9 := (hp_18 9 (by decide))
    have e_23 : μ16.1 111 9 = μ.1 111 9 := (hp_18 9 (by decide))
    exact xr_v G hret hlk dX12_opensWith_23 ⟨(FrM.tr FrM.rf F_17 (by decide)), (fun j hj => (hp_18 j (fun h9 => hj ((by decide : ∀ x ∈ ([15] : List Int), x ∈ ([6, 8, 9, 10, 11, 12, 13, 15, 18] : List Int)) j h9)))), hPM_21, (by omega), (by omega), (by omega), (by omega)⟩

set_option maxHeartbeats 4000000 in
set_option maxRecDepth 100000 in
theorem c_X12_closesWith (ω : Om) (l : Launch) (μ : M3) (x1 : Int) (hx1 : ir x1) (hPM : PM μ) (hnn : 0 ≤ nn μ ∧ nn μ ≤ 9 ∧ 9 * wr μ ≤ nn μ) (hn1 : 1 ≤ nn μ) : CtV ω l yX12_closesWith cX12_closesWith 2 9 195 [.ref (oP ω 111), .int (iv x1)] μ (fun (μ' : M3) => (FrM [111] μ μ') ∧ (∀ j, j ∉ ([6, 8, 9, 10, 11, 12, 13, 15, 18] : List Int) → μ'.1 111 j = μ.1 111 j) ∧ (PM μ') ∧ (μ.1 111 9 + 1 ≤ μ'.1 111 9 + wr μ') ∧ (μ.1 111 9 ≤ μ'.1 111 9) ∧ (wr μ ≤ wr μ' ∧ bd μ ≤ bd μ') ∧ (nn μ - 1 ≤ nn μ' ∧ nn μ' ≤ nn μ - 1 + 10 * wr μ' ∧ nn μ' ≤ 9 ∧ 9 * wr μ' ≤ nn μ')) := by
  refine CtV.go (by decide) (Nat.le_of_ble_eq_true rfl) (fun ρ p e s m below meth c R ls G hR hret hlk hl => ?_)
  have hx := G.1.1
  have hb := G.1.2.1
  have hl : lv_has ls 2 [(0, .ref (oP ω 111)), (1, .int (iv x1))] := hl
  generalize s.drawn = d0 at G ⊢
  have hr_x1 : -2147483648 ≤ x1 ∧ x1 ≤ 2147483647 := hx1
  have hw_0 := wr_r (μ := μ)
  have hpp_ := hPM.1.2.1
  have hpn_ := hPM.2.1
  have hpt_ := hPM.1.2.2.2.1
  have hpw_ := hPM.1.2.2.2.2.1
  have hpa_ := hPM.1.1
  refine lv_aload_n hx hb dX12_closesWith_0 rfl (lv_at hl 0 rfl) ?_
  refine lv_iload_n hx hb dX12_closesWith_1 rfl (lv_at hl 1 rfl) ?_
  refine xc_vV G (b := 111) (rest := []) (As := [.int (iv x1)]) (c_X12_wantsSign ω l μ x1 (by unfold ir; omega) hPM (by omega)) (wm 9 114 rfl rfl) (wm 9 116 rfl rfl) (wm 0 141 rfl rfl) rfl rfl (by decide) rfl (wm 1 18 rfl rfl) (wm 9 117 rfl rfl) (by decide) hR (by decide) (n := 1) rfl rfl (Nat.le_of_ble_eq_true rfl) hl.1 dX12_closesWith_2 (fun μ1 ρ d0 H locs hp G => ?_)
  obtain ⟨F_2, hp_3, hp_4, hp_5, hp_6, hp_7, hp_8⟩ := hp
  have hpl_9 := hp_4.pl
  have hw_10 := wr_r (μ := μ1)
  refine lv_aload_n hx hb dX12_closesWith_5 rfl (lv_at hl 0 rfl) ?_
  refine lv_dup hx hb dX12_closesWith_6 rfl ?_
  refine xa_geti G fd_X12 (a := 111) (x := μ.1 111 18) 18 rfl (by decide) rfl (wm 7 167 rfl rfl) ⟨rfl, rfl, rfl⟩ dX12_closesWith_7 rfl (hp_3 18 (by decide)) ?_
  have hr_11 : -2147483648 ≤ μ.1 111 18 ∧ μ.1 111 18 ≤ 2147483647 := by have h9 := G.hr (a := 111) (k := 18) rfl; rw [show μ1.1 111 18 = μ.1 111 18 from (hp_3 18 (by decide))] at h9; exact h9
  have hnn_12 : (wr μ1 = 0 ∧ nn μ1 = μ1.1 111 18) ∨ (wr μ1 = 1 ∧ nn μ1 = 9) := nn_is
  have e_13 : μ1.1 111 18 = μ.1 111 18 := (hp_3 18 (by decide))
  refine lv_iconst (v := iv 1) hx hb dX12_closesWith_10 rfl ?_
  refine xb_isub hx hb dX12_closesWith_11 ?_
  refine xb_topi (fun y_14 hr_y_14 he_y_14 => ?_)
  have hr_y_14 : -2147483648 ≤ y_14 ∧ y_14 ≤ 2147483647 := hr_y_14
  have hy9_ : ir ((μ.1 111 18) - 1) → y_14 = (μ.1 111 18) - 1 := fun h9 => (iv_eq hr_y_14 h9).mp he_y_14
  unfold ir at hy9_
  refine xa_puti G fd_X12 (a := 111) (x := y_14) 18 (kz := 18) rfl rfl (by decide) rfl (by unfold ir; omega) (wm 7 167 rfl rfl) ⟨rfl, rfl, rfl, rfl⟩ rfl dX12_closesWith_12 rfl (fun H locs G => ?_)
  have hPM_15 : PM (sv μ1 111 18 y_14) := hp_4.cg ((((sv_n _ (by decide)).trans (hp_3 4 (by decide)))).trans ((hp_3 4 (by decide))).symm) (sv_n _ (by decide)) ((((sv_n _ (by decide)).trans (hp_3 7 (by decide)))).trans ((hp_3 7 (by decide))).symm) (sv_n _ (by decide)) (sv_n _ (by decide)) (sv_n _ (by decide)) (sv_n _ (by decide)) ((((sv_n _ (by decide)).trans (hp_3 14 (by decide)))).trans ((hp_3 14 (by decide))).symm) (sv_n _ (by decide)) ((((sv_n _ (by decide)).trans (hp_3 29 (by decide)))).trans ((hp_3 29 (by decide))).symm) (fun j => (sv_n _ (by omega)))
  have e_16 : wr (sv μ1 111 18 y_14) = wr μ1 := (wr_cg (sv_n _ (by decide)))
  have e_17 : bd (sv μ1 111 18 y_14) = bd μ1 := (bd_cg (sv_n _ (by decide)) (sv_n _ (by decide)) (sv_n _ (by decide)))
  have hnn_18 : (wr (sv μ1 111 18 y_14) = 0 ∧ nn (sv μ1 111 18 y_14) = (sv μ1 111 18 y_14).1 111 18) ∨ (wr (sv μ1 111 18 y_14) = 1 ∧ nn (sv μ1 111 18 y_14) = 9) := nn_is
  have e_19 : (sv μ1 111 18 y_14).1 111 18 = y_14 := (sv_s _ _ _ _)
  have e_20 : (sv μ1 111 18 y_14).1 111 18 = y_14 := (sv_s _ _ _ _)
  have e_21 : (sv μ1 111 18 y_14).1 111 9 = μ1.1 111 9 := (sv_n _ (by decide))
  have e_22 : wr (sv μ1 111 18 y_14) = wr μ1 := (wr_cg (sv_n _ (by decide)))
  have e_23 : (sv μ1 111 18 y_14).1 111 9 = μ1.1 111 9 := (sv_n _ (by decide))
  have e_24 : wr (sv μ1 111 18 y_14) = wr μ1 := (wr_cg (sv_n _ (by decide)))
  have e_25 : bd (sv μ1 111 18 y_14) = bd μ1 := (bd_cg (sv_n _ (by decide)) (sv_n _ (by decide)) (sv_n _ (by decide)))
  have e_26 : wr (sv μ1 111 18 y_14) = wr μ1 := (wr_cg (sv_n _ (by decide)))
  exact xr_v G hret hlk dX12_closesWith_15 ⟨(FrM.put (FrM.tr FrM.rf F_2 (by decide)) (by decide)), (fun j hj => ((sv_n _ (fun h9 => hj (by rw [h9.2]; decide))).trans (hp_3 j (fun h9 => hj ((by decide : ∀ x ∈ ([6, 8, 9, 10, 11, 12, 13, 15] : List Int), x ∈ ([6, 8, 9, 10, 11, 12, 13, 15, 18] : List Int)) j h9))))), hPM_15, (by omega), (by omega), (by omega), (by omega)⟩

set_option maxHeartbeats 4000000 in
set_option maxRecDepth 100000 in
theorem c_X12_emit (ω : Om) (l : Launch) (μ : M3) (x1 : Int) (x2 : Int) (x3 : Int) (hx1 : ir x1) (hx2 : jr x2) (hx3 : ir x3) (hcd : 0 ≤ μ.1 111 22 ∧ μ.1 111 22 < 8990) : CtI ω l yX12_emit cX12_emit 6 .int 0 0 [.ref (oP ω 111), .int (iv x1), .long (jv x2), .int (iv x3)] μ (fun (r : Int) (μ' : M3) => (FrM [111, 115, 116, 117] μ μ') ∧ (∀ j, j ∉ ([22] : List Int) → μ'.1 111 j = μ.1 111 j) ∧ (mAD μ μ' x1 x2 x3) ∧ (r = μ.1 111 22) ∧ (μ'.1 111 22 = μ.1 111 22 + 1)) := by
  refine CtI.go (by decide) (Nat.le_of_ble_eq_true rfl) (fun ρ p e s m below meth c R ls G hR hret hlk hl => ?_)
  have hx := G.1.1
  have hb := G.1.2.1
  have hl : lv_has ls 6 [(0, .ref (oP ω 111)), (1, .int (iv x1)), (2, .long (jv x2)), (4, .int (iv x3))] := hl
  generalize s.drawn = d0 at G ⊢
  have hr_x1 : -2147483648 ≤ x1 ∧ x1 ≤ 2147483647 := hx1
  have hr_x3 : -2147483648 ≤ x3 ∧ x3 ≤ 2147483647 := hx3
  refine lv_ldcw (s := s.setDrawn d0) hx hb G.1.2.2.2.1 (dr_words G.1.2.2.2.2 d0 _ (wm 9 130 rfl rfl)) dX12_emit_0 ?_
  refine xb_lit (x := 36000) (by decide) ?_
  refine lv_aload_n hx hb dX12_emit_3 rfl (lv_at hl 0 rfl) ?_
  refine xa_geti G fd_X12 (a := 111) (x := μ.1 111 22) 22 rfl (by decide) rfl (wm 7 171 rfl rfl) ⟨rfl, rfl, rfl⟩ dX12_emit_4 rfl rfl ?_
  have hr_1 : -2147483648 ≤ μ.1 111 22 ∧ μ.1 111 22 ≤ 2147483647 := by have h9 := G.hr (a := 111) (k := 22) rfl; exact h9
  refine xb_iadd hx hb dX12_emit_7 ?_
  refine lv_istore (lv' := [(5, .int (iv (36000 + (μ.1 111 22)))), (0, .ref (oP ω 111)), (1, .int (iv x1)), (2, .long (jv x2)), (4, .int (iv x3))]) hx hb dX12_emit_8 hl (by decide) rfl (fun ls hl => ?_)
  refine lv_aload_n hx hb dX12_emit_10 rfl (lv_at hl 1 rfl) ?_
  refine xa_getr G fd_X12 (a := 111) (x := 115) 19 rfl (by decide) rfl (wm 7 168 rfl rfl) ⟨rfl, rfl, rfl⟩ dX12_emit_11 rfl (G.sk 113 rfl) (by decide) rfl ?_
  refine lv_iload hx hb dX12_emit_14 (lv_at hl 0 rfl) ?_
  refine lv_iload_n hx hb dX12_emit_16 rfl (lv_at hl 2 rfl) ?_
  refine xa_iast G (a := 115) (i := 36000 + (μ.1 111 22)) (x := x1) rfl (by have h9 := G.lc (a := 115) (n := 45000) 53 rfl; omega) (by unfold ir; omega) dX12_emit_17 rfl (fun H locs G => ?_)
  refine lv_aload_n hx hb dX12_emit_18 rfl (lv_at hl 1 rfl) ?_
  refine xa_getr G fd_X12 (a := 111) (x := 116) 20 rfl (by decide) rfl (wm 7 169 rfl rfl) ⟨rfl, rfl, rfl⟩ dX12_emit_19 rfl (G.sk 114 rfl) (by decide) rfl ?_
  refine lv_iload hx hb dX12_emit_22 (lv_at hl 0 rfl) ?_
  refine lv_lload_n hx hb dX12_emit_24 rfl (lv_at hl 3 rfl) ?_
  refine xa_last G (a := 116) (i := 36000 + (μ.1 111 22)) (x := x2) rfl (by have h9 := G.lc (a := 116) (n := 45000) 54 rfl; omega) hx2 dX12_emit_25 rfl (fun H locs G => ?_)
  refine lv_aload_n hx hb dX12_emit_26 rfl (lv_at hl 1 rfl) ?_
  refine xa_getr G fd_X12 (a := 111) (x := 117) 21 rfl (by decide) rfl (wm 7 170 rfl rfl) ⟨rfl, rfl, rfl⟩ dX12_emit_27 rfl (G.sk 115 rfl) (by decide) rfl ?_
  refine lv_iload hx hb dX12_emit_30 (lv_at hl 0 rfl) ?_
  refine lv_iload hx hb dX12_emit_32 (lv_at hl 4 rfl) ?_
  refine xa_iast G (a := 117) (i := 36000 + (μ.1 111 22)) (x := x3) rfl (by have h9 := G.lc (a := 117) (n := 45000) 55 rfl; omega) (by unfold ir; omega) dX12_emit_34 rfl (fun H locs G => ?_)
  refine lv_aload_n hx hb dX12_emit_35 rfl (lv_at hl 1 rfl) ?_
  refine lv_dup hx hb dX12_emit_36 rfl ?_
  refine xa_geti G fd_X12 (a := 111) (x := μ.1 111 22) 22 rfl (by decide) rfl (wm 7 171 rfl rfl) ⟨rfl, rfl, rfl⟩ dX12_emit_37 rfl ((sv_n _ (fun h9 => absurd h9.1 (by decide))).trans ((sv_n _ (fun h9 => absurd h9.1 (by decide))).trans (sv_n _ (fun h9 => absurd h9.1 (by decide))))) ?_
  refine lv_iconst (v := iv 1) hx hb dX12_emit_40 rfl ?_
  refine xb_iadd hx hb dX12_emit_41 ?_
  refine xa_puti G fd_X12 (a := 111) (x := (μ.1 111 22) + 1) 22 (kz := 22) rfl rfl (by decide) rfl (by unfold ir; omega) (wm 7 171 rfl rfl) ⟨rfl, rfl, rfl, rfl⟩ rfl dX12_emit_42 rfl (fun H locs G => ?_)
  refine lv_aload_n hx hb dX12_emit_45 rfl (lv_at hl 1 rfl) ?_
  refine xa_geti G fd_X12 (a := 111) (x := (μ.1 111 22) + 1) 22 rfl (by decide) rfl (wm 7 171 rfl rfl) ⟨rfl, rfl, rfl⟩ dX12_emit_46 rfl (sv_s _ _ _ _) ?_
  have hr_2 : -2147483648 ≤ (μ.1 111 22) + 1 ∧ (μ.1 111 22) + 1 ≤ 2147483647 := by have h9 := G.hr (a := 111) (k := 22) rfl; rw [show (sv (sv (sv (sv μ 115 (36000 + (μ.1 111 22)) x1) 116 (36000 + (μ.1 111 22)) x2) 117 (36000 + (μ.1 111 22)) x3) 111 22 ((μ.1 111 22) + 1)).1 111 22 = (μ.1 111 22) + 1 from (sv_s _ _ _ _)] at h9; exact h9
  refine lv_iconst (v := iv 1) hx hb dX12_emit_49 rfl ?_
  refine xb_isub hx hb dX12_emit_50 ?_
  refine xb_ti (y := (μ.1 111 22)) (by omega) ?_
  have e_3 : (sv (sv (sv (sv μ 115 (36000 + (μ.1 111 22)) x1) 116 (36000 + (μ.1 111 22)) x2) 117 (36000 + (μ.1 111 22)) x3) 111 22 ((μ.1 111 22) + 1)).1 111 22 = (μ.1 111 22) + 1 := (sv_s _ _ _ _)
  exact xr_i G (x := (μ.1 111 22)) hret hlk (by unfold ir; omega) rfl dX12_emit_51 ⟨(FrM.put (FrM.put (FrM.put (FrM.put FrM.rf (by decide)) (by decide)) (by decide)) (by decide)), (fun j hj => ((sv_n _ (fun h9 => hj (by rw [h9.2]; decide))).trans ((sv_n _ (fun h9 => absurd h9.1 (by decide))).trans ((sv_n _ (fun h9 => absurd h9.1 (by decide))).trans (sv_n _ (fun h9 => absurd h9.1 (by decide))))))), (mAD.of (n := μ.1 111 22) rfl (sv_s _ _ _ _) ((sv_n _ (by decide)).trans ((sv_n _ (fun h9 => absurd h9.1 (by decide))).trans ((sv_n _ (fun h9 => absurd h9.1 (by decide))).trans (sv_n _ (fun h9 => absurd h9.1 (by decide)))))) ((sv_n _ (by decide)).trans ((sv_n _ (fun h9 => absurd h9.1 (by decide))).trans ((sv_n _ (fun h9 => absurd h9.1 (by decide))).trans (sv_n _ (fun h9 => absurd h9.1 (by decide)))))) (show (sv (sv (sv (sv μ 115 (36000 + (μ.1 111 22)) x1) 116 (36000 + (μ.1 111 22)) x2) 117 (36000 + (μ.1 111 22)) x3) 111 22 ((μ.1 111 22) + 1)).1 115 (36000 + μ.1 111 22) = x1 from by rw [show (36000 : Int) + μ.1 111 22 = 36000 + (μ.1 111 22) by omega]; exact ((sv_n _ (fun h9 => absurd h9.1 (by decide))).trans ((sv_n _ (fun h9 => absurd h9.1 (by decide))).trans ((sv_n _ (fun h9 => absurd h9.1 (by decide))).trans (sv_s _ _ _ _))))) (show (sv (sv (sv (sv μ 115 (36000 + (μ.1 111 22)) x1) 116 (36000 + (μ.1 111 22)) x2) 117 (36000 + (μ.1 111 22)) x3) 111 22 ((μ.1 111 22) + 1)).1 116 (36000 + μ.1 111 22) = x2 from by rw [show (36000 : Int) + μ.1 111 22 = 36000 + (μ.1 111 22) by omega]; exact ((sv_n _ (fun h9 => absurd h9.1 (by decide))).trans ((sv_n _ (fun h9 => absurd h9.1 (by decide))).trans (sv_s _ _ _ _)))) (show (sv (sv (sv (sv μ 115 (36000 + (μ.1 111 22)) x1) 116 (36000 + (μ.1 111 22)) x2) 117 (36000 + (μ.1 111 22)) x3) 111 22 ((μ.1 111 22) + 1)).1 117 (36000 + μ.1 111 22) = x3 from by rw [show (36000 : Int) + μ.1 111 22 = 36000 + (μ.1 111 22) by omega]; exact ((sv_n _ (fun h9 => absurd h9.1 (by decide))).trans (sv_s _ _ _ _))) (fun j hj => ((sv_n _ (by omega)).trans ((sv_n _ (by omega)).trans ((sv_n _ (by omega)).trans (sv_n _ (by omega)))))) (fun j hj => ((sv_n _ (by omega)).trans ((sv_n _ (by omega)).trans ((sv_n _ (by omega)).trans (sv_n _ (by omega)))))) (fun j hj => ((sv_n _ (by omega)).trans ((sv_n _ (by omega)).trans ((sv_n _ (by omega)).trans (sv_n _ (by omega))))))), (by omega), (by omega)⟩

set_option maxHeartbeats 4000000 in
set_option maxRecDepth 100000 in
theorem c_X12_lands (ω : Om) (l : Launch) (μ : M3) (x1 : Int) (hx1 : ir x1) (hcd : 0 ≤ μ.1 111 22 ∧ μ.1 111 22 ≤ 8995) (hq : 0 ≤ x1 ∧ x1 < μ.1 111 22) : CtV ω l yX12_lands cX12_lands 2 0 0 [.ref (oP ω 111), .int (iv x1)] μ (fun (μ' : M3) => (FrM [116] μ μ') ∧ (mMF μ μ' x1 (μ.1 111 22))) := by
  refine CtV.go (by decide) (Nat.le_of_ble_eq_true rfl) (fun ρ p e s m below meth c R ls G hR hret hlk hl => ?_)
  have hx := G.1.1
  have hb := G.1.2.1
  have hl : lv_has ls 2 [(0, .ref (oP ω 111)), (1, .int (iv x1))] := hl
  generalize s.drawn = d0 at G ⊢
  have hr_x1 : -2147483648 ≤ x1 ∧ x1 ≤ 2147483647 := hx1
  refine lv_aload_n hx hb dX12_lands_0 rfl (lv_at hl 0 rfl) ?_
  refine xa_getr G fd_X12 (a := 111) (x := 116) 20 rfl (by decide) rfl (wm 7 169 rfl rfl) ⟨rfl, rfl, rfl⟩ dX12_lands_1 rfl (G.sk 114 rfl) (by decide) rfl ?_
  refine lv_ldcw (s := s.setDrawn d0) hx hb G.1.2.2.2.1 (dr_words G.1.2.2.2.2 d0 _ (wm 9 130 rfl rfl)) dX12_lands_4 ?_
  refine xb_lit (x := 36000) (by decide) ?_
  refine lv_iload_n hx hb dX12_lands_7 rfl (lv_at hl 1 rfl) ?_
  refine xb_iadd hx hb dX12_lands_8 ?_
  refine lv_aload_n hx hb dX12_lands_9 rfl (lv_at hl 0 rfl) ?_
  refine xa_geti G fd_X12 (a := 111) (x := μ.1 111 22) 22 rfl (by decide) rfl (wm 7 171 rfl rfl) ⟨rfl, rfl, rfl⟩ dX12_lands_10 rfl rfl ?_
  have hr_1 : -2147483648 ≤ μ.1 111 22 ∧ μ.1 111 22 ≤ 2147483647 := by have h9 := G.hr (a := 111) (k := 22) rfl; exact h9
  refine xb_i2l hx hb (by unfold ir; omega) dX12_lands_13 ?_
  refine xa_last G (a := 116) (i := 36000 + x1) (x := μ.1 111 22) rfl (by have h9 := G.lc (a := 116) (n := 45000) 54 rfl; omega) (by unfold jr; omega) dX12_lands_14 rfl (fun H locs G => ?_)
  exact xr_v G hret hlk dX12_lands_15 ⟨(FrM.put FrM.rf (by decide)), (mMF.of (sv_n _ (fun h9 => absurd h9.1 (by decide))) (sv_n _ (fun h9 => absurd h9.1 (by decide))) (sv_n _ (fun h9 => absurd h9.1 (by decide))) hq (show (sv μ 116 (36000 + x1) (μ.1 111 22)).1 116 (36000 + x1) = μ.1 111 22 from by rw [show (36000 : Int) + x1 = 36000 + x1 by omega]; exact (sv_s _ _ _ _)) (fun j => (sv_n _ (by omega))) (fun j hj => (sv_n _ (by omega))) (fun j => (sv_n _ (by omega))))⟩

set_option maxHeartbeats 4000000 in
set_option maxRecDepth 100000 in
theorem c_X12_skips (ω : Om) (l : Launch) (μ : M3) (x1 : Int) (tt : Int) (hx1 : ir x1) (htt : tt = μ.1 111 14) (hcd : 0 ≤ μ.1 111 22 ∧ μ.1 111 22 < 8990) : CtI ω l yX12_skips cX12_skips 2 .int 1 25 [.ref (oP ω 111), .int (iv x1)] μ (fun (r : Int) (μ' : M3) => (FrM [111, 115, 116, 117] μ μ') ∧ (∀ j, j ∉ ([22] : List Int) → μ'.1 111 j = μ.1 111 j) ∧ (qK tt x1 r μ μ') ∧ (μ.1 111 22 ≤ μ'.1 111 22 ∧ μ'.1 111 22 ≤ μ.1 111 22 + 1)) := by
  refine CtI.go (by decide) (Nat.le_of_ble_eq_true rfl) (fun ρ p e s m below meth c R ls G hR hret hlk hl => ?_)
  have hx := G.1.1
  have hb := G.1.2.1
  have hl : lv_has ls 2 [(0, .ref (oP ω 111)), (1, .int (iv x1))] := hl
  generalize s.drawn = d0 at G ⊢
  have hr_x1 : -2147483648 ≤ x1 ∧ x1 ≤ 2147483647 := hx1
  refine lv_aload_n hx hb dX12_skips_0 rfl (lv_at hl 0 rfl) ?_
  refine xa_geti G fd_X12 (a := 111) (x := tt) 14 rfl (by decide) rfl (wm 7 163 rfl rfl) ⟨rfl, rfl, rfl⟩ dX12_skips_1 rfl htt.symm ?_
  have hr_1 : -2147483648 ≤ tt ∧ tt ≤ 2147483647 := by have h9 := G.hr (a := 111) (k := 14) rfl; rw [show μ.1 111 14 = tt from htt.symm] at h9; exact h9
  refine lv_iconst (v := iv 2) hx hb dX12_skips_4 rfl ?_
  refine xb_icmp_ne (tgt := 19) hx hb (by unfold ir; omega) (by unfold ir; omega) dX12_skips_5 (by decide) (fun c_5 => ?_) (fun c_5 => ?_)
  · refine lv_iconst (v := iv (-1)) hx hb dX12_skips_19 rfl ?_
    exact xr_i G (x := (-1)) hret hlk (by unfold ir; omega) rfl dX12_skips_20 ⟨FrM.rf, (fun j hj => rfl), (Or.inr ⟨by omega, rfl, q0m.rf⟩), (by omega)⟩
  · refine lv_aload_n hx hb dX12_skips_8 rfl (lv_at hl 0 rfl) ?_
    refine lv_bipush (v := iv 33) hx hb dX12_skips_9 rfl ?_
    refine lv_lconst (v := jv 0) hx hb dX12_skips_11 rfl ?_
    refine lv_iload_n hx hb dX12_skips_12 rfl (lv_at hl 1 rfl) ?_
    refine xc_iV G (b := 111) (rest := []) (As := [.int (iv 33), .long (jv 0), .int (iv x1)]) (c_X12_emit ω l μ 33 0 x1 (by unfold ir; omega) (by unfold jr; omega) (by unfold ir; omega) (by omega)) (wm 9 126 rfl rfl) (wm 9 128 rfl rfl) (wm 0 144 rfl rfl) rfl rfl (by decide) rfl (wm 1 18 rfl rfl) (wm 9 129 rfl rfl) (by decide) hR (by decide) (n := 3) rfl rfl (Nat.le_of_ble_eq_true rfl) hl.1 dX12_skips_13 (fun r_3 μ2 ρ d0 H locs hr_r_3 hp G => ?_)
    have hr_r_3 : -2147483648 ≤ r_3 ∧ r_3 ≤ 2147483647 := hr_r_3
    obtain ⟨F_4, hp_5, hp_6, hp_7, hp_8⟩ := hp
    refine lv_goto (tgt := 20) hx hb dX12_skips_16 (by decide) ?_
    exact xr_i G (x := r_3) hret hlk (by unfold ir; omega) rfl dX12_skips_20 ⟨(FrM.tr FrM.rf F_4 (by decide)), (fun j hj => (hp_5 j (fun h9 => hj ((by decide : ∀ x ∈ ([22] : List Int), x ∈ ([22] : List Int)) j h9)))), (Or.inl ⟨by omega, hp_6, by omega, by omega⟩), (by omega)⟩

set_option maxHeartbeats 4000000 in
set_option maxRecDepth 100000 in
theorem c_X12_landsSkip (ω : Om) (l : Launch) (μ : M3) (x1 : Int) (hx1 : ir x1) (hcd : 0 ≤ μ.1 111 22 ∧ μ.1 111 22 ≤ 8995) (hq : x1 = -1 ∨ (0 ≤ x1 ∧ x1 < μ.1 111 22)) : CtV ω l yX12_landsSkip cX12_landsSkip 2 1 21 [.ref (oP ω 111), .int (iv x1)] μ (fun (μ' : M3) => (FrM [116] μ μ') ∧ (mAIM μ μ' (lsk x1) (μ.1 111 22)) ∧ (μ'.1 111 22 = μ.1 111 22)) := by
  refine CtV.go (by decide) (Nat.le_of_ble_eq_true rfl) (fun ρ p e s m below meth c R ls G hR hret hlk hl => ?_)
  have hx := G.1.1
  have hb := G.1.2.1
  have hl : lv_has ls 2 [(0, .ref (oP ω 111)), (1, .int (iv x1))] := hl
  generalize s.drawn = d0 at G ⊢
  have hr_x1 : -2147483648 ≤ x1 ∧ x1 ≤ 2147483647 := hx1
  refine lv_iload_n hx hb dX12_landsSkip_0 rfl (lv_at hl 1 rfl) ?_
  refine lv_iconst (v := iv (-1)) hx hb dX12_landsSkip_1 rfl ?_
  refine xb_icmp_eq (tgt := 10) hx hb (by unfold ir; omega) (by unfold ir; omega) dX12_landsSkip_2 (by decide) (fun c_2 => ?_) (fun c_2 => ?_)
  · exact xr_v G hret hlk dX12_landsSkip_10 ⟨FrM.rf, (by rw [show lsk x1 = [] from if_pos (by omega)]; exact mAIM.nil q0m.rf), (by omega)⟩
  · refine lv_aload_n hx hb dX12_landsSkip_5 rfl (lv_at hl 0 rfl) ?_
    refine lv_iload_n hx hb dX12_landsSkip_6 rfl (lv_at hl 1 rfl) ?_
    refine xc_vV G (b := 111) (rest := []) (As := [.int (iv x1)]) (c_X12_lands ω l μ x1 (by unfold ir; omega) (by omega) (by omega)) (wm 9 167 rfl rfl) (wm 9 169 rfl rfl) (wm 0 154 rfl rfl) rfl rfl (by decide) rfl (wm 1 18 rfl rfl) (wm 9 170 rfl rfl) (by decide) hR (by decide) (n := 1) rfl rfl (Nat.le_of_ble_eq_true rfl) hl.1 dX12_landsSkip_7 (fun μ1 ρ d0 H locs hp G => ?_)
    obtain ⟨F_2, hp_3⟩ := hp
    have e_4 : μ1.1 111 22 = μ.1 111 22 := (F_2.1 111 (by decide) 22)
    exact xr_v G hret hlk dX12_landsSkip_10 ⟨(FrM.tr FrM.rf F_2 (by decide)), (by rw [show lsk x1 = [x1] from if_neg (by omega)]; exact mAIM.one hp_3), (by omega)⟩

set_option maxHeartbeats 4000000 in
set_option maxRecDepth 100000 in
theorem c_X12_wrong2 (ω : Om) (l : Launch) (μ : M3) (x1 : Int) (hx1 : ir x1) (hx1n : 0 ≤ x1) : CtV ω l yX12_wrong2 cX12_wrong2 2 0 0 [.ref (oP ω 111), .int (iv x1)] μ (fun (μ' : M3) => (FrM [111] μ μ') ∧ (∀ j, j ∉ ([16] : List Int) → μ'.1 111 j = μ.1 111 j) ∧ (bd μ' = 1 ∧ wr μ' = wr μ ∧ nn μ' = nn μ)) := by
  refine CtV.go (by decide) (Nat.le_of_ble_eq_true rfl) (fun ρ p e s m below meth c R ls G hR hret hlk hl => ?_)
  have hx := G.1.1
  have hb := G.1.2.1
  have hl : lv_has ls 2 [(0, .ref (oP ω 111)), (1, .int (iv x1))] := hl
  generalize s.drawn = d0 at G ⊢
  have hr_x1 : -2147483648 ≤ x1 ∧ x1 ≤ 2147483647 := hx1
  have hw_0 := wr_r (μ := μ)
  refine lv_aload_n hx hb dX12_wrong2_0 rfl (lv_at hl 0 rfl) ?_
  refine xa_geti G fd_X12 (a := 111) (x := μ.1 111 16) 16 rfl (by decide) rfl (wm 7 165 rfl rfl) ⟨rfl, rfl, rfl⟩ dX12_wrong2_1 rfl rfl ?_
  have hr_1 : -2147483648 ≤ μ.1 111 16 ∧ μ.1 111 16 ≤ 2147483647 := by have h9 := G.hr (a := 111) (k := 16) rfl; exact h9
  refine lv_iconst (v := iv (-1)) hx hb dX12_wrong2_4 rfl ?_
  refine xb_icmp_ne (tgt := 13) hx hb (by unfold ir; omega) (by unfold ir; omega) dX12_wrong2_5 (by decide) (fun c_5 => ?_) (fun c_5 => ?_)
  · exact xr_v G hret hlk dX12_wrong2_13 ⟨FrM.rf, (fun j hj => rfl), (by refine ⟨bd_2 (by omega), ?_, ?_⟩; exact rfl; exact rfl)⟩
  · refine lv_aload_n hx hb dX12_wrong2_8 rfl (lv_at hl 0 rfl) ?_
    refine lv_iload_n hx hb dX12_wrong2_9 rfl (lv_at hl 1 rfl) ?_
    refine xa_puti G fd_X12 (a := 111) (x := x1) 16 (kz := 16) rfl rfl (by decide) rfl (by unfold ir; omega) (wm 7 165 rfl rfl) ⟨rfl, rfl, rfl, rfl⟩ rfl dX12_wrong2_10 rfl (fun H locs G => ?_)
    exact xr_v G hret hlk dX12_wrong2_13 ⟨(FrM.put FrM.rf (by decide)), (fun j hj => (sv_n _ (fun h9 => hj (by rw [h9.2]; decide)))), (by refine ⟨bd_2 (by rw [show (sv μ 111 16 x1).1 111 16 = x1 from (sv_s _ _ _ _)]; omega), ?_, ?_⟩; exact (wr_cg (sv_n _ (by decide))); exact (nn_cg (sv_n _ (by decide)) (sv_n _ (by decide))))⟩

set_option maxHeartbeats 4000000 in
set_option maxRecDepth 100000 in
theorem c_X12_wrong3 (ω : Om) (l : Launch) (μ : M3) (x1 : Int) (hx1 : ir x1) (hx1n : 0 ≤ x1) : CtV ω l yX12_wrong3 cX12_wrong3 2 0 0 [.ref (oP ω 111), .int (iv x1)] μ (fun (μ' : M3) => (FrM [111] μ μ') ∧ (∀ j, j ∉ ([17] : List Int) → μ'.1 111 j = μ.1 111 j) ∧ (bd μ' = 1 ∧ wr μ' = wr μ ∧ nn μ' = nn μ)) := by
  refine CtV.go (by decide) (Nat.le_of_ble_eq_true rfl) (fun ρ p e s m below meth c R ls G hR hret hlk hl => ?_)
  have hx := G.1.1
  have hb := G.1.2.1
  have hl : lv_has ls 2 [(0, .ref (oP ω 111)), (1, .int (iv x1))] := hl
  generalize s.drawn = d0 at G ⊢
  have hr_x1 : -2147483648 ≤ x1 ∧ x1 ≤ 2147483647 := hx1
  have hw_0 := wr_r (μ := μ)
  refine lv_aload_n hx hb dX12_wrong3_0 rfl (lv_at hl 0 rfl) ?_
  refine xa_geti G fd_X12 (a := 111) (x := μ.1 111 17) 17 rfl (by decide) rfl (wm 7 166 rfl rfl) ⟨rfl, rfl, rfl⟩ dX12_wrong3_1 rfl rfl ?_
  have hr_1 : -2147483648 ≤ μ.1 111 17 ∧ μ.1 111 17 ≤ 2147483647 := by have h9 := G.hr (a := 111) (k := 17) rfl; exact h9
  refine lv_iconst (v := iv (-1)) hx hb dX12_wrong3_4 rfl ?_
  refine xb_icmp_ne (tgt := 13) hx hb (by unfold ir; omega) (by unfold ir; omega) dX12_wrong3_5 (by decide) (fun c_5 => ?_) (fun c_5 => ?_)
  · exact xr_v G hret hlk dX12_wrong3_13 ⟨FrM.rf, (fun j hj => rfl), (by refine ⟨bd_3 (by omega), ?_, ?_⟩; exact rfl; exact rfl)⟩
  · refine lv_aload_n hx hb dX12_wrong3_8 rfl (lv_at hl 0 rfl) ?_
    refine lv_iload_n hx hb dX12_wrong3_9 rfl (lv_at hl 1 rfl) ?_
    refine xa_puti G fd_X12 (a := 111) (x := x1) 17 (kz := 17) rfl rfl (by decide) rfl (by unfold ir; omega) (wm 7 166 rfl rfl) ⟨rfl, rfl, rfl, rfl⟩ rfl dX12_wrong3_10 rfl (fun H locs G => ?_)
    exact xr_v G hret hlk dX12_wrong3_13 ⟨(FrM.put FrM.rf (by decide)), (fun j hj => (sv_n _ (fun h9 => hj (by rw [h9.2]; decide)))), (by refine ⟨bd_3 (by rw [show (sv μ 111 17 x1).1 111 17 = x1 from (sv_s _ _ _ _)]; omega), ?_, ?_⟩; exact (wr_cg (sv_n _ (by decide))); exact (nn_cg (sv_n _ (by decide)) (sv_n _ (by decide))))⟩

set_option maxHeartbeats 4000000 in
set_option maxRecDepth 100000 in
theorem c_X12_nameOf (ω : Om) (l : Launch) (μ : M3) (x1 : Int) (hx1 : jr x1) (hnm : 12 ≤ μ.1 111 4 ∧ μ.1 111 4 ≤ 52) : CtI ω l yX12_nameOf cX12_nameOf 4 .int 0 0 [.ref (oP ω 111), .long (jv x1)] μ (fun (r : Int) (μ' : M3) => (μ' = μ) ∧ (r = -1 ∨ (1 ≤ r ∧ r < μ.1 111 4))) := by
  refine CtI.go (by decide) (Nat.le_of_ble_eq_true rfl) (fun ρ p e s m below meth c R ls G hR hret hlk hl => ?_)
  have hx := G.1.1
  have hb := G.1.2.1
  have hl : lv_has ls 4 [(0, .ref (oP ω 111)), (1, .long (jv x1))] := hl
  generalize s.drawn = d0 at G ⊢
  refine lv_iconst (v := iv 1) hx hb dX12_nameOf_0 rfl ?_
  refine lv_istore_n (lv' := [(3, .int (iv 1)), (0, .ref (oP ω 111)), (1, .long (jv x1))]) hx hb dX12_nameOf_1 rfl hl (by decide) rfl (fun ls hl => ?_)
  refine xl (fun n_9 μ' ls => ∃ (k9 : Int), (μ' = μ) ∧ (-2147483648 ≤ k9 ∧ k9 ≤ 2147483647) ∧ (1 ≤ k9) ∧ (k9 ≤ 52) ∧ n_9 = Int.toNat (52 - k9) ∧ lv_has ls 4 [(3, .int (iv k9)), (0, .ref (oP ω 111)), (1, .long (jv x1))]) (fun n_9 ρ μL1 d0 H locs ls hI_l G ih => ?_) _ _ _ _ _ _ _ ⟨1, rfl, (by omega), (by omega), (by omega), rfl, lv_sub hl [0, 1, 2] rfl⟩ G
  obtain ⟨k9, FL2, hi_4, hi_5, hi_6, hn3, hl⟩ := hI_l
  have FL2 := Eq.symm FL2
  subst FL2
  refine lv_iload_n hx hb dX12_nameOf_2 rfl (lv_at hl 0 rfl) ?_
  refine lv_aload_n hx hb dX12_nameOf_3 rfl (lv_at hl 1 rfl) ?_
  refine xa_geti G fd_X12 (a := 111) (x := μ.1 111 4) 4 rfl (by decide) rfl (wm 7 153 rfl rfl) ⟨rfl, rfl, rfl⟩ dX12_nameOf_4 rfl rfl ?_
  have hr_7 : -2147483648 ≤ μ.1 111 4 ∧ μ.1 111 4 ≤ 2147483647 := by have h9 := G.hr (a := 111) (k := 4) rfl; exact h9
  refine xb_icmp_ge (tgt := 29) hx hb (by unfold ir; omega) (by unfold ir; omega) dX12_nameOf_7 (by decide) (fun c_7 => ?_) (fun c_7 => ?_)
  · refine lv_iconst (v := iv (-1)) hx hb dX12_nameOf_29 rfl ?_
    exact xr_i G (x := (-1)) hret hlk (by unfold ir; omega) rfl dX12_nameOf_30 ⟨rfl, (by omega)⟩
  · refine lv_aload_n hx hb dX12_nameOf_10 rfl (lv_at hl 1 rfl) ?_
    refine xa_getr G fd_X12 (a := 111) (x := 113) 3 rfl (by decide) rfl (wm 7 152 rfl rfl) ⟨rfl, rfl, rfl⟩ dX12_nameOf_11 rfl (G.sk 111 rfl) (by decide) rfl ?_
    refine lv_iload_n hx hb dX12_nameOf_14 rfl (lv_at hl 0 rfl) ?_
    refine xa_lald G (a := 113) (i := k9) rfl (by have h9 := G.lc (a := 113) (n := 64) 51 rfl; omega) dX12_nameOf_15 rfl ?_
    have hj_8 : jr (μ.1 113 k9) := (by have h9 := G.hj (a := 113) (k := k9) rfl; exact h9)
    refine lv_lload_n hx hb dX12_nameOf_16 rfl (lv_at hl 2 rfl) ?_
    refine xb_lcmp hx hb hj_8 hx1 dX12_nameOf_17 ?_
    have hr_9 : -2147483648 ≤ lcm (μ.1 113 k9) x1 ∧ lcm (μ.1 113 k9) x1 ≤ 2147483647 := lcm_ir _ _
    refine xb_if_ne (tgt := 23) hx hb (by unfold ir; omega) dX12_nameOf_18 (by decide) (fun c_18 => ?_) (fun c_18 => ?_)
    · refine lv_iinc (v := iv (k9 + 1)) (lv' := [(3, .int (iv (k9 + 1))), (0, .ref (oP ω 111)), (1, .long (jv x1))]) hx hb dX12_nameOf_23 hl (k := 0) rfl (by rw [show Int32.ofInt 1 = iv 1 from rfl, iv_add]) (by decide) rfl (fun ls hl => ?_)
      refine lv_goto (tgt := 2) hx hb dX12_nameOf_26 (by decide) ?_
      exact ih _ _ _ _ _ _ _ (by omega) ⟨k9 + 1, rfl, (by omega), (by omega), (by omega), rfl, lv_sub hl [0, 1, 2] rfl⟩ G
    · refine lv_iload_n hx hb dX12_nameOf_21 rfl (lv_at hl 0 rfl) ?_
      exact xr_i G (x := k9) hret hlk (by unfold ir; omega) rfl dX12_nameOf_22 ⟨rfl, (by omega)⟩

set_option maxHeartbeats 4000000 in
set_option maxRecDepth 100000 in
theorem c_X12_name (ω : Om) (l : Launch) (μ : M3) (x1 : Int) (x2 : Int) (hx1 : ir x1) (hx2 : jr x2) (hPM : PM μ) (hnn : 0 ≤ nn μ ∧ nn μ ≤ 9 ∧ 9 * wr μ ≤ nn μ) (hx1n : 0 ≤ x1) : CtI ω l yX12_name cX12_name 6 .int 1 23 [.ref (oP ω 111), .int (iv x1), .long (jv x2)] μ (fun (r : Int) (μ' : M3) => (FrM [111, 113, 123] μ μ') ∧ (∀ j, j ∉ ([16, 29] : List Int) → μ'.1 111 j = μ.1 111 j) ∧ (PM μ') ∧ (1 ≤ r ∧ r < μ'.1 111 29) ∧ (μ.1 111 29 ≤ μ'.1 111 29) ∧ (bd μ ≤ bd μ')) := by
  refine CtI.go (by decide) (Nat.le_of_ble_eq_true rfl) (fun ρ p e s m below meth c R ls G hR hret hlk hl => ?_)
  have hx := G.1.1
  have hb := G.1.2.1
  have hl : lv_has ls 6 [(0, .ref (oP ω 111)), (1, .int (iv x1)), (2, .long (jv x2))] := hl
  generalize s.drawn = d0 at G ⊢
  have hr_x1 : -2147483648 ≤ x1 ∧ x1 ≤ 2147483647 := hx1
  have hw_0 := wr_r (μ := μ)
  have hpp_ := hPM.1.2.1
  have hpn_ := hPM.2.1
  have hpt_ := hPM.1.2.2.2.1
  have hpw_ := hPM.1.2.2.2.2.1
  have hpa_ := hPM.1.1
  refine lv_aload_n hx hb dX12_name_0 rfl (lv_at hl 0 rfl) ?_
  refine lv_lload_n hx hb dX12_name_1 rfl (lv_at hl 2 rfl) ?_
  refine xc_iV G (b := 111) (rest := []) (As := [.long (jv x2)]) (c_X12_nameOf ω l μ x2 hx2 (by omega)) (wm 9 211 rfl rfl) (wm 9 213 rfl rfl) (wm 0 165 rfl rfl) rfl rfl (by decide) rfl (wm 1 18 rfl rfl) (wm 9 214 rfl rfl) (by decide) hR (by decide) (n := 1) rfl rfl (Nat.le_of_ble_eq_true rfl) hl.1 dX12_name_2 (fun r_2 μ1 ρ d0 H locs hr_r_2 hp G => ?_)
  have hr_r_2 : -2147483648 ≤ r_2 ∧ r_2 ≤ 2147483647 := hr_r_2
  obtain ⟨hsm_3, hp_4⟩ := hp
  have hsm_3 := Eq.symm hsm_3
  subst hsm_3
  refine lv_istore (lv' := [(4, .int (iv r_2)), (0, .ref (oP ω 111)), (1, .int (iv x1)), (2, .long (jv x2))]) hx hb dX12_name_5 hl (by decide) rfl (fun ls hl => ?_)
  refine lv_iload hx hb dX12_name_7 (lv_at hl 0 rfl) ?_
  refine lv_iconst (v := iv (-1)) hx hb dX12_name_9 rfl ?_
  refine xb_icmp_eq (tgt := 16) hx hb (by unfold ir; omega) (by unfold ir; omega) dX12_name_10 (by decide) (fun c_10 => ?_) (fun c_10 => ?_)
  · refine lv_aload_n hx hb dX12_name_16 rfl (lv_at hl 1 rfl) ?_
    refine xa_geti G fd_X12 (a := 111) (x := μ.1 111 4) 4 rfl (by decide) rfl (wm 7 153 rfl rfl) ⟨rfl, rfl, rfl⟩ dX12_name_17 rfl rfl ?_
    have hr_5 : -2147483648 ≤ μ.1 111 4 ∧ μ.1 111 4 ≤ 2147483647 := by have h9 := G.hr (a := 111) (k := 4) rfl; exact h9
    refine lv_istore (lv' := [(5, .int (iv (μ.1 111 4))), (4, .int (iv r_2)), (0, .ref (oP ω 111)), (1, .int (iv x1)), (2, .long (jv x2))]) hx hb dX12_name_20 hl (by decide) rfl (fun ls hl => ?_)
    refine xl (fun n_9 μ' ls => ∃ (k9 : Int), (μ' = μ) ∧ (-2147483648 ≤ k9 ∧ k9 ≤ 2147483647) ∧ (12 ≤ k9) ∧ (k9 ≤ 52) ∧ n_9 = Int.toNat (52 - k9) ∧ lv_has ls 6 [(5, .int (iv k9)), (4, .int (iv r_2)), (0, .ref (oP ω 111)), (1, .int (iv x1)), (2, .long (jv x2))]) (fun n_9 ρ μL6 d0 H locs ls hI_l G ih => ?_) _ _ _ _ _ _ _ ⟨μ.1 111 4, rfl, (by omega), (by omega), (by omega), rfl, lv_sub hl [0, 1, 2, 3, 4] rfl⟩ G
    obtain ⟨k9, FL7, hi_9, hi_10, hi_11, hn8, hl⟩ := hI_l
    have FL7 := Eq.symm FL7
    subst FL7
    refine lv_iload hx hb dX12_name_22 (lv_at hl 0 rfl) ?_
    refine lv_aload_n hx hb dX12_name_24 rfl (lv_at hl 2 rfl) ?_
    refine xa_geti G fd_X12 (a := 111) (x := μ.1 111 29) 29 rfl (by decide) rfl (wm 7 178 rfl rfl) ⟨rfl, rfl, rfl⟩ dX12_name_25 rfl rfl ?_
    have hr_12 : -2147483648 ≤ μ.1 111 29 ∧ μ.1 111 29 ≤ 2147483647 := by have h9 := G.hr (a := 111) (k := 29) rfl; exact h9
    refine xb_icmp_ge (tgt := 52) hx hb (by unfold ir; omega) (by unfold ir; omega) dX12_name_28 (by decide) (fun c_28 => ?_) (fun c_28 => ?_)
    · refine lv_aload_n hx hb dX12_name_52 rfl (lv_at hl 2 rfl) ?_
      refine xa_geti G fd_X12 (a := 111) (x := μ.1 111 29) 29 rfl (by decide) rfl (wm 7 178 rfl rfl) ⟨rfl, rfl, rfl⟩ dX12_name_53 rfl rfl ?_
      refine lv_bipush (v := iv 52) hx hb dX12_name_56 rfl ?_
      refine xb_icmp_ne (tgt := 77) hx hb (by unfold ir; omega) (by unfold ir; omega) dX12_name_58 (by decide) (fun c_58 => ?_) (fun c_58 => ?_)
      · refine lv_aload_n hx hb dX12_name_77 rfl (lv_at hl 2 rfl) ?_
        refine xa_getr G fd_X12 (a := 111) (x := 113) 3 rfl (by decide) rfl (wm 7 152 rfl rfl) ⟨rfl, rfl, rfl⟩ dX12_name_78 rfl (G.sk 111 rfl) (by decide) rfl ?_
        refine lv_aload_n hx hb dX12_name_81 rfl (lv_at hl 2 rfl) ?_
        refine xa_geti G fd_X12 (a := 111) (x := μ.1 111 29) 29 rfl (by decide) rfl (wm 7 178 rfl rfl) ⟨rfl, rfl, rfl⟩ dX12_name_82 rfl rfl ?_
        refine lv_lload_n hx hb dX12_name_85 rfl (lv_at hl 4 rfl) ?_
        refine xa_last G (a := 113) (i := μ.1 111 29) (x := x2) rfl (by have h9 := G.lc (a := 113) (n := 64) 51 rfl; omega) hx2 dX12_name_86 rfl (fun H locs G => ?_)
        refine lv_aload_n hx hb dX12_name_87 rfl (lv_at hl 2 rfl) ?_
        refine xa_getr G fd_X12 (a := 111) (x := 123) 28 rfl (by decide) rfl (wm 7 177 rfl rfl) ⟨rfl, rfl, rfl⟩ dX12_name_88 rfl (G.sk 121 rfl) (by decide) rfl ?_
        refine lv_aload_n hx hb dX12_name_91 rfl (lv_at hl 2 rfl) ?_
        refine xa_geti G fd_X12 (a := 111) (x := μ.1 111 29) 29 rfl (by decide) rfl (wm 7 178 rfl rfl) ⟨rfl, rfl, rfl⟩ dX12_name_92 rfl (sv_n _ (fun h9 => absurd h9.1 (by decide))) ?_
        refine lv_bipush (v := iv 10) hx hb dX12_name_95 rfl ?_
        refine xa_iast G (a := 123) (i := μ.1 111 29) (x := 10) rfl (by have h9 := G.lc (a := 123) (n := 64) 61 rfl; omega) (by unfold ir; omega) dX12_name_97 rfl (fun H locs G => ?_)
        refine lv_aload_n hx hb dX12_name_98 rfl (lv_at hl 2 rfl) ?_
        refine lv_dup hx hb dX12_name_99 rfl ?_
        refine xa_geti G fd_X12 (a := 111) (x := μ.1 111 29) 29 rfl (by decide) rfl (wm 7 178 rfl rfl) ⟨rfl, rfl, rfl⟩ dX12_name_100 rfl ((sv_n _ (fun h9 => absurd h9.1 (by decide))).trans (sv_n _ (fun h9 => absurd h9.1 (by decide)))) ?_
        refine lv_iconst (v := iv 1) hx hb dX12_name_103 rfl ?_
        refine xb_iadd hx hb dX12_name_104 ?_
        refine xa_puti G fd_X12 (a := 111) (x := (μ.1 111 29) + 1) 29 (kz := 29) rfl rfl (by decide) rfl (by unfold ir; omega) (wm 7 178 rfl rfl) ⟨rfl, rfl, rfl, rfl⟩ rfl dX12_name_105 rfl (fun H locs G => ?_)
        refine lv_aload_n hx hb dX12_name_108 rfl (lv_at hl 2 rfl) ?_
        refine xa_geti G fd_X12 (a := 111) (x := (μ.1 111 29) + 1) 29 rfl (by decide) rfl (wm 7 178 rfl rfl) ⟨rfl, rfl, rfl⟩ dX12_name_109 rfl (sv_s _ _ _ _) ?_
        have hr_13 : -2147483648 ≤ (μ.1 111 29) + 1 ∧ (μ.1 111 29) + 1 ≤ 2147483647 := by have h9 := G.hr (a := 111) (k := 29) rfl; rw [show (sv (sv (sv μ 113 (μ.1 111 29) x2) 123 (μ.1 111 29) 10) 111 29 ((μ.1 111 29) + 1)).1 111 29 = (μ.1 111 29) + 1 from (sv_s _ _ _ _)] at h9; exact h9
        refine lv_iconst (v := iv 1) hx hb dX12_name_112 rfl ?_
        refine xb_isub hx hb dX12_name_113 ?_
        refine xb_ti (y := (μ.1 111 29)) (by omega) ?_
        have e_14 : wr (sv (sv (sv μ 113 (μ.1 111 29) x2) 123 (μ.1 111 29) 10) 111 29 ((μ.1 111 29) + 1)) = wr μ := ((wr_cg (sv_n _ (by decide))).trans ((wr_cg (sv_n _ (fun h9 => absurd h9.1 (by decide)))).trans (wr_cg (sv_n _ (fun h9 => absurd h9.1 (by decide))))))
        have e_15 : bd (sv (sv (sv μ 113 (μ.1 111 29) x2) 123 (μ.1 111 29) 10) 111 29 ((μ.1 111 29) + 1)) = bd μ := ((bd_cg (sv_n _ (by decide)) (sv_n _ (by decide)) (sv_n _ (by decide))).trans ((bd_cg (sv_n _ (fun h9 => absurd h9.1 (by decide))) (sv_n _ (fun h9 => absurd h9.1 (by decide))) (sv_n _ (fun h9 => absurd h9.1 (by decide)))).trans (bd_cg (sv_n _ (fun h9 => absurd h9.1 (by decide))) (sv_n _ (fun h9 => absurd h9.1 (by decide))) (sv_n _ (fun h9 => absurd h9.1 (by decide))))))
        have e_16 : nn (sv (sv (sv μ 113 (μ.1 111 29) x2) 123 (μ.1 111 29) 10) 111 29 ((μ.1 111 29) + 1)) = nn μ := ((nn_cg (sv_n _ (by decide)) (sv_n _ (by decide))).trans ((nn_cg (sv_n _ (fun h9 => absurd h9.1 (by decide))) (sv_n _ (fun h9 => absurd h9.1 (by decide)))).trans (nn_cg (sv_n _ (fun h9 => absurd h9.1 (by decide))) (sv_n _ (fun h9 => absurd h9.1 (by decide))))))
        have hPM_17 : PM (sv (sv (sv μ 113 (μ.1 111 29) x2) 123 (μ.1 111 29) 10) 111 29 ((μ.1 111 29) + 1)) := ⟨hPM.1.cg (fun k hk => (sv_n _ (fun h9 => absurd h9.2 (by intro z; rw [z] at hk; exact absurd hk (by decide)))).trans ((sv_n _ (fun h9 => absurd h9.1 (by decide))).trans (sv_n _ (fun h9 => absurd h9.1 (by decide))))), ⟨by rw [show (sv (sv (sv μ 113 (μ.1 111 29) x2) 123 (μ.1 111 29) 10) 111 29 ((μ.1 111 29) + 1)).1 111 4 = μ.1 111 4 from ((sv_n _ (by decide)).trans ((sv_n _ (fun h9 => absurd h9.1 (by decide))).trans (sv_n _ (fun h9 => absurd h9.1 (by decide))))), show (sv (sv (sv μ 113 (μ.1 111 29) x2) 123 (μ.1 111 29) 10) 111 29 ((μ.1 111 29) + 1)).1 111 29 = μ.1 111 29 + 1 from (sv_s _ _ _ _)]; omega, by rw [show (sv (sv (sv μ 113 (μ.1 111 29) x2) 123 (μ.1 111 29) 10) 111 29 ((μ.1 111 29) + 1)).1 111 29 = μ.1 111 29 + 1 from (sv_s _ _ _ _)]; exact hPM.2.2.new (by omega) ((sv_n _ (fun h9 => absurd h9.1 (by decide))).trans (sv_s _ _ _ _)) (fun j hj => ((sv_n _ (by omega)).trans ((sv_n _ (by omega)).trans (sv_n _ (by omega)))))⟩⟩
        have e_18 : (sv (sv (sv μ 113 (μ.1 111 29) x2) 123 (μ.1 111 29) 10) 111 29 ((μ.1 111 29) + 1)).1 111 29 = (μ.1 111 29) + 1 := (sv_s _ _ _ _)
        have e_19 : (sv (sv (sv μ 113 (μ.1 111 29) x2) 123 (μ.1 111 29) 10) 111 29 ((μ.1 111 29) + 1)).1 111 29 = (μ.1 111 29) + 1 := (sv_s _ _ _ _)
        have e_20 : bd (sv (sv (sv μ 113 (μ.1 111 29) x2) 123 (μ.1 111 29) 10) 111 29 ((μ.1 111 29) + 1)) = bd μ := ((bd_cg (sv_n _ (by decide)) (sv_n _ (by decide)) (sv_n _ (by decide))).trans ((bd_cg (sv_n _ (fun h9 => absurd h9.1 (by decide))) (sv_n _ (fun h9 => absurd h9.1 (by decide))) (sv_n _ (fun h9 => absurd h9.1 (by decide)))).trans (bd_cg (sv_n _ (fun h9 => absurd h9.1 (by decide))) (sv_n _ (fun h9 => absurd h9.1 (by decide))) (sv_n _ (fun h9 => absurd h9.1 (by decide))))))
        exact xr_i G (x := (μ.1 111 29)) hret hlk (by unfold ir; omega) rfl dX12_name_114 ⟨(FrM.put (FrM.put (FrM.put FrM.rf (by decide)) (by decide)) (by decide)), (fun j hj => ((sv_n _ (fun h9 => hj (by rw [h9.2]; decide))).trans ((sv_n _ (fun h9 => absurd h9.1 (by decide))).trans (sv_n _ (fun h9 => absurd h9.1 (by decide)))))), hPM_17, (by omega), (by omega), (by omega)⟩
      · refine lv_aload_n hx hb dX12_name_61 rfl (lv_at hl 2 rfl) ?_
        refine xa_geti G fd_X12 (a := 111) (x := μ.1 111 16) 16 rfl (by decide) rfl (wm 7 165 rfl rfl) ⟨rfl, rfl, rfl⟩ dX12_name_62 rfl rfl ?_
        have hr_21 : -2147483648 ≤ μ.1 111 16 ∧ μ.1 111 16 ≤ 2147483647 := by have h9 := G.hr (a := 111) (k := 16) rfl; exact h9
        refine lv_iconst (v := iv (-1)) hx hb dX12_name_65 rfl ?_
        refine xb_icmp_ne (tgt := 74) hx hb (by unfold ir; omega) (by unfold ir; omega) dX12_name_66 (by decide) (fun c_66 => ?_) (fun c_66 => ?_)
        · refine lv_bipush (v := iv 10) hx hb dX12_name_74 rfl ?_
          have hb2_ : bd μ = 1 := bd_2 (by rw [show μ.1 111 16 = μ.1 111 16 from rfl]; omega)
          exact xr_i G (x := 10) hret hlk (by unfold ir; omega) rfl dX12_name_76 ⟨FrM.rf, (fun j hj => rfl), hPM, (by omega), (by omega), (by omega)⟩
        · refine lv_aload_n hx hb dX12_name_69 rfl (lv_at hl 2 rfl) ?_
          refine lv_iload_n hx hb dX12_name_70 rfl (lv_at hl 3 rfl) ?_
          refine xa_puti G fd_X12 (a := 111) (x := x1) 16 (kz := 16) rfl rfl (by decide) rfl (by unfold ir; omega) (wm 7 165 rfl rfl) ⟨rfl, rfl, rfl, rfl⟩ rfl dX12_name_71 rfl (fun H locs G => ?_)
          refine lv_bipush (v := iv 10) hx hb dX12_name_74 rfl ?_
          have e_22 : wr (sv μ 111 16 x1) = wr μ := (wr_cg (sv_n _ (by decide)))
          have hw_23 := wr_r (μ := (sv μ 111 16 x1))
          have e_24 : nn (sv μ 111 16 x1) = nn μ := (nn_cg (sv_n _ (by decide)) (sv_n _ (by decide)))
          have hb2_ : bd (sv μ 111 16 x1) = 1 := bd_2 (by rw [show (sv μ 111 16 x1).1 111 16 = x1 from (sv_s _ _ _ _)]; omega)
          have hPM_25 : PM (sv μ 111 16 x1) := hPM.cg (sv_n _ (by decide)) (sv_n _ (by decide)) (sv_n _ (by decide)) (sv_n _ (by decide)) (sv_n _ (by decide)) (sv_n _ (by decide)) (sv_n _ (by decide)) (sv_n _ (by decide)) (sv_n _ (by decide)) (sv_n _ (by decide)) (fun j => (sv_n _ (by omega)))
          have e_26 : (sv μ 111 16 x1).1 111 29 = μ.1 111 29 := (sv_n _ (by decide))
          have e_27 : (sv μ 111 16 x1).1 111 29 = μ.1 111 29 := (sv_n _ (by decide))
          exact xr_i G (x := 10) hret hlk (by unfold ir; omega) rfl dX12_name_76 ⟨(FrM.put FrM.rf (by decide)), (fun j hj => (sv_n _ (fun h9 => hj (by rw [h9.2]; decide)))), hPM_25, (by omega), (by omega), (by omega)⟩
    · refine lv_aload_n hx hb dX12_name_31 rfl (lv_at hl 2 rfl) ?_
      refine xa_getr G fd_X12 (a := 111) (x := 113) 3 rfl (by decide) rfl (wm 7 152 rfl rfl) ⟨rfl, rfl, rfl⟩ dX12_name_32 rfl (G.sk 111 rfl) (by decide) rfl ?_
      refine lv_iload hx hb dX12_name_35 (lv_at hl 0 rfl) ?_
      refine xa_lald G (a := 113) (i := k9) rfl (by have h9 := G.lc (a := 113) (n := 64) 51 rfl; omega) dX12_name_37 rfl ?_
      have hj_28 : jr (μ.1 113 k9) := (by have h9 := G.hj (a := 113) (k := k9) rfl; exact h9)
      refine lv_lload_n hx hb dX12_name_38 rfl (lv_at hl 4 rfl) ?_
      refine xb_lcmp hx hb hj_28 hx2 dX12_name_39 ?_
      have hr_29 : -2147483648 ≤ lcm (μ.1 113 k9) x2 ∧ lcm (μ.1 113 k9) x2 ≤ 2147483647 := lcm_ir _ _
      refine xb_if_ne (tgt := 46) hx hb (by unfold ir; omega) dX12_name_40 (by decide) (fun c_40 => ?_) (fun c_40 => ?_)
      · refine lv_iinc (v := iv (k9 + 1)) (lv' := [(5, .int (iv (k9 + 1))), (4, .int (iv r_2)), (0, .ref (oP ω 111)), (1, .int (iv x1)), (2, .long (jv x2))]) hx hb dX12_name_46 hl (k := 0) rfl (by rw [show Int32.ofInt 1 = iv 1 from rfl, iv_add]) (by decide) rfl (fun ls hl => ?_)
        refine lv_goto (tgt := 22) hx hb dX12_name_49 (by decide) ?_
        exact ih _ _ _ _ _ _ _ (by omega) ⟨k9 + 1, rfl, (by omega), (by omega), (by omega), rfl, lv_sub hl [0, 1, 2, 3, 4] rfl⟩ G
      · refine lv_iload hx hb dX12_name_43 (lv_at hl 0 rfl) ?_
        exact xr_i G (x := k9) hret hlk (by unfold ir; omega) rfl dX12_name_45 ⟨FrM.rf, (fun j hj => rfl), hPM, (by omega), (by omega), (by omega)⟩
  · refine lv_iload hx hb dX12_name_13 (lv_at hl 0 rfl) ?_
    exact xr_i G (x := r_2) hret hlk (by unfold ir; omega) rfl dX12_name_15 ⟨FrM.rf, (fun j hj => rfl), hPM, (by omega), (by omega), (by omega)⟩

set_option maxHeartbeats 4000000 in
set_option maxRecDepth 100000 in
theorem c_X12_takesKind (ω : Om) (l : Launch) (μ : M3) (hPM : PM μ) (hnn : 0 ≤ nn μ ∧ nn μ ≤ 9 ∧ 9 * wr μ ≤ nn μ) : CtI ω l yX12_takesKind cX12_takesKind 4 .int 8 175 [.ref (oP ω 111)] μ (fun (r : Int) (μ' : M3) => (FrM [111, 113, 123] μ μ') ∧ (∀ j, j ∉ ([6, 8, 9, 10, 11, 12, 13, 15, 16, 29] : List Int) → μ'.1 111 j = μ.1 111 j) ∧ (PM μ') ∧ (1 ≤ r ∧ r < μ'.1 111 29) ∧ (μ.1 111 29 ≤ μ'.1 111 29) ∧ (μ.1 111 9 + 1 ≤ μ'.1 111 9 + wr μ') ∧ (μ.1 111 9 ≤ μ'.1 111 9) ∧ (wr μ ≤ wr μ' ∧ bd μ ≤ bd μ') ∧ (nn μ ≤ nn μ' ∧ nn μ' ≤ nn μ + 9 * wr μ' ∧ nn μ' ≤ 9 ∧ 9 * wr μ' ≤ nn μ')) := by
  refine CtI.go (by decide) (Nat.le_of_ble_eq_true rfl) (fun ρ p e s m below meth c R ls G hR hret hlk hl => ?_)
  have hx := G.1.1
  have hb := G.1.2.1
  have hl : lv_has ls 4 [(0, .ref (oP ω 111))] := hl
  generalize s.drawn = d0 at G ⊢
  have hw_0 := wr_r (μ := μ)
  have hpp_ := hPM.1.2.1
  have hpn_ := hPM.2.1
  have hpt_ := hPM.1.2.2.2.1
  have hpw_ := hPM.1.2.2.2.2.1
  have hpa_ := hPM.1.1
  refine lv_aload_n hx hb dX12_takesKind_0 rfl (lv_at hl 0 rfl) ?_
  refine xa_geti G fd_X12 (a := 111) (x := μ.1 111 9) 9 rfl (by decide) rfl (wm 7 158 rfl rfl) ⟨rfl, rfl, rfl⟩ dX12_takesKind_1 rfl rfl ?_
  have hr_1 : -2147483648 ≤ μ.1 111 9 ∧ μ.1 111 9 ≤ 2147483647 := by have h9 := G.hr (a := 111) (k := 9) rfl; exact h9
  refine lv_istore_n (lv' := [(1, .int (iv (μ.1 111 9))), (0, .ref (oP ω 111))]) hx hb dX12_takesKind_4 rfl hl (by decide) rfl (fun ls hl => ?_)
  refine lv_aload_n hx hb dX12_takesKind_5 rfl (lv_at hl 1 rfl) ?_
  refine xc_lV G (b := 111) (rest := []) (As := []) (c_X12_takesName ω l μ  hPM (by omega)) (wm 9 70 rfl rfl) (wm 9 72 rfl rfl) (wm 0 130 rfl rfl) rfl rfl (by decide) rfl (wm 1 18 rfl rfl) (wm 9 73 rfl rfl) (by decide) hR (by decide) (n := 0) rfl rfl (Nat.le_of_ble_eq_true rfl) hl.1 dX12_takesKind_6 (fun r_3 μ2 ρ d0 H locs hr_r_3 hp G => ?_)
  obtain ⟨F_4, hp_5, hp_6, hp_7, hp_8, hp_9, hp_10⟩ := hp
  have hpl_11 := hp_6.pl
  have hw_12 := wr_r (μ := μ2)
  refine lv_lstore_n (lv' := [(2, .long (jv r_3)), (1, .int (iv (μ.1 111 9))), (0, .ref (oP ω 111))]) hx hb dX12_takesKind_9 rfl hl (by decide) rfl (fun ls hl => ?_)
  refine lv_aload_n hx hb dX12_takesKind_10 rfl (lv_at hl 2 rfl) ?_
  refine xc_iV G (b := 111) (rest := []) (As := []) (c_X12_isWrong ω l μ2  ) (wm 9 4 rfl rfl) (wm 9 6 rfl rfl) (wm 0 120 rfl rfl) rfl rfl (by decide) rfl (wm 1 18 rfl rfl) (wm 9 7 rfl rfl) (by decide) hR (by decide) (n := 0) rfl rfl (Nat.le_of_ble_eq_true rfl) hl.1 dX12_takesKind_11 (fun r_14 μ13 ρ d0 H locs hr_r_14 hp G => ?_)
  have hr_r_14 : -2147483648 ≤ r_14 ∧ r_14 ≤ 2147483647 := hr_r_14
  obtain ⟨hsm_15, hp_16⟩ := hp
  have hsm_15 := Eq.symm hsm_15
  subst hsm_15
  refine xb_if_eq (tgt := 22) hx hb (by unfold ir; omega) dX12_takesKind_14 (by decide) (fun c_14 => ?_) (fun c_14 => ?_)
  · refine lv_aload_n hx hb dX12_takesKind_22 rfl (lv_at hl 2 rfl) ?_
    refine lv_iload_n hx hb dX12_takesKind_23 rfl (lv_at hl 1 rfl) ?_
    refine lv_lload_n hx hb dX12_takesKind_24 rfl (lv_at hl 0 rfl) ?_
    have e_17 : μ2.1 111 29 = μ.1 111 29 := (hp_5 29 (by decide))
    refine xc_iV G (b := 111) (rest := []) (As := [.int (iv (μ.1 111 9)), .long (jv r_3)]) (c_X12_name ω l μ2 (μ.1 111 9) r_3 (by unfold ir; omega) hr_r_3 hp_6 (by omega) (by omega)) (wm 9 207 rfl rfl) (wm 9 209 rfl rfl) (wm 0 164 rfl rfl) rfl rfl (by decide) rfl (wm 1 18 rfl rfl) (wm 9 210 rfl rfl) (by decide) hR (by decide) (n := 2) rfl rfl (Nat.le_of_ble_eq_true rfl) hl.1 dX12_takesKind_25 (fun r_19 μ18 ρ d0 H locs hr_r_19 hp G => ?_)
    have hr_r_19 : -2147483648 ≤ r_19 ∧ r_19 ≤ 2147483647 := hr_r_19
    obtain ⟨F_20, hp_21, hp_22, hp_23, hp_24, hp_25⟩ := hp
    have hpl_26 := hp_22.pl
    have hw_27 := wr_r (μ := μ18)
    have e_28 : μ18.1 111 9 = μ2.1 111 9 := (hp_21 9 (by decide))
    have e_29 : wr μ18 = wr μ2 := (wr_cg (hp_21 15 (by decide)))
    have e_30 : μ18.1 111 9 = μ2.1 111 9 := (hp_21 9 (by decide))
    have e_31 : wr μ18 = wr μ2 := (wr_cg (hp_21 15 (by decide)))
    have e_32 : wr μ18 = wr μ2 := (wr_cg (hp_21 15 (by decide)))
    have e_33 : nn μ18 = nn μ2 := (nn_cg (hp_21 15 (by decide)) (hp_21 18 (by decide)))
    exact xr_i G (x := r_19) hret hlk (by unfold ir; omega) rfl dX12_takesKind_28 ⟨(FrM.tr (FrM.tr FrM.rf F_4 (by decide)) F_20 (by decide)), (fun j hj => ((hp_21 j (fun h9 => hj ((by decide : ∀ x ∈ ([16, 29] : List Int), x ∈ ([6, 8, 9, 10, 11, 12, 13, 15, 16, 29] : List Int)) j h9))).trans (hp_5 j (fun h9 => hj ((by decide : ∀ x ∈ ([6, 8, 9, 10, 11, 12, 13, 15] : List Int), x ∈ ([6, 8, 9, 10, 11, 12, 13, 15, 16, 29] : List Int)) j h9))))), hp_22, (by omega), (by omega), (by omega), (by omega), (by omega), (by omega)⟩
  · refine lv_bipush (v := iv 10) hx hb dX12_takesKind_17 rfl ?_
    refine lv_goto (tgt := 28) hx hb dX12_takesKind_19 (by decide) ?_
    have e_34 : μ2.1 111 29 = μ.1 111 29 := (hp_5 29 (by decide))
    have e_35 : μ2.1 111 29 = μ.1 111 29 := (hp_5 29 (by decide))
    exact xr_i G (x := 10) hret hlk (by unfold ir; omega) rfl dX12_takesKind_28 ⟨(FrM.tr FrM.rf F_4 (by decide)), (fun j hj => (hp_5 j (fun h9 => hj ((by decide : ∀ x ∈ ([6, 8, 9, 10, 11, 12, 13, 15] : List Int), x ∈ ([6, 8, 9, 10, 11, 12, 13, 15, 16, 29] : List Int)) j h9)))), hp_6, (by omega), (by omega), (by omega), (by omega), (by omega), (by omega)⟩

set_option maxHeartbeats 4000000 in
set_option maxRecDepth 100000 in
theorem c_X12_slotOf (ω : Om) (l : Launch) (μ : M3) (x1 : Int) (hx1 : jr x1) (hsl : 0 ≤ μ.1 111 31 ∧ μ.1 111 31 ≤ 300) : CtI ω l yX12_slotOf cX12_slotOf 4 .int 0 0 [.ref (oP ω 111), .long (jv x1)] μ (fun (r : Int) (μ' : M3) => (μ' = μ) ∧ (-1 ≤ r ∧ r < μ.1 111 31)) := by
  refine CtI.go (by decide) (Nat.le_of_ble_eq_true rfl) (fun ρ p e s m below meth c R ls G hR hret hlk hl => ?_)
  have hx := G.1.1
  have hb := G.1.2.1
  have hl : lv_has ls 4 [(0, .ref (oP ω 111)), (1, .long (jv x1))] := hl
  generalize s.drawn = d0 at G ⊢
  refine lv_aload_n hx hb dX12_slotOf_0 rfl (lv_at hl 0 rfl) ?_
  refine xa_geti G fd_X12 (a := 111) (x := μ.1 111 31) 31 rfl (by decide) rfl (wm 7 180 rfl rfl) ⟨rfl, rfl, rfl⟩ dX12_slotOf_1 rfl rfl ?_
  have hr_1 : -2147483648 ≤ μ.1 111 31 ∧ μ.1 111 31 ≤ 2147483647 := by have h9 := G.hr (a := 111) (k := 31) rfl; exact h9
  refine lv_iconst (v := iv 1) hx hb dX12_slotOf_4 rfl ?_
  refine xb_isub hx hb dX12_slotOf_5 ?_
  refine lv_istore_n (lv' := [(3, .int (iv ((μ.1 111 31) - 1))), (0, .ref (oP ω 111)), (1, .long (jv x1))]) hx hb dX12_slotOf_6 rfl hl (by decide) rfl (fun ls hl => ?_)
  refine xl (fun n_9 μ' ls => ∃ (k9 : Int), (μ' = μ) ∧ (-2147483648 ≤ k9 ∧ k9 ≤ 2147483647) ∧ (-1 ≤ k9) ∧ (k9 < μ.1 111 31) ∧ n_9 = Int.toNat (k9 + 1) ∧ lv_has ls 4 [(3, .int (iv k9)), (0, .ref (oP ω 111)), (1, .long (jv x1))]) (fun n_9 ρ μL2 d0 H locs ls hI_l G ih => ?_) _ _ _ _ _ _ _ ⟨(μ.1 111 31) - 1, rfl, (by omega), (by omega), (by omega), rfl, lv_sub hl [0, 1, 2] rfl⟩ G
  obtain ⟨k9, FL3, hi_5, hi_6, hi_7, hn4, hl⟩ := hI_l
  have FL3 := Eq.symm FL3
  subst FL3
  refine lv_iload_n hx hb dX12_slotOf_7 rfl (lv_at hl 0 rfl) ?_
  refine xb_if_lt (tgt := 30) hx hb (by unfold ir; omega) dX12_slotOf_8 (by decide) (fun c_8 => ?_) (fun c_8 => ?_)
  · refine lv_iconst (v := iv (-1)) hx hb dX12_slotOf_30 rfl ?_
    exact xr_i G (x := (-1)) hret hlk (by unfold ir; omega) rfl dX12_slotOf_31 ⟨rfl, (by omega)⟩
  · refine lv_aload_n hx hb dX12_slotOf_11 rfl (lv_at hl 1 rfl) ?_
    refine xa_getr G fd_X12 (a := 111) (x := 124) 30 rfl (by decide) rfl (wm 7 179 rfl rfl) ⟨rfl, rfl, rfl⟩ dX12_slotOf_12 rfl (G.sk 122 rfl) (by decide) rfl ?_
    refine lv_iload_n hx hb dX12_slotOf_15 rfl (lv_at hl 0 rfl) ?_
    refine xa_lald G (a := 124) (i := k9) rfl (by have h9 := G.lc (a := 124) (n := 320) 62 rfl; omega) dX12_slotOf_16 rfl ?_
    have hj_8 : jr (μ.1 124 k9) := (by have h9 := G.hj (a := 124) (k := k9) rfl; exact h9)
    refine lv_lload_n hx hb dX12_slotOf_17 rfl (lv_at hl 2 rfl) ?_
    refine xb_lcmp hx hb hj_8 hx1 dX12_slotOf_18 ?_
    have hr_9 : -2147483648 ≤ lcm (μ.1 124 k9) x1 ∧ lcm (μ.1 124 k9) x1 ≤ 2147483647 := lcm_ir _ _
    refine xb_if_ne (tgt := 24) hx hb (by unfold ir; omega) dX12_slotOf_19 (by decide) (fun c_19 => ?_) (fun c_19 => ?_)
    · refine lv_iinc (v := iv (k9 - 1)) (lv' := [(3, .int (iv (k9 - 1))), (0, .ref (oP ω 111)), (1, .long (jv x1))]) hx hb dX12_slotOf_24 hl (k := 0) rfl (by rw [show Int32.ofInt (-1) = iv (-1) from rfl, iv_add] <;> (congr 1 <;> omega)) (by decide) rfl (fun ls hl => ?_)
      refine lv_goto (tgt := 7) hx hb dX12_slotOf_27 (by decide) ?_
      exact ih _ _ _ _ _ _ _ (by omega) ⟨k9 - 1, rfl, (by omega), (by omega), (by omega), rfl, lv_sub hl [0, 1, 2] rfl⟩ G
    · refine lv_iload_n hx hb dX12_slotOf_22 rfl (lv_at hl 0 rfl) ?_
      exact xr_i G (x := k9) hret hlk (by unfold ir; omega) rfl dX12_slotOf_23 ⟨rfl, (by omega)⟩

set_option maxHeartbeats 4000000 in
set_option maxRecDepth 100000 in
theorem c_X12_newSlot (ω : Om) (l : Launch) (μ : M3) (x1 : Int) (hx1 : jr x1) (hsl : 0 ≤ μ.1 111 31 ∧ μ.1 111 31 < 300) : CtI ω l yX12_newSlot cX12_newSlot 3 .int 0 0 [.ref (oP ω 111), .long (jv x1)] μ (fun (r : Int) (μ' : M3) => (FrM [111, 124] μ μ') ∧ (∀ j, j ∉ ([31] : List Int) → μ'.1 111 j = μ.1 111 j) ∧ (r = μ.1 111 31) ∧ (μ'.1 111 31 = μ.1 111 31 + 1)) := by
  refine CtI.go (by decide) (Nat.le_of_ble_eq_true rfl) (fun ρ p e s m below meth c R ls G hR hret hlk hl => ?_)
  have hx := G.1.1
  have hb := G.1.2.1
  have hl : lv_has ls 3 [(0, .ref (oP ω 111)), (1, .long (jv x1))] := hl
  generalize s.drawn = d0 at G ⊢
  refine lv_aload_n hx hb dX12_newSlot_0 rfl (lv_at hl 0 rfl) ?_
  refine xa_getr G fd_X12 (a := 111) (x := 124) 30 rfl (by decide) rfl (wm 7 179 rfl rfl) ⟨rfl, rfl, rfl⟩ dX12_newSlot_1 rfl (G.sk 122 rfl) (by decide) rfl ?_
  refine lv_aload_n hx hb dX12_newSlot_4 rfl (lv_at hl 0 rfl) ?_
  refine xa_geti G fd_X12 (a := 111) (x := μ.1 111 31) 31 rfl (by decide) rfl (wm 7 180 rfl rfl) ⟨rfl, rfl, rfl⟩ dX12_newSlot_5 rfl rfl ?_
  have hr_1 : -2147483648 ≤ μ.1 111 31 ∧ μ.1 111 31 ≤ 2147483647 := by have h9 := G.hr (a := 111) (k := 31) rfl; exact h9
  refine lv_lload_n hx hb dX12_newSlot_8 rfl (lv_at hl 1 rfl) ?_
  refine xa_last G (a := 124) (i := μ.1 111 31) (x := x1) rfl (by have h9 := G.lc (a := 124) (n := 320) 62 rfl; omega) hx1 dX12_newSlot_9 rfl (fun H locs G => ?_)
  refine lv_aload_n hx hb dX12_newSlot_10 rfl (lv_at hl 0 rfl) ?_
  refine lv_dup hx hb dX12_newSlot_11 rfl ?_
  refine xa_geti G fd_X12 (a := 111) (x := μ.1 111 31) 31 rfl (by decide) rfl (wm 7 180 rfl rfl) ⟨rfl, rfl, rfl⟩ dX12_newSlot_12 rfl (sv_n _ (fun h9 => absurd h9.1 (by decide))) ?_
  refine lv_iconst (v := iv 1) hx hb dX12_newSlot_15 rfl ?_
  refine xb_iadd hx hb dX12_newSlot_16 ?_
  refine xa_puti G fd_X12 (a := 111) (x := (μ.1 111 31) + 1) 31 (kz := 31) rfl rfl (by decide) rfl (by unfold ir; omega) (wm 7 180 rfl rfl) ⟨rfl, rfl, rfl, rfl⟩ rfl dX12_newSlot_17 rfl (fun H locs G => ?_)
  refine lv_aload_n hx hb dX12_newSlot_20 rfl (lv_at hl 0 rfl) ?_
  refine xa_geti G fd_X12 (a := 111) (x := (μ.1 111 31) + 1) 31 rfl (by decide) rfl (wm 7 180 rfl rfl) ⟨rfl, rfl, rfl⟩ dX12_newSlot_21 rfl (sv_s _ _ _ _) ?_
  have hr_2 : -2147483648 ≤ (μ.1 111 31) + 1 ∧ (μ.1 111 31) + 1 ≤ 2147483647 := by have h9 := G.hr (a := 111) (k := 31) rfl; rw [show (sv (sv μ 124 (μ.1 111 31) x1) 111 31 ((μ.1 111 31) + 1)).1 111 31 = (μ.1 111 31) + 1 from (sv_s _ _ _ _)] at h9; exact h9
  refine lv_iconst (v := iv 1) hx hb dX12_newSlot_24 rfl ?_
  refine xb_isub hx hb dX12_newSlot_25 ?_
  refine xb_ti (y := (μ.1 111 31)) (by omega) ?_
  have e_3 : (sv (sv μ 124 (μ.1 111 31) x1) 111 31 ((μ.1 111 31) + 1)).1 111 31 = (μ.1 111 31) + 1 := (sv_s _ _ _ _)
  exact xr_i G (x := (μ.1 111 31)) hret hlk (by unfold ir; omega) rfl dX12_newSlot_26 ⟨(FrM.put (FrM.put FrM.rf (by decide)) (by decide)), (fun j hj => ((sv_n _ (fun h9 => hj (by rw [h9.2]; decide))).trans (sv_n _ (fun h9 => absurd h9.1 (by decide))))), (by omega), (by omega)⟩

set_option maxHeartbeats 4000000 in
set_option maxRecDepth 100000 in
theorem c_X12_slot (ω : Om) (l : Launch) (μ : M3) (x1 : Int) (x2 : Int) (hx1 : ir x1) (hx2 : jr x2) (hsl : 0 ≤ μ.1 111 31 ∧ μ.1 111 31 ≤ 300) (hx1n : 0 ≤ x1) : CtI ω l yX12_slot cX12_slot 5 .int 1 23 [.ref (oP ω 111), .int (iv x1), .long (jv x2)] μ (fun (r : Int) (μ' : M3) => (FrM [111] μ μ') ∧ (∀ j, j ∉ ([17] : List Int) → μ'.1 111 j = μ.1 111 j) ∧ (0 ≤ r ∧ r < 300) ∧ (r < μ.1 111 31 + 300 * bd μ') ∧ (wr μ ≤ wr μ' ∧ bd μ ≤ bd μ') ∧ (nn μ' = nn μ)) := by
  refine CtI.go (by decide) (Nat.le_of_ble_eq_true rfl) (fun ρ p e s m below meth c R ls G hR hret hlk hl => ?_)
  have hx := G.1.1
  have hb := G.1.2.1
  have hl : lv_has ls 5 [(0, .ref (oP ω 111)), (1, .int (iv x1)), (2, .long (jv x2))] := hl
  generalize s.drawn = d0 at G ⊢
  have hr_x1 : -2147483648 ≤ x1 ∧ x1 ≤ 2147483647 := hx1
  have hw_0 := wr_r (μ := μ)
  refine lv_aload_n hx hb dX12_slot_0 rfl (lv_at hl 0 rfl) ?_
  refine lv_lload_n hx hb dX12_slot_1 rfl (lv_at hl 2 rfl) ?_
  refine xc_iV G (b := 111) (rest := []) (As := [.long (jv x2)]) (c_X12_slotOf ω l μ x2 hx2 (by omega)) (wm 9 98 rfl rfl) (wm 9 100 rfl rfl) (wm 0 137 rfl rfl) rfl rfl (by decide) rfl (wm 1 18 rfl rfl) (wm 9 101 rfl rfl) (by decide) hR (by decide) (n := 1) rfl rfl (Nat.le_of_ble_eq_true rfl) hl.1 dX12_slot_2 (fun r_2 μ1 ρ d0 H locs hr_r_2 hp G => ?_)
  have hr_r_2 : -2147483648 ≤ r_2 ∧ r_2 ≤ 2147483647 := hr_r_2
  obtain ⟨hsm_3, hp_4⟩ := hp
  have hsm_3 := Eq.symm hsm_3
  subst hsm_3
  refine lv_istore (lv' := [(4, .int (iv r_2)), (0, .ref (oP ω 111)), (1, .int (iv x1)), (2, .long (jv x2))]) hx hb dX12_slot_5 hl (by decide) rfl (fun ls hl => ?_)
  refine lv_iload hx hb dX12_slot_7 (lv_at hl 0 rfl) ?_
  refine lv_iconst (v := iv (-1)) hx hb dX12_slot_9 rfl ?_
  refine xb_icmp_eq (tgt := 16) hx hb (by unfold ir; omega) (by unfold ir; omega) dX12_slot_10 (by decide) (fun c_10 => ?_) (fun c_10 => ?_)
  · refine lv_aload_n hx hb dX12_slot_16 rfl (lv_at hl 1 rfl) ?_
    refine lv_iload_n hx hb dX12_slot_17 rfl (lv_at hl 2 rfl) ?_
    refine xc_vV G (b := 111) (rest := []) (As := [.int (iv x1)]) (c_X12_wrong3 ω l μ x1 (by unfold ir; omega) (by omega)) (wm 9 74 rfl rfl) (wm 9 76 rfl rfl) (wm 0 131 rfl rfl) rfl rfl (by decide) rfl (wm 1 18 rfl rfl) (wm 9 77 rfl rfl) (by decide) hR (by decide) (n := 1) rfl rfl (Nat.le_of_ble_eq_true rfl) hl.1 dX12_slot_18 (fun μ5 ρ d0 H locs hp G => ?_)
    obtain ⟨F_6, hp_7, hp_8⟩ := hp
    have hw_9 := wr_r (μ := μ5)
    refine lv_iconst (v := iv 0) hx hb dX12_slot_21 rfl ?_
    have e_10 : wr μ5 = wr μ := (wr_cg (hp_7 15 (by decide)))
    have e_11 : nn μ5 = nn μ := (nn_cg (hp_7 15 (by decide)) (hp_7 18 (by decide)))
    exact xr_i G (x := 0) hret hlk (by unfold ir; omega) rfl dX12_slot_22 ⟨(FrM.tr FrM.rf F_6 (by decide)), (fun j hj => (hp_7 j (fun h9 => hj ((by decide : ∀ x ∈ ([17] : List Int), x ∈ ([17] : List Int)) j h9)))), (by omega), (by omega), (by omega), (by omega)⟩
  · refine lv_iload hx hb dX12_slot_13 (lv_at hl 0 rfl) ?_
    exact xr_i G (x := r_2) hret hlk (by unfold ir; omega) rfl dX12_slot_15 ⟨FrM.rf, (fun j hj => rfl), (by omega), (by omega), (by omega), (by omega)⟩

set_option maxHeartbeats 4000000 in
set_option maxRecDepth 100000 in
theorem c_X12_anySlot (ω : Om) (l : Launch) (μ : M3) (x1 : Int) (hx1 : jr x1) (hsl : 0 ≤ μ.1 111 31 ∧ μ.1 111 31 ≤ 300) : CtI ω l yX12_anySlot cX12_anySlot 4 .int 1 23 [.ref (oP ω 111), .long (jv x1)] μ (fun (r : Int) (μ' : M3) => (FrM [111, 124] μ μ') ∧ (∀ j, j ∉ ([31] : List Int) → μ'.1 111 j = μ.1 111 j) ∧ (0 ≤ r ∧ r < 300) ∧ (μ.1 111 31 ≤ μ'.1 111 31 ∧ μ'.1 111 31 ≤ 300)) := by
  refine CtI.go (by decide) (Nat.le_of_ble_eq_true rfl) (fun ρ p e s m below meth c R ls G hR hret hlk hl => ?_)
  have hx := G.1.1
  have hb := G.1.2.1
  have hl : lv_has ls 4 [(0, .ref (oP ω 111)), (1, .long (jv x1))] := hl
  generalize s.drawn = d0 at G ⊢
  refine lv_aload_n hx hb dX12_anySlot_0 rfl (lv_at hl 0 rfl) ?_
  refine lv_lload_n hx hb dX12_anySlot_1 rfl (lv_at hl 1 rfl) ?_
  refine xc_iV G (b := 111) (rest := []) (As := [.long (jv x1)]) (c_X12_slotOf ω l μ x1 hx1 (by omega)) (wm 9 98 rfl rfl) (wm 9 100 rfl rfl) (wm 0 137 rfl rfl) rfl rfl (by decide) rfl (wm 1 18 rfl rfl) (wm 9 101 rfl rfl) (by decide) hR (by decide) (n := 1) rfl rfl (Nat.le_of_ble_eq_true rfl) hl.1 dX12_anySlot_2 (fun r_2 μ1 ρ d0 H locs hr_r_2 hp G => ?_)
  have hr_r_2 : -2147483648 ≤ r_2 ∧ r_2 ≤ 2147483647 := hr_r_2
  obtain ⟨hsm_3, hp_4⟩ := hp
  have hsm_3 := Eq.symm hsm_3
  subst hsm_3
  refine lv_istore_n (lv' := [(3, .int (iv r_2)), (0, .ref (oP ω 111)), (1, .long (jv x1))]) hx hb dX12_anySlot_5 rfl hl (by decide) rfl (fun ls hl => ?_)
  refine lv_iload_n hx hb dX12_anySlot_6 rfl (lv_at hl 0 rfl) ?_
  refine lv_iconst (v := iv (-1)) hx hb dX12_anySlot_7 rfl ?_
  refine xb_icmp_eq (tgt := 15) hx hb (by unfold ir; omega) (by unfold ir; omega) dX12_anySlot_8 (by decide) (fun c_8 => ?_) (fun c_8 => ?_)
  · refine lv_aload_n hx hb dX12_anySlot_15 rfl (lv_at hl 1 rfl) ?_
    refine xa_geti G fd_X12 (a := 111) (x := μ.1 111 31) 31 rfl (by decide) rfl (wm 7 180 rfl rfl) ⟨rfl, rfl, rfl⟩ dX12_anySlot_16 rfl rfl ?_
    have hr_5 : -2147483648 ≤ μ.1 111 31 ∧ μ.1 111 31 ≤ 2147483647 := by have h9 := G.hr (a := 111) (k := 31) rfl; exact h9
    refine lv_sipush (v := iv 300) hx hb dX12_anySlot_19 rfl ?_
    refine xb_icmp_ge (tgt := 33) hx hb (by unfold ir; omega) (by unfold ir; omega) dX12_anySlot_22 (by decide) (fun c_22 => ?_) (fun c_22 => ?_)
    · refine lv_iconst (v := iv 0) hx hb dX12_anySlot_33 rfl ?_
      exact xr_i G (x := 0) hret hlk (by unfold ir; omega) rfl dX12_anySlot_34 ⟨FrM.rf, (fun j hj => rfl), (by omega), (by omega)⟩
    · refine lv_aload_n hx hb dX12_anySlot_25 rfl (lv_at hl 1 rfl) ?_
      refine lv_lload_n hx hb dX12_anySlot_26 rfl (lv_at hl 2 rfl) ?_
      refine xc_iV G (b := 111) (rest := []) (As := [.long (jv x1)]) (c_X12_newSlot ω l μ x1 hx1 (by omega)) (wm 9 102 rfl rfl) (wm 9 104 rfl rfl) (wm 0 138 rfl rfl) rfl rfl (by decide) rfl (wm 1 18 rfl rfl) (wm 9 105 rfl rfl) (by decide) hR (by decide) (n := 1) rfl rfl (Nat.le_of_ble_eq_true rfl) hl.1 dX12_anySlot_27 (fun r_7 μ6 ρ d0 H locs hr_r_7 hp G => ?_)
      have hr_r_7 : -2147483648 ≤ r_7 ∧ r_7 ≤ 2147483647 := hr_r_7
      obtain ⟨F_8, hp_9, hp_10, hp_11⟩ := hp
      refine lv_goto (tgt := 34) hx hb dX12_anySlot_30 (by decide) ?_
      exact xr_i G (x := r_7) hret hlk (by unfold ir; omega) rfl dX12_anySlot_34 ⟨(FrM.tr FrM.rf F_8 (by decide)), (fun j hj => (hp_9 j (fun h9 => hj ((by decide : ∀ x ∈ ([31] : List Int), x ∈ ([31] : List Int)) j h9)))), (by omega), (by omega)⟩
  · refine lv_iload_n hx hb dX12_anySlot_11 rfl (lv_at hl 0 rfl) ?_
    refine lv_goto (tgt := 34) hx hb dX12_anySlot_12 (by decide) ?_
    exact xr_i G (x := r_2) hret hlk (by unfold ir; omega) rfl dX12_anySlot_34 ⟨FrM.rf, (fun j hj => rfl), (by omega), (by omega)⟩

set_option maxHeartbeats 4000000 in
set_option maxRecDepth 100000 in
theorem c_X12_isCompare (ω : Om) (l : Launch) (μ : M3) (x1 : Int) (hx1 : ir x1) : CtI ω l yX12_isCompare cX12_isCompare 1 .boolean 0 0 [.int (iv x1)] μ (fun (r : Int) (μ' : M3) => (μ' = μ) ∧ (r = 0 ∨ r = 1) ∧ (r = 1 → sgn x1) ∧ (r = 0 → x1 ≠ 60 ∧ x1 ≠ 62 ∧ x1 ≠ 316 ∧ x1 ≠ 318 ∧ x1 ≠ 317 ∧ x1 ≠ 289)) := by
  refine CtI.go (by decide) (Nat.le_of_ble_eq_true rfl) (fun ρ p e s m below meth c R ls G hR hret hlk hl => ?_)
  have hx := G.1.1
  have hb := G.1.2.1
  have hl : lv_has ls 1 [(0, .int (iv x1))] := hl
  generalize s.drawn = d0 at G ⊢
  have hr_x1 : -2147483648 ≤ x1 ∧ x1 ≤ 2147483647 := hx1
  refine lv_iload_n hx hb dX12_isCompare_0 rfl (lv_at hl 0 rfl) ?_
  refine lv_sipush (v := iv 317) hx hb dX12_isCompare_1 rfl ?_
  refine xb_icmp_eq (tgt := 40) hx hb (by unfold ir; omega) (by unfold ir; omega) dX12_isCompare_4 (by decide) (fun c_4 => ?_) (fun c_4 => ?_)
  · refine lv_iconst (v := iv 1) hx hb dX12_isCompare_40 rfl ?_
    refine lv_goto (tgt := 45) hx hb dX12_isCompare_41 (by decide) ?_
    exact xr_i G (x := 1) hret hlk (by unfold ir; omega) (zr (by omega)) dX12_isCompare_45 ⟨rfl, (Or.inr rfl), (fun _ => by unfold sgn; omega), (fun h9 => absurd h9 (by decide))⟩
  · refine lv_iload_n hx hb dX12_isCompare_7 rfl (lv_at hl 0 rfl) ?_
    refine lv_sipush (v := iv 289) hx hb dX12_isCompare_8 rfl ?_
    refine xb_icmp_eq (tgt := 40) hx hb (by unfold ir; omega) (by unfold ir; omega) dX12_isCompare_11 (by decide) (fun c_11 => ?_) (fun c_11 => ?_)
    · refine lv_iconst (v := iv 1) hx hb dX12_isCompare_40 rfl ?_
      refine lv_goto (tgt := 45) hx hb dX12_isCompare_41 (by decide) ?_
      exact xr_i G (x := 1) hret hlk (by unfold ir; omega) (zr (by omega)) dX12_isCompare_45 ⟨rfl, (Or.inr rfl), (fun _ => by unfold sgn; omega), (fun h9 => absurd h9 (by decide))⟩
    · refine lv_iload_n hx hb dX12_isCompare_14 rfl (lv_at hl 0 rfl) ?_
      refine lv_bipush (v := iv 60) hx hb dX12_isCompare_15 rfl ?_
      refine xb_icmp_eq (tgt := 40) hx hb (by unfold ir; omega) (by unfold ir; omega) dX12_isCompare_17 (by decide) (fun c_17 => ?_) (fun c_17 => ?_)
      · refine lv_iconst (v := iv 1) hx hb dX12_isCompare_40 rfl ?_
        refine lv_goto (tgt := 45) hx hb dX12_isCompare_41 (by decide) ?_
        exact xr_i G (x := 1) hret hlk (by unfold ir; omega) (zr (by omega)) dX12_isCompare_45 ⟨rfl, (Or.inr rfl), (fun _ => by unfold sgn; omega), (fun h9 => absurd h9 (by decide))⟩
      · refine lv_iload_n hx hb dX12_isCompare_20 rfl (lv_at hl 0 rfl) ?_
        refine lv_sipush (v := iv 316) hx hb dX12_isCompare_21 rfl ?_
        refine xb_icmp_eq (tgt := 40) hx hb (by unfold ir; omega) (by unfold ir; omega) dX12_isCompare_24 (by decide) (fun c_24 => ?_) (fun c_24 => ?_)
        · refine lv_iconst (v := iv 1) hx hb dX12_isCompare_40 rfl ?_
          refine lv_goto (tgt := 45) hx hb dX12_isCompare_41 (by decide) ?_
          exact xr_i G (x := 1) hret hlk (by unfold ir; omega) (zr (by omega)) dX12_isCompare_45 ⟨rfl, (Or.inr rfl), (fun _ => by unfold sgn; omega), (fun h9 => absurd h9 (by decide))⟩
        · refine lv_iload_n hx hb dX12_isCompare_27 rfl (lv_at hl 0 rfl) ?_
          refine lv_bipush (v := iv 62) hx hb dX12_isCompare_28 rfl ?_
          refine xb_icmp_eq (tgt := 40) hx hb (by unfold ir; omega) (by unfold ir; omega) dX12_isCompare_30 (by decide) (fun c_30 => ?_) (fun c_30 => ?_)
          · refine lv_iconst (v := iv 1) hx hb dX12_isCompare_40 rfl ?_
            refine lv_goto (tgt := 45) hx hb dX12_isCompare_41 (by decide) ?_
            exact xr_i G (x := 1) hret hlk (by unfold ir; omega) (zr (by omega)) dX12_isCompare_45 ⟨rfl, (Or.inr rfl), (fun _ => by unfold sgn; omega), (fun h9 => absurd h9 (by decide))⟩
          · refine lv_iload_n hx hb dX12_isCompare_33 rfl (lv_at hl 0 rfl) ?_
            refine lv_sipush (v := iv 318) hx hb dX12_isCompare_34 rfl ?_
            refine xb_icmp_ne (tgt := 44) hx hb (by unfold ir; omega) (by unfold ir; omega) dX12_isCompare_37 (by decide) (fun c_37 => ?_) (fun c_37 => ?_)
            · refine lv_iconst (v := iv 0) hx hb dX12_isCompare_44 rfl ?_
              exact xr_i G (x := 0) hret hlk (by unfold ir; omega) (zr (by omega)) dX12_isCompare_45 ⟨rfl, (Or.inl rfl), (fun h9 => absurd h9 (by decide)), (fun _ => ⟨by omega, by omega, by omega, by omega, by omega, by omega⟩)⟩
            · refine lv_iconst (v := iv 1) hx hb dX12_isCompare_40 rfl ?_
              refine lv_goto (tgt := 45) hx hb dX12_isCompare_41 (by decide) ?_
              exact xr_i G (x := 1) hret hlk (by unfold ir; omega) (zr (by omega)) dX12_isCompare_45 ⟨rfl, (Or.inr rfl), (fun _ => by unfold sgn; omega), (fun h9 => absurd h9 (by decide))⟩
