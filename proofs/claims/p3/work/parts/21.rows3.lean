abbrev cX2_push : ByteArray := prog_4_method_5_code
def yX2_push : MethodName := ⟨RX2, "push", "(IIIIIII)V"⟩
abbrev cX2_of : ByteArray := prog_4_method_7_code
def yX2_of : MethodName := ⟨RX2, "of", "([I)I"⟩
abbrev cX2_tongue : ByteArray := prog_4_method_8_code
def yX2_tongue : MethodName := ⟨RX2, "tongue", "()I"⟩
abbrev cX2_function : ByteArray := prog_4_method_9_code
def yX2_function : MethodName := ⟨RX2, "function", "()I"⟩
abbrev cX2_base : ByteArray := prog_4_method_10_code
def yX2_base : MethodName := ⟨RX2, "base", "()I"⟩
abbrev cX2_floor : ByteArray := prog_4_method_11_code
def yX2_floor : MethodName := ⟨RX2, "floor", "()I"⟩
abbrev cX2_top : ByteArray := prog_4_method_12_code
def yX2_top : MethodName := ⟨RX2, "top", "()I"⟩
abbrev cX2_calledAt : ByteArray := prog_4_method_13_code
def yX2_calledAt : MethodName := ⟨RX2, "calledAt", "()I"⟩
abbrev cX2_guardBase : ByteArray := prog_4_method_14_code
def yX2_guardBase : MethodName := ⟨RX2, "guardBase", "()I"⟩
abbrev cX2_guardBaseOfPart : ByteArray := prog_4_method_15_code
def yX2_guardBaseOfPart : MethodName := ⟨RX2, "guardBaseOfPart", "()I"⟩
abbrev cX9_drop : ByteArray := prog_11_method_8_code
def yX9_drop : MethodName := ⟨RX9, "drop", "(I)V"⟩
abbrev cX9_push : ByteArray := prog_11_method_10_code
def yX9_push : MethodName := ⟨RX9, "push", "(IJD)V"⟩
abbrev cX9_copy : ByteArray := prog_11_method_11_code
def yX9_copy : MethodName := ⟨RX9, "copy", "(ILFourTongues$Row;I)V"⟩
abbrev cX9_pushCopy : ByteArray := prog_11_method_12_code
def yX9_pushCopy : MethodName := ⟨RX9, "pushCopy", "(LFourTongues$Row;I)V"⟩
theorem dX2_push_0 : decode cX2_push 0 = .ok (.aload_n 0, 1) := by decide +kernel
theorem dX2_push_1 : decode cX2_push 1 = .ok (.getfield 31, 3) := by decide +kernel
theorem dX2_push_4 : decode cX2_push 4 = .ok (.bipush 24, 2) := by decide +kernel
theorem dX2_push_6 : decode cX2_push 6 = .ok (.if_icmp .ge 87, 3) := by decide +kernel
theorem dX2_push_9 : decode cX2_push 9 = .ok (.aload_n 0, 1) := by decide +kernel
theorem dX2_push_10 : decode cX2_push 10 = .ok (.getfield 9, 3) := by decide +kernel
theorem dX2_push_13 : decode cX2_push 13 = .ok (.aload_n 0, 1) := by decide +kernel
theorem dX2_push_14 : decode cX2_push 14 = .ok (.getfield 31, 3) := by decide +kernel
theorem dX2_push_17 : decode cX2_push 17 = .ok (.iload_n 1, 1) := by decide +kernel
theorem dX2_push_18 : decode cX2_push 18 = .ok (.iastore, 1) := by decide +kernel
theorem dX2_push_19 : decode cX2_push 19 = .ok (.aload_n 0, 1) := by decide +kernel
theorem dX2_push_20 : decode cX2_push 20 = .ok (.getfield 13, 3) := by decide +kernel
theorem dX2_push_23 : decode cX2_push 23 = .ok (.aload_n 0, 1) := by decide +kernel
theorem dX2_push_24 : decode cX2_push 24 = .ok (.getfield 31, 3) := by decide +kernel
theorem dX2_push_27 : decode cX2_push 27 = .ok (.iload_n 2, 1) := by decide +kernel
theorem dX2_push_28 : decode cX2_push 28 = .ok (.iastore, 1) := by decide +kernel
theorem dX2_push_29 : decode cX2_push 29 = .ok (.aload_n 0, 1) := by decide +kernel
theorem dX2_push_30 : decode cX2_push 30 = .ok (.getfield 16, 3) := by decide +kernel
theorem dX2_push_33 : decode cX2_push 33 = .ok (.aload_n 0, 1) := by decide +kernel
theorem dX2_push_34 : decode cX2_push 34 = .ok (.getfield 31, 3) := by decide +kernel
theorem dX2_push_37 : decode cX2_push 37 = .ok (.iload_n 3, 1) := by decide +kernel
theorem dX2_push_38 : decode cX2_push 38 = .ok (.iastore, 1) := by decide +kernel
theorem dX2_push_39 : decode cX2_push 39 = .ok (.aload_n 0, 1) := by decide +kernel
theorem dX2_push_40 : decode cX2_push 40 = .ok (.getfield 19, 3) := by decide +kernel
theorem dX2_push_43 : decode cX2_push 43 = .ok (.aload_n 0, 1) := by decide +kernel
theorem dX2_push_44 : decode cX2_push 44 = .ok (.getfield 31, 3) := by decide +kernel
theorem dX2_push_47 : decode cX2_push 47 = .ok (.iload 4, 2) := by decide +kernel
theorem dX2_push_49 : decode cX2_push 49 = .ok (.iastore, 1) := by decide +kernel
theorem dX2_push_50 : decode cX2_push 50 = .ok (.aload_n 0, 1) := by decide +kernel
theorem dX2_push_51 : decode cX2_push 51 = .ok (.getfield 22, 3) := by decide +kernel
theorem dX2_push_54 : decode cX2_push 54 = .ok (.aload_n 0, 1) := by decide +kernel
theorem dX2_push_55 : decode cX2_push 55 = .ok (.getfield 31, 3) := by decide +kernel
theorem dX2_push_58 : decode cX2_push 58 = .ok (.iload 5, 2) := by decide +kernel
theorem dX2_push_60 : decode cX2_push 60 = .ok (.iastore, 1) := by decide +kernel
theorem dX2_push_61 : decode cX2_push 61 = .ok (.aload_n 0, 1) := by decide +kernel
theorem dX2_push_62 : decode cX2_push 62 = .ok (.getfield 25, 3) := by decide +kernel
theorem dX2_push_65 : decode cX2_push 65 = .ok (.aload_n 0, 1) := by decide +kernel
theorem dX2_push_66 : decode cX2_push 66 = .ok (.getfield 31, 3) := by decide +kernel
theorem dX2_push_69 : decode cX2_push 69 = .ok (.iload 6, 2) := by decide +kernel
theorem dX2_push_71 : decode cX2_push 71 = .ok (.iastore, 1) := by decide +kernel
theorem dX2_push_72 : decode cX2_push 72 = .ok (.aload_n 0, 1) := by decide +kernel
theorem dX2_push_73 : decode cX2_push 73 = .ok (.getfield 28, 3) := by decide +kernel
theorem dX2_push_76 : decode cX2_push 76 = .ok (.aload_n 0, 1) := by decide +kernel
theorem dX2_push_77 : decode cX2_push 77 = .ok (.getfield 31, 3) := by decide +kernel
theorem dX2_push_80 : decode cX2_push 80 = .ok (.iload 7, 2) := by decide +kernel
theorem dX2_push_82 : decode cX2_push 82 = .ok (.iastore, 1) := by decide +kernel
theorem dX2_push_83 : decode cX2_push 83 = .ok (.aload_n 0, 1) := by decide +kernel
theorem dX2_push_84 : decode cX2_push 84 = .ok (.dup, 1) := by decide +kernel
theorem dX2_push_85 : decode cX2_push 85 = .ok (.getfield 31, 3) := by decide +kernel
theorem dX2_push_88 : decode cX2_push 88 = .ok (.iconst 1, 1) := by decide +kernel
theorem dX2_push_89 : decode cX2_push 89 = .ok (.iadd, 1) := by decide +kernel
theorem dX2_push_90 : decode cX2_push 90 = .ok (.putfield 31, 3) := by decide +kernel
theorem dX2_push_93 : decode cX2_push 93 = .ok (.return_, 1) := by decide +kernel
theorem dX2_of_0 : decode cX2_of 0 = .ok (.aload_n 0, 1) := by decide +kernel
theorem dX2_of_1 : decode cX2_of 1 = .ok (.getfield 31, 3) := by decide +kernel
theorem dX2_of_4 : decode cX2_of 4 = .ok (.ifCond .le 23, 3) := by decide +kernel
theorem dX2_of_7 : decode cX2_of 7 = .ok (.aload_n 0, 1) := by decide +kernel
theorem dX2_of_8 : decode cX2_of 8 = .ok (.getfield 31, 3) := by decide +kernel
theorem dX2_of_11 : decode cX2_of 11 = .ok (.aload_n 1, 1) := by decide +kernel
theorem dX2_of_12 : decode cX2_of 12 = .ok (.arraylength, 1) := by decide +kernel
theorem dX2_of_13 : decode cX2_of 13 = .ok (.if_icmp .gt 14, 3) := by decide +kernel
theorem dX2_of_16 : decode cX2_of 16 = .ok (.aload_n 1, 1) := by decide +kernel
theorem dX2_of_17 : decode cX2_of 17 = .ok (.aload_n 0, 1) := by decide +kernel
theorem dX2_of_18 : decode cX2_of 18 = .ok (.getfield 31, 3) := by decide +kernel
theorem dX2_of_21 : decode cX2_of 21 = .ok (.iconst 1, 1) := by decide +kernel
theorem dX2_of_22 : decode cX2_of 22 = .ok (.isub, 1) := by decide +kernel
theorem dX2_of_23 : decode cX2_of 23 = .ok (.iaload, 1) := by decide +kernel
theorem dX2_of_24 : decode cX2_of 24 = .ok (.goto 4, 3) := by decide +kernel
theorem dX2_of_27 : decode cX2_of 27 = .ok (.iconst 0, 1) := by decide +kernel
theorem dX2_of_28 : decode cX2_of 28 = .ok (.ireturn, 1) := by decide +kernel
theorem dX2_tongue_0 : decode cX2_tongue 0 = .ok (.aload_n 0, 1) := by decide +kernel
theorem dX2_tongue_1 : decode cX2_tongue 1 = .ok (.aload_n 0, 1) := by decide +kernel
theorem dX2_tongue_2 : decode cX2_tongue 2 = .ok (.getfield 9, 3) := by decide +kernel
theorem dX2_tongue_5 : decode cX2_tongue 5 = .ok (.invokevirtual 35, 3) := by decide +kernel
theorem dX2_tongue_8 : decode cX2_tongue 8 = .ok (.ireturn, 1) := by decide +kernel
theorem dX2_function_0 : decode cX2_function 0 = .ok (.aload_n 0, 1) := by decide +kernel
theorem dX2_function_1 : decode cX2_function 1 = .ok (.aload_n 0, 1) := by decide +kernel
theorem dX2_function_2 : decode cX2_function 2 = .ok (.getfield 13, 3) := by decide +kernel
theorem dX2_function_5 : decode cX2_function 5 = .ok (.invokevirtual 35, 3) := by decide +kernel
theorem dX2_function_8 : decode cX2_function 8 = .ok (.ireturn, 1) := by decide +kernel
theorem dX2_base_0 : decode cX2_base 0 = .ok (.aload_n 0, 1) := by decide +kernel
theorem dX2_base_1 : decode cX2_base 1 = .ok (.aload_n 0, 1) := by decide +kernel
theorem dX2_base_2 : decode cX2_base 2 = .ok (.getfield 16, 3) := by decide +kernel
theorem dX2_base_5 : decode cX2_base 5 = .ok (.invokevirtual 35, 3) := by decide +kernel
theorem dX2_base_8 : decode cX2_base 8 = .ok (.ireturn, 1) := by decide +kernel
theorem dX2_floor_0 : decode cX2_floor 0 = .ok (.aload_n 0, 1) := by decide +kernel
theorem dX2_floor_1 : decode cX2_floor 1 = .ok (.aload_n 0, 1) := by decide +kernel
theorem dX2_floor_2 : decode cX2_floor 2 = .ok (.getfield 19, 3) := by decide +kernel
theorem dX2_floor_5 : decode cX2_floor 5 = .ok (.invokevirtual 35, 3) := by decide +kernel
theorem dX2_floor_8 : decode cX2_floor 8 = .ok (.ireturn, 1) := by decide +kernel
theorem dX2_top_0 : decode cX2_top 0 = .ok (.aload_n 0, 1) := by decide +kernel
theorem dX2_top_1 : decode cX2_top 1 = .ok (.aload_n 0, 1) := by decide +kernel
theorem dX2_top_2 : decode cX2_top 2 = .ok (.getfield 22, 3) := by decide +kernel
theorem dX2_top_5 : decode cX2_top 5 = .ok (.invokevirtual 35, 3) := by decide +kernel
theorem dX2_top_8 : decode cX2_top 8 = .ok (.ireturn, 1) := by decide +kernel
theorem dX2_calledAt_0 : decode cX2_calledAt 0 = .ok (.aload_n 0, 1) := by decide +kernel
theorem dX2_calledAt_1 : decode cX2_calledAt 1 = .ok (.aload_n 0, 1) := by decide +kernel
theorem dX2_calledAt_2 : decode cX2_calledAt 2 = .ok (.getfield 25, 3) := by decide +kernel
theorem dX2_calledAt_5 : decode cX2_calledAt 5 = .ok (.invokevirtual 35, 3) := by decide +kernel
theorem dX2_calledAt_8 : decode cX2_calledAt 8 = .ok (.ireturn, 1) := by decide +kernel
theorem dX2_guardBase_0 : decode cX2_guardBase 0 = .ok (.aload_n 0, 1) := by decide +kernel
theorem dX2_guardBase_1 : decode cX2_guardBase 1 = .ok (.aload_n 0, 1) := by decide +kernel
theorem dX2_guardBase_2 : decode cX2_guardBase 2 = .ok (.getfield 28, 3) := by decide +kernel
theorem dX2_guardBase_5 : decode cX2_guardBase 5 = .ok (.invokevirtual 35, 3) := by decide +kernel
theorem dX2_guardBase_8 : decode cX2_guardBase 8 = .ok (.ireturn, 1) := by decide +kernel
theorem dX2_guardBaseOfPart_0 : decode cX2_guardBaseOfPart 0 = .ok (.aload_n 0, 1) := by decide +kernel
theorem dX2_guardBaseOfPart_1 : decode cX2_guardBaseOfPart 1 = .ok (.getfield 31, 3) := by decide +kernel
theorem dX2_guardBaseOfPart_4 : decode cX2_guardBaseOfPart 4 = .ok (.iconst 1, 1) := by decide +kernel
theorem dX2_guardBaseOfPart_5 : decode cX2_guardBaseOfPart 5 = .ok (.isub, 1) := by decide +kernel
theorem dX2_guardBaseOfPart_6 : decode cX2_guardBaseOfPart 6 = .ok (.istore_n 1, 1) := by decide +kernel
theorem dX2_guardBaseOfPart_7 : decode cX2_guardBaseOfPart 7 = .ok (.iload_n 1, 1) := by decide +kernel
theorem dX2_guardBaseOfPart_8 : decode cX2_guardBaseOfPart 8 = .ok (.ifCond .le 26, 3) := by decide +kernel
theorem dX2_guardBaseOfPart_11 : decode cX2_guardBaseOfPart 11 = .ok (.aload_n 0, 1) := by decide +kernel
theorem dX2_guardBaseOfPart_12 : decode cX2_guardBaseOfPart 12 = .ok (.getfield 9, 3) := by decide +kernel
theorem dX2_guardBaseOfPart_15 : decode cX2_guardBaseOfPart 15 = .ok (.iload_n 1, 1) := by decide +kernel
theorem dX2_guardBaseOfPart_16 : decode cX2_guardBaseOfPart 16 = .ok (.iconst 1, 1) := by decide +kernel
theorem dX2_guardBaseOfPart_17 : decode cX2_guardBaseOfPart 17 = .ok (.isub, 1) := by decide +kernel
theorem dX2_guardBaseOfPart_18 : decode cX2_guardBaseOfPart 18 = .ok (.iaload, 1) := by decide +kernel
theorem dX2_guardBaseOfPart_19 : decode cX2_guardBaseOfPart 19 = .ok (.aload_n 0, 1) := by decide +kernel
theorem dX2_guardBaseOfPart_20 : decode cX2_guardBaseOfPart 20 = .ok (.getfield 9, 3) := by decide +kernel
theorem dX2_guardBaseOfPart_23 : decode cX2_guardBaseOfPart 23 = .ok (.iload_n 1, 1) := by decide +kernel
theorem dX2_guardBaseOfPart_24 : decode cX2_guardBaseOfPart 24 = .ok (.iaload, 1) := by decide +kernel
theorem dX2_guardBaseOfPart_25 : decode cX2_guardBaseOfPart 25 = .ok (.if_icmp .ne 9, 3) := by decide +kernel
theorem dX2_guardBaseOfPart_28 : decode cX2_guardBaseOfPart 28 = .ok (.iinc 1 (-1), 3) := by decide +kernel
theorem dX2_guardBaseOfPart_31 : decode cX2_guardBaseOfPart 31 = .ok (.goto (-24), 3) := by decide +kernel
theorem dX2_guardBaseOfPart_34 : decode cX2_guardBaseOfPart 34 = .ok (.iload_n 1, 1) := by decide +kernel
theorem dX2_guardBaseOfPart_35 : decode cX2_guardBaseOfPart 35 = .ok (.ifCond .lt 12, 3) := by decide +kernel
theorem dX2_guardBaseOfPart_38 : decode cX2_guardBaseOfPart 38 = .ok (.aload_n 0, 1) := by decide +kernel
theorem dX2_guardBaseOfPart_39 : decode cX2_guardBaseOfPart 39 = .ok (.getfield 28, 3) := by decide +kernel
theorem dX2_guardBaseOfPart_42 : decode cX2_guardBaseOfPart 42 = .ok (.iload_n 1, 1) := by decide +kernel
theorem dX2_guardBaseOfPart_43 : decode cX2_guardBaseOfPart 43 = .ok (.iaload, 1) := by decide +kernel
theorem dX2_guardBaseOfPart_44 : decode cX2_guardBaseOfPart 44 = .ok (.goto 4, 3) := by decide +kernel
theorem dX2_guardBaseOfPart_47 : decode cX2_guardBaseOfPart 47 = .ok (.iconst 0, 1) := by decide +kernel
theorem dX2_guardBaseOfPart_48 : decode cX2_guardBaseOfPart 48 = .ok (.ireturn, 1) := by decide +kernel
theorem dX9_drop_0 : decode cX9_drop 0 = .ok (.aload_n 0, 1) := by decide +kernel
theorem dX9_drop_1 : decode cX9_drop 1 = .ok (.aload_n 0, 1) := by decide +kernel
theorem dX9_drop_2 : decode cX9_drop 2 = .ok (.getfield 7, 3) := by decide +kernel
theorem dX9_drop_5 : decode cX9_drop 5 = .ok (.iload_n 1, 1) := by decide +kernel
theorem dX9_drop_6 : decode cX9_drop 6 = .ok (.isub, 1) := by decide +kernel
theorem dX9_drop_7 : decode cX9_drop 7 = .ok (.invokevirtual 47, 3) := by decide +kernel
theorem dX9_drop_10 : decode cX9_drop 10 = .ok (.return_, 1) := by decide +kernel
theorem dX9_push_0 : decode cX9_push 0 = .ok (.aload_n 0, 1) := by decide +kernel
theorem dX9_push_1 : decode cX9_push 1 = .ok (.aload_n 0, 1) := by decide +kernel
theorem dX9_push_2 : decode cX9_push 2 = .ok (.getfield 7, 3) := by decide +kernel
theorem dX9_push_5 : decode cX9_push 5 = .ok (.iconst 1, 1) := by decide +kernel
theorem dX9_push_6 : decode cX9_push 6 = .ok (.iadd, 1) := by decide +kernel
theorem dX9_push_7 : decode cX9_push 7 = .ok (.invokevirtual 47, 3) := by decide +kernel
theorem dX9_push_10 : decode cX9_push 10 = .ok (.aload_n 0, 1) := by decide +kernel
theorem dX9_push_11 : decode cX9_push 11 = .ok (.aload_n 0, 1) := by decide +kernel
theorem dX9_push_12 : decode cX9_push 12 = .ok (.getfield 7, 3) := by decide +kernel
theorem dX9_push_15 : decode cX9_push 15 = .ok (.iconst 1, 1) := by decide +kernel
theorem dX9_push_16 : decode cX9_push 16 = .ok (.isub, 1) := by decide +kernel
theorem dX9_push_17 : decode cX9_push 17 = .ok (.iload_n 1, 1) := by decide +kernel
theorem dX9_push_18 : decode cX9_push 18 = .ok (.lload_n 2, 1) := by decide +kernel
theorem dX9_push_19 : decode cX9_push 19 = .ok (.dload 4, 2) := by decide +kernel
theorem dX9_push_21 : decode cX9_push 21 = .ok (.invokevirtual 51, 3) := by decide +kernel
theorem dX9_push_24 : decode cX9_push 24 = .ok (.return_, 1) := by decide +kernel
theorem dX9_copy_0 : decode cX9_copy 0 = .ok (.aload_n 0, 1) := by decide +kernel
theorem dX9_copy_1 : decode cX9_copy 1 = .ok (.iload_n 1, 1) := by decide +kernel
theorem dX9_copy_2 : decode cX9_copy 2 = .ok (.aload_n 2, 1) := by decide +kernel
theorem dX9_copy_3 : decode cX9_copy 3 = .ok (.iload_n 3, 1) := by decide +kernel
theorem dX9_copy_4 : decode cX9_copy 4 = .ok (.invokevirtual 31, 3) := by decide +kernel
theorem dX9_copy_7 : decode cX9_copy 7 = .ok (.aload_n 2, 1) := by decide +kernel
theorem dX9_copy_8 : decode cX9_copy 8 = .ok (.iload_n 3, 1) := by decide +kernel
theorem dX9_copy_9 : decode cX9_copy 9 = .ok (.invokevirtual 55, 3) := by decide +kernel
theorem dX9_copy_12 : decode cX9_copy 12 = .ok (.aload_n 2, 1) := by decide +kernel
theorem dX9_copy_13 : decode cX9_copy 13 = .ok (.iload_n 3, 1) := by decide +kernel
theorem dX9_copy_14 : decode cX9_copy 14 = .ok (.invokevirtual 59, 3) := by decide +kernel
theorem dX9_copy_17 : decode cX9_copy 17 = .ok (.invokevirtual 51, 3) := by decide +kernel
theorem dX9_copy_20 : decode cX9_copy 20 = .ok (.return_, 1) := by decide +kernel
theorem dX9_pushCopy_0 : decode cX9_pushCopy 0 = .ok (.aload_n 0, 1) := by decide +kernel
theorem dX9_pushCopy_1 : decode cX9_pushCopy 1 = .ok (.aload_n 1, 1) := by decide +kernel
theorem dX9_pushCopy_2 : decode cX9_pushCopy 2 = .ok (.iload_n 2, 1) := by decide +kernel
theorem dX9_pushCopy_3 : decode cX9_pushCopy 3 = .ok (.invokevirtual 31, 3) := by decide +kernel
theorem dX9_pushCopy_6 : decode cX9_pushCopy 6 = .ok (.aload_n 1, 1) := by decide +kernel
theorem dX9_pushCopy_7 : decode cX9_pushCopy 7 = .ok (.iload_n 2, 1) := by decide +kernel
theorem dX9_pushCopy_8 : decode cX9_pushCopy 8 = .ok (.invokevirtual 55, 3) := by decide +kernel
theorem dX9_pushCopy_11 : decode cX9_pushCopy 11 = .ok (.aload_n 1, 1) := by decide +kernel
theorem dX9_pushCopy_12 : decode cX9_pushCopy 12 = .ok (.iload_n 2, 1) := by decide +kernel
theorem dX9_pushCopy_13 : decode cX9_pushCopy 13 = .ok (.invokevirtual 59, 3) := by decide +kernel
theorem dX9_pushCopy_16 : decode cX9_pushCopy 16 = .ok (.invokevirtual 63, 3) := by decide +kernel
theorem dX9_pushCopy_19 : decode cX9_pushCopy 19 = .ok (.return_, 1) := by decide +kernel
theorem arF {b : Int} (h : 53 ≤ b ∧ b ≤ 59) : LY b = 100 ∧ (b, 24) ∈ LNL ∧ RZ b = false := by
  have h9 : b = 53 ∨ b = 54 ∨ b = 55 ∨ b = 56 ∨ b = 57 ∨ b = 58 ∨ b = 59 := by omega
  rcases h9 with rfl | rfl | rfl | rfl | rfl | rfl | rfl <;> exact ⟨rfl, by decide +kernel, rfl⟩
theorem arG {b : Int} (h : 61 ≤ b ∧ b ≤ 65) : LY b = 100 ∧ (b, 400) ∈ LNL ∧ RZ b = false := by
  have h9 : b = 61 ∨ b = 62 ∨ b = 63 ∨ b = 64 ∨ b = 65 := by omega
  rcases h9 with rfl | rfl | rfl | rfl | rfl <;> exact ⟨rfl, by decide +kernel, rfl⟩
theorem ad_st {ω : Om} {ρ : Int → Nat} {b : Int} (h : RZ b = false) : ad ω ρ b = oP ω b := by
  unfold ad; rw [h]; rfl
theorem ty_ar {b i : Int} (h : LY b = 100) : ty b i = 0 := by
  unfold ty; rw [h]; rfl
/-- a part of an instruction, none behind the end -/
def cdp (μ : M3) (p i k : Int) : Int := if 0 ≤ i ∧ i < μ.1 p 1 then μ.1 (p + 1) (4 * i + k) else 0
theorem cdp_in {μ : M3} {p i k j : Int} (h : 0 ≤ i ∧ i < μ.1 p 1) (e : j = 4 * i + k) : μ.1 (p + 1) j = cdp μ p i k := by
  unfold cdp; rw [if_pos h, e]
theorem cdp_out {μ : M3} {p i k : Int} (h : ¬ (0 ≤ i ∧ i < μ.1 p 1)) : 0 = cdp μ p i k := by
  unfold cdp; rw [if_neg h]
def ofF (μ : M3) (b : Int) : Int := if 0 < μ.1 52 7 then μ.1 b (μ.1 52 7 - 1) else 0
theorem ofF_in {μ : M3} {b n j : Int} (hn : n = μ.1 52 7) (h : 0 < n) (e : j = n - 1) : μ.1 b j = ofF μ b := by
  unfold ofF; rw [← hn, if_pos h, e]
theorem ofF_out {μ : M3} {b n : Int} (hn : n = μ.1 52 7) (h : ¬ 0 < n) : 0 = ofF μ b := by
  unfold ofF; rw [← hn, if_neg h]
theorem ofF_eq {μ μ' : M3} {b : Int} (h : μ'.1 52 7 = μ.1 52 7) (h2 : ∀ j, μ'.1 b j = μ.1 b j) : ofF μ' b = ofF μ b := by
  unfold ofF; rw [h, h2]
theorem ofF_sv (μ : M3) {a k x b : Int} (h : 52 ≠ a) (h2 : b ≠ a) : ofF (sv μ a k x) b = ofF μ b := ofF_eq (sv_a μ k 7 x h) (fun j => sv_a μ k j x h2)
theorem ofF_fr {L : List Int} {μ ν : M3} (F : Fr L μ ν) {b : Int} (h : 52 ∉ L) (h2 : b ∉ L) : ofF ν b = ofF μ b := ofF_eq (F.1 52 h 7) (fun j => F.1 b h2 j)
theorem ofF_at {μ : M3} {b k : Int} (h : μ.1 52 7 = k) (hk : 0 < k) : ofF μ b = μ.1 b (k - 1) := by
  unfold ofF; rw [h, if_pos hk]
def ofG (μ : M3) (b : Int) : Int := if 0 < μ.1 60 6 then μ.1 b (μ.1 60 6 - 1) else 0
theorem ofG_in {μ : M3} {b n j : Int} (hn : n = μ.1 60 6) (h : 0 < n) (e : j = n - 1) : μ.1 b j = ofG μ b := by
  unfold ofG; rw [← hn, if_pos h, e]
theorem ofG_out {μ : M3} {b n : Int} (hn : n = μ.1 60 6) (h : ¬ 0 < n) : 0 = ofG μ b := by
  unfold ofG; rw [← hn, if_neg h]
theorem ofG_eq {μ μ' : M3} {b : Int} (h : μ'.1 60 6 = μ.1 60 6) (h2 : ∀ j, μ'.1 b j = μ.1 b j) : ofG μ' b = ofG μ b := by
  unfold ofG; rw [h, h2]
theorem ofG_sv (μ : M3) {a k x b : Int} (h : 60 ≠ a) (h2 : b ≠ a) : ofG (sv μ a k x) b = ofG μ b := ofG_eq (sv_a μ k 6 x h) (fun j => sv_a μ k j x h2)
theorem ofG_fr {L : List Int} {μ ν : M3} (F : Fr L μ ν) {b : Int} (h : 60 ∉ L) (h2 : b ∉ L) : ofG ν b = ofG μ b := ofG_eq (F.1 60 h 6) (fun j => F.1 b h2 j)
set_option maxHeartbeats 4000000 in
set_option maxRecDepth 100000 in
theorem c_X9_drop (ω : Om) (l : Launch) (μ : M3) (q : Int) (x1 : Int) (n : Int) (hrw : isRow q) (hx1 : ir x1) (hI : IC μ) (hn : n = μ.1 q 3) (hnn : 0 ≤ x1) : CtV ω l yX9_drop cX9_drop 2 3 125 [.ref (oP ω q), .int (iv x1)] μ (fun (μ' : M3) => (Fr [q, q + 1, q + 2, q + 3] μ μ') ∧ (IC μ') ∧ (μ'.1 q 3 = max (n - x1) 0)) := by
  refine CtV.go (by decide) (Nat.le_of_ble_eq_true rfl) (fun ρ p e s m below meth c R ls G hR hret hlk hl => ?_)
  have hx := G.1.1
  have hb := G.1.2.1
  have hl : lv_has ls 2 [(0, .ref (oP ω q)), (1, .int (iv x1))] := hl
  generalize s.drawn = d0 at G ⊢
  have hr_x1 : -2147483648 ≤ x1 ∧ x1 ≤ 2147483647 := hx1
  have hrw_nn := hrw.nn
  have hk_1 := hI.row (r := q) hrw
  unfold rk at hk_1
  refine lv_aload_n hx hb dX9_drop_0 rfl (lv_at hl 0 rfl) ?_
  refine lv_aload_n hx hb dX9_drop_1 rfl (lv_at hl 0 rfl) ?_
  refine xa_geti G fd_X9 (a := q) (x := n) 3 hrw.ly (by decide) rfl (wm 1 153 rfl rfl) ⟨rfl, rfl, rfl⟩ dX9_drop_2 (hrw.hq ω ρ) hn.symm ?_
  have hr_2 : -2147483648 ≤ n ∧ n ≤ 2147483647 := by have h9 := G.hr (a := q) (k := 3) hrw.tz; rw [show μ.1 q 3 = n from hn.symm] at h9; exact h9
  refine lv_iload_n hx hb dX9_drop_5 rfl (lv_at hl 1 rfl) ?_
  refine xb_isub hx hb dX9_drop_6 ?_
  refine xc_vV G (b := q) (rest := []) (As := [.int (iv (n - x1))]) (c_X9_resize ω l μ q (n - x1) hrw (by unfold ir; omega) hI (by omega)) (wm 4 75 rfl rfl) (wm 3 15 rfl rfl) (wm 3 16 rfl rfl) hrw.ly rfl (by decide) (hrw.hq ω ρ) (wm 1 10 rfl rfl) (wm 3 17 rfl rfl) (by decide) hR (by decide) (n := 1) rfl rfl (Nat.le_of_ble_eq_true rfl) hl.1 dX9_drop_7 (fun μ3 ρ d0 H locs hp G => ?_)
  obtain ⟨F_4, hI_5, hs_6⟩ := hp
  have e_7 : μ3.1 q 3 = max (n - x1) 0 := hs_6
  exact xr_v G hret hlk dX9_drop_10 ⟨(Fr.tr Fr.rf F_4 (by simp)), hI_5, (by omega)⟩

set_option maxHeartbeats 4000000 in
set_option maxRecDepth 100000 in
theorem c_X9_push (ω : Om) (l : Launch) (μ : M3) (q : Int) (x1 : Int) (x2 : Int) (x3 : Int) (n : Int) (hrw : isRow q) (hx1 : ir x1) (hx2 : jr x2) (hI : IC μ) (hn : n = μ.1 q 3) (hnb : n < BR q) : CtV ω l yX9_push cX9_push 6 3 125 [.ref (oP ω q), .int (iv x1), .long (jv x2), .double (dv x3)] μ (fun (μ' : M3) => (Fr [q, q + 1, q + 2, q + 3] μ μ') ∧ (IC μ') ∧ (μ'.1 q 3 = n + 1)) := by
  refine CtV.go (by decide) (Nat.le_of_ble_eq_true rfl) (fun ρ p e s m below meth c R ls G hR hret hlk hl => ?_)
  have hx := G.1.1
  have hb := G.1.2.1
  have hl : lv_has ls 6 [(0, .ref (oP ω q)), (1, .int (iv x1)), (2, .long (jv x2)), (4, .double (dv x3))] := hl
  generalize s.drawn = d0 at G ⊢
  have hr_x1 : -2147483648 ≤ x1 ∧ x1 ≤ 2147483647 := hx1
  have hrw_nn := hrw.nn
  have hk_1 := hI.row (r := q) hrw
  unfold rk at hk_1
  have hbr9 := hrw.br
  refine lv_aload_n hx hb dX9_push_0 rfl (lv_at hl 0 rfl) ?_
  refine lv_aload_n hx hb dX9_push_1 rfl (lv_at hl 0 rfl) ?_
  refine xa_geti G fd_X9 (a := q) (x := n) 3 hrw.ly (by decide) rfl (wm 1 153 rfl rfl) ⟨rfl, rfl, rfl⟩ dX9_push_2 (hrw.hq ω ρ) hn.symm ?_
  have hr_2 : -2147483648 ≤ n ∧ n ≤ 2147483647 := by have h9 := G.hr (a := q) (k := 3) hrw.tz; rw [show μ.1 q 3 = n from hn.symm] at h9; exact h9
  refine lv_iconst (v := iv 1) hx hb dX9_push_5 rfl ?_
  refine xb_iadd hx hb dX9_push_6 ?_
  refine xc_vV G (b := q) (rest := []) (As := [.int (iv (n + 1))]) (c_X9_resize ω l μ q (n + 1) hrw (by unfold ir; omega) hI (by omega)) (wm 4 75 rfl rfl) (wm 3 15 rfl rfl) (wm 3 16 rfl rfl) hrw.ly rfl (by decide) (hrw.hq ω ρ) (wm 1 10 rfl rfl) (wm 3 17 rfl rfl) (by decide) hR (by decide) (n := 1) rfl rfl (Nat.le_of_ble_eq_true rfl) hl.1 dX9_push_7 (fun μ3 ρ d0 H locs hp G => ?_)
  obtain ⟨F_4, hI_5, hs_6⟩ := hp
  refine lv_aload_n hx hb dX9_push_10 rfl (lv_at hl 0 rfl) ?_
  refine lv_aload_n hx hb dX9_push_11 rfl (lv_at hl 0 rfl) ?_
  refine xa_geti G fd_X9 (a := q) (x := max (n + 1) 0) 3 hrw.ly (by decide) rfl (wm 1 153 rfl rfl) ⟨rfl, rfl, rfl⟩ dX9_push_12 (hrw.hq ω ρ) hs_6 ?_
  have hr_7 : -2147483648 ≤ max (n + 1) 0 ∧ max (n + 1) 0 ≤ 2147483647 := by have h9 := G.hr (a := q) (k := 3) hrw.tz; rw [show μ3.1 q 3 = max (n + 1) 0 from hs_6] at h9; exact h9
  refine lv_iconst (v := iv 1) hx hb dX9_push_15 rfl ?_
  refine xb_isub hx hb dX9_push_16 ?_
  refine lv_iload_n hx hb dX9_push_17 rfl (lv_at hl 1 rfl) ?_
  refine lv_lload_n hx hb dX9_push_18 rfl (lv_at hl 2 rfl) ?_
  refine lv_dload hx hb dX9_push_19 (lv_at hl 3 rfl) ?_
  refine xc_vV G (b := q) (rest := []) (As := [.int (iv ((max (n + 1) 0) - 1)), .int (iv x1), .long (jv x2), .double (dv x3)]) (c_X9_set ω l μ3 q ((max (n + 1) 0) - 1) x1 x2 x3 hrw (by unfold ir; omega) (by unfold ir; omega) hx2 hI_5) (wm 4 76 rfl rfl) (wm 4 77 rfl rfl) (wm 4 78 rfl rfl) hrw.ly rfl (by decide) (hrw.hq ω ρ) (wm 1 10 rfl rfl) (wm 4 79 rfl rfl) (by decide) hR (by decide) (n := 4) rfl rfl (Nat.le_of_ble_eq_true rfl) hl.1 dX9_push_21 (fun μ8 ρ d0 H locs hp G => ?_)
  obtain ⟨F_9, hI_10, hp_11⟩ := hp
  have e_12 : μ8.1 q 3 = max (n + 1) 0 := ((F_9.1 q (by simp <;> omega) 3).trans hs_6)
  exact xr_v G hret hlk dX9_push_24 ⟨(Fr.tr (Fr.tr Fr.rf F_4 (by simp)) F_9 (by simp)), hI_10, (by omega)⟩

set_option maxHeartbeats 4000000 in
set_option maxRecDepth 100000 in
theorem c_X9_copy (ω : Om) (l : Launch) (μ : M3) (q : Int) (x1 : Int) (q2 : Int) (x3 : Int) (hrw : isRow q) (hx1 : ir x1) (hq2 : isRow q2) (hx3 : ir x3) (hI : IC μ) : CtV ω l yX9_copy cX9_copy 4 1 26 [.ref (oP ω q), .int (iv x1), .ref (oP ω q2), .int (iv x3)] μ (fun (μ' : M3) => (Fr [q + 1, q + 2, q + 3] μ μ') ∧ (IC μ') ∧ (μ'.2 = μ.2)) := by
  refine CtV.go (by decide) (Nat.le_of_ble_eq_true rfl) (fun ρ p e s m below meth c R ls G hR hret hlk hl => ?_)
  have hx := G.1.1
  have hb := G.1.2.1
  have hl : lv_has ls 4 [(0, .ref (oP ω q)), (1, .int (iv x1)), (2, .ref (oP ω q2)), (3, .int (iv x3))] := hl
  generalize s.drawn = d0 at G ⊢
  have hr_x1 : -2147483648 ≤ x1 ∧ x1 ≤ 2147483647 := hx1
  have hr_x3 : -2147483648 ≤ x3 ∧ x3 ≤ 2147483647 := hx3
  have hrw_nn := hrw.nn
  have hq2_nn := hq2.nn
  refine lv_aload_n hx hb dX9_copy_0 rfl (lv_at hl 0 rfl) ?_
  refine lv_iload_n hx hb dX9_copy_1 rfl (lv_at hl 1 rfl) ?_
  refine lv_aload_n hx hb dX9_copy_2 rfl (lv_at hl 2 rfl) ?_
  refine lv_iload_n hx hb dX9_copy_3 rfl (lv_at hl 3 rfl) ?_
  refine xc_iV G (b := q2) (rest := [.int (iv x1), .ref (oP ω q)]) (As := [.int (iv x3)]) (c_X9_kind ω l μ q2 x3 hq2 (by unfold ir; omega) hI) (wm 5 155 rfl rfl) (wm 5 156 rfl rfl) (wm 5 157 rfl rfl) hq2.ly rfl (by decide) (hq2.hq ω ρ) (wm 1 10 rfl rfl) (wm 5 158 rfl rfl) (by decide) hR (by decide) (n := 1) rfl rfl (Nat.le_of_ble_eq_true rfl) hl.1 dX9_copy_4 (fun r_2 μ1 ρ d0 H locs hr_r_2 hp G => ?_)
  have hr_r_2 : -2147483648 ≤ r_2 ∧ r_2 ≤ 2147483647 := hr_r_2
  have hsm_3 := hp
  have hsm_3 := Eq.symm hsm_3
  subst hsm_3
  refine lv_aload_n hx hb dX9_copy_7 rfl (lv_at hl 2 rfl) ?_
  refine lv_iload_n hx hb dX9_copy_8 rfl (lv_at hl 3 rfl) ?_
  refine xc_lV G (b := q2) (rest := [.int (iv r_2), .int (iv x1), .ref (oP ω q)]) (As := [.int (iv x3)]) (c_X9_whole ω l μ q2 x3 hq2 (by unfold ir; omega) hI) (wm 5 204 rfl rfl) (wm 5 160 rfl rfl) (wm 5 161 rfl rfl) hq2.ly rfl (by decide) (hq2.hq ω ρ) (wm 1 10 rfl rfl) (wm 5 162 rfl rfl) (by decide) hR (by decide) (n := 1) rfl rfl (Nat.le_of_ble_eq_true rfl) hl.1 dX9_copy_9 (fun r_5 μ4 ρ d0 H locs hr_r_5 hp G => ?_)
  have hsm_6 := hp
  have hsm_6 := Eq.symm hsm_6
  subst hsm_6
  refine lv_aload_n hx hb dX9_copy_12 rfl (lv_at hl 2 rfl) ?_
  refine lv_iload_n hx hb dX9_copy_13 rfl (lv_at hl 3 rfl) ?_
  refine xc_dV G (b := q2) (rest := [.long (jv r_5), .int (iv r_2), .int (iv x1), .ref (oP ω q)]) (As := [.int (iv x3)]) (c_X9_real ω l μ q2 x3 hq2 (by unfold ir; omega) hI) (wm 5 205 rfl rfl) (wm 5 206 rfl rfl) (wm 5 207 rfl rfl) hq2.ly rfl (by decide) (hq2.hq ω ρ) (wm 1 10 rfl rfl) (wm 5 208 rfl rfl) (by decide) hR (by decide) (n := 1) rfl rfl (Nat.le_of_ble_eq_true rfl) hl.1 dX9_copy_14 (fun r_8 μ7 ρ d0 H locs hp G => ?_)
  have hsm_9 := hp
  have hsm_9 := Eq.symm hsm_9
  subst hsm_9
  refine xc_vV G (b := q) (rest := []) (As := [.int (iv x1), .int (iv r_2), .long (jv r_5), .double (dv r_8)]) (c_X9_set ω l μ q x1 r_2 r_5 r_8 hrw (by unfold ir; omega) (by unfold ir; omega) hr_r_5 hI) (wm 4 76 rfl rfl) (wm 4 77 rfl rfl) (wm 4 78 rfl rfl) hrw.ly rfl (by decide) (hrw.hq ω ρ) (wm 1 10 rfl rfl) (wm 4 79 rfl rfl) (by decide) hR (by decide) (n := 4) rfl rfl (Nat.le_of_ble_eq_true rfl) hl.1 dX9_copy_17 (fun μ10 ρ d0 H locs hp G => ?_)
  obtain ⟨F_11, hI_12, hp_13⟩ := hp
  exact xr_v G hret hlk dX9_copy_20 ⟨(Fr.tr Fr.rf F_11 (by simp)), hI_12, hp_13⟩

set_option maxHeartbeats 4000000 in
set_option maxRecDepth 100000 in
theorem c_X9_pushCopy (ω : Om) (l : Launch) (μ : M3) (q : Int) (q1 : Int) (x2 : Int) (n : Int) (hrw : isRow q) (hq1 : isRow q1) (hx2 : ir x2) (hI : IC μ) (hn : n = μ.1 q 3) (hnb : n < BR q) : CtV ω l yX9_pushCopy cX9_pushCopy 3 4 150 [.ref (oP ω q), .ref (oP ω q1), .int (iv x2)] μ (fun (μ' : M3) => (Fr [q, q + 1, q + 2, q + 3] μ μ') ∧ (IC μ') ∧ (μ'.1 q 3 = n + 1)) := by
  refine CtV.go (by decide) (Nat.le_of_ble_eq_true rfl) (fun ρ p e s m below meth c R ls G hR hret hlk hl => ?_)
  have hx := G.1.1
  have hb := G.1.2.1
  have hl : lv_has ls 3 [(0, .ref (oP ω q)), (1, .ref (oP ω q1)), (2, .int (iv x2))] := hl
  generalize s.drawn = d0 at G ⊢
  have hr_x2 : -2147483648 ≤ x2 ∧ x2 ≤ 2147483647 := hx2
  have hrw_nn := hrw.nn
  have hq1_nn := hq1.nn
  have hk_1 := hI.row (r := q) hrw
  unfold rk at hk_1
  refine lv_aload_n hx hb dX9_pushCopy_0 rfl (lv_at hl 0 rfl) ?_
  refine lv_aload_n hx hb dX9_pushCopy_1 rfl (lv_at hl 1 rfl) ?_
  refine lv_iload_n hx hb dX9_pushCopy_2 rfl (lv_at hl 2 rfl) ?_
  refine xc_iV G (b := q1) (rest := [.ref (oP ω q)]) (As := [.int (iv x2)]) (c_X9_kind ω l μ q1 x2 hq1 (by unfold ir; omega) hI) (wm 5 155 rfl rfl) (wm 5 156 rfl rfl) (wm 5 157 rfl rfl) hq1.ly rfl (by decide) (hq1.hq ω ρ) (wm 1 10 rfl rfl) (wm 5 158 rfl rfl) (by decide) hR (by decide) (n := 1) rfl rfl (Nat.le_of_ble_eq_true rfl) hl.1 dX9_pushCopy_3 (fun r_3 μ2 ρ d0 H locs hr_r_3 hp G => ?_)
  have hr_r_3 : -2147483648 ≤ r_3 ∧ r_3 ≤ 2147483647 := hr_r_3
  have hsm_4 := hp
  have hsm_4 := Eq.symm hsm_4
  subst hsm_4
  refine lv_aload_n hx hb dX9_pushCopy_6 rfl (lv_at hl 1 rfl) ?_
  refine lv_iload_n hx hb dX9_pushCopy_7 rfl (lv_at hl 2 rfl) ?_
  refine xc_lV G (b := q1) (rest := [.int (iv r_3), .ref (oP ω q)]) (As := [.int (iv x2)]) (c_X9_whole ω l μ q1 x2 hq1 (by unfold ir; omega) hI) (wm 5 204 rfl rfl) (wm 5 160 rfl rfl) (wm 5 161 rfl rfl) hq1.ly rfl (by decide) (hq1.hq ω ρ) (wm 1 10 rfl rfl) (wm 5 162 rfl rfl) (by decide) hR (by decide) (n := 1) rfl rfl (Nat.le_of_ble_eq_true rfl) hl.1 dX9_pushCopy_8 (fun r_6 μ5 ρ d0 H locs hr_r_6 hp G => ?_)
  have hsm_7 := hp
  have hsm_7 := Eq.symm hsm_7
  subst hsm_7
  refine lv_aload_n hx hb dX9_pushCopy_11 rfl (lv_at hl 1 rfl) ?_
  refine lv_iload_n hx hb dX9_pushCopy_12 rfl (lv_at hl 2 rfl) ?_
  refine xc_dV G (b := q1) (rest := [.long (jv r_6), .int (iv r_3), .ref (oP ω q)]) (As := [.int (iv x2)]) (c_X9_real ω l μ q1 x2 hq1 (by unfold ir; omega) hI) (wm 5 205 rfl rfl) (wm 5 206 rfl rfl) (wm 5 207 rfl rfl) hq1.ly rfl (by decide) (hq1.hq ω ρ) (wm 1 10 rfl rfl) (wm 5 208 rfl rfl) (by decide) hR (by decide) (n := 1) rfl rfl (Nat.le_of_ble_eq_true rfl) hl.1 dX9_pushCopy_13 (fun r_9 μ8 ρ d0 H locs hp G => ?_)
  have hsm_10 := hp
  have hsm_10 := Eq.symm hsm_10
  subst hsm_10
  have e_11 : μ.1 q 3 = n := hn.symm
  refine xc_vV G (b := q) (rest := []) (As := [.int (iv r_3), .long (jv r_6), .double (dv r_9)]) (c_X9_push ω l μ q r_3 r_6 r_9 n hrw (by unfold ir; omega) hr_r_6 hI (by omega) (by omega)) (wm 5 209 rfl rfl) (wm 4 72 rfl rfl) (wm 4 73 rfl rfl) hrw.ly rfl (by decide) (hrw.hq ω ρ) (wm 1 10 rfl rfl) (wm 4 74 rfl rfl) (by decide) hR (by decide) (n := 3) rfl rfl (Nat.le_of_ble_eq_true rfl) hl.1 dX9_pushCopy_16 (fun μ12 ρ d0 H locs hp G => ?_)
  obtain ⟨F_13, hI_14, hs_15⟩ := hp
  have e_16 : μ12.1 q 3 = n + 1 := hs_15
  exact xr_v G hret hlk dX9_pushCopy_19 ⟨(Fr.tr Fr.rf F_13 (by simp)), hI_14, (by omega)⟩

set_option maxHeartbeats 4000000 in
set_option maxRecDepth 100000 in
theorem c_X2_of (ω : Om) (l : Launch) (μ : M3) (b : Int) (n : Int) (hbA : 53 ≤ b ∧ b ≤ 59) (hI : IC μ) (hn : n = μ.1 52 7) : CtI ω l yX2_of cX2_of 2 .int 0 0 [.ref (oP ω 52), .ref (oP ω b)] μ (fun (r : Int) (μ' : M3) => (μ' = μ) ∧ (r = ofF μ b)) := by
  refine CtI.go (by decide) (Nat.le_of_ble_eq_true rfl) (fun ρ p e s m below meth c R ls G hR hret hlk hl => ?_)
  have hx := G.1.1
  have hb := G.1.2.1
  have hl : lv_has ls 2 [(0, .ref (oP ω 52)), (1, .ref (oP ω b))] := hl
  generalize s.drawn = d0 at G ⊢
  have hn_1 : 0 ≤ μ.1 52 7 ∧ μ.1 52 7 ≤ 24 := hI.nm.2.2.2.2.1
  have hb0 := hbA.1
  refine lv_aload_n hx hb dX2_of_0 rfl (lv_at hl 0 rfl) ?_
  refine xa_geti G fd_X2 (a := 52) (x := n) 7 rfl (by decide) rfl (wm 2 96 rfl rfl) ⟨rfl, rfl, rfl⟩ dX2_of_1 rfl hn.symm ?_
  have hr_2 : -2147483648 ≤ n ∧ n ≤ 2147483647 := by have h9 := G.hr (a := 52) (k := 7) rfl; rw [show μ.1 52 7 = n from hn.symm] at h9; exact h9
  refine xb_if_le (tgt := 27) hx hb (by unfold ir; omega) dX2_of_4 (by decide) (fun c_4 => ?_) (fun c_4 => ?_)
  · refine lv_iconst (v := iv 0) hx hb dX2_of_27 rfl ?_
    exact xr_i G (x := 0) hret hlk (by unfold ir; omega) rfl dX2_of_28 ⟨rfl, (ofF_out hn (by omega))⟩
  · refine lv_aload_n hx hb dX2_of_7 rfl (lv_at hl 0 rfl) ?_
    refine xa_geti G fd_X2 (a := 52) (x := n) 7 rfl (by decide) rfl (wm 2 96 rfl rfl) ⟨rfl, rfl, rfl⟩ dX2_of_8 rfl hn.symm ?_
    refine lv_aload_n hx hb dX2_of_11 rfl (lv_at hl 1 rfl) ?_
    refine xa_alen G (a := b) (t := 0) (arF hbA).1 (by decide) dX2_of_12 (ad_st (arF hbA).2.2) ?_
    refine xb_ti (y := 24) (G.ll (arF hbA).2.1) ?_
    refine xb_icmp_gt (tgt := 27) hx hb (by unfold ir; omega) (by unfold ir; omega) dX2_of_13 (by decide) (fun c_13 => ?_) (fun c_13 => ?_)
    · refine lv_iconst (v := iv 0) hx hb dX2_of_27 rfl ?_
      exact xr_i G (x := 0) hret hlk (by unfold ir; omega) rfl dX2_of_28 ⟨rfl, (ofF_out hn (by omega))⟩
    · refine lv_aload_n hx hb dX2_of_16 rfl (lv_at hl 1 rfl) ?_
      refine lv_aload_n hx hb dX2_of_17 rfl (lv_at hl 0 rfl) ?_
      refine xa_geti G fd_X2 (a := 52) (x := n) 7 rfl (by decide) rfl (wm 2 96 rfl rfl) ⟨rfl, rfl, rfl⟩ dX2_of_18 rfl hn.symm ?_
      refine lv_iconst (v := iv 1) hx hb dX2_of_21 rfl ?_
      refine xb_isub hx hb dX2_of_22 ?_
      refine xa_iald G (a := b) (i := n - 1) (arF hbA).1 (by have h9 := (G.ll (arF hbA).2.1); omega) dX2_of_23 (ad_st (arF hbA).2.2) ?_
      have hr_3 : -2147483648 ≤ μ.1 b (n - 1) ∧ μ.1 b (n - 1) ≤ 2147483647 := by have h9 := G.hr (a := b) (k := n - 1) (ty_ar (arF hbA).1); exact h9
      refine lv_goto (tgt := 28) hx hb dX2_of_24 (by decide) ?_
      exact xr_i G (x := μ.1 b (n - 1)) hret hlk (by unfold ir; omega) rfl dX2_of_28 ⟨rfl, (ofF_in hn (by omega) (by omega))⟩

set_option maxHeartbeats 4000000 in
set_option maxRecDepth 100000 in
theorem c_X2_tongue (ω : Om) (l : Launch) (μ : M3) (hI : IC μ) : CtI ω l yX2_tongue cX2_tongue 1 .int 1 21 [.ref (oP ω 52)] μ (fun (r : Int) (μ' : M3) => (μ' = μ) ∧ (r = ofF μ 53)) := by
  refine CtI.go (by decide) (Nat.le_of_ble_eq_true rfl) (fun ρ p e s m below meth c R ls G hR hret hlk hl => ?_)
  have hx := G.1.1
  have hb := G.1.2.1
  have hl : lv_has ls 1 [(0, .ref (oP ω 52))] := hl
  generalize s.drawn = d0 at G ⊢
  refine lv_aload_n hx hb dX2_tongue_0 rfl (lv_at hl 0 rfl) ?_
  refine lv_aload_n hx hb dX2_tongue_1 rfl (lv_at hl 0 rfl) ?_
  refine xa_getr G fd_X2 (a := 52) (x := 53) 0 rfl (by decide) rfl (wm 2 89 rfl rfl) ⟨rfl, rfl, rfl⟩ dX2_tongue_2 rfl (G.sk 58 rfl) (by decide) rfl ?_
  have hn_1 : 0 ≤ μ.1 52 7 ∧ μ.1 52 7 ≤ 24 := hI.nm.2.2.2.2.1
  refine xc_iV G (b := 52) (rest := []) (As := [.ref (oP ω 53)]) (c_X2_of ω l μ 53 (μ.1 52 7) (by omega) hI (by omega)) (wm 5 119 rfl rfl) (wm 5 121 rfl rfl) (wm 0 67 rfl rfl) rfl rfl (by decide) rfl (wm 1 16 rfl rfl) (wm 5 122 rfl rfl) (by decide) hR (by decide) (n := 1) rfl rfl (Nat.le_of_ble_eq_true rfl) hl.1 dX2_tongue_5 (fun r_3 μ2 ρ d0 H locs hr_r_3 hp G => ?_)
  have hr_r_3 : -2147483648 ≤ r_3 ∧ r_3 ≤ 2147483647 := hr_r_3
  obtain ⟨hsm_4, hp_5⟩ := hp
  have hsm_4 := Eq.symm hsm_4
  subst hsm_4
  exact xr_i G (x := r_3) hret hlk (by unfold ir; omega) rfl dX2_tongue_8 ⟨rfl, (by omega)⟩

set_option maxHeartbeats 4000000 in
set_option maxRecDepth 100000 in
theorem c_X2_function (ω : Om) (l : Launch) (μ : M3) (hI : IC μ) : CtI ω l yX2_function cX2_function 1 .int 1 21 [.ref (oP ω 52)] μ (fun (r : Int) (μ' : M3) => (μ' = μ) ∧ (r = ofF μ 54)) := by
  refine CtI.go (by decide) (Nat.le_of_ble_eq_true rfl) (fun ρ p e s m below meth c R ls G hR hret hlk hl => ?_)
  have hx := G.1.1
  have hb := G.1.2.1
  have hl : lv_has ls 1 [(0, .ref (oP ω 52))] := hl
  generalize s.drawn = d0 at G ⊢
  refine lv_aload_n hx hb dX2_function_0 rfl (lv_at hl 0 rfl) ?_
  refine lv_aload_n hx hb dX2_function_1 rfl (lv_at hl 0 rfl) ?_
  refine xa_getr G fd_X2 (a := 52) (x := 54) 1 rfl (by decide) rfl (wm 2 90 rfl rfl) ⟨rfl, rfl, rfl⟩ dX2_function_2 rfl (G.sk 59 rfl) (by decide) rfl ?_
  have hn_1 : 0 ≤ μ.1 52 7 ∧ μ.1 52 7 ≤ 24 := hI.nm.2.2.2.2.1
  refine xc_iV G (b := 52) (rest := []) (As := [.ref (oP ω 54)]) (c_X2_of ω l μ 54 (μ.1 52 7) (by omega) hI (by omega)) (wm 5 119 rfl rfl) (wm 5 121 rfl rfl) (wm 0 67 rfl rfl) rfl rfl (by decide) rfl (wm 1 16 rfl rfl) (wm 5 122 rfl rfl) (by decide) hR (by decide) (n := 1) rfl rfl (Nat.le_of_ble_eq_true rfl) hl.1 dX2_function_5 (fun r_3 μ2 ρ d0 H locs hr_r_3 hp G => ?_)
  have hr_r_3 : -2147483648 ≤ r_3 ∧ r_3 ≤ 2147483647 := hr_r_3
  obtain ⟨hsm_4, hp_5⟩ := hp
  have hsm_4 := Eq.symm hsm_4
  subst hsm_4
  exact xr_i G (x := r_3) hret hlk (by unfold ir; omega) rfl dX2_function_8 ⟨rfl, (by omega)⟩

set_option maxHeartbeats 4000000 in
set_option maxRecDepth 100000 in
theorem c_X2_base (ω : Om) (l : Launch) (μ : M3) (hI : IC μ) : CtI ω l yX2_base cX2_base 1 .int 1 21 [.ref (oP ω 52)] μ (fun (r : Int) (μ' : M3) => (μ' = μ) ∧ (r = ofF μ 55)) := by
  refine CtI.go (by decide) (Nat.le_of_ble_eq_true rfl) (fun ρ p e s m below meth c R ls G hR hret hlk hl => ?_)
  have hx := G.1.1
  have hb := G.1.2.1
  have hl : lv_has ls 1 [(0, .ref (oP ω 52))] := hl
  generalize s.drawn = d0 at G ⊢
  refine lv_aload_n hx hb dX2_base_0 rfl (lv_at hl 0 rfl) ?_
  refine lv_aload_n hx hb dX2_base_1 rfl (lv_at hl 0 rfl) ?_
  refine xa_getr G fd_X2 (a := 52) (x := 55) 2 rfl (by decide) rfl (wm 2 91 rfl rfl) ⟨rfl, rfl, rfl⟩ dX2_base_2 rfl (G.sk 60 rfl) (by decide) rfl ?_
  have hn_1 : 0 ≤ μ.1 52 7 ∧ μ.1 52 7 ≤ 24 := hI.nm.2.2.2.2.1
  refine xc_iV G (b := 52) (rest := []) (As := [.ref (oP ω 55)]) (c_X2_of ω l μ 55 (μ.1 52 7) (by omega) hI (by omega)) (wm 5 119 rfl rfl) (wm 5 121 rfl rfl) (wm 0 67 rfl rfl) rfl rfl (by decide) rfl (wm 1 16 rfl rfl) (wm 5 122 rfl rfl) (by decide) hR (by decide) (n := 1) rfl rfl (Nat.le_of_ble_eq_true rfl) hl.1 dX2_base_5 (fun r_3 μ2 ρ d0 H locs hr_r_3 hp G => ?_)
  have hr_r_3 : -2147483648 ≤ r_3 ∧ r_3 ≤ 2147483647 := hr_r_3
  obtain ⟨hsm_4, hp_5⟩ := hp
  have hsm_4 := Eq.symm hsm_4
  subst hsm_4
  exact xr_i G (x := r_3) hret hlk (by unfold ir; omega) rfl dX2_base_8 ⟨rfl, (by omega)⟩

set_option maxHeartbeats 4000000 in
set_option maxRecDepth 100000 in
theorem c_X2_floor (ω : Om) (l : Launch) (μ : M3) (hI : IC μ) : CtI ω l yX2_floor cX2_floor 1 .int 1 21 [.ref (oP ω 52)] μ (fun (r : Int) (μ' : M3) => (μ' = μ) ∧ (r = ofF μ 56)) := by
  refine CtI.go (by decide) (Nat.le_of_ble_eq_true rfl) (fun ρ p e s m below meth c R ls G hR hret hlk hl => ?_)
  have hx := G.1.1
  have hb := G.1.2.1
  have hl : lv_has ls 1 [(0, .ref (oP ω 52))] := hl
  generalize s.drawn = d0 at G ⊢
  refine lv_aload_n hx hb dX2_floor_0 rfl (lv_at hl 0 rfl) ?_
  refine lv_aload_n hx hb dX2_floor_1 rfl (lv_at hl 0 rfl) ?_
  refine xa_getr G fd_X2 (a := 52) (x := 56) 3 rfl (by decide) rfl (wm 2 92 rfl rfl) ⟨rfl, rfl, rfl⟩ dX2_floor_2 rfl (G.sk 61 rfl) (by decide) rfl ?_
  have hn_1 : 0 ≤ μ.1 52 7 ∧ μ.1 52 7 ≤ 24 := hI.nm.2.2.2.2.1
  refine xc_iV G (b := 52) (rest := []) (As := [.ref (oP ω 56)]) (c_X2_of ω l μ 56 (μ.1 52 7) (by omega) hI (by omega)) (wm 5 119 rfl rfl) (wm 5 121 rfl rfl) (wm 0 67 rfl rfl) rfl rfl (by decide) rfl (wm 1 16 rfl rfl) (wm 5 122 rfl rfl) (by decide) hR (by decide) (n := 1) rfl rfl (Nat.le_of_ble_eq_true rfl) hl.1 dX2_floor_5 (fun r_3 μ2 ρ d0 H locs hr_r_3 hp G => ?_)
  have hr_r_3 : -2147483648 ≤ r_3 ∧ r_3 ≤ 2147483647 := hr_r_3
  obtain ⟨hsm_4, hp_5⟩ := hp
  have hsm_4 := Eq.symm hsm_4
  subst hsm_4
  exact xr_i G (x := r_3) hret hlk (by unfold ir; omega) rfl dX2_floor_8 ⟨rfl, (by omega)⟩

set_option maxHeartbeats 4000000 in
set_option maxRecDepth 100000 in
theorem c_X2_top (ω : Om) (l : Launch) (μ : M3) (hI : IC μ) : CtI ω l yX2_top cX2_top 1 .int 1 21 [.ref (oP ω 52)] μ (fun (r : Int) (μ' : M3) => (μ' = μ) ∧ (r = ofF μ 57)) := by
  refine CtI.go (by decide) (Nat.le_of_ble_eq_true rfl) (fun ρ p e s m below meth c R ls G hR hret hlk hl => ?_)
  have hx := G.1.1
  have hb := G.1.2.1
  have hl : lv_has ls 1 [(0, .ref (oP ω 52))] := hl
  generalize s.drawn = d0 at G ⊢
  refine lv_aload_n hx hb dX2_top_0 rfl (lv_at hl 0 rfl) ?_
  refine lv_aload_n hx hb dX2_top_1 rfl (lv_at hl 0 rfl) ?_
  refine xa_getr G fd_X2 (a := 52) (x := 57) 4 rfl (by decide) rfl (wm 2 93 rfl rfl) ⟨rfl, rfl, rfl⟩ dX2_top_2 rfl (G.sk 62 rfl) (by decide) rfl ?_
  have hn_1 : 0 ≤ μ.1 52 7 ∧ μ.1 52 7 ≤ 24 := hI.nm.2.2.2.2.1
  refine xc_iV G (b := 52) (rest := []) (As := [.ref (oP ω 57)]) (c_X2_of ω l μ 57 (μ.1 52 7) (by omega) hI (by omega)) (wm 5 119 rfl rfl) (wm 5 121 rfl rfl) (wm 0 67 rfl rfl) rfl rfl (by decide) rfl (wm 1 16 rfl rfl) (wm 5 122 rfl rfl) (by decide) hR (by decide) (n := 1) rfl rfl (Nat.le_of_ble_eq_true rfl) hl.1 dX2_top_5 (fun r_3 μ2 ρ d0 H locs hr_r_3 hp G => ?_)
  have hr_r_3 : -2147483648 ≤ r_3 ∧ r_3 ≤ 2147483647 := hr_r_3
  obtain ⟨hsm_4, hp_5⟩ := hp
  have hsm_4 := Eq.symm hsm_4
  subst hsm_4
  exact xr_i G (x := r_3) hret hlk (by unfold ir; omega) rfl dX2_top_8 ⟨rfl, (by omega)⟩

set_option maxHeartbeats 4000000 in
set_option maxRecDepth 100000 in
theorem c_X2_calledAt (ω : Om) (l : Launch) (μ : M3) (hI : IC μ) : CtI ω l yX2_calledAt cX2_calledAt 1 .int 1 21 [.ref (oP ω 52)] μ (fun (r : Int) (μ' : M3) => (μ' = μ) ∧ (r = ofF μ 58)) := by
  refine CtI.go (by decide) (Nat.le_of_ble_eq_true rfl) (fun ρ p e s m below meth c R ls G hR hret hlk hl => ?_)
  have hx := G.1.1
  have hb := G.1.2.1
  have hl : lv_has ls 1 [(0, .ref (oP ω 52))] := hl
  generalize s.drawn = d0 at G ⊢
  refine lv_aload_n hx hb dX2_calledAt_0 rfl (lv_at hl 0 rfl) ?_
  refine lv_aload_n hx hb dX2_calledAt_1 rfl (lv_at hl 0 rfl) ?_
  refine xa_getr G fd_X2 (a := 52) (x := 58) 5 rfl (by decide) rfl (wm 2 94 rfl rfl) ⟨rfl, rfl, rfl⟩ dX2_calledAt_2 rfl (G.sk 63 rfl) (by decide) rfl ?_
  have hn_1 : 0 ≤ μ.1 52 7 ∧ μ.1 52 7 ≤ 24 := hI.nm.2.2.2.2.1
  refine xc_iV G (b := 52) (rest := []) (As := [.ref (oP ω 58)]) (c_X2_of ω l μ 58 (μ.1 52 7) (by omega) hI (by omega)) (wm 5 119 rfl rfl) (wm 5 121 rfl rfl) (wm 0 67 rfl rfl) rfl rfl (by decide) rfl (wm 1 16 rfl rfl) (wm 5 122 rfl rfl) (by decide) hR (by decide) (n := 1) rfl rfl (Nat.le_of_ble_eq_true rfl) hl.1 dX2_calledAt_5 (fun r_3 μ2 ρ d0 H locs hr_r_3 hp G => ?_)
  have hr_r_3 : -2147483648 ≤ r_3 ∧ r_3 ≤ 2147483647 := hr_r_3
  obtain ⟨hsm_4, hp_5⟩ := hp
  have hsm_4 := Eq.symm hsm_4
  subst hsm_4
  exact xr_i G (x := r_3) hret hlk (by unfold ir; omega) rfl dX2_calledAt_8 ⟨rfl, (by omega)⟩

set_option maxHeartbeats 4000000 in
set_option maxRecDepth 100000 in
theorem c_X2_guardBase (ω : Om) (l : Launch) (μ : M3) (hI : IC μ) : CtI ω l yX2_guardBase cX2_guardBase 1 .int 1 21 [.ref (oP ω 52)] μ (fun (r : Int) (μ' : M3) => (μ' = μ) ∧ (r = ofF μ 59)) := by
  refine CtI.go (by decide) (Nat.le_of_ble_eq_true rfl) (fun ρ p e s m below meth c R ls G hR hret hlk hl => ?_)
  have hx := G.1.1
  have hb := G.1.2.1
  have hl : lv_has ls 1 [(0, .ref (oP ω 52))] := hl
  generalize s.drawn = d0 at G ⊢
  refine lv_aload_n hx hb dX2_guardBase_0 rfl (lv_at hl 0 rfl) ?_
  refine lv_aload_n hx hb dX2_guardBase_1 rfl (lv_at hl 0 rfl) ?_
  refine xa_getr G fd_X2 (a := 52) (x := 59) 6 rfl (by decide) rfl (wm 2 95 rfl rfl) ⟨rfl, rfl, rfl⟩ dX2_guardBase_2 rfl (G.sk 64 rfl) (by decide) rfl ?_
  have hn_1 : 0 ≤ μ.1 52 7 ∧ μ.1 52 7 ≤ 24 := hI.nm.2.2.2.2.1
  refine xc_iV G (b := 52) (rest := []) (As := [.ref (oP ω 59)]) (c_X2_of ω l μ 59 (μ.1 52 7) (by omega) hI (by omega)) (wm 5 119 rfl rfl) (wm 5 121 rfl rfl) (wm 0 67 rfl rfl) rfl rfl (by decide) rfl (wm 1 16 rfl rfl) (wm 5 122 rfl rfl) (by decide) hR (by decide) (n := 1) rfl rfl (Nat.le_of_ble_eq_true rfl) hl.1 dX2_guardBase_5 (fun r_3 μ2 ρ d0 H locs hr_r_3 hp G => ?_)
  have hr_r_3 : -2147483648 ≤ r_3 ∧ r_3 ≤ 2147483647 := hr_r_3
  obtain ⟨hsm_4, hp_5⟩ := hp
  have hsm_4 := Eq.symm hsm_4
  subst hsm_4
  exact xr_i G (x := r_3) hret hlk (by unfold ir; omega) rfl dX2_guardBase_8 ⟨rfl, (by omega)⟩

set_option maxHeartbeats 4000000 in
set_option maxRecDepth 100000 in
theorem c_X2_push (ω : Om) (l : Launch) (μ : M3) (x1 : Int) (x2 : Int) (x3 : Int) (x4 : Int) (x5 : Int) (x6 : Int) (x7 : Int) (n : Int) (hx1 : ir x1) (hx2 : ir x2) (hx3 : ir x3) (hx4 : ir x4) (hx5 : ir x5) (hx6 : ir x6) (hx7 : ir x7) (hI : IC μ) (hn : n = μ.1 52 7) (hn24 : n < 24) : CtV ω l yX2_push cX2_push 8 0 0 [.ref (oP ω 52), .int (iv x1), .int (iv x2), .int (iv x3), .int (iv x4), .int (iv x5), .int (iv x6), .int (iv x7)] μ (fun (μ' : M3) => (Fr [53, 54, 55, 56, 57, 58, 59, 52] μ μ') ∧ (IC μ') ∧ (μ'.1 52 7 = n + 1) ∧ (μ'.1 53 n = x1) ∧ (μ'.1 54 n = x2) ∧ (μ'.1 55 n = x3) ∧ (μ'.1 56 n = x4) ∧ (μ'.1 57 n = x5) ∧ (μ'.1 58 n = x6) ∧ (μ'.1 59 n = x7) ∧ (∀ j, j ≠ n → μ'.1 53 j = μ.1 53 j) ∧ (∀ j, j ≠ n → μ'.1 54 j = μ.1 54 j) ∧ (∀ j, j ≠ n → μ'.1 55 j = μ.1 55 j) ∧ (∀ j, j ≠ n → μ'.1 56 j = μ.1 56 j) ∧ (∀ j, j ≠ n → μ'.1 57 j = μ.1 57 j) ∧ (∀ j, j ≠ n → μ'.1 58 j = μ.1 58 j) ∧ (∀ j, j ≠ n → μ'.1 59 j = μ.1 59 j)) := by
  refine CtV.go (by decide) (Nat.le_of_ble_eq_true rfl) (fun ρ p e s m below meth c R ls G hR hret hlk hl => ?_)
  have hx := G.1.1
  have hb := G.1.2.1
  have hl : lv_has ls 8 [(0, .ref (oP ω 52)), (1, .int (iv x1)), (2, .int (iv x2)), (3, .int (iv x3)), (4, .int (iv x4)), (5, .int (iv x5)), (6, .int (iv x6)), (7, .int (iv x7))] := hl
  generalize s.drawn = d0 at G ⊢
  have hr_x1 : -2147483648 ≤ x1 ∧ x1 ≤ 2147483647 := hx1
  have hr_x2 : -2147483648 ≤ x2 ∧ x2 ≤ 2147483647 := hx2
  have hr_x3 : -2147483648 ≤ x3 ∧ x3 ≤ 2147483647 := hx3
  have hr_x4 : -2147483648 ≤ x4 ∧ x4 ≤ 2147483647 := hx4
  have hr_x5 : -2147483648 ≤ x5 ∧ x5 ≤ 2147483647 := hx5
  have hr_x6 : -2147483648 ≤ x6 ∧ x6 ≤ 2147483647 := hx6
  have hr_x7 : -2147483648 ≤ x7 ∧ x7 ≤ 2147483647 := hx7
  have hn_1 : 0 ≤ μ.1 52 7 ∧ μ.1 52 7 ≤ 24 := hI.nm.2.2.2.2.1
  refine lv_aload_n hx hb dX2_push_0 rfl (lv_at hl 0 rfl) ?_
  refine xa_geti G fd_X2 (a := 52) (x := n) 7 rfl (by decide) rfl (wm 2 96 rfl rfl) ⟨rfl, rfl, rfl⟩ dX2_push_1 rfl hn.symm ?_
  have hr_2 : -2147483648 ≤ n ∧ n ≤ 2147483647 := by have h9 := G.hr (a := 52) (k := 7) rfl; rw [show μ.1 52 7 = n from hn.symm] at h9; exact h9
  refine lv_bipush (v := iv 24) hx hb dX2_push_4 rfl ?_
  refine xb_icmp_ge (tgt := 93) hx hb (by unfold ir; omega) (by unfold ir; omega) dX2_push_6 (by decide) (fun c_6 => ?_) (fun c_6 => ?_)
  · have e_3 : μ.1 52 7 = n := hn.symm
    exact xr_v G hret hlk dX2_push_93 ⟨Fr.rf, hI, (by omega), (by omega), (by omega), (by omega), (by omega), (by omega), (by omega), (by omega), (fun j hj => rfl), (fun j hj => rfl), (fun j hj => rfl), (fun j hj => rfl), (fun j hj => rfl), (fun j hj => rfl), (fun j hj => rfl)⟩
  · refine lv_aload_n hx hb dX2_push_9 rfl (lv_at hl 0 rfl) ?_
    refine xa_getr G fd_X2 (a := 52) (x := 53) 0 rfl (by decide) rfl (wm 2 89 rfl rfl) ⟨rfl, rfl, rfl⟩ dX2_push_10 rfl (G.sk 58 rfl) (by decide) rfl ?_
    refine lv_aload_n hx hb dX2_push_13 rfl (lv_at hl 0 rfl) ?_
    refine xa_geti G fd_X2 (a := 52) (x := n) 7 rfl (by decide) rfl (wm 2 96 rfl rfl) ⟨rfl, rfl, rfl⟩ dX2_push_14 rfl hn.symm ?_
    refine lv_iload_n hx hb dX2_push_17 rfl (lv_at hl 1 rfl) ?_
    refine xa_iast G (a := 53) (i := n) (x := x1) rfl (by have h9 := G.lc (a := 53) (n := 24) 21 rfl; omega) (by unfold ir; omega) dX2_push_18 rfl (fun H locs G => ?_)
    refine lv_aload_n hx hb dX2_push_19 rfl (lv_at hl 0 rfl) ?_
    refine xa_getr G fd_X2 (a := 52) (x := 54) 1 rfl (by decide) rfl (wm 2 90 rfl rfl) ⟨rfl, rfl, rfl⟩ dX2_push_20 rfl (G.sk 59 rfl) (by decide) rfl ?_
    refine lv_aload_n hx hb dX2_push_23 rfl (lv_at hl 0 rfl) ?_
    refine xa_geti G fd_X2 (a := 52) (x := n) 7 rfl (by decide) rfl (wm 2 96 rfl rfl) ⟨rfl, rfl, rfl⟩ dX2_push_24 rfl ((sv_n _ (fun h9 => absurd h9.1 (by decide))).trans hn.symm) ?_
    refine lv_iload_n hx hb dX2_push_27 rfl (lv_at hl 2 rfl) ?_
    refine xa_iast G (a := 54) (i := n) (x := x2) rfl (by have h9 := G.lc (a := 54) (n := 24) 22 rfl; omega) (by unfold ir; omega) dX2_push_28 rfl (fun H locs G => ?_)
    refine lv_aload_n hx hb dX2_push_29 rfl (lv_at hl 0 rfl) ?_
    refine xa_getr G fd_X2 (a := 52) (x := 55) 2 rfl (by decide) rfl (wm 2 91 rfl rfl) ⟨rfl, rfl, rfl⟩ dX2_push_30 rfl (G.sk 60 rfl) (by decide) rfl ?_
    refine lv_aload_n hx hb dX2_push_33 rfl (lv_at hl 0 rfl) ?_
    refine xa_geti G fd_X2 (a := 52) (x := n) 7 rfl (by decide) rfl (wm 2 96 rfl rfl) ⟨rfl, rfl, rfl⟩ dX2_push_34 rfl ((sv_n _ (fun h9 => absurd h9.1 (by decide))).trans ((sv_n _ (fun h9 => absurd h9.1 (by decide))).trans hn.symm)) ?_
    refine lv_iload_n hx hb dX2_push_37 rfl (lv_at hl 3 rfl) ?_
    refine xa_iast G (a := 55) (i := n) (x := x3) rfl (by have h9 := G.lc (a := 55) (n := 24) 23 rfl; omega) (by unfold ir; omega) dX2_push_38 rfl (fun H locs G => ?_)
    refine lv_aload_n hx hb dX2_push_39 rfl (lv_at hl 0 rfl) ?_
    refine xa_getr G fd_X2 (a := 52) (x := 56) 3 rfl (by decide) rfl (wm 2 92 rfl rfl) ⟨rfl, rfl, rfl⟩ dX2_push_40 rfl (G.sk 61 rfl) (by decide) rfl ?_
    refine lv_aload_n hx hb dX2_push_43 rfl (lv_at hl 0 rfl) ?_
    refine xa_geti G fd_X2 (a := 52) (x := n) 7 rfl (by decide) rfl (wm 2 96 rfl rfl) ⟨rfl, rfl, rfl⟩ dX2_push_44 rfl ((sv_n _ (fun h9 => absurd h9.1 (by decide))).trans ((sv_n _ (fun h9 => absurd h9.1 (by decide))).trans ((sv_n _ (fun h9 => absurd h9.1 (by decide))).trans hn.symm))) ?_
    refine lv_iload hx hb dX2_push_47 (lv_at hl 4 rfl) ?_
    refine xa_iast G (a := 56) (i := n) (x := x4) rfl (by have h9 := G.lc (a := 56) (n := 24) 24 rfl; omega) (by unfold ir; omega) dX2_push_49 rfl (fun H locs G => ?_)
    refine lv_aload_n hx hb dX2_push_50 rfl (lv_at hl 0 rfl) ?_
    refine xa_getr G fd_X2 (a := 52) (x := 57) 4 rfl (by decide) rfl (wm 2 93 rfl rfl) ⟨rfl, rfl, rfl⟩ dX2_push_51 rfl (G.sk 62 rfl) (by decide) rfl ?_
    refine lv_aload_n hx hb dX2_push_54 rfl (lv_at hl 0 rfl) ?_
    refine xa_geti G fd_X2 (a := 52) (x := n) 7 rfl (by decide) rfl (wm 2 96 rfl rfl) ⟨rfl, rfl, rfl⟩ dX2_push_55 rfl ((sv_n _ (fun h9 => absurd h9.1 (by decide))).trans ((sv_n _ (fun h9 => absurd h9.1 (by decide))).trans ((sv_n _ (fun h9 => absurd h9.1 (by decide))).trans ((sv_n _ (fun h9 => absurd h9.1 (by decide))).trans hn.symm)))) ?_
    refine lv_iload hx hb dX2_push_58 (lv_at hl 5 rfl) ?_
    refine xa_iast G (a := 57) (i := n) (x := x5) rfl (by have h9 := G.lc (a := 57) (n := 24) 25 rfl; omega) (by unfold ir; omega) dX2_push_60 rfl (fun H locs G => ?_)
    refine lv_aload_n hx hb dX2_push_61 rfl (lv_at hl 0 rfl) ?_
    refine xa_getr G fd_X2 (a := 52) (x := 58) 5 rfl (by decide) rfl (wm 2 94 rfl rfl) ⟨rfl, rfl, rfl⟩ dX2_push_62 rfl (G.sk 63 rfl) (by decide) rfl ?_
    refine lv_aload_n hx hb dX2_push_65 rfl (lv_at hl 0 rfl) ?_
    refine xa_geti G fd_X2 (a := 52) (x := n) 7 rfl (by decide) rfl (wm 2 96 rfl rfl) ⟨rfl, rfl, rfl⟩ dX2_push_66 rfl ((sv_n _ (fun h9 => absurd h9.1 (by decide))).trans ((sv_n _ (fun h9 => absurd h9.1 (by decide))).trans ((sv_n _ (fun h9 => absurd h9.1 (by decide))).trans ((sv_n _ (fun h9 => absurd h9.1 (by decide))).trans ((sv_n _ (fun h9 => absurd h9.1 (by decide))).trans hn.symm))))) ?_
    refine lv_iload hx hb dX2_push_69 (lv_at hl 6 rfl) ?_
    refine xa_iast G (a := 58) (i := n) (x := x6) rfl (by have h9 := G.lc (a := 58) (n := 24) 26 rfl; omega) (by unfold ir; omega) dX2_push_71 rfl (fun H locs G => ?_)
    refine lv_aload_n hx hb dX2_push_72 rfl (lv_at hl 0 rfl) ?_
    refine xa_getr G fd_X2 (a := 52) (x := 59) 6 rfl (by decide) rfl (wm 2 95 rfl rfl) ⟨rfl, rfl, rfl⟩ dX2_push_73 rfl (G.sk 64 rfl) (by decide) rfl ?_
    refine lv_aload_n hx hb dX2_push_76 rfl (lv_at hl 0 rfl) ?_
    refine xa_geti G fd_X2 (a := 52) (x := n) 7 rfl (by decide) rfl (wm 2 96 rfl rfl) ⟨rfl, rfl, rfl⟩ dX2_push_77 rfl ((sv_n _ (fun h9 => absurd h9.1 (by decide))).trans ((sv_n _ (fun h9 => absurd h9.1 (by decide))).trans ((sv_n _ (fun h9 => absurd h9.1 (by decide))).trans ((sv_n _ (fun h9 => absurd h9.1 (by decide))).trans ((sv_n _ (fun h9 => absurd h9.1 (by decide))).trans ((sv_n _ (fun h9 => absurd h9.1 (by decide))).trans hn.symm)))))) ?_
    refine lv_iload hx hb dX2_push_80 (lv_at hl 7 rfl) ?_
    refine xa_iast G (a := 59) (i := n) (x := x7) rfl (by have h9 := G.lc (a := 59) (n := 24) 27 rfl; omega) (by unfold ir; omega) dX2_push_82 rfl (fun H locs G => ?_)
    refine lv_aload_n hx hb dX2_push_83 rfl (lv_at hl 0 rfl) ?_
    refine lv_dup hx hb dX2_push_84 rfl ?_
    refine xa_geti G fd_X2 (a := 52) (x := n) 7 rfl (by decide) rfl (wm 2 96 rfl rfl) ⟨rfl, rfl, rfl⟩ dX2_push_85 rfl ((sv_n _ (fun h9 => absurd h9.1 (by decide))).trans ((sv_n _ (fun h9 => absurd h9.1 (by decide))).trans ((sv_n _ (fun h9 => absurd h9.1 (by decide))).trans ((sv_n _ (fun h9 => absurd h9.1 (by decide))).trans ((sv_n _ (fun h9 => absurd h9.1 (by decide))).trans ((sv_n _ (fun h9 => absurd h9.1 (by decide))).trans ((sv_n _ (fun h9 => absurd h9.1 (by decide))).trans hn.symm))))))) ?_
    refine lv_iconst (v := iv 1) hx hb dX2_push_88 rfl ?_
    refine xb_iadd hx hb dX2_push_89 ?_
    refine xa_puti G fd_X2 (a := 52) (x := n + 1) 7 (kz := 7) rfl rfl (by decide) rfl (by unfold ir; omega) (wm 2 96 rfl rfl) ⟨rfl, rfl, rfl, rfl⟩ rfl dX2_push_90 rfl (fun H locs G => ?_)
    have hI_4 : IC (sv (sv (sv (sv (sv (sv (sv (sv μ 53 n x1) 54 n x2) 55 n x3) 56 n x4) 57 n x5) 58 n x6) 59 n x7) 52 7 (n + 1)) := (IC.n_52_7 (IC.pua (IC.pua (IC.pua (IC.pua (IC.pua (IC.pua (IC.pua hI (by decide)) (by decide)) (by decide)) (by decide)) (by decide)) (by decide)) (by decide)) (by omega))
    have e_5 : (sv (sv (sv (sv (sv (sv (sv (sv μ 53 n x1) 54 n x2) 55 n x3) 56 n x4) 57 n x5) 58 n x6) 59 n x7) 52 7 (n + 1)).1 52 7 = n + 1 := (sv_s _ _ _ _)
    have e_6 : (sv (sv (sv (sv (sv (sv (sv (sv μ 53 n x1) 54 n x2) 55 n x3) 56 n x4) 57 n x5) 58 n x6) 59 n x7) 52 7 (n + 1)).1 53 n = x1 := ((sv_n _ (fun h9 => absurd h9.1 (by decide))).trans ((sv_n _ (fun h9 => absurd h9.1 (by decide))).trans ((sv_n _ (fun h9 => absurd h9.1 (by decide))).trans ((sv_n _ (fun h9 => absurd h9.1 (by decide))).trans ((sv_n _ (fun h9 => absurd h9.1 (by decide))).trans ((sv_n _ (fun h9 => absurd h9.1 (by decide))).trans ((sv_n _ (fun h9 => absurd h9.1 (by decide))).trans (sv_s _ _ _ _))))))))
    have e_7 : (sv (sv (sv (sv (sv (sv (sv (sv μ 53 n x1) 54 n x2) 55 n x3) 56 n x4) 57 n x5) 58 n x6) 59 n x7) 52 7 (n + 1)).1 54 n = x2 := ((sv_n _ (fun h9 => absurd h9.1 (by decide))).trans ((sv_n _ (fun h9 => absurd h9.1 (by decide))).trans ((sv_n _ (fun h9 => absurd h9.1 (by decide))).trans ((sv_n _ (fun h9 => absurd h9.1 (by decide))).trans ((sv_n _ (fun h9 => absurd h9.1 (by decide))).trans ((sv_n _ (fun h9 => absurd h9.1 (by decide))).trans (sv_s _ _ _ _)))))))
    have e_8 : (sv (sv (sv (sv (sv (sv (sv (sv μ 53 n x1) 54 n x2) 55 n x3) 56 n x4) 57 n x5) 58 n x6) 59 n x7) 52 7 (n + 1)).1 55 n = x3 := ((sv_n _ (fun h9 => absurd h9.1 (by decide))).trans ((sv_n _ (fun h9 => absurd h9.1 (by decide))).trans ((sv_n _ (fun h9 => absurd h9.1 (by decide))).trans ((sv_n _ (fun h9 => absurd h9.1 (by decide))).trans ((sv_n _ (fun h9 => absurd h9.1 (by decide))).trans (sv_s _ _ _ _))))))
    have e_9 : (sv (sv (sv (sv (sv (sv (sv (sv μ 53 n x1) 54 n x2) 55 n x3) 56 n x4) 57 n x5) 58 n x6) 59 n x7) 52 7 (n + 1)).1 56 n = x4 := ((sv_n _ (fun h9 => absurd h9.1 (by decide))).trans ((sv_n _ (fun h9 => absurd h9.1 (by decide))).trans ((sv_n _ (fun h9 => absurd h9.1 (by decide))).trans ((sv_n _ (fun h9 => absurd h9.1 (by decide))).trans (sv_s _ _ _ _)))))
    have e_10 : (sv (sv (sv (sv (sv (sv (sv (sv μ 53 n x1) 54 n x2) 55 n x3) 56 n x4) 57 n x5) 58 n x6) 59 n x7) 52 7 (n + 1)).1 57 n = x5 := ((sv_n _ (fun h9 => absurd h9.1 (by decide))).trans ((sv_n _ (fun h9 => absurd h9.1 (by decide))).trans ((sv_n _ (fun h9 => absurd h9.1 (by decide))).trans (sv_s _ _ _ _))))
    have e_11 : (sv (sv (sv (sv (sv (sv (sv (sv μ 53 n x1) 54 n x2) 55 n x3) 56 n x4) 57 n x5) 58 n x6) 59 n x7) 52 7 (n + 1)).1 58 n = x6 := ((sv_n _ (fun h9 => absurd h9.1 (by decide))).trans ((sv_n _ (fun h9 => absurd h9.1 (by decide))).trans (sv_s _ _ _ _)))
    have e_12 : (sv (sv (sv (sv (sv (sv (sv (sv μ 53 n x1) 54 n x2) 55 n x3) 56 n x4) 57 n x5) 58 n x6) 59 n x7) 52 7 (n + 1)).1 59 n = x7 := ((sv_n _ (fun h9 => absurd h9.1 (by decide))).trans (sv_s _ _ _ _))
    exact xr_v G hret hlk dX2_push_93 ⟨(Fr.put (Fr.put (Fr.put (Fr.put (Fr.put (Fr.put (Fr.put (Fr.put Fr.rf (by decide)) (by decide)) (by decide)) (by decide)) (by decide)) (by decide)) (by decide)) (by decide)), hI_4, (by omega), (by omega), (by omega), (by omega), (by omega), (by omega), (by omega), (by omega), (fun j hj => ((sv_n _ (by omega)).trans ((sv_n _ (by omega)).trans ((sv_n _ (by omega)).trans ((sv_n _ (by omega)).trans ((sv_n _ (by omega)).trans ((sv_n _ (by omega)).trans ((sv_n _ (by omega)).trans (sv_n _ (by omega)))))))))), (fun j hj => ((sv_n _ (by omega)).trans ((sv_n _ (by omega)).trans ((sv_n _ (by omega)).trans ((sv_n _ (by omega)).trans ((sv_n _ (by omega)).trans ((sv_n _ (by omega)).trans ((sv_n _ (by omega)).trans (sv_n _ (by omega)))))))))), (fun j hj => ((sv_n _ (by omega)).trans ((sv_n _ (by omega)).trans ((sv_n _ (by omega)).trans ((sv_n _ (by omega)).trans ((sv_n _ (by omega)).trans ((sv_n _ (by omega)).trans ((sv_n _ (by omega)).trans (sv_n _ (by omega)))))))))), (fun j hj => ((sv_n _ (by omega)).trans ((sv_n _ (by omega)).trans ((sv_n _ (by omega)).trans ((sv_n _ (by omega)).trans ((sv_n _ (by omega)).trans ((sv_n _ (by omega)).trans ((sv_n _ (by omega)).trans (sv_n _ (by omega)))))))))), (fun j hj => ((sv_n _ (by omega)).trans ((sv_n _ (by omega)).trans ((sv_n _ (by omega)).trans ((sv_n _ (by omega)).trans ((sv_n _ (by omega)).trans ((sv_n _ (by omega)).trans ((sv_n _ (by omega)).trans (sv_n _ (by omega)))))))))), (fun j hj => ((sv_n _ (by omega)).trans ((sv_n _ (by omega)).trans ((sv_n _ (by omega)).trans ((sv_n _ (by omega)).trans ((sv_n _ (by omega)).trans ((sv_n _ (by omega)).trans ((sv_n _ (by omega)).trans (sv_n _ (by omega)))))))))), (fun j hj => ((sv_n _ (by omega)).trans ((sv_n _ (by omega)).trans ((sv_n _ (by omega)).trans ((sv_n _ (by omega)).trans ((sv_n _ (by omega)).trans ((sv_n _ (by omega)).trans ((sv_n _ (by omega)).trans (sv_n _ (by omega))))))))))⟩

set_option maxHeartbeats 4000000 in
set_option maxRecDepth 100000 in
theorem c_X2_guardBaseOfPart (ω : Om) (l : Launch) (μ : M3) (hI : IC μ) : CtI ω l yX2_guardBaseOfPart cX2_guardBaseOfPart 2 .int 0 0 [.ref (oP ω 52)] μ (fun (r : Int) (μ' : M3) => (μ' = μ)) := by
  refine CtI.go (by decide) (Nat.le_of_ble_eq_true rfl) (fun ρ p e s m below meth c R ls G hR hret hlk hl => ?_)
  have hx := G.1.1
  have hb := G.1.2.1
  have hl : lv_has ls 2 [(0, .ref (oP ω 52))] := hl
  generalize s.drawn = d0 at G ⊢
  refine lv_aload_n hx hb dX2_guardBaseOfPart_0 rfl (lv_at hl 0 rfl) ?_
  refine xa_geti G fd_X2 (a := 52) (x := μ.1 52 7) 7 rfl (by decide) rfl (wm 2 96 rfl rfl) ⟨rfl, rfl, rfl⟩ dX2_guardBaseOfPart_1 rfl rfl ?_
  have hr_1 : -2147483648 ≤ μ.1 52 7 ∧ μ.1 52 7 ≤ 2147483647 := by have h9 := G.hr (a := 52) (k := 7) rfl; exact h9
  have hn_2 : 0 ≤ μ.1 52 7 ∧ μ.1 52 7 ≤ 24 := hI.nm.2.2.2.2.1
  refine lv_iconst (v := iv 1) hx hb dX2_guardBaseOfPart_4 rfl ?_
  refine xb_isub hx hb dX2_guardBaseOfPart_5 ?_
  refine lv_istore_n (lv' := [(1, .int (iv ((μ.1 52 7) - 1))), (0, .ref (oP ω 52))]) hx hb dX2_guardBaseOfPart_6 rfl hl (by decide) rfl (fun ls hl => ?_)
  refine xl (fun n_9 μ' ls => ∃ (i9 : Int), (μ' = μ) ∧ (-2147483648 ≤ i9 ∧ i9 ≤ 2147483647) ∧ (-1 ≤ i9) ∧ (i9 ≤ 23) ∧ n_9 = Int.toNat (i9 + 5) ∧ lv_has ls 2 [(1, .int (iv i9)), (0, .ref (oP ω 52))]) (fun n_9 ρ μL3 d0 H locs ls hI_l G ih => ?_) _ _ _ _ _ _ _ ⟨(μ.1 52 7) - 1, rfl, (by omega), (by omega), (by omega), rfl, lv_sub hl [0, 1] rfl⟩ G
  obtain ⟨i9, FL4, hi_6, hi_7, hi_8, hn5, hl⟩ := hI_l
  have FL4 := Eq.symm FL4
  subst FL4
  refine lv_iload_n hx hb dX2_guardBaseOfPart_7 rfl (lv_at hl 0 rfl) ?_
  refine xb_if_le (tgt := 34) hx hb (by unfold ir; omega) dX2_guardBaseOfPart_8 (by decide) (fun c_8 => ?_) (fun c_8 => ?_)
  · refine lv_iload_n hx hb dX2_guardBaseOfPart_34 rfl (lv_at hl 0 rfl) ?_
    refine xb_if_lt (tgt := 47) hx hb (by unfold ir; omega) dX2_guardBaseOfPart_35 (by decide) (fun c_35 => ?_) (fun c_35 => ?_)
    · refine lv_iconst (v := iv 0) hx hb dX2_guardBaseOfPart_47 rfl ?_
      exact xr_i G (x := 0) hret hlk (by unfold ir; omega) rfl dX2_guardBaseOfPart_48 rfl
    · refine lv_aload_n hx hb dX2_guardBaseOfPart_38 rfl (lv_at hl 1 rfl) ?_
      refine xa_getr G fd_X2 (a := 52) (x := 59) 6 rfl (by decide) rfl (wm 2 95 rfl rfl) ⟨rfl, rfl, rfl⟩ dX2_guardBaseOfPart_39 rfl (G.sk 64 rfl) (by decide) rfl ?_
      refine lv_iload_n hx hb dX2_guardBaseOfPart_42 rfl (lv_at hl 0 rfl) ?_
      refine xa_iald G (a := 59) (i := i9) rfl (by have h9 := G.lc (a := 59) (n := 24) 27 rfl; omega) dX2_guardBaseOfPart_43 rfl ?_
      have hr_9 : -2147483648 ≤ μ.1 59 i9 ∧ μ.1 59 i9 ≤ 2147483647 := by have h9 := G.hr (a := 59) (k := i9) rfl; exact h9
      refine lv_goto (tgt := 48) hx hb dX2_guardBaseOfPart_44 (by decide) ?_
      exact xr_i G (x := μ.1 59 i9) hret hlk (by unfold ir; omega) rfl dX2_guardBaseOfPart_48 rfl
  · refine lv_aload_n hx hb dX2_guardBaseOfPart_11 rfl (lv_at hl 1 rfl) ?_
    refine xa_getr G fd_X2 (a := 52) (x := 53) 0 rfl (by decide) rfl (wm 2 89 rfl rfl) ⟨rfl, rfl, rfl⟩ dX2_guardBaseOfPart_12 rfl (G.sk 58 rfl) (by decide) rfl ?_
    refine lv_iload_n hx hb dX2_guardBaseOfPart_15 rfl (lv_at hl 0 rfl) ?_
    refine lv_iconst (v := iv 1) hx hb dX2_guardBaseOfPart_16 rfl ?_
    refine xb_isub hx hb dX2_guardBaseOfPart_17 ?_
    refine xa_iald G (a := 53) (i := i9 - 1) rfl (by have h9 := G.lc (a := 53) (n := 24) 21 rfl; omega) dX2_guardBaseOfPart_18 rfl ?_
    have hr_10 : -2147483648 ≤ μ.1 53 (i9 - 1) ∧ μ.1 53 (i9 - 1) ≤ 2147483647 := by have h9 := G.hr (a := 53) (k := i9 - 1) rfl; exact h9
    refine lv_aload_n hx hb dX2_guardBaseOfPart_19 rfl (lv_at hl 1 rfl) ?_
    refine xa_getr G fd_X2 (a := 52) (x := 53) 0 rfl (by decide) rfl (wm 2 89 rfl rfl) ⟨rfl, rfl, rfl⟩ dX2_guardBaseOfPart_20 rfl (G.sk 58 rfl) (by decide) rfl ?_
    refine lv_iload_n hx hb dX2_guardBaseOfPart_23 rfl (lv_at hl 0 rfl) ?_
    refine xa_iald G (a := 53) (i := i9) rfl (by have h9 := G.lc (a := 53) (n := 24) 21 rfl; omega) dX2_guardBaseOfPart_24 rfl ?_
    have hr_11 : -2147483648 ≤ μ.1 53 i9 ∧ μ.1 53 i9 ≤ 2147483647 := by have h9 := G.hr (a := 53) (k := i9) rfl; exact h9
    refine xb_icmp_ne (tgt := 34) hx hb (by unfold ir; omega) (by unfold ir; omega) dX2_guardBaseOfPart_25 (by decide) (fun c_25 => ?_) (fun c_25 => ?_)
    · refine lv_iload_n hx hb dX2_guardBaseOfPart_34 rfl (lv_at hl 0 rfl) ?_
      refine xb_if_lt (tgt := 47) hx hb (by unfold ir; omega) dX2_guardBaseOfPart_35 (by decide) (fun c_35 => ?_) (fun c_35 => ?_)
      · refine lv_iconst (v := iv 0) hx hb dX2_guardBaseOfPart_47 rfl ?_
        exact xr_i G (x := 0) hret hlk (by unfold ir; omega) rfl dX2_guardBaseOfPart_48 rfl
      · refine lv_aload_n hx hb dX2_guardBaseOfPart_38 rfl (lv_at hl 1 rfl) ?_
        refine xa_getr G fd_X2 (a := 52) (x := 59) 6 rfl (by decide) rfl (wm 2 95 rfl rfl) ⟨rfl, rfl, rfl⟩ dX2_guardBaseOfPart_39 rfl (G.sk 64 rfl) (by decide) rfl ?_
        refine lv_iload_n hx hb dX2_guardBaseOfPart_42 rfl (lv_at hl 0 rfl) ?_
        refine xa_iald G (a := 59) (i := i9) rfl (by have h9 := G.lc (a := 59) (n := 24) 27 rfl; omega) dX2_guardBaseOfPart_43 rfl ?_
        have hr_12 : -2147483648 ≤ μ.1 59 i9 ∧ μ.1 59 i9 ≤ 2147483647 := by have h9 := G.hr (a := 59) (k := i9) rfl; exact h9
        refine lv_goto (tgt := 48) hx hb dX2_guardBaseOfPart_44 (by decide) ?_
        exact xr_i G (x := μ.1 59 i9) hret hlk (by unfold ir; omega) rfl dX2_guardBaseOfPart_48 rfl
    · refine lv_iinc (v := iv (i9 - 1)) (lv' := [(1, .int (iv (i9 - 1))), (0, .ref (oP ω 52))]) hx hb dX2_guardBaseOfPart_28 hl (k := 0) rfl (by rw [show Int32.ofInt (-1) = iv (-1) from rfl, iv_add] <;> (congr 1 <;> omega)) (by decide) rfl (fun ls hl => ?_)
      refine lv_goto (tgt := 7) hx hb dX2_guardBaseOfPart_31 (by decide) ?_
      exact ih _ _ _ _ _ _ _ (by omega) ⟨i9 - 1, rfl, (by omega), (by omega), (by omega), rfl, lv_sub hl [0, 1] rfl⟩ G
