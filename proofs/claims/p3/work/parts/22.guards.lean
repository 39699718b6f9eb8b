abbrev cX3_detail : ByteArray := prog_5_method_2_code
def yX3_detail : MethodName := ⟨RX3, "detail", "(II)I"⟩
abbrev cX3_clear : ByteArray := prog_5_method_3_code
def yX3_clear : MethodName := ⟨RX3, "clear", "()V"⟩
abbrev cX3_push : ByteArray := prog_5_method_5_code
def yX3_push : MethodName := ⟨RX3, "push", "(II)V"⟩
abbrev cX3_pop : ByteArray := prog_5_method_6_code
def yX3_pop : MethodName := ⟨RX3, "pop", "()V"⟩
abbrev cX3_of : ByteArray := prog_5_method_7_code
def yX3_of : MethodName := ⟨RX3, "of", "([I)I"⟩
abbrev cX3_kind : ByteArray := prog_5_method_8_code
def yX3_kind : MethodName := ⟨RX3, "kind", "()I"⟩
abbrev cX3_target : ByteArray := prog_5_method_9_code
def yX3_target : MethodName := ⟨RX3, "target", "()I"⟩
abbrev cX3_name : ByteArray := prog_5_method_10_code
def yX3_name : MethodName := ⟨RX3, "name", "()I"⟩
abbrev cX3_underWay : ByteArray := prog_5_method_11_code
def yX3_underWay : MethodName := ⟨RX3, "underWay", "()I"⟩
abbrev cX3_hasOpen : ByteArray := prog_5_method_12_code
def yX3_hasOpen : MethodName := ⟨RX3, "hasOpen", "(II)Z"⟩
abbrev cX3_finish : ByteArray := prog_5_method_13_code
def yX3_finish : MethodName := ⟨RX3, "finish", "(II)V"⟩
abbrev cX3_finishAnswer : ByteArray := prog_5_method_14_code
def yX3_finishAnswer : MethodName := ⟨RX3, "finishAnswer", "(LFourTongues$Row;I)V"⟩
abbrev cX3_failureUnderWay : ByteArray := prog_5_method_16_code
def yX3_failureUnderWay : MethodName := ⟨RX3, "failureUnderWay", "()I"⟩
theorem dX3_detail_0 : decode cX3_detail 0 = .ok (.iload_n 0, 1) := by decide +kernel
theorem dX3_detail_1 : decode cX3_detail 1 = .ok (.bipush 64, 2) := by decide +kernel
theorem dX3_detail_3 : decode cX3_detail 3 = .ok (.imul, 1) := by decide +kernel
theorem dX3_detail_4 : decode cX3_detail 4 = .ok (.iload_n 1, 1) := by decide +kernel
theorem dX3_detail_5 : decode cX3_detail 5 = .ok (.iadd, 1) := by decide +kernel
theorem dX3_detail_6 : decode cX3_detail 6 = .ok (.ireturn, 1) := by decide +kernel
theorem dX3_clear_0 : decode cX3_clear 0 = .ok (.aload_n 0, 1) := by decide +kernel
theorem dX3_clear_1 : decode cX3_clear 1 = .ok (.iconst 0, 1) := by decide +kernel
theorem dX3_clear_2 : decode cX3_clear 2 = .ok (.putfield 34, 3) := by decide +kernel
theorem dX3_clear_5 : decode cX3_clear 5 = .ok (.aload_n 0, 1) := by decide +kernel
theorem dX3_clear_6 : decode cX3_clear 6 = .ok (.getfield 30, 3) := by decide +kernel
theorem dX3_clear_9 : decode cX3_clear 9 = .ok (.iconst 0, 1) := by decide +kernel
theorem dX3_clear_10 : decode cX3_clear 10 = .ok (.invokevirtual 38, 3) := by decide +kernel
theorem dX3_clear_13 : decode cX3_clear 13 = .ok (.return_, 1) := by decide +kernel
theorem dX3_push_0 : decode cX3_push 0 = .ok (.aload_n 0, 1) := by decide +kernel
theorem dX3_push_1 : decode cX3_push 1 = .ok (.getfield 34, 3) := by decide +kernel
theorem dX3_push_4 : decode cX3_push 4 = .ok (.sipush 400, 3) := by decide +kernel
theorem dX3_push_7 : decode cX3_push 7 = .ok (.if_icmp .ge 80, 3) := by decide +kernel
theorem dX3_push_10 : decode cX3_push 10 = .ok (.aload_n 0, 1) := by decide +kernel
theorem dX3_push_11 : decode cX3_push 11 = .ok (.getfield 9, 3) := by decide +kernel
theorem dX3_push_14 : decode cX3_push 14 = .ok (.aload_n 0, 1) := by decide +kernel
theorem dX3_push_15 : decode cX3_push 15 = .ok (.getfield 34, 3) := by decide +kernel
theorem dX3_push_18 : decode cX3_push 18 = .ok (.iload_n 1, 1) := by decide +kernel
theorem dX3_push_19 : decode cX3_push 19 = .ok (.bipush 64, 2) := by decide +kernel
theorem dX3_push_21 : decode cX3_push 21 = .ok (.idiv, 1) := by decide +kernel
theorem dX3_push_22 : decode cX3_push 22 = .ok (.iastore, 1) := by decide +kernel
theorem dX3_push_23 : decode cX3_push 23 = .ok (.aload_n 0, 1) := by decide +kernel
theorem dX3_push_24 : decode cX3_push 24 = .ok (.getfield 16, 3) := by decide +kernel
theorem dX3_push_27 : decode cX3_push 27 = .ok (.aload_n 0, 1) := by decide +kernel
theorem dX3_push_28 : decode cX3_push 28 = .ok (.getfield 34, 3) := by decide +kernel
theorem dX3_push_31 : decode cX3_push 31 = .ok (.iload_n 1, 1) := by decide +kernel
theorem dX3_push_32 : decode cX3_push 32 = .ok (.bipush 64, 2) := by decide +kernel
theorem dX3_push_34 : decode cX3_push 34 = .ok (.irem, 1) := by decide +kernel
theorem dX3_push_35 : decode cX3_push 35 = .ok (.iastore, 1) := by decide +kernel
theorem dX3_push_36 : decode cX3_push 36 = .ok (.aload_n 0, 1) := by decide +kernel
theorem dX3_push_37 : decode cX3_push 37 = .ok (.getfield 13, 3) := by decide +kernel
theorem dX3_push_40 : decode cX3_push 40 = .ok (.aload_n 0, 1) := by decide +kernel
theorem dX3_push_41 : decode cX3_push 41 = .ok (.getfield 34, 3) := by decide +kernel
theorem dX3_push_44 : decode cX3_push 44 = .ok (.iload_n 2, 1) := by decide +kernel
theorem dX3_push_45 : decode cX3_push 45 = .ok (.iastore, 1) := by decide +kernel
theorem dX3_push_46 : decode cX3_push 46 = .ok (.aload_n 0, 1) := by decide +kernel
theorem dX3_push_47 : decode cX3_push 47 = .ok (.getfield 19, 3) := by decide +kernel
theorem dX3_push_50 : decode cX3_push 50 = .ok (.aload_n 0, 1) := by decide +kernel
theorem dX3_push_51 : decode cX3_push 51 = .ok (.getfield 34, 3) := by decide +kernel
theorem dX3_push_54 : decode cX3_push 54 = .ok (.iconst 0, 1) := by decide +kernel
theorem dX3_push_55 : decode cX3_push 55 = .ok (.iastore, 1) := by decide +kernel
theorem dX3_push_56 : decode cX3_push 56 = .ok (.aload_n 0, 1) := by decide +kernel
theorem dX3_push_57 : decode cX3_push 57 = .ok (.getfield 22, 3) := by decide +kernel
theorem dX3_push_60 : decode cX3_push 60 = .ok (.aload_n 0, 1) := by decide +kernel
theorem dX3_push_61 : decode cX3_push 61 = .ok (.getfield 34, 3) := by decide +kernel
theorem dX3_push_64 : decode cX3_push 64 = .ok (.iconst (-1), 1) := by decide +kernel
theorem dX3_push_65 : decode cX3_push 65 = .ok (.iastore, 1) := by decide +kernel
theorem dX3_push_66 : decode cX3_push 66 = .ok (.aload_n 0, 1) := by decide +kernel
theorem dX3_push_67 : decode cX3_push 67 = .ok (.dup, 1) := by decide +kernel
theorem dX3_push_68 : decode cX3_push 68 = .ok (.getfield 34, 3) := by decide +kernel
theorem dX3_push_71 : decode cX3_push 71 = .ok (.iconst 1, 1) := by decide +kernel
theorem dX3_push_72 : decode cX3_push 72 = .ok (.iadd, 1) := by decide +kernel
theorem dX3_push_73 : decode cX3_push 73 = .ok (.putfield 34, 3) := by decide +kernel
theorem dX3_push_76 : decode cX3_push 76 = .ok (.aload_n 0, 1) := by decide +kernel
theorem dX3_push_77 : decode cX3_push 77 = .ok (.getfield 30, 3) := by decide +kernel
theorem dX3_push_80 : decode cX3_push 80 = .ok (.aload_n 0, 1) := by decide +kernel
theorem dX3_push_81 : decode cX3_push 81 = .ok (.getfield 34, 3) := by decide +kernel
theorem dX3_push_84 : decode cX3_push 84 = .ok (.invokevirtual 38, 3) := by decide +kernel
theorem dX3_push_87 : decode cX3_push 87 = .ok (.return_, 1) := by decide +kernel
theorem dX3_pop_0 : decode cX3_pop 0 = .ok (.aload_n 0, 1) := by decide +kernel
theorem dX3_pop_1 : decode cX3_pop 1 = .ok (.getfield 34, 3) := by decide +kernel
theorem dX3_pop_4 : decode cX3_pop 4 = .ok (.ifCond .le 24, 3) := by decide +kernel
theorem dX3_pop_7 : decode cX3_pop 7 = .ok (.aload_n 0, 1) := by decide +kernel
theorem dX3_pop_8 : decode cX3_pop 8 = .ok (.dup, 1) := by decide +kernel
theorem dX3_pop_9 : decode cX3_pop 9 = .ok (.getfield 34, 3) := by decide +kernel
theorem dX3_pop_12 : decode cX3_pop 12 = .ok (.iconst 1, 1) := by decide +kernel
theorem dX3_pop_13 : decode cX3_pop 13 = .ok (.isub, 1) := by decide +kernel
theorem dX3_pop_14 : decode cX3_pop 14 = .ok (.putfield 34, 3) := by decide +kernel
theorem dX3_pop_17 : decode cX3_pop 17 = .ok (.aload_n 0, 1) := by decide +kernel
theorem dX3_pop_18 : decode cX3_pop 18 = .ok (.getfield 30, 3) := by decide +kernel
theorem dX3_pop_21 : decode cX3_pop 21 = .ok (.aload_n 0, 1) := by decide +kernel
theorem dX3_pop_22 : decode cX3_pop 22 = .ok (.getfield 34, 3) := by decide +kernel
theorem dX3_pop_25 : decode cX3_pop 25 = .ok (.invokevirtual 38, 3) := by decide +kernel
theorem dX3_pop_28 : decode cX3_pop 28 = .ok (.return_, 1) := by decide +kernel
theorem dX3_of_0 : decode cX3_of 0 = .ok (.aload_n 0, 1) := by decide +kernel
theorem dX3_of_1 : decode cX3_of 1 = .ok (.getfield 34, 3) := by decide +kernel
theorem dX3_of_4 : decode cX3_of 4 = .ok (.ifCond .le 23, 3) := by decide +kernel
theorem dX3_of_7 : decode cX3_of 7 = .ok (.aload_n 0, 1) := by decide +kernel
theorem dX3_of_8 : decode cX3_of 8 = .ok (.getfield 34, 3) := by decide +kernel
theorem dX3_of_11 : decode cX3_of 11 = .ok (.aload_n 1, 1) := by decide +kernel
theorem dX3_of_12 : decode cX3_of 12 = .ok (.arraylength, 1) := by decide +kernel
theorem dX3_of_13 : decode cX3_of 13 = .ok (.if_icmp .gt 14, 3) := by decide +kernel
theorem dX3_of_16 : decode cX3_of 16 = .ok (.aload_n 1, 1) := by decide +kernel
theorem dX3_of_17 : decode cX3_of 17 = .ok (.aload_n 0, 1) := by decide +kernel
theorem dX3_of_18 : decode cX3_of 18 = .ok (.getfield 34, 3) := by decide +kernel
theorem dX3_of_21 : decode cX3_of 21 = .ok (.iconst 1, 1) := by decide +kernel
theorem dX3_of_22 : decode cX3_of 22 = .ok (.isub, 1) := by decide +kernel
theorem dX3_of_23 : decode cX3_of 23 = .ok (.iaload, 1) := by decide +kernel
theorem dX3_of_24 : decode cX3_of 24 = .ok (.goto 4, 3) := by decide +kernel
theorem dX3_of_27 : decode cX3_of 27 = .ok (.iconst 0, 1) := by decide +kernel
theorem dX3_of_28 : decode cX3_of 28 = .ok (.ireturn, 1) := by decide +kernel
theorem dX3_kind_0 : decode cX3_kind 0 = .ok (.aload_n 0, 1) := by decide +kernel
theorem dX3_kind_1 : decode cX3_kind 1 = .ok (.aload_n 0, 1) := by decide +kernel
theorem dX3_kind_2 : decode cX3_kind 2 = .ok (.getfield 9, 3) := by decide +kernel
theorem dX3_kind_5 : decode cX3_kind 5 = .ok (.invokevirtual 41, 3) := by decide +kernel
theorem dX3_kind_8 : decode cX3_kind 8 = .ok (.ireturn, 1) := by decide +kernel
theorem dX3_target_0 : decode cX3_target 0 = .ok (.aload_n 0, 1) := by decide +kernel
theorem dX3_target_1 : decode cX3_target 1 = .ok (.aload_n 0, 1) := by decide +kernel
theorem dX3_target_2 : decode cX3_target 2 = .ok (.getfield 13, 3) := by decide +kernel
theorem dX3_target_5 : decode cX3_target 5 = .ok (.invokevirtual 41, 3) := by decide +kernel
theorem dX3_target_8 : decode cX3_target 8 = .ok (.ireturn, 1) := by decide +kernel
theorem dX3_name_0 : decode cX3_name 0 = .ok (.aload_n 0, 1) := by decide +kernel
theorem dX3_name_1 : decode cX3_name 1 = .ok (.aload_n 0, 1) := by decide +kernel
theorem dX3_name_2 : decode cX3_name 2 = .ok (.getfield 16, 3) := by decide +kernel
theorem dX3_name_5 : decode cX3_name 5 = .ok (.invokevirtual 41, 3) := by decide +kernel
theorem dX3_name_8 : decode cX3_name 8 = .ok (.ireturn, 1) := by decide +kernel
theorem dX3_underWay_0 : decode cX3_underWay 0 = .ok (.aload_n 0, 1) := by decide +kernel
theorem dX3_underWay_1 : decode cX3_underWay 1 = .ok (.aload_n 0, 1) := by decide +kernel
theorem dX3_underWay_2 : decode cX3_underWay 2 = .ok (.getfield 19, 3) := by decide +kernel
theorem dX3_underWay_5 : decode cX3_underWay 5 = .ok (.invokevirtual 41, 3) := by decide +kernel
theorem dX3_underWay_8 : decode cX3_underWay 8 = .ok (.ireturn, 1) := by decide +kernel
theorem dX3_hasOpen_0 : decode cX3_hasOpen 0 = .ok (.iload_n 2, 1) := by decide +kernel
theorem dX3_hasOpen_1 : decode cX3_hasOpen 1 = .ok (.iconst 0, 1) := by decide +kernel
theorem dX3_hasOpen_2 : decode cX3_hasOpen 2 = .ok (.invokestatic 45, 3) := by decide +kernel
theorem dX3_hasOpen_5 : decode cX3_hasOpen 5 = .ok (.istore_n 3, 1) := by decide +kernel
theorem dX3_hasOpen_6 : decode cX3_hasOpen 6 = .ok (.iload_n 3, 1) := by decide +kernel
theorem dX3_hasOpen_7 : decode cX3_hasOpen 7 = .ok (.aload_n 0, 1) := by decide +kernel
theorem dX3_hasOpen_8 : decode cX3_hasOpen 8 = .ok (.getfield 34, 3) := by decide +kernel
theorem dX3_hasOpen_11 : decode cX3_hasOpen 11 = .ok (.if_icmp .ge 31, 3) := by decide +kernel
theorem dX3_hasOpen_14 : decode cX3_hasOpen 14 = .ok (.aload_n 0, 1) := by decide +kernel
theorem dX3_hasOpen_15 : decode cX3_hasOpen 15 = .ok (.getfield 9, 3) := by decide +kernel
theorem dX3_hasOpen_18 : decode cX3_hasOpen 18 = .ok (.iload_n 3, 1) := by decide +kernel
theorem dX3_hasOpen_19 : decode cX3_hasOpen 19 = .ok (.iaload, 1) := by decide +kernel
theorem dX3_hasOpen_20 : decode cX3_hasOpen 20 = .ok (.iconst 3, 1) := by decide +kernel
theorem dX3_hasOpen_21 : decode cX3_hasOpen 21 = .ok (.if_icmp .ne 15, 3) := by decide +kernel
theorem dX3_hasOpen_24 : decode cX3_hasOpen 24 = .ok (.aload_n 0, 1) := by decide +kernel
theorem dX3_hasOpen_25 : decode cX3_hasOpen 25 = .ok (.getfield 16, 3) := by decide +kernel
theorem dX3_hasOpen_28 : decode cX3_hasOpen 28 = .ok (.iload_n 3, 1) := by decide +kernel
theorem dX3_hasOpen_29 : decode cX3_hasOpen 29 = .ok (.iaload, 1) := by decide +kernel
theorem dX3_hasOpen_30 : decode cX3_hasOpen 30 = .ok (.iload_n 1, 1) := by decide +kernel
theorem dX3_hasOpen_31 : decode cX3_hasOpen 31 = .ok (.if_icmp .ne 5, 3) := by decide +kernel
theorem dX3_hasOpen_34 : decode cX3_hasOpen 34 = .ok (.iconst 1, 1) := by decide +kernel
theorem dX3_hasOpen_35 : decode cX3_hasOpen 35 = .ok (.ireturn, 1) := by decide +kernel
theorem dX3_hasOpen_36 : decode cX3_hasOpen 36 = .ok (.iinc 3 1, 3) := by decide +kernel
theorem dX3_hasOpen_39 : decode cX3_hasOpen 39 = .ok (.goto (-33), 3) := by decide +kernel
theorem dX3_hasOpen_42 : decode cX3_hasOpen 42 = .ok (.iconst 0, 1) := by decide +kernel
theorem dX3_hasOpen_43 : decode cX3_hasOpen 43 = .ok (.ireturn, 1) := by decide +kernel
theorem dX3_finish_0 : decode cX3_finish 0 = .ok (.aload_n 0, 1) := by decide +kernel
theorem dX3_finish_1 : decode cX3_finish 1 = .ok (.getfield 34, 3) := by decide +kernel
theorem dX3_finish_4 : decode cX3_finish 4 = .ok (.ifCond .le 39, 3) := by decide +kernel
theorem dX3_finish_7 : decode cX3_finish 7 = .ok (.aload_n 0, 1) := by decide +kernel
theorem dX3_finish_8 : decode cX3_finish 8 = .ok (.getfield 9, 3) := by decide +kernel
theorem dX3_finish_11 : decode cX3_finish 11 = .ok (.aload_n 0, 1) := by decide +kernel
theorem dX3_finish_12 : decode cX3_finish 12 = .ok (.getfield 34, 3) := by decide +kernel
theorem dX3_finish_15 : decode cX3_finish 15 = .ok (.iconst 1, 1) := by decide +kernel
theorem dX3_finish_16 : decode cX3_finish 16 = .ok (.isub, 1) := by decide +kernel
theorem dX3_finish_17 : decode cX3_finish 17 = .ok (.iconst 5, 1) := by decide +kernel
theorem dX3_finish_18 : decode cX3_finish 18 = .ok (.iastore, 1) := by decide +kernel
theorem dX3_finish_19 : decode cX3_finish 19 = .ok (.aload_n 0, 1) := by decide +kernel
theorem dX3_finish_20 : decode cX3_finish 20 = .ok (.getfield 19, 3) := by decide +kernel
theorem dX3_finish_23 : decode cX3_finish 23 = .ok (.aload_n 0, 1) := by decide +kernel
theorem dX3_finish_24 : decode cX3_finish 24 = .ok (.getfield 34, 3) := by decide +kernel
theorem dX3_finish_27 : decode cX3_finish 27 = .ok (.iconst 1, 1) := by decide +kernel
theorem dX3_finish_28 : decode cX3_finish 28 = .ok (.isub, 1) := by decide +kernel
theorem dX3_finish_29 : decode cX3_finish 29 = .ok (.iload_n 1, 1) := by decide +kernel
theorem dX3_finish_30 : decode cX3_finish 30 = .ok (.iastore, 1) := by decide +kernel
theorem dX3_finish_31 : decode cX3_finish 31 = .ok (.aload_n 0, 1) := by decide +kernel
theorem dX3_finish_32 : decode cX3_finish 32 = .ok (.getfield 22, 3) := by decide +kernel
theorem dX3_finish_35 : decode cX3_finish 35 = .ok (.aload_n 0, 1) := by decide +kernel
theorem dX3_finish_36 : decode cX3_finish 36 = .ok (.getfield 34, 3) := by decide +kernel
theorem dX3_finish_39 : decode cX3_finish 39 = .ok (.iconst 1, 1) := by decide +kernel
theorem dX3_finish_40 : decode cX3_finish 40 = .ok (.isub, 1) := by decide +kernel
theorem dX3_finish_41 : decode cX3_finish 41 = .ok (.iload_n 2, 1) := by decide +kernel
theorem dX3_finish_42 : decode cX3_finish 42 = .ok (.iastore, 1) := by decide +kernel
theorem dX3_finish_43 : decode cX3_finish 43 = .ok (.return_, 1) := by decide +kernel
theorem dX3_finishAnswer_0 : decode cX3_finishAnswer 0 = .ok (.aload_n 0, 1) := by decide +kernel
theorem dX3_finishAnswer_1 : decode cX3_finishAnswer 1 = .ok (.iconst 1, 1) := by decide +kernel
theorem dX3_finishAnswer_2 : decode cX3_finishAnswer 2 = .ok (.iconst (-1), 1) := by decide +kernel
theorem dX3_finishAnswer_3 : decode cX3_finishAnswer 3 = .ok (.invokevirtual 51, 3) := by decide +kernel
theorem dX3_finishAnswer_6 : decode cX3_finishAnswer 6 = .ok (.aload_n 0, 1) := by decide +kernel
theorem dX3_finishAnswer_7 : decode cX3_finishAnswer 7 = .ok (.getfield 30, 3) := by decide +kernel
theorem dX3_finishAnswer_10 : decode cX3_finishAnswer 10 = .ok (.aload_n 0, 1) := by decide +kernel
theorem dX3_finishAnswer_11 : decode cX3_finishAnswer 11 = .ok (.getfield 34, 3) := by decide +kernel
theorem dX3_finishAnswer_14 : decode cX3_finishAnswer 14 = .ok (.iconst 1, 1) := by decide +kernel
theorem dX3_finishAnswer_15 : decode cX3_finishAnswer 15 = .ok (.isub, 1) := by decide +kernel
theorem dX3_finishAnswer_16 : decode cX3_finishAnswer 16 = .ok (.aload_n 1, 1) := by decide +kernel
theorem dX3_finishAnswer_17 : decode cX3_finishAnswer 17 = .ok (.iload_n 2, 1) := by decide +kernel
theorem dX3_finishAnswer_18 : decode cX3_finishAnswer 18 = .ok (.invokevirtual 55, 3) := by decide +kernel
theorem dX3_finishAnswer_21 : decode cX3_finishAnswer 21 = .ok (.return_, 1) := by decide +kernel
theorem dX3_failureUnderWay_0 : decode cX3_failureUnderWay 0 = .ok (.aload_n 0, 1) := by decide +kernel
theorem dX3_failureUnderWay_1 : decode cX3_failureUnderWay 1 = .ok (.invokevirtual 59, 3) := by decide +kernel
theorem dX3_failureUnderWay_4 : decode cX3_failureUnderWay 4 = .ok (.iconst 1, 1) := by decide +kernel
theorem dX3_failureUnderWay_5 : decode cX3_failureUnderWay 5 = .ok (.if_icmp .ne 29, 3) := by decide +kernel
theorem dX3_failureUnderWay_8 : decode cX3_failureUnderWay 8 = .ok (.aload_n 0, 1) := by decide +kernel
theorem dX3_failureUnderWay_9 : decode cX3_failureUnderWay 9 = .ok (.getfield 30, 3) := by decide +kernel
theorem dX3_failureUnderWay_12 : decode cX3_failureUnderWay 12 = .ok (.invokevirtual 62, 3) := by decide +kernel
theorem dX3_failureUnderWay_15 : decode cX3_failureUnderWay 15 = .ok (.iconst 4, 1) := by decide +kernel
theorem dX3_failureUnderWay_16 : decode cX3_failureUnderWay 16 = .ok (.if_icmp .ne 18, 3) := by decide +kernel
theorem dX3_failureUnderWay_19 : decode cX3_failureUnderWay 19 = .ok (.aload_n 0, 1) := by decide +kernel
theorem dX3_failureUnderWay_20 : decode cX3_failureUnderWay 20 = .ok (.getfield 30, 3) := by decide +kernel
theorem dX3_failureUnderWay_23 : decode cX3_failureUnderWay 23 = .ok (.aload_n 0, 1) := by decide +kernel
theorem dX3_failureUnderWay_24 : decode cX3_failureUnderWay 24 = .ok (.getfield 34, 3) := by decide +kernel
theorem dX3_failureUnderWay_27 : decode cX3_failureUnderWay 27 = .ok (.iconst 1, 1) := by decide +kernel
theorem dX3_failureUnderWay_28 : decode cX3_failureUnderWay 28 = .ok (.isub, 1) := by decide +kernel
theorem dX3_failureUnderWay_29 : decode cX3_failureUnderWay 29 = .ok (.invokevirtual 65, 3) := by decide +kernel
theorem dX3_failureUnderWay_32 : decode cX3_failureUnderWay 32 = .ok (.l2i, 1) := by decide +kernel
theorem dX3_failureUnderWay_33 : decode cX3_failureUnderWay 33 = .ok (.ireturn, 1) := by decide +kernel
theorem dX3_failureUnderWay_34 : decode cX3_failureUnderWay 34 = .ok (.aload_n 0, 1) := by decide +kernel
theorem dX3_failureUnderWay_35 : decode cX3_failureUnderWay 35 = .ok (.invokevirtual 59, 3) := by decide +kernel
theorem dX3_failureUnderWay_38 : decode cX3_failureUnderWay 38 = .ok (.iconst 2, 1) := by decide +kernel
theorem dX3_failureUnderWay_39 : decode cX3_failureUnderWay 39 = .ok (.if_icmp .ne 14, 3) := by decide +kernel
theorem dX3_failureUnderWay_42 : decode cX3_failureUnderWay 42 = .ok (.aload_n 0, 1) := by decide +kernel
theorem dX3_failureUnderWay_43 : decode cX3_failureUnderWay 43 = .ok (.aload_n 0, 1) := by decide +kernel
theorem dX3_failureUnderWay_44 : decode cX3_failureUnderWay 44 = .ok (.getfield 22, 3) := by decide +kernel
theorem dX3_failureUnderWay_47 : decode cX3_failureUnderWay 47 = .ok (.invokevirtual 41, 3) := by decide +kernel
theorem dX3_failureUnderWay_50 : decode cX3_failureUnderWay 50 = .ok (.goto 4, 3) := by decide +kernel
theorem dX3_failureUnderWay_53 : decode cX3_failureUnderWay 53 = .ok (.iconst (-1), 1) := by decide +kernel
theorem dX3_failureUnderWay_54 : decode cX3_failureUnderWay 54 = .ok (.ireturn, 1) := by decide +kernel
theorem td64 {x : Int} (h : -2147483648 ≤ x ∧ x ≤ 2147483647) : -33554432 ≤ x.tdiv 64 ∧ x.tdiv 64 ≤ 33554432 := by
  have h1 := Int.mul_tdiv_add_tmod x 64
  have h2 : (x.tmod 64).natAbs < 64 := by rw [Int.natAbs_tmod]; exact Nat.mod_lt _ (by decide)
  omega
theorem tm64 (x : Int) : -64 < x.tmod 64 ∧ x.tmod 64 < 64 := by
  have h2 : (x.tmod 64).natAbs < 64 := by rw [Int.natAbs_tmod]; exact Nat.mod_lt _ (by decide)
  omega
set_option maxHeartbeats 4000000 in
set_option maxRecDepth 100000 in
theorem c_X3_detail (ω : Om) (l : Launch) (μ : M3) (x1 : Int) (x2 : Int) (hx1 : ir x1) (hx2 : ir x2) (h1 : 0 ≤ x1 ∧ x1 ≤ 100 ∧ 0 ≤ x2 ∧ x2 ≤ 100) : CtI ω l yX3_detail cX3_detail 2 .int 0 0 [.int (iv x1), .int (iv x2)] μ (fun (r : Int) (μ' : M3) => (μ' = μ) ∧ (r = x1 * 64 + x2)) := by
  refine CtI.go (by decide) (Nat.le_of_ble_eq_true rfl) (fun ρ p e s m below meth c R ls G hR hret hlk hl => ?_)
  have hx := G.1.1
  have hb := G.1.2.1
  have hl : lv_has ls 2 [(0, .int (iv x1)), (1, .int (iv x2))] := hl
  generalize s.drawn = d0 at G ⊢
  have hr_x1 : -2147483648 ≤ x1 ∧ x1 ≤ 2147483647 := hx1
  have hr_x2 : -2147483648 ≤ x2 ∧ x2 ≤ 2147483647 := hx2
  refine lv_iload_n hx hb dX3_detail_0 rfl (lv_at hl 0 rfl) ?_
  refine lv_bipush (v := iv 64) hx hb dX3_detail_1 rfl ?_
  refine xb_imul hx hb dX3_detail_3 ?_
  refine lv_iload_n hx hb dX3_detail_4 rfl (lv_at hl 1 rfl) ?_
  refine xb_iadd hx hb dX3_detail_5 ?_
  exact xr_i G (x := (x1 * 64) + x2) hret hlk (by unfold ir; omega) rfl dX3_detail_6 ⟨rfl, (by omega)⟩

set_option maxHeartbeats 4000000 in
set_option maxRecDepth 100000 in
theorem c_X3_clear (ω : Om) (l : Launch) (μ : M3) (hI : IC μ) : CtV ω l yX3_clear cX3_clear 1 3 125 [.ref (oP ω 60)] μ (fun (μ' : M3) => (Fr [60, 66, 67, 68, 69] μ μ') ∧ (IC μ') ∧ (μ'.1 60 6 = 0)) := by
  refine CtV.go (by decide) (Nat.le_of_ble_eq_true rfl) (fun ρ p e s m below meth c R ls G hR hret hlk hl => ?_)
  have hx := G.1.1
  have hb := G.1.2.1
  have hl : lv_has ls 1 [(0, .ref (oP ω 60))] := hl
  generalize s.drawn = d0 at G ⊢
  refine lv_aload_n hx hb dX3_clear_0 rfl (lv_at hl 0 rfl) ?_
  refine lv_iconst (v := iv 0) hx hb dX3_clear_1 rfl ?_
  refine xa_puti G fd_X3 (a := 60) (x := 0) 6 (kz := 6) rfl rfl (by decide) rfl (by unfold ir; omega) (wm 2 128 rfl rfl) ⟨rfl, rfl, rfl, rfl⟩ rfl dX3_clear_2 rfl (fun H locs G => ?_)
  refine lv_aload_n hx hb dX3_clear_5 rfl (lv_at hl 0 rfl) ?_
  refine xa_getr G fd_X3 (a := 60) (x := 66) 5 rfl (by decide) rfl (wm 2 127 rfl rfl) ⟨rfl, rfl, rfl⟩ dX3_clear_6 rfl (G.sk 70 rfl) (by decide) rfl ?_
  refine lv_iconst (v := iv 0) hx hb dX3_clear_9 rfl ?_
  have hI_1 : IC (sv μ 60 6 0) := (IC.n_60_6 hI (by omega))
  have hbr_66 : BR 66 = 410 := rfl
  refine xc_vV G (b := 66) (rest := []) (As := [.int (iv 0)]) (c_X9_resize ω l (sv μ 60 6 0) 66 0 (by unfold isRow; decide) (by unfold ir; omega) hI_1 (by omega)) (wm 5 69 rfl rfl) (wm 3 15 rfl rfl) (wm 3 16 rfl rfl) rfl rfl (by decide) rfl (wm 1 10 rfl rfl) (wm 3 17 rfl rfl) (by decide) hR (by decide) (n := 1) rfl rfl (Nat.le_of_ble_eq_true rfl) hl.1 dX3_clear_10 (fun μ2 ρ d0 H locs hp G => ?_)
  obtain ⟨F_3, hI_4, hs_5⟩ := hp
  have e_6 : μ2.1 60 6 = 0 := ((F_3.1 60 (by decide) 6).trans (sv_s _ _ _ _))
  exact xr_v G hret hlk dX3_clear_13 ⟨(Fr.tr (Fr.put Fr.rf (by decide)) F_3 (by decide)), hI_4, (by omega)⟩

set_option maxHeartbeats 4000000 in
set_option maxRecDepth 100000 in
theorem c_X3_of (ω : Om) (l : Launch) (μ : M3) (b : Int) (n : Int) (hbA : 61 ≤ b ∧ b ≤ 65) (hI : IC μ) (hn : n = μ.1 60 6) : CtI ω l yX3_of cX3_of 2 .int 0 0 [.ref (oP ω 60), .ref (oP ω b)] μ (fun (r : Int) (μ' : M3) => (μ' = μ) ∧ (r = ofG μ b)) := by
  refine CtI.go (by decide) (Nat.le_of_ble_eq_true rfl) (fun ρ p e s m below meth c R ls G hR hret hlk hl => ?_)
  have hx := G.1.1
  have hb := G.1.2.1
  have hl : lv_has ls 2 [(0, .ref (oP ω 60)), (1, .ref (oP ω b))] := hl
  generalize s.drawn = d0 at G ⊢
  have hn_1 : 0 ≤ μ.1 60 6 ∧ μ.1 60 6 ≤ 400 := hI.nm.2.2.2.2.2.1
  have hb0 := hbA.1
  refine lv_aload_n hx hb dX3_of_0 rfl (lv_at hl 0 rfl) ?_
  refine xa_geti G fd_X3 (a := 60) (x := n) 6 rfl (by decide) rfl (wm 2 128 rfl rfl) ⟨rfl, rfl, rfl⟩ dX3_of_1 rfl hn.symm ?_
  have hr_2 : -2147483648 ≤ n ∧ n ≤ 2147483647 := by have h9 := G.hr (a := 60) (k := 6) rfl; rw [show μ.1 60 6 = n from hn.symm] at h9; exact h9
  refine xb_if_le (tgt := 27) hx hb (by unfold ir; omega) dX3_of_4 (by decide) (fun c_4 => ?_) (fun c_4 => ?_)
  · refine lv_iconst (v := iv 0) hx hb dX3_of_27 rfl ?_
    exact xr_i G (x := 0) hret hlk (by unfold ir; omega) rfl dX3_of_28 ⟨rfl, (ofG_out hn (by omega))⟩
  · refine lv_aload_n hx hb dX3_of_7 rfl (lv_at hl 0 rfl) ?_
    refine xa_geti G fd_X3 (a := 60) (x := n) 6 rfl (by decide) rfl (wm 2 128 rfl rfl) ⟨rfl, rfl, rfl⟩ dX3_of_8 rfl hn.symm ?_
    refine lv_aload_n hx hb dX3_of_11 rfl (lv_at hl 1 rfl) ?_
    refine xa_alen G (a := b) (t := 0) (arG hbA).1 (by decide) dX3_of_12 (ad_st (arG hbA).2.2) ?_
    refine xb_ti (y := 400) (G.ll (arG hbA).2.1) ?_
    refine xb_icmp_gt (tgt := 27) hx hb (by unfold ir; omega) (by unfold ir; omega) dX3_of_13 (by decide) (fun c_13 => ?_) (fun c_13 => ?_)
    · refine lv_iconst (v := iv 0) hx hb dX3_of_27 rfl ?_
      exact xr_i G (x := 0) hret hlk (by unfold ir; omega) rfl dX3_of_28 ⟨rfl, (ofG_out hn (by omega))⟩
    · refine lv_aload_n hx hb dX3_of_16 rfl (lv_at hl 1 rfl) ?_
      refine lv_aload_n hx hb dX3_of_17 rfl (lv_at hl 0 rfl) ?_
      refine xa_geti G fd_X3 (a := 60) (x := n) 6 rfl (by decide) rfl (wm 2 128 rfl rfl) ⟨rfl, rfl, rfl⟩ dX3_of_18 rfl hn.symm ?_
      refine lv_iconst (v := iv 1) hx hb dX3_of_21 rfl ?_
      refine xb_isub hx hb dX3_of_22 ?_
      refine xa_iald G (a := b) (i := n - 1) (arG hbA).1 (by have h9 := (G.ll (arG hbA).2.1); omega) dX3_of_23 (ad_st (arG hbA).2.2) ?_
      have hr_3 : -2147483648 ≤ μ.1 b (n - 1) ∧ μ.1 b (n - 1) ≤ 2147483647 := by have h9 := G.hr (a := b) (k := n - 1) (ty_ar (arG hbA).1); exact h9
      refine lv_goto (tgt := 28) hx hb dX3_of_24 (by decide) ?_
      exact xr_i G (x := μ.1 b (n - 1)) hret hlk (by unfold ir; omega) rfl dX3_of_28 ⟨rfl, (ofG_in hn (by omega) (by omega))⟩

set_option maxHeartbeats 4000000 in
set_option maxRecDepth 100000 in
theorem c_X3_kind (ω : Om) (l : Launch) (μ : M3) (hI : IC μ) : CtI ω l yX3_kind cX3_kind 1 .int 1 21 [.ref (oP ω 60)] μ (fun (r : Int) (μ' : M3) => (μ' = μ) ∧ (r = ofG μ 61)) := by
  refine CtI.go (by decide) (Nat.le_of_ble_eq_true rfl) (fun ρ p e s m below meth c R ls G hR hret hlk hl => ?_)
  have hx := G.1.1
  have hb := G.1.2.1
  have hl : lv_has ls 1 [(0, .ref (oP ω 60))] := hl
  generalize s.drawn = d0 at G ⊢
  refine lv_aload_n hx hb dX3_kind_0 rfl (lv_at hl 0 rfl) ?_
  refine lv_aload_n hx hb dX3_kind_1 rfl (lv_at hl 0 rfl) ?_
  refine xa_getr G fd_X3 (a := 60) (x := 61) 0 rfl (by decide) rfl (wm 2 122 rfl rfl) ⟨rfl, rfl, rfl⟩ dX3_kind_2 rfl (G.sk 65 rfl) (by decide) rfl ?_
  have hn_1 : 0 ≤ μ.1 60 6 ∧ μ.1 60 6 ≤ 400 := hI.nm.2.2.2.2.2.1
  refine xc_iV G (b := 60) (rest := []) (As := [.ref (oP ω 61)]) (c_X3_of ω l μ 61 (μ.1 60 6) (by omega) hI (by omega)) (wm 5 127 rfl rfl) (wm 5 129 rfl rfl) (wm 0 68 rfl rfl) rfl rfl (by decide) rfl (wm 1 17 rfl rfl) (wm 5 130 rfl rfl) (by decide) hR (by decide) (n := 1) rfl rfl (Nat.le_of_ble_eq_true rfl) hl.1 dX3_kind_5 (fun r_3 μ2 ρ d0 H locs hr_r_3 hp G => ?_)
  have hr_r_3 : -2147483648 ≤ r_3 ∧ r_3 ≤ 2147483647 := hr_r_3
  obtain ⟨hsm_4, hp_5⟩ := hp
  have hsm_4 := Eq.symm hsm_4
  subst hsm_4
  exact xr_i G (x := r_3) hret hlk (by unfold ir; omega) rfl dX3_kind_8 ⟨rfl, (by omega)⟩

set_option maxHeartbeats 4000000 in
set_option maxRecDepth 100000 in
theorem c_X3_target (ω : Om) (l : Launch) (μ : M3) (hI : IC μ) : CtI ω l yX3_target cX3_target 1 .int 1 21 [.ref (oP ω 60)] μ (fun (r : Int) (μ' : M3) => (μ' = μ) ∧ (r = ofG μ 62)) := by
  refine CtI.go (by decide) (Nat.le_of_ble_eq_true rfl) (fun ρ p e s m below meth c R ls G hR hret hlk hl => ?_)
  have hx := G.1.1
  have hb := G.1.2.1
  have hl : lv_has ls 1 [(0, .ref (oP ω 60))] := hl
  generalize s.drawn = d0 at G ⊢
  refine lv_aload_n hx hb dX3_target_0 rfl (lv_at hl 0 rfl) ?_
  refine lv_aload_n hx hb dX3_target_1 rfl (lv_at hl 0 rfl) ?_
  refine xa_getr G fd_X3 (a := 60) (x := 62) 1 rfl (by decide) rfl (wm 2 123 rfl rfl) ⟨rfl, rfl, rfl⟩ dX3_target_2 rfl (G.sk 66 rfl) (by decide) rfl ?_
  have hn_1 : 0 ≤ μ.1 60 6 ∧ μ.1 60 6 ≤ 400 := hI.nm.2.2.2.2.2.1
  refine xc_iV G (b := 60) (rest := []) (As := [.ref (oP ω 62)]) (c_X3_of ω l μ 62 (μ.1 60 6) (by omega) hI (by omega)) (wm 5 127 rfl rfl) (wm 5 129 rfl rfl) (wm 0 68 rfl rfl) rfl rfl (by decide) rfl (wm 1 17 rfl rfl) (wm 5 130 rfl rfl) (by decide) hR (by decide) (n := 1) rfl rfl (Nat.le_of_ble_eq_true rfl) hl.1 dX3_target_5 (fun r_3 μ2 ρ d0 H locs hr_r_3 hp G => ?_)
  have hr_r_3 : -2147483648 ≤ r_3 ∧ r_3 ≤ 2147483647 := hr_r_3
  obtain ⟨hsm_4, hp_5⟩ := hp
  have hsm_4 := Eq.symm hsm_4
  subst hsm_4
  exact xr_i G (x := r_3) hret hlk (by unfold ir; omega) rfl dX3_target_8 ⟨rfl, (by omega)⟩

set_option maxHeartbeats 4000000 in
set_option maxRecDepth 100000 in
theorem c_X3_name (ω : Om) (l : Launch) (μ : M3) (hI : IC μ) : CtI ω l yX3_name cX3_name 1 .int 1 21 [.ref (oP ω 60)] μ (fun (r : Int) (μ' : M3) => (μ' = μ) ∧ (r = ofG μ 63)) := by
  refine CtI.go (by decide) (Nat.le_of_ble_eq_true rfl) (fun ρ p e s m below meth c R ls G hR hret hlk hl => ?_)
  have hx := G.1.1
  have hb := G.1.2.1
  have hl : lv_has ls 1 [(0, .ref (oP ω 60))] := hl
  generalize s.drawn = d0 at G ⊢
  refine lv_aload_n hx hb dX3_name_0 rfl (lv_at hl 0 rfl) ?_
  refine lv_aload_n hx hb dX3_name_1 rfl (lv_at hl 0 rfl) ?_
  refine xa_getr G fd_X3 (a := 60) (x := 63) 2 rfl (by decide) rfl (wm 2 124 rfl rfl) ⟨rfl, rfl, rfl⟩ dX3_name_2 rfl (G.sk 67 rfl) (by decide) rfl ?_
  have hn_1 : 0 ≤ μ.1 60 6 ∧ μ.1 60 6 ≤ 400 := hI.nm.2.2.2.2.2.1
  refine xc_iV G (b := 60) (rest := []) (As := [.ref (oP ω 63)]) (c_X3_of ω l μ 63 (μ.1 60 6) (by omega) hI (by omega)) (wm 5 127 rfl rfl) (wm 5 129 rfl rfl) (wm 0 68 rfl rfl) rfl rfl (by decide) rfl (wm 1 17 rfl rfl) (wm 5 130 rfl rfl) (by decide) hR (by decide) (n := 1) rfl rfl (Nat.le_of_ble_eq_true rfl) hl.1 dX3_name_5 (fun r_3 μ2 ρ d0 H locs hr_r_3 hp G => ?_)
  have hr_r_3 : -2147483648 ≤ r_3 ∧ r_3 ≤ 2147483647 := hr_r_3
  obtain ⟨hsm_4, hp_5⟩ := hp
  have hsm_4 := Eq.symm hsm_4
  subst hsm_4
  exact xr_i G (x := r_3) hret hlk (by unfold ir; omega) rfl dX3_name_8 ⟨rfl, (by omega)⟩

set_option maxHeartbeats 4000000 in
set_option maxRecDepth 100000 in
theorem c_X3_underWay (ω : Om) (l : Launch) (μ : M3) (hI : IC μ) : CtI ω l yX3_underWay cX3_underWay 1 .int 1 21 [.ref (oP ω 60)] μ (fun (r : Int) (μ' : M3) => (μ' = μ) ∧ (r = ofG μ 64)) := by
  refine CtI.go (by decide) (Nat.le_of_ble_eq_true rfl) (fun ρ p e s m below meth c R ls G hR hret hlk hl => ?_)
  have hx := G.1.1
  have hb := G.1.2.1
  have hl : lv_has ls 1 [(0, .ref (oP ω 60))] := hl
  generalize s.drawn = d0 at G ⊢
  refine lv_aload_n hx hb dX3_underWay_0 rfl (lv_at hl 0 rfl) ?_
  refine lv_aload_n hx hb dX3_underWay_1 rfl (lv_at hl 0 rfl) ?_
  refine xa_getr G fd_X3 (a := 60) (x := 64) 3 rfl (by decide) rfl (wm 2 125 rfl rfl) ⟨rfl, rfl, rfl⟩ dX3_underWay_2 rfl (G.sk 68 rfl) (by decide) rfl ?_
  have hn_1 : 0 ≤ μ.1 60 6 ∧ μ.1 60 6 ≤ 400 := hI.nm.2.2.2.2.2.1
  refine xc_iV G (b := 60) (rest := []) (As := [.ref (oP ω 64)]) (c_X3_of ω l μ 64 (μ.1 60 6) (by omega) hI (by omega)) (wm 5 127 rfl rfl) (wm 5 129 rfl rfl) (wm 0 68 rfl rfl) rfl rfl (by decide) rfl (wm 1 17 rfl rfl) (wm 5 130 rfl rfl) (by decide) hR (by decide) (n := 1) rfl rfl (Nat.le_of_ble_eq_true rfl) hl.1 dX3_underWay_5 (fun r_3 μ2 ρ d0 H locs hr_r_3 hp G => ?_)
  have hr_r_3 : -2147483648 ≤ r_3 ∧ r_3 ≤ 2147483647 := hr_r_3
  obtain ⟨hsm_4, hp_5⟩ := hp
  have hsm_4 := Eq.symm hsm_4
  subst hsm_4
  exact xr_i G (x := r_3) hret hlk (by unfold ir; omega) rfl dX3_underWay_8 ⟨rfl, (by omega)⟩

set_option maxHeartbeats 4000000 in
set_option maxRecDepth 100000 in
theorem c_X3_push (ω : Om) (l : Launch) (μ : M3) (x1 : Int) (x2 : Int) (n : Int) (hx1 : ir x1) (hx2 : ir x2) (hI : IC μ) (hn : n = μ.1 60 6) : CtV ω l yX3_push cX3_push 3 3 125 [.ref (oP ω 60), .int (iv x1), .int (iv x2)] μ (fun (μ' : M3) => (Fr [61, 63, 62, 64, 65, 60, 66, 67, 68, 69] μ μ') ∧ (IC μ') ∧ ((n < 400 ∧ μ'.1 60 6 = n + 1 ∧ μ'.1 61 n = x1.tdiv 64 ∧ μ'.1 62 n = x2) ∨ (400 ≤ n ∧ μ'.1 60 6 = n)) ∧ (∀ j, j ≠ n → μ'.1 61 j = μ.1 61 j) ∧ (∀ j, j ≠ n → μ'.1 62 j = μ.1 62 j) ∧ (∀ j, j ≠ n → μ'.1 63 j = μ.1 63 j) ∧ (∀ j, j ≠ n → μ'.1 64 j = μ.1 64 j) ∧ (∀ j, j ≠ n → μ'.1 65 j = μ.1 65 j)) := by
  refine CtV.go (by decide) (Nat.le_of_ble_eq_true rfl) (fun ρ p e s m below meth c R ls G hR hret hlk hl => ?_)
  have hx := G.1.1
  have hb := G.1.2.1
  have hl : lv_has ls 3 [(0, .ref (oP ω 60)), (1, .int (iv x1)), (2, .int (iv x2))] := hl
  generalize s.drawn = d0 at G ⊢
  have hr_x1 : -2147483648 ≤ x1 ∧ x1 ≤ 2147483647 := hx1
  have hr_x2 : -2147483648 ≤ x2 ∧ x2 ≤ 2147483647 := hx2
  have hn_1 : 0 ≤ μ.1 60 6 ∧ μ.1 60 6 ≤ 400 := hI.nm.2.2.2.2.2.1
  have hd8 : -33554432 ≤ x1.tdiv 64 ∧ x1.tdiv 64 ≤ 33554432 := td64 hr_x1
  have hd7 : -64 < x1.tmod 64 ∧ x1.tmod 64 < 64 := tm64 x1
  refine lv_aload_n hx hb dX3_push_0 rfl (lv_at hl 0 rfl) ?_
  refine xa_geti G fd_X3 (a := 60) (x := n) 6 rfl (by decide) rfl (wm 2 128 rfl rfl) ⟨rfl, rfl, rfl⟩ dX3_push_1 rfl hn.symm ?_
  have hr_2 : -2147483648 ≤ n ∧ n ≤ 2147483647 := by have h9 := G.hr (a := 60) (k := 6) rfl; rw [show μ.1 60 6 = n from hn.symm] at h9; exact h9
  refine lv_sipush (v := iv 400) hx hb dX3_push_4 rfl ?_
  refine xb_icmp_ge (tgt := 87) hx hb (by unfold ir; omega) (by unfold ir; omega) dX3_push_7 (by decide) (fun c_7 => ?_) (fun c_7 => ?_)
  · have e_3 : μ.1 60 6 = n := hn.symm
    have e_4 : μ.1 60 6 = n := hn.symm
    exact xr_v G hret hlk dX3_push_87 ⟨Fr.rf, hI, (by omega), (fun j hj => rfl), (fun j hj => rfl), (fun j hj => rfl), (fun j hj => rfl), (fun j hj => rfl)⟩
  · refine lv_aload_n hx hb dX3_push_10 rfl (lv_at hl 0 rfl) ?_
    refine xa_getr G fd_X3 (a := 60) (x := 61) 0 rfl (by decide) rfl (wm 2 122 rfl rfl) ⟨rfl, rfl, rfl⟩ dX3_push_11 rfl (G.sk 65 rfl) (by decide) rfl ?_
    refine lv_aload_n hx hb dX3_push_14 rfl (lv_at hl 0 rfl) ?_
    refine xa_geti G fd_X3 (a := 60) (x := n) 6 rfl (by decide) rfl (wm 2 128 rfl rfl) ⟨rfl, rfl, rfl⟩ dX3_push_15 rfl hn.symm ?_
    refine lv_iload_n hx hb dX3_push_18 rfl (lv_at hl 1 rfl) ?_
    refine lv_bipush (v := iv 64) hx hb dX3_push_19 rfl ?_
    refine xb_idiv hx hb (by unfold ir; omega) (by omega) dX3_push_21 ?_
    refine xa_iast G (a := 61) (i := n) (x := x1.tdiv 64) rfl (by have h9 := G.lc (a := 61) (n := 400) 28 rfl; omega) (by unfold ir; omega) dX3_push_22 rfl (fun H locs G => ?_)
    refine lv_aload_n hx hb dX3_push_23 rfl (lv_at hl 0 rfl) ?_
    refine xa_getr G fd_X3 (a := 60) (x := 63) 2 rfl (by decide) rfl (wm 2 124 rfl rfl) ⟨rfl, rfl, rfl⟩ dX3_push_24 rfl (G.sk 67 rfl) (by decide) rfl ?_
    refine lv_aload_n hx hb dX3_push_27 rfl (lv_at hl 0 rfl) ?_
    refine xa_geti G fd_X3 (a := 60) (x := n) 6 rfl (by decide) rfl (wm 2 128 rfl rfl) ⟨rfl, rfl, rfl⟩ dX3_push_28 rfl ((sv_n _ (fun h9 => absurd h9.1 (by decide))).trans hn.symm) ?_
    refine lv_iload_n hx hb dX3_push_31 rfl (lv_at hl 1 rfl) ?_
    refine lv_bipush (v := iv 64) hx hb dX3_push_32 rfl ?_
    refine xb_irem hx hb (by unfold ir; omega) (by omega) dX3_push_34 ?_
    refine xa_iast G (a := 63) (i := n) (x := x1.tmod 64) rfl (by have h9 := G.lc (a := 63) (n := 400) 30 rfl; omega) (by unfold ir; omega) dX3_push_35 rfl (fun H locs G => ?_)
    refine lv_aload_n hx hb dX3_push_36 rfl (lv_at hl 0 rfl) ?_
    refine xa_getr G fd_X3 (a := 60) (x := 62) 1 rfl (by decide) rfl (wm 2 123 rfl rfl) ⟨rfl, rfl, rfl⟩ dX3_push_37 rfl (G.sk 66 rfl) (by decide) rfl ?_
    refine lv_aload_n hx hb dX3_push_40 rfl (lv_at hl 0 rfl) ?_
    refine xa_geti G fd_X3 (a := 60) (x := n) 6 rfl (by decide) rfl (wm 2 128 rfl rfl) ⟨rfl, rfl, rfl⟩ dX3_push_41 rfl ((sv_n _ (fun h9 => absurd h9.1 (by decide))).trans ((sv_n _ (fun h9 => absurd h9.1 (by decide))).trans hn.symm)) ?_
    refine lv_iload_n hx hb dX3_push_44 rfl (lv_at hl 2 rfl) ?_
    refine xa_iast G (a := 62) (i := n) (x := x2) rfl (by have h9 := G.lc (a := 62) (n := 400) 29 rfl; omega) (by unfold ir; omega) dX3_push_45 rfl (fun H locs G => ?_)
    refine lv_aload_n hx hb dX3_push_46 rfl (lv_at hl 0 rfl) ?_
    refine xa_getr G fd_X3 (a := 60) (x := 64) 3 rfl (by decide) rfl (wm 2 125 rfl rfl) ⟨rfl, rfl, rfl⟩ dX3_push_47 rfl (G.sk 68 rfl) (by decide) rfl ?_
    refine lv_aload_n hx hb dX3_push_50 rfl (lv_at hl 0 rfl) ?_
    refine xa_geti G fd_X3 (a := 60) (x := n) 6 rfl (by decide) rfl (wm 2 128 rfl rfl) ⟨rfl, rfl, rfl⟩ dX3_push_51 rfl ((sv_n _ (fun h9 => absurd h9.1 (by decide))).trans ((sv_n _ (fun h9 => absurd h9.1 (by decide))).trans ((sv_n _ (fun h9 => absurd h9.1 (by decide))).trans hn.symm))) ?_
    refine lv_iconst (v := iv 0) hx hb dX3_push_54 rfl ?_
    refine xa_iast G (a := 64) (i := n) (x := 0) rfl (by have h9 := G.lc (a := 64) (n := 400) 31 rfl; omega) (by unfold ir; omega) dX3_push_55 rfl (fun H locs G => ?_)
    refine lv_aload_n hx hb dX3_push_56 rfl (lv_at hl 0 rfl) ?_
    refine xa_getr G fd_X3 (a := 60) (x := 65) 4 rfl (by decide) rfl (wm 2 126 rfl rfl) ⟨rfl, rfl, rfl⟩ dX3_push_57 rfl (G.sk 69 rfl) (by decide) rfl ?_
    refine lv_aload_n hx hb dX3_push_60 rfl (lv_at hl 0 rfl) ?_
    refine xa_geti G fd_X3 (a := 60) (x := n) 6 rfl (by decide) rfl (wm 2 128 rfl rfl) ⟨rfl, rfl, rfl⟩ dX3_push_61 rfl ((sv_n _ (fun h9 => absurd h9.1 (by decide))).trans ((sv_n _ (fun h9 => absurd h9.1 (by decide))).trans ((sv_n _ (fun h9 => absurd h9.1 (by decide))).trans ((sv_n _ (fun h9 => absurd h9.1 (by decide))).trans hn.symm)))) ?_
    refine lv_iconst (v := iv (-1)) hx hb dX3_push_64 rfl ?_
    refine xa_iast G (a := 65) (i := n) (x := (-1)) rfl (by have h9 := G.lc (a := 65) (n := 400) 32 rfl; omega) (by unfold ir; omega) dX3_push_65 rfl (fun H locs G => ?_)
    refine lv_aload_n hx hb dX3_push_66 rfl (lv_at hl 0 rfl) ?_
    refine lv_dup hx hb dX3_push_67 rfl ?_
    refine xa_geti G fd_X3 (a := 60) (x := n) 6 rfl (by decide) rfl (wm 2 128 rfl rfl) ⟨rfl, rfl, rfl⟩ dX3_push_68 rfl ((sv_n _ (fun h9 => absurd h9.1 (by decide))).trans ((sv_n _ (fun h9 => absurd h9.1 (by decide))).trans ((sv_n _ (fun h9 => absurd h9.1 (by decide))).trans ((sv_n _ (fun h9 => absurd h9.1 (by decide))).trans ((sv_n _ (fun h9 => absurd h9.1 (by decide))).trans hn.symm))))) ?_
    refine lv_iconst (v := iv 1) hx hb dX3_push_71 rfl ?_
    refine xb_iadd hx hb dX3_push_72 ?_
    refine xa_puti G fd_X3 (a := 60) (x := n + 1) 6 (kz := 6) rfl rfl (by decide) rfl (by unfold ir; omega) (wm 2 128 rfl rfl) ⟨rfl, rfl, rfl, rfl⟩ rfl dX3_push_73 rfl (fun H locs G => ?_)
    refine lv_aload_n hx hb dX3_push_76 rfl (lv_at hl 0 rfl) ?_
    refine xa_getr G fd_X3 (a := 60) (x := 66) 5 rfl (by decide) rfl (wm 2 127 rfl rfl) ⟨rfl, rfl, rfl⟩ dX3_push_77 rfl (G.sk 70 rfl) (by decide) rfl ?_
    refine lv_aload_n hx hb dX3_push_80 rfl (lv_at hl 0 rfl) ?_
    refine xa_geti G fd_X3 (a := 60) (x := n + 1) 6 rfl (by decide) rfl (wm 2 128 rfl rfl) ⟨rfl, rfl, rfl⟩ dX3_push_81 rfl (sv_s _ _ _ _) ?_
    have hr_5 : -2147483648 ≤ n + 1 ∧ n + 1 ≤ 2147483647 := by have h9 := G.hr (a := 60) (k := 6) rfl; rw [show (sv (sv (sv (sv (sv (sv μ 61 n (x1.tdiv 64)) 63 n (x1.tmod 64)) 62 n x2) 64 n 0) 65 n (-1)) 60 6 (n + 1)).1 60 6 = n + 1 from (sv_s _ _ _ _)] at h9; exact h9
    have hI_6 : IC (sv (sv (sv (sv (sv (sv μ 61 n (x1.tdiv 64)) 63 n (x1.tmod 64)) 62 n x2) 64 n 0) 65 n (-1)) 60 6 (n + 1)) := (IC.n_60_6 (IC.pua (IC.pua (IC.pua (IC.pua (IC.pua hI (by decide)) (by decide)) (by decide)) (by decide)) (by decide)) (by omega))
    have hbr_66 : BR 66 = 410 := rfl
    refine xc_vV G (b := 66) (rest := []) (As := [.int (iv (n + 1))]) (c_X9_resize ω l (sv (sv (sv (sv (sv (sv μ 61 n (x1.tdiv 64)) 63 n (x1.tmod 64)) 62 n x2) 64 n 0) 65 n (-1)) 60 6 (n + 1)) 66 (n + 1) (by unfold isRow; decide) (by unfold ir; omega) hI_6 (by omega)) (wm 5 69 rfl rfl) (wm 3 15 rfl rfl) (wm 3 16 rfl rfl) rfl rfl (by decide) rfl (wm 1 10 rfl rfl) (wm 3 17 rfl rfl) (by decide) hR (by decide) (n := 1) rfl rfl (Nat.le_of_ble_eq_true rfl) hl.1 dX3_push_84 (fun μ7 ρ d0 H locs hp G => ?_)
    obtain ⟨F_8, hI_9, hs_10⟩ := hp
    have e_11 : μ7.1 60 6 = n + 1 := ((F_8.1 60 (by decide) 6).trans (sv_s _ _ _ _))
    have e_12 : μ7.1 61 n = x1.tdiv 64 := ((F_8.1 61 (by decide) n).trans ((sv_n _ (fun h9 => absurd h9.1 (by decide))).trans ((sv_n _ (fun h9 => absurd h9.1 (by decide))).trans ((sv_n _ (fun h9 => absurd h9.1 (by decide))).trans ((sv_n _ (fun h9 => absurd h9.1 (by decide))).trans ((sv_n _ (fun h9 => absurd h9.1 (by decide))).trans (sv_s _ _ _ _)))))))
    have e_13 : μ7.1 62 n = x2 := ((F_8.1 62 (by decide) n).trans ((sv_n _ (fun h9 => absurd h9.1 (by decide))).trans ((sv_n _ (fun h9 => absurd h9.1 (by decide))).trans ((sv_n _ (fun h9 => absurd h9.1 (by decide))).trans (sv_s _ _ _ _)))))
    have e_14 : μ7.1 60 6 = n + 1 := ((F_8.1 60 (by decide) 6).trans (sv_s _ _ _ _))
    exact xr_v G hret hlk dX3_push_87 ⟨(Fr.tr (Fr.put (Fr.put (Fr.put (Fr.put (Fr.put (Fr.put Fr.rf (by decide)) (by decide)) (by decide)) (by decide)) (by decide)) (by decide)) F_8 (by decide)), hI_9, (by omega), (fun j hj => ((F_8.1 61 (by decide) j).trans ((sv_n _ (by omega)).trans ((sv_n _ (by omega)).trans ((sv_n _ (by omega)).trans ((sv_n _ (by omega)).trans ((sv_n _ (by omega)).trans (sv_n _ (by omega))))))))), (fun j hj => ((F_8.1 62 (by decide) j).trans ((sv_n _ (by omega)).trans ((sv_n _ (by omega)).trans ((sv_n _ (by omega)).trans ((sv_n _ (by omega)).trans ((sv_n _ (by omega)).trans (sv_n _ (by omega))))))))), (fun j hj => ((F_8.1 63 (by decide) j).trans ((sv_n _ (by omega)).trans ((sv_n _ (by omega)).trans ((sv_n _ (by omega)).trans ((sv_n _ (by omega)).trans ((sv_n _ (by omega)).trans (sv_n _ (by omega))))))))), (fun j hj => ((F_8.1 64 (by decide) j).trans ((sv_n _ (by omega)).trans ((sv_n _ (by omega)).trans ((sv_n _ (by omega)).trans ((sv_n _ (by omega)).trans ((sv_n _ (by omega)).trans (sv_n _ (by omega))))))))), (fun j hj => ((F_8.1 65 (by decide) j).trans ((sv_n _ (by omega)).trans ((sv_n _ (by omega)).trans ((sv_n _ (by omega)).trans ((sv_n _ (by omega)).trans ((sv_n _ (by omega)).trans (sv_n _ (by omega)))))))))⟩

set_option maxHeartbeats 4000000 in
set_option maxRecDepth 100000 in
theorem c_X3_pop (ω : Om) (l : Launch) (μ : M3) (n : Int) (hI : IC μ) (hn : n = μ.1 60 6) : CtV ω l yX3_pop cX3_pop 1 3 125 [.ref (oP ω 60)] μ (fun (μ' : M3) => (Fr [60, 66, 67, 68, 69] μ μ') ∧ (IC μ') ∧ (μ'.1 60 6 = max (n - 1) 0)) := by
  refine CtV.go (by decide) (Nat.le_of_ble_eq_true rfl) (fun ρ p e s m below meth c R ls G hR hret hlk hl => ?_)
  have hx := G.1.1
  have hb := G.1.2.1
  have hl : lv_has ls 1 [(0, .ref (oP ω 60))] := hl
  generalize s.drawn = d0 at G ⊢
  have hn_1 : 0 ≤ μ.1 60 6 ∧ μ.1 60 6 ≤ 400 := hI.nm.2.2.2.2.2.1
  refine lv_aload_n hx hb dX3_pop_0 rfl (lv_at hl 0 rfl) ?_
  refine xa_geti G fd_X3 (a := 60) (x := n) 6 rfl (by decide) rfl (wm 2 128 rfl rfl) ⟨rfl, rfl, rfl⟩ dX3_pop_1 rfl hn.symm ?_
  have hr_2 : -2147483648 ≤ n ∧ n ≤ 2147483647 := by have h9 := G.hr (a := 60) (k := 6) rfl; rw [show μ.1 60 6 = n from hn.symm] at h9; exact h9
  refine xb_if_le (tgt := 28) hx hb (by unfold ir; omega) dX3_pop_4 (by decide) (fun c_4 => ?_) (fun c_4 => ?_)
  · have e_3 : μ.1 60 6 = n := hn.symm
    exact xr_v G hret hlk dX3_pop_28 ⟨Fr.rf, hI, (by omega)⟩
  · refine lv_aload_n hx hb dX3_pop_7 rfl (lv_at hl 0 rfl) ?_
    refine lv_dup hx hb dX3_pop_8 rfl ?_
    refine xa_geti G fd_X3 (a := 60) (x := n) 6 rfl (by decide) rfl (wm 2 128 rfl rfl) ⟨rfl, rfl, rfl⟩ dX3_pop_9 rfl hn.symm ?_
    refine lv_iconst (v := iv 1) hx hb dX3_pop_12 rfl ?_
    refine xb_isub hx hb dX3_pop_13 ?_
    refine xa_puti G fd_X3 (a := 60) (x := n - 1) 6 (kz := 6) rfl rfl (by decide) rfl (by unfold ir; omega) (wm 2 128 rfl rfl) ⟨rfl, rfl, rfl, rfl⟩ rfl dX3_pop_14 rfl (fun H locs G => ?_)
    refine lv_aload_n hx hb dX3_pop_17 rfl (lv_at hl 0 rfl) ?_
    refine xa_getr G fd_X3 (a := 60) (x := 66) 5 rfl (by decide) rfl (wm 2 127 rfl rfl) ⟨rfl, rfl, rfl⟩ dX3_pop_18 rfl (G.sk 70 rfl) (by decide) rfl ?_
    refine lv_aload_n hx hb dX3_pop_21 rfl (lv_at hl 0 rfl) ?_
    refine xa_geti G fd_X3 (a := 60) (x := n - 1) 6 rfl (by decide) rfl (wm 2 128 rfl rfl) ⟨rfl, rfl, rfl⟩ dX3_pop_22 rfl (sv_s _ _ _ _) ?_
    have hr_4 : -2147483648 ≤ n - 1 ∧ n - 1 ≤ 2147483647 := by have h9 := G.hr (a := 60) (k := 6) rfl; rw [show (sv μ 60 6 (n - 1)).1 60 6 = n - 1 from (sv_s _ _ _ _)] at h9; exact h9
    have hI_5 : IC (sv μ 60 6 (n - 1)) := (IC.n_60_6 hI (by omega))
    have hbr_66 : BR 66 = 410 := rfl
    refine xc_vV G (b := 66) (rest := []) (As := [.int (iv (n - 1))]) (c_X9_resize ω l (sv μ 60 6 (n - 1)) 66 (n - 1) (by unfold isRow; decide) (by unfold ir; omega) hI_5 (by omega)) (wm 5 69 rfl rfl) (wm 3 15 rfl rfl) (wm 3 16 rfl rfl) rfl rfl (by decide) rfl (wm 1 10 rfl rfl) (wm 3 17 rfl rfl) (by decide) hR (by decide) (n := 1) rfl rfl (Nat.le_of_ble_eq_true rfl) hl.1 dX3_pop_25 (fun μ6 ρ d0 H locs hp G => ?_)
    obtain ⟨F_7, hI_8, hs_9⟩ := hp
    have e_10 : μ6.1 60 6 = n - 1 := ((F_7.1 60 (by decide) 6).trans (sv_s _ _ _ _))
    exact xr_v G hret hlk dX3_pop_28 ⟨(Fr.tr (Fr.put Fr.rf (by decide)) F_7 (by decide)), hI_8, (by omega)⟩

set_option maxHeartbeats 4000000 in
set_option maxRecDepth 100000 in
theorem c_X3_hasOpen (ω : Om) (l : Launch) (μ : M3) (x1 : Int) (x2 : Int) (n : Int) (hx1 : ir x1) (hx2 : ir x2) (hI : IC μ) (hn : n = μ.1 60 6) : CtI ω l yX3_hasOpen cX3_hasOpen 4 .boolean 1 24 [.ref (oP ω 60), .int (iv x1), .int (iv x2)] μ (fun (r : Int) (μ' : M3) => (μ' = μ) ∧ (r = 0 ∨ r = 1)) := by
  refine CtI.go (by decide) (Nat.le_of_ble_eq_true rfl) (fun ρ p e s m below meth c R ls G hR hret hlk hl => ?_)
  have hx := G.1.1
  have hb := G.1.2.1
  have hl : lv_has ls 4 [(0, .ref (oP ω 60)), (1, .int (iv x1)), (2, .int (iv x2))] := hl
  generalize s.drawn = d0 at G ⊢
  have hr_x1 : -2147483648 ≤ x1 ∧ x1 ≤ 2147483647 := hx1
  have hr_x2 : -2147483648 ≤ x2 ∧ x2 ≤ 2147483647 := hx2
  have hn_1 : 0 ≤ μ.1 60 6 ∧ μ.1 60 6 ≤ 400 := hI.nm.2.2.2.2.2.1
  refine lv_iload_n hx hb dX3_hasOpen_0 rfl (lv_at hl 2 rfl) ?_
  refine lv_iconst (v := iv 0) hx hb dX3_hasOpen_1 rfl ?_
  refine xm_max G (x := x2) (y := 0) (wm 7 56 rfl rfl) (wm 1 148 rfl rfl) (wm 1 11 rfl rfl) (wm 1 149 rfl rfl) hR (by decide) (Nat.le_of_ble_eq_true rfl) hl.1 (by unfold ir; omega) (by unfold ir; omega) dX3_hasOpen_2 ?_
  refine lv_istore_n (lv' := [(3, .int (iv (max x2 0))), (0, .ref (oP ω 60)), (1, .int (iv x1)), (2, .int (iv x2))]) hx hb dX3_hasOpen_5 rfl hl (by decide) rfl (fun ls hl => ?_)
  refine xl (fun n_9 μ' ls => ∃ (i9 : Int), (μ' = μ) ∧ (-2147483648 ≤ i9 ∧ i9 ≤ 2147483647) ∧ (0 ≤ i9) ∧ n_9 = Int.toNat (n - i9) ∧ lv_has ls 4 [(3, .int (iv i9)), (0, .ref (oP ω 60)), (1, .int (iv x1)), (2, .int (iv x2))]) (fun n_9 ρ μL2 d0 H locs ls hI_l G ih => ?_) _ _ _ _ _ _ _ ⟨max x2 0, rfl, (by omega), (by omega), rfl, lv_sub hl [0, 1, 2, 3] rfl⟩ G
  obtain ⟨i9, FL3, hi_5, hi_6, hn4, hl⟩ := hI_l
  have FL3 := Eq.symm FL3
  subst FL3
  refine lv_iload_n hx hb dX3_hasOpen_6 rfl (lv_at hl 0 rfl) ?_
  refine lv_aload_n hx hb dX3_hasOpen_7 rfl (lv_at hl 1 rfl) ?_
  refine xa_geti G fd_X3 (a := 60) (x := n) 6 rfl (by decide) rfl (wm 2 128 rfl rfl) ⟨rfl, rfl, rfl⟩ dX3_hasOpen_8 rfl hn.symm ?_
  have hr_7 : -2147483648 ≤ n ∧ n ≤ 2147483647 := by have h9 := G.hr (a := 60) (k := 6) rfl; rw [show μ.1 60 6 = n from hn.symm] at h9; exact h9
  refine xb_icmp_ge (tgt := 42) hx hb (by unfold ir; omega) (by unfold ir; omega) dX3_hasOpen_11 (by decide) (fun c_11 => ?_) (fun c_11 => ?_)
  · refine lv_iconst (v := iv 0) hx hb dX3_hasOpen_42 rfl ?_
    exact xr_i G (x := 0) hret hlk (by unfold ir; omega) (zr (by omega)) dX3_hasOpen_43 ⟨rfl, (by omega)⟩
  · refine lv_aload_n hx hb dX3_hasOpen_14 rfl (lv_at hl 1 rfl) ?_
    refine xa_getr G fd_X3 (a := 60) (x := 61) 0 rfl (by decide) rfl (wm 2 122 rfl rfl) ⟨rfl, rfl, rfl⟩ dX3_hasOpen_15 rfl (G.sk 65 rfl) (by decide) rfl ?_
    refine lv_iload_n hx hb dX3_hasOpen_18 rfl (lv_at hl 0 rfl) ?_
    refine xa_iald G (a := 61) (i := i9) rfl (by have h9 := G.lc (a := 61) (n := 400) 28 rfl; omega) dX3_hasOpen_19 rfl ?_
    have hr_8 : -2147483648 ≤ μ.1 61 i9 ∧ μ.1 61 i9 ≤ 2147483647 := by have h9 := G.hr (a := 61) (k := i9) rfl; exact h9
    refine lv_iconst (v := iv 3) hx hb dX3_hasOpen_20 rfl ?_
    refine xb_icmp_ne (tgt := 36) hx hb (by unfold ir; omega) (by unfold ir; omega) dX3_hasOpen_21 (by decide) (fun c_21 => ?_) (fun c_21 => ?_)
    · refine lv_iinc (v := iv (i9 + 1)) (lv' := [(3, .int (iv (i9 + 1))), (0, .ref (oP ω 60)), (1, .int (iv x1)), (2, .int (iv x2))]) hx hb dX3_hasOpen_36 hl (k := 0) rfl (by rw [show Int32.ofInt 1 = iv 1 from rfl, iv_add]) (by decide) rfl (fun ls hl => ?_)
      refine lv_goto (tgt := 6) hx hb dX3_hasOpen_39 (by decide) ?_
      exact ih _ _ _ _ _ _ _ (by omega) ⟨i9 + 1, rfl, (by omega), (by omega), rfl, lv_sub hl [0, 1, 2, 3] rfl⟩ G
    · refine lv_aload_n hx hb dX3_hasOpen_24 rfl (lv_at hl 1 rfl) ?_
      refine xa_getr G fd_X3 (a := 60) (x := 63) 2 rfl (by decide) rfl (wm 2 124 rfl rfl) ⟨rfl, rfl, rfl⟩ dX3_hasOpen_25 rfl (G.sk 67 rfl) (by decide) rfl ?_
      refine lv_iload_n hx hb dX3_hasOpen_28 rfl (lv_at hl 0 rfl) ?_
      refine xa_iald G (a := 63) (i := i9) rfl (by have h9 := G.lc (a := 63) (n := 400) 30 rfl; omega) dX3_hasOpen_29 rfl ?_
      have hr_9 : -2147483648 ≤ μ.1 63 i9 ∧ μ.1 63 i9 ≤ 2147483647 := by have h9 := G.hr (a := 63) (k := i9) rfl; exact h9
      refine lv_iload_n hx hb dX3_hasOpen_30 rfl (lv_at hl 2 rfl) ?_
      refine xb_icmp_ne (tgt := 36) hx hb (by unfold ir; omega) (by unfold ir; omega) dX3_hasOpen_31 (by decide) (fun c_31 => ?_) (fun c_31 => ?_)
      · refine lv_iinc (v := iv (i9 + 1)) (lv' := [(3, .int (iv (i9 + 1))), (0, .ref (oP ω 60)), (1, .int (iv x1)), (2, .int (iv x2))]) hx hb dX3_hasOpen_36 hl (k := 0) rfl (by rw [show Int32.ofInt 1 = iv 1 from rfl, iv_add]) (by decide) rfl (fun ls hl => ?_)
        refine lv_goto (tgt := 6) hx hb dX3_hasOpen_39 (by decide) ?_
        exact ih _ _ _ _ _ _ _ (by omega) ⟨i9 + 1, rfl, (by omega), (by omega), rfl, lv_sub hl [0, 1, 2, 3] rfl⟩ G
      · refine lv_iconst (v := iv 1) hx hb dX3_hasOpen_34 rfl ?_
        exact xr_i G (x := 1) hret hlk (by unfold ir; omega) (zr (by omega)) dX3_hasOpen_35 ⟨rfl, (by omega)⟩

set_option maxHeartbeats 4000000 in
set_option maxRecDepth 100000 in
theorem c_X3_finish (ω : Om) (l : Launch) (μ : M3) (x1 : Int) (x2 : Int) (n : Int) (hx1 : ir x1) (hx2 : ir x2) (hI : IC μ) (hn : n = μ.1 60 6) : CtV ω l yX3_finish cX3_finish 3 0 0 [.ref (oP ω 60), .int (iv x1), .int (iv x2)] μ (fun (μ' : M3) => (Fr [61, 64, 65] μ μ') ∧ (IC μ') ∧ (n = 0 ∨ μ'.1 61 (n - 1) = 5) ∧ (∀ j, j ≠ n - 1 → μ'.1 61 j = μ.1 61 j)) := by
  refine CtV.go (by decide) (Nat.le_of_ble_eq_true rfl) (fun ρ p e s m below meth c R ls G hR hret hlk hl => ?_)
  have hx := G.1.1
  have hb := G.1.2.1
  have hl : lv_has ls 3 [(0, .ref (oP ω 60)), (1, .int (iv x1)), (2, .int (iv x2))] := hl
  generalize s.drawn = d0 at G ⊢
  have hr_x1 : -2147483648 ≤ x1 ∧ x1 ≤ 2147483647 := hx1
  have hr_x2 : -2147483648 ≤ x2 ∧ x2 ≤ 2147483647 := hx2
  have hn_1 : 0 ≤ μ.1 60 6 ∧ μ.1 60 6 ≤ 400 := hI.nm.2.2.2.2.2.1
  refine lv_aload_n hx hb dX3_finish_0 rfl (lv_at hl 0 rfl) ?_
  refine xa_geti G fd_X3 (a := 60) (x := n) 6 rfl (by decide) rfl (wm 2 128 rfl rfl) ⟨rfl, rfl, rfl⟩ dX3_finish_1 rfl hn.symm ?_
  have hr_2 : -2147483648 ≤ n ∧ n ≤ 2147483647 := by have h9 := G.hr (a := 60) (k := 6) rfl; rw [show μ.1 60 6 = n from hn.symm] at h9; exact h9
  refine xb_if_le (tgt := 43) hx hb (by unfold ir; omega) dX3_finish_4 (by decide) (fun c_4 => ?_) (fun c_4 => ?_)
  · exact xr_v G hret hlk dX3_finish_43 ⟨Fr.rf, hI, (by omega), (fun j hj => rfl)⟩
  · refine lv_aload_n hx hb dX3_finish_7 rfl (lv_at hl 0 rfl) ?_
    refine xa_getr G fd_X3 (a := 60) (x := 61) 0 rfl (by decide) rfl (wm 2 122 rfl rfl) ⟨rfl, rfl, rfl⟩ dX3_finish_8 rfl (G.sk 65 rfl) (by decide) rfl ?_
    refine lv_aload_n hx hb dX3_finish_11 rfl (lv_at hl 0 rfl) ?_
    refine xa_geti G fd_X3 (a := 60) (x := n) 6 rfl (by decide) rfl (wm 2 128 rfl rfl) ⟨rfl, rfl, rfl⟩ dX3_finish_12 rfl hn.symm ?_
    refine lv_iconst (v := iv 1) hx hb dX3_finish_15 rfl ?_
    refine xb_isub hx hb dX3_finish_16 ?_
    refine lv_iconst (v := iv 5) hx hb dX3_finish_17 rfl ?_
    refine xa_iast G (a := 61) (i := n - 1) (x := 5) rfl (by have h9 := G.lc (a := 61) (n := 400) 28 rfl; omega) (by unfold ir; omega) dX3_finish_18 rfl (fun H locs G => ?_)
    refine lv_aload_n hx hb dX3_finish_19 rfl (lv_at hl 0 rfl) ?_
    refine xa_getr G fd_X3 (a := 60) (x := 64) 3 rfl (by decide) rfl (wm 2 125 rfl rfl) ⟨rfl, rfl, rfl⟩ dX3_finish_20 rfl (G.sk 68 rfl) (by decide) rfl ?_
    refine lv_aload_n hx hb dX3_finish_23 rfl (lv_at hl 0 rfl) ?_
    refine xa_geti G fd_X3 (a := 60) (x := n) 6 rfl (by decide) rfl (wm 2 128 rfl rfl) ⟨rfl, rfl, rfl⟩ dX3_finish_24 rfl ((sv_n _ (fun h9 => absurd h9.1 (by decide))).trans hn.symm) ?_
    refine lv_iconst (v := iv 1) hx hb dX3_finish_27 rfl ?_
    refine xb_isub hx hb dX3_finish_28 ?_
    refine lv_iload_n hx hb dX3_finish_29 rfl (lv_at hl 1 rfl) ?_
    refine xa_iast G (a := 64) (i := n - 1) (x := x1) rfl (by have h9 := G.lc (a := 64) (n := 400) 31 rfl; omega) (by unfold ir; omega) dX3_finish_30 rfl (fun H locs G => ?_)
    refine lv_aload_n hx hb dX3_finish_31 rfl (lv_at hl 0 rfl) ?_
    refine xa_getr G fd_X3 (a := 60) (x := 65) 4 rfl (by decide) rfl (wm 2 126 rfl rfl) ⟨rfl, rfl, rfl⟩ dX3_finish_32 rfl (G.sk 69 rfl) (by decide) rfl ?_
    refine lv_aload_n hx hb dX3_finish_35 rfl (lv_at hl 0 rfl) ?_
    refine xa_geti G fd_X3 (a := 60) (x := n) 6 rfl (by decide) rfl (wm 2 128 rfl rfl) ⟨rfl, rfl, rfl⟩ dX3_finish_36 rfl ((sv_n _ (fun h9 => absurd h9.1 (by decide))).trans ((sv_n _ (fun h9 => absurd h9.1 (by decide))).trans hn.symm)) ?_
    refine lv_iconst (v := iv 1) hx hb dX3_finish_39 rfl ?_
    refine xb_isub hx hb dX3_finish_40 ?_
    refine lv_iload_n hx hb dX3_finish_41 rfl (lv_at hl 2 rfl) ?_
    refine xa_iast G (a := 65) (i := n - 1) (x := x2) rfl (by have h9 := G.lc (a := 65) (n := 400) 32 rfl; omega) (by unfold ir; omega) dX3_finish_42 rfl (fun H locs G => ?_)
    have hI_3 : IC (sv (sv (sv μ 61 (n - 1) 5) 64 (n - 1) x1) 65 (n - 1) x2) := (IC.pua (IC.pua (IC.pua hI (by decide)) (by decide)) (by decide))
    have e_4 : (sv (sv (sv μ 61 (n - 1) 5) 64 (n - 1) x1) 65 (n - 1) x2).1 61 (n - 1) = 5 := ((sv_n _ (fun h9 => absurd h9.1 (by decide))).trans ((sv_n _ (fun h9 => absurd h9.1 (by decide))).trans (sv_s _ _ _ _)))
    exact xr_v G hret hlk dX3_finish_43 ⟨(Fr.put (Fr.put (Fr.put Fr.rf (by decide)) (by decide)) (by decide)), hI_3, (by omega), (fun j hj => ((sv_n _ (by omega)).trans ((sv_n _ (by omega)).trans (sv_n _ (by omega)))))⟩

set_option maxHeartbeats 4000000 in
set_option maxRecDepth 100000 in
theorem c_X3_finishAnswer (ω : Om) (l : Launch) (μ : M3) (q1 : Int) (x2 : Int) (n : Int) (hq1 : isRow q1) (hx2 : ir x2) (hI : IC μ) (hn : n = μ.1 60 6) : CtV ω l yX3_finishAnswer cX3_finishAnswer 3 2 49 [.ref (oP ω 60), .ref (oP ω q1), .int (iv x2)] μ (fun (μ' : M3) => (Fr [61, 64, 65, 67, 68, 69] μ μ') ∧ (IC μ') ∧ (n = 0 ∨ μ'.1 61 (n - 1) = 5) ∧ (∀ j, j ≠ n - 1 → μ'.1 61 j = μ.1 61 j)) := by
  refine CtV.go (by decide) (Nat.le_of_ble_eq_true rfl) (fun ρ p e s m below meth c R ls G hR hret hlk hl => ?_)
  have hx := G.1.1
  have hb := G.1.2.1
  have hl : lv_has ls 3 [(0, .ref (oP ω 60)), (1, .ref (oP ω q1)), (2, .int (iv x2))] := hl
  generalize s.drawn = d0 at G ⊢
  have hr_x2 : -2147483648 ≤ x2 ∧ x2 ≤ 2147483647 := hx2
  have hq1_nn := hq1.nn
  have hn_1 : 0 ≤ μ.1 60 6 ∧ μ.1 60 6 ≤ 400 := hI.nm.2.2.2.2.2.1
  refine lv_aload_n hx hb dX3_finishAnswer_0 rfl (lv_at hl 0 rfl) ?_
  refine lv_iconst (v := iv 1) hx hb dX3_finishAnswer_1 rfl ?_
  refine lv_iconst (v := iv (-1)) hx hb dX3_finishAnswer_2 rfl ?_
  have e_2 : μ.1 60 6 = n := hn.symm
  refine xc_vV G (b := 60) (rest := []) (As := [.int (iv 1), .int (iv (-1))]) (c_X3_finish ω l μ 1 (-1) n (by unfold ir; omega) (by unfold ir; omega) hI (by omega)) (wm 6 81 rfl rfl) (wm 5 132 rfl rfl) (wm 5 133 rfl rfl) rfl rfl (by decide) rfl (wm 1 17 rfl rfl) (wm 5 134 rfl rfl) (by decide) hR (by decide) (n := 2) rfl rfl (Nat.le_of_ble_eq_true rfl) hl.1 dX3_finishAnswer_3 (fun μ3 ρ d0 H locs hp G => ?_)
  obtain ⟨F_4, hI_5, hp_6, ha_7⟩ := hp
  refine lv_aload_n hx hb dX3_finishAnswer_6 rfl (lv_at hl 0 rfl) ?_
  refine xa_getr G fd_X3 (a := 60) (x := 66) 5 rfl (by decide) rfl (wm 2 127 rfl rfl) ⟨rfl, rfl, rfl⟩ dX3_finishAnswer_7 rfl (G.sk 70 rfl) (by decide) rfl ?_
  refine lv_aload_n hx hb dX3_finishAnswer_10 rfl (lv_at hl 0 rfl) ?_
  refine xa_geti G fd_X3 (a := 60) (x := n) 6 rfl (by decide) rfl (wm 2 128 rfl rfl) ⟨rfl, rfl, rfl⟩ dX3_finishAnswer_11 rfl ((F_4.1 60 (by decide) 6).trans hn.symm) ?_
  have hr_8 : -2147483648 ≤ n ∧ n ≤ 2147483647 := by have h9 := G.hr (a := 60) (k := 6) rfl; rw [show μ3.1 60 6 = n from ((F_4.1 60 (by decide) 6).trans hn.symm)] at h9; exact h9
  refine lv_iconst (v := iv 1) hx hb dX3_finishAnswer_14 rfl ?_
  refine xb_isub hx hb dX3_finishAnswer_15 ?_
  refine lv_aload_n hx hb dX3_finishAnswer_16 rfl (lv_at hl 1 rfl) ?_
  refine lv_iload_n hx hb dX3_finishAnswer_17 rfl (lv_at hl 2 rfl) ?_
  refine xc_vV G (b := 66) (rest := []) (As := [.int (iv (n - 1)), .ref (oP ω q1), .int (iv x2)]) (c_X9_copy ω l μ3 66 (n - 1) q1 x2 (by unfold isRow; decide) (by unfold ir; omega) hq1 (by unfold ir; omega) hI_5) (wm 6 82 rfl rfl) (wm 6 29 rfl rfl) (wm 6 30 rfl rfl) rfl rfl (by decide) rfl (wm 1 10 rfl rfl) (wm 6 31 rfl rfl) (by decide) hR (by decide) (n := 3) rfl rfl (Nat.le_of_ble_eq_true rfl) hl.1 dX3_finishAnswer_18 (fun μ9 ρ d0 H locs hp G => ?_)
  obtain ⟨F_10, hI_11, hp_12⟩ := hp
  have e_13 : μ9.1 61 (n - 1) = μ3.1 61 (n - 1) := (F_10.1 61 (by decide) (n - 1))
  exact xr_v G hret hlk dX3_finishAnswer_21 ⟨(Fr.tr (Fr.tr Fr.rf F_4 (by decide)) F_10 (by decide)), hI_11, (by omega), (fun j hj => ((F_10.1 61 (by decide) j).trans (ha_7 j (by omega))))⟩

set_option maxHeartbeats 4000000 in
set_option maxRecDepth 100000 in
theorem c_X3_failureUnderWay (ω : Om) (l : Launch) (μ : M3) (hI : IC μ) : CtI ω l yX3_failureUnderWay cX3_failureUnderWay 1 .int 2 41 [.ref (oP ω 60)] μ (fun (r : Int) (μ' : M3) => (μ' = μ)) := by
  refine CtI.go (by decide) (Nat.le_of_ble_eq_true rfl) (fun ρ p e s m below meth c R ls G hR hret hlk hl => ?_)
  have hx := G.1.1
  have hb := G.1.2.1
  have hl : lv_has ls 1 [(0, .ref (oP ω 60))] := hl
  generalize s.drawn = d0 at G ⊢
  refine lv_aload_n hx hb dX3_failureUnderWay_0 rfl (lv_at hl 0 rfl) ?_
  refine xc_iV G (b := 60) (rest := []) (As := []) (c_X3_underWay ω l μ  hI) (wm 5 147 rfl rfl) (wm 5 148 rfl rfl) (wm 5 149 rfl rfl) rfl rfl (by decide) rfl (wm 1 17 rfl rfl) (wm 5 150 rfl rfl) (by decide) hR (by decide) (n := 0) rfl rfl (Nat.le_of_ble_eq_true rfl) hl.1 dX3_failureUnderWay_1 (fun r_2 μ1 ρ d0 H locs hr_r_2 hp G => ?_)
  have hr_r_2 : -2147483648 ≤ r_2 ∧ r_2 ≤ 2147483647 := hr_r_2
  obtain ⟨hsm_3, hp_4⟩ := hp
  have hsm_3 := Eq.symm hsm_3
  subst hsm_3
  refine lv_iconst (v := iv 1) hx hb dX3_failureUnderWay_4 rfl ?_
  refine xb_icmp_ne (tgt := 34) hx hb (by unfold ir; omega) (by unfold ir; omega) dX3_failureUnderWay_5 (by decide) (fun c_5 => ?_) (fun c_5 => ?_)
  · refine lv_aload_n hx hb dX3_failureUnderWay_34 rfl (lv_at hl 0 rfl) ?_
    refine xc_iV G (b := 60) (rest := []) (As := []) (c_X3_underWay ω l μ  hI) (wm 5 147 rfl rfl) (wm 5 148 rfl rfl) (wm 5 149 rfl rfl) rfl rfl (by decide) rfl (wm 1 17 rfl rfl) (wm 5 150 rfl rfl) (by decide) hR (by decide) (n := 0) rfl rfl (Nat.le_of_ble_eq_true rfl) hl.1 dX3_failureUnderWay_35 (fun r_6 μ5 ρ d0 H locs hr_r_6 hp G => ?_)
    have hr_r_6 : -2147483648 ≤ r_6 ∧ r_6 ≤ 2147483647 := hr_r_6
    obtain ⟨hsm_7, hp_8⟩ := hp
    have hsm_7 := Eq.symm hsm_7
    subst hsm_7
    refine lv_iconst (v := iv 2) hx hb dX3_failureUnderWay_38 rfl ?_
    refine xb_icmp_ne (tgt := 53) hx hb (by unfold ir; omega) (by unfold ir; omega) dX3_failureUnderWay_39 (by decide) (fun c_39 => ?_) (fun c_39 => ?_)
    · refine lv_iconst (v := iv (-1)) hx hb dX3_failureUnderWay_53 rfl ?_
      exact xr_i G (x := (-1)) hret hlk (by unfold ir; omega) rfl dX3_failureUnderWay_54 rfl
    · refine lv_aload_n hx hb dX3_failureUnderWay_42 rfl (lv_at hl 0 rfl) ?_
      refine lv_aload_n hx hb dX3_failureUnderWay_43 rfl (lv_at hl 0 rfl) ?_
      refine xa_getr G fd_X3 (a := 60) (x := 65) 4 rfl (by decide) rfl (wm 2 126 rfl rfl) ⟨rfl, rfl, rfl⟩ dX3_failureUnderWay_44 rfl (G.sk 69 rfl) (by decide) rfl ?_
      have hn_9 : 0 ≤ μ.1 60 6 ∧ μ.1 60 6 ≤ 400 := hI.nm.2.2.2.2.2.1
      refine xc_iV G (b := 60) (rest := []) (As := [.ref (oP ω 65)]) (c_X3_of ω l μ 65 (μ.1 60 6) (by omega) hI (by omega)) (wm 5 127 rfl rfl) (wm 5 129 rfl rfl) (wm 0 68 rfl rfl) rfl rfl (by decide) rfl (wm 1 17 rfl rfl) (wm 5 130 rfl rfl) (by decide) hR (by decide) (n := 1) rfl rfl (Nat.le_of_ble_eq_true rfl) hl.1 dX3_failureUnderWay_47 (fun r_11 μ10 ρ d0 H locs hr_r_11 hp G => ?_)
      have hr_r_11 : -2147483648 ≤ r_11 ∧ r_11 ≤ 2147483647 := hr_r_11
      obtain ⟨hsm_12, hp_13⟩ := hp
      have hsm_12 := Eq.symm hsm_12
      subst hsm_12
      refine lv_goto (tgt := 54) hx hb dX3_failureUnderWay_50 (by decide) ?_
      exact xr_i G (x := r_11) hret hlk (by unfold ir; omega) rfl dX3_failureUnderWay_54 rfl
  · refine lv_aload_n hx hb dX3_failureUnderWay_8 rfl (lv_at hl 0 rfl) ?_
    refine xa_getr G fd_X3 (a := 60) (x := 66) 5 rfl (by decide) rfl (wm 2 127 rfl rfl) ⟨rfl, rfl, rfl⟩ dX3_failureUnderWay_9 rfl (G.sk 70 rfl) (by decide) rfl ?_
    refine xc_iV G (b := 66) (rest := []) (As := []) (c_X9_kindOfTop ω l μ 66 (by unfold isRow; decide) hI) (wm 5 151 rfl rfl) (wm 5 152 rfl rfl) (wm 5 153 rfl rfl) rfl rfl (by decide) rfl (wm 1 10 rfl rfl) (wm 5 154 rfl rfl) (by decide) hR (by decide) (n := 0) rfl rfl (Nat.le_of_ble_eq_true rfl) hl.1 dX3_failureUnderWay_12 (fun r_15 μ14 ρ d0 H locs hr_r_15 hp G => ?_)
    have hr_r_15 : -2147483648 ≤ r_15 ∧ r_15 ≤ 2147483647 := hr_r_15
    have hsm_16 := hp
    have hsm_16 := Eq.symm hsm_16
    subst hsm_16
    refine lv_iconst (v := iv 4) hx hb dX3_failureUnderWay_15 rfl ?_
    refine xb_icmp_ne (tgt := 34) hx hb (by unfold ir; omega) (by unfold ir; omega) dX3_failureUnderWay_16 (by decide) (fun c_16 => ?_) (fun c_16 => ?_)
    · refine lv_aload_n hx hb dX3_failureUnderWay_34 rfl (lv_at hl 0 rfl) ?_
      refine xc_iV G (b := 60) (rest := []) (As := []) (c_X3_underWay ω l μ  hI) (wm 5 147 rfl rfl) (wm 5 148 rfl rfl) (wm 5 149 rfl rfl) rfl rfl (by decide) rfl (wm 1 17 rfl rfl) (wm 5 150 rfl rfl) (by decide) hR (by decide) (n := 0) rfl rfl (Nat.le_of_ble_eq_true rfl) hl.1 dX3_failureUnderWay_35 (fun r_18 μ17 ρ d0 H locs hr_r_18 hp G => ?_)
      have hr_r_18 : -2147483648 ≤ r_18 ∧ r_18 ≤ 2147483647 := hr_r_18
      obtain ⟨hsm_19, hp_20⟩ := hp
      have hsm_19 := Eq.symm hsm_19
      subst hsm_19
      refine lv_iconst (v := iv 2) hx hb dX3_failureUnderWay_38 rfl ?_
      refine xb_icmp_ne (tgt := 53) hx hb (by unfold ir; omega) (by unfold ir; omega) dX3_failureUnderWay_39 (by decide) (fun c_39 => ?_) (fun c_39 => ?_)
      · refine lv_iconst (v := iv (-1)) hx hb dX3_failureUnderWay_53 rfl ?_
        exact xr_i G (x := (-1)) hret hlk (by unfold ir; omega) rfl dX3_failureUnderWay_54 rfl
      · refine lv_aload_n hx hb dX3_failureUnderWay_42 rfl (lv_at hl 0 rfl) ?_
        refine lv_aload_n hx hb dX3_failureUnderWay_43 rfl (lv_at hl 0 rfl) ?_
        refine xa_getr G fd_X3 (a := 60) (x := 65) 4 rfl (by decide) rfl (wm 2 126 rfl rfl) ⟨rfl, rfl, rfl⟩ dX3_failureUnderWay_44 rfl (G.sk 69 rfl) (by decide) rfl ?_
        have hn_21 : 0 ≤ μ.1 60 6 ∧ μ.1 60 6 ≤ 400 := hI.nm.2.2.2.2.2.1
        refine xc_iV G (b := 60) (rest := []) (As := [.ref (oP ω 65)]) (c_X3_of ω l μ 65 (μ.1 60 6) (by omega) hI (by omega)) (wm 5 127 rfl rfl) (wm 5 129 rfl rfl) (wm 0 68 rfl rfl) rfl rfl (by decide) rfl (wm 1 17 rfl rfl) (wm 5 130 rfl rfl) (by decide) hR (by decide) (n := 1) rfl rfl (Nat.le_of_ble_eq_true rfl) hl.1 dX3_failureUnderWay_47 (fun r_23 μ22 ρ d0 H locs hr_r_23 hp G => ?_)
        have hr_r_23 : -2147483648 ≤ r_23 ∧ r_23 ≤ 2147483647 := hr_r_23
        obtain ⟨hsm_24, hp_25⟩ := hp
        have hsm_24 := Eq.symm hsm_24
        subst hsm_24
        refine lv_goto (tgt := 54) hx hb dX3_failureUnderWay_50 (by decide) ?_
        exact xr_i G (x := r_23) hret hlk (by unfold ir; omega) rfl dX3_failureUnderWay_54 rfl
    · refine lv_aload_n hx hb dX3_failureUnderWay_19 rfl (lv_at hl 0 rfl) ?_
      refine xa_getr G fd_X3 (a := 60) (x := 66) 5 rfl (by decide) rfl (wm 2 127 rfl rfl) ⟨rfl, rfl, rfl⟩ dX3_failureUnderWay_20 rfl (G.sk 70 rfl) (by decide) rfl ?_
      refine lv_aload_n hx hb dX3_failureUnderWay_23 rfl (lv_at hl 0 rfl) ?_
      refine xa_geti G fd_X3 (a := 60) (x := μ.1 60 6) 6 rfl (by decide) rfl (wm 2 128 rfl rfl) ⟨rfl, rfl, rfl⟩ dX3_failureUnderWay_24 rfl rfl ?_
      have hr_26 : -2147483648 ≤ μ.1 60 6 ∧ μ.1 60 6 ≤ 2147483647 := by have h9 := G.hr (a := 60) (k := 6) rfl; exact h9
      have hn_27 : 0 ≤ μ.1 60 6 ∧ μ.1 60 6 ≤ 400 := hI.nm.2.2.2.2.2.1
      refine lv_iconst (v := iv 1) hx hb dX3_failureUnderWay_27 rfl ?_
      refine xb_isub hx hb dX3_failureUnderWay_28 ?_
      refine xc_lV G (b := 66) (rest := []) (As := [.int (iv ((μ.1 60 6) - 1))]) (c_X9_whole ω l μ 66 ((μ.1 60 6) - 1) (by unfold isRow; decide) (by unfold ir; omega) hI) (wm 5 159 rfl rfl) (wm 5 160 rfl rfl) (wm 5 161 rfl rfl) rfl rfl (by decide) rfl (wm 1 10 rfl rfl) (wm 5 162 rfl rfl) (by decide) hR (by decide) (n := 1) rfl rfl (Nat.le_of_ble_eq_true rfl) hl.1 dX3_failureUnderWay_29 (fun r_29 μ28 ρ d0 H locs hr_r_29 hp G => ?_)
      have hsm_30 := hp
      have hsm_30 := Eq.symm hsm_30
      subst hsm_30
      refine xb_l2i hx hb dX3_failureUnderWay_32 ?_
      refine xb_topi (fun y_31 hr_y_31 he_y_31 => ?_)
      have hr_y_31 : -2147483648 ≤ y_31 ∧ y_31 ≤ 2147483647 := hr_y_31
      exact xr_i G (x := y_31) hret hlk (by unfold ir; omega) rfl dX3_failureUnderWay_33 rfl
