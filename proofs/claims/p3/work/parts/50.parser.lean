abbrev cX7_tellFault : ByteArray := prog_9_method_5_code
def yX7_tellFault : MethodName := ⟨RX7, "tellFault", "(II)V"⟩
abbrev cX7_took : ByteArray := prog_9_method_6_code
def yX7_took : MethodName := ⟨RX7, "took", "(I)Z"⟩
abbrev cX7_need : ByteArray := prog_9_method_7_code
def yX7_need : MethodName := ⟨RX7, "need", "(I)V"⟩
abbrev cX7_needOpen : ByteArray := prog_9_method_8_code
def yX7_needOpen : MethodName := ⟨RX7, "needOpen", "(I)V"⟩
abbrev cX7_needClosed : ByteArray := prog_9_method_9_code
def yX7_needClosed : MethodName := ⟨RX7, "needClosed", "(I)V"⟩
abbrev cX7_add : ByteArray := prog_9_method_10_code
def yX7_add : MethodName := ⟨RX7, "add", "(III)I"⟩
abbrev cX7_here : ByteArray := prog_9_method_11_code
def yX7_here : MethodName := ⟨RX7, "here", "()I"⟩
abbrev cX7_aimAll : ByteArray := prog_9_method_12_code
def yX7_aimAll : MethodName := ⟨RX7, "aimAll", "(II)V"⟩
abbrev cX7_nameOfFailing : ByteArray := prog_9_method_14_code
def yX7_nameOfFailing : MethodName := ⟨RX7, "nameOfFailing", "()I"⟩
abbrev cX7_variable : ByteArray := prog_9_method_18_code
def yX7_variable : MethodName := ⟨RX7, "variable", "(J)I"⟩
abbrev cX7_declare : ByteArray := prog_9_method_19_code
def yX7_declare : MethodName := ⟨RX7, "declare", "(J)I"⟩
abbrev cX7_variableAt : ByteArray := prog_9_method_20_code
def yX7_variableAt : MethodName := ⟨RX7, "variableAt", "(JI)I"⟩
abbrev cX7_secondName : ByteArray := prog_9_method_33_code
def yX7_secondName : MethodName := ⟨RX7, "secondName", "()I"⟩
abbrev cX7_ifFails : ByteArray := prog_9_method_44_code
def yX7_ifFails : MethodName := ⟨RX7, "ifFails", "(II)I"⟩
abbrev cX7_endOfParts : ByteArray := prog_9_method_45_code
def yX7_endOfParts : MethodName := ⟨RX7, "endOfParts", "(IIII)V"⟩
abbrev cX7_isTongueWord : ByteArray := prog_9_method_50_code
def yX7_isTongueWord : MethodName := ⟨RX7, "isTongueWord", "()Z"⟩
theorem dX7_tellFault_0 : decode cX7_tellFault 0 = .ok (.aload_n 0, 1) := by decide +kernel
theorem dX7_tellFault_1 : decode cX7_tellFault 1 = .ok (.getfield 9, 3) := by decide +kernel
theorem dX7_tellFault_4 : decode cX7_tellFault 4 = .ok (.iload_n 1, 1) := by decide +kernel
theorem dX7_tellFault_5 : decode cX7_tellFault 5 = .ok (.iaload, 1) := by decide +kernel
theorem dX7_tellFault_6 : decode cX7_tellFault 6 = .ok (.ifCond .lt 13, 3) := by decide +kernel
theorem dX7_tellFault_9 : decode cX7_tellFault 9 = .ok (.iload_n 2, 1) := by decide +kernel
theorem dX7_tellFault_10 : decode cX7_tellFault 10 = .ok (.aload_n 0, 1) := by decide +kernel
theorem dX7_tellFault_11 : decode cX7_tellFault 11 = .ok (.getfield 9, 3) := by decide +kernel
theorem dX7_tellFault_14 : decode cX7_tellFault 14 = .ok (.iload_n 1, 1) := by decide +kernel
theorem dX7_tellFault_15 : decode cX7_tellFault 15 = .ok (.iaload, 1) := by decide +kernel
theorem dX7_tellFault_16 : decode cX7_tellFault 16 = .ok (.if_icmp .ge 10, 3) := by decide +kernel
theorem dX7_tellFault_19 : decode cX7_tellFault 19 = .ok (.aload_n 0, 1) := by decide +kernel
theorem dX7_tellFault_20 : decode cX7_tellFault 20 = .ok (.getfield 9, 3) := by decide +kernel
theorem dX7_tellFault_23 : decode cX7_tellFault 23 = .ok (.iload_n 1, 1) := by decide +kernel
theorem dX7_tellFault_24 : decode cX7_tellFault 24 = .ok (.iload_n 2, 1) := by decide +kernel
theorem dX7_tellFault_25 : decode cX7_tellFault 25 = .ok (.iastore, 1) := by decide +kernel
theorem dX7_tellFault_26 : decode cX7_tellFault 26 = .ok (.return_, 1) := by decide +kernel
theorem dX7_took_0 : decode cX7_took 0 = .ok (.aload_n 0, 1) := by decide +kernel
theorem dX7_took_1 : decode cX7_took 1 = .ok (.getfield 43, 3) := by decide +kernel
theorem dX7_took_4 : decode cX7_took 4 = .ok (.getfield 80, 3) := by decide +kernel
theorem dX7_took_7 : decode cX7_took 7 = .ok (.iload_n 1, 1) := by decide +kernel
theorem dX7_took_8 : decode cX7_took 8 = .ok (.if_icmp .eq 5, 3) := by decide +kernel
theorem dX7_took_11 : decode cX7_took 11 = .ok (.iconst 0, 1) := by decide +kernel
theorem dX7_took_12 : decode cX7_took 12 = .ok (.ireturn, 1) := by decide +kernel
theorem dX7_took_13 : decode cX7_took 13 = .ok (.aload_n 0, 1) := by decide +kernel
theorem dX7_took_14 : decode cX7_took 14 = .ok (.getfield 43, 3) := by decide +kernel
theorem dX7_took_17 : decode cX7_took 17 = .ok (.invokevirtual 97, 3) := by decide +kernel
theorem dX7_took_20 : decode cX7_took 20 = .ok (.iconst 1, 1) := by decide +kernel
theorem dX7_took_21 : decode cX7_took 21 = .ok (.ireturn, 1) := by decide +kernel
theorem dX7_need_0 : decode cX7_need 0 = .ok (.aload_n 0, 1) := by decide +kernel
theorem dX7_need_1 : decode cX7_need 1 = .ok (.getfield 43, 3) := by decide +kernel
theorem dX7_need_4 : decode cX7_need 4 = .ok (.getfield 80, 3) := by decide +kernel
theorem dX7_need_7 : decode cX7_need 7 = .ok (.iload_n 1, 1) := by decide +kernel
theorem dX7_need_8 : decode cX7_need 8 = .ok (.if_icmp .ne 13, 3) := by decide +kernel
theorem dX7_need_11 : decode cX7_need 11 = .ok (.aload_n 0, 1) := by decide +kernel
theorem dX7_need_12 : decode cX7_need 12 = .ok (.getfield 43, 3) := by decide +kernel
theorem dX7_need_15 : decode cX7_need 15 = .ok (.invokevirtual 97, 3) := by decide +kernel
theorem dX7_need_18 : decode cX7_need 18 = .ok (.goto 10, 3) := by decide +kernel
theorem dX7_need_21 : decode cX7_need 21 = .ok (.aload_n 0, 1) := by decide +kernel
theorem dX7_need_22 : decode cX7_need 22 = .ok (.getfield 43, 3) := by decide +kernel
theorem dX7_need_25 : decode cX7_need 25 = .ok (.invokevirtual 93, 3) := by decide +kernel
theorem dX7_need_28 : decode cX7_need 28 = .ok (.return_, 1) := by decide +kernel
theorem dX7_needOpen_0 : decode cX7_needOpen 0 = .ok (.aload_n 0, 1) := by decide +kernel
theorem dX7_needOpen_1 : decode cX7_needOpen 1 = .ok (.getfield 32, 3) := by decide +kernel
theorem dX7_needOpen_4 : decode cX7_needOpen 4 = .ok (.bipush 8, 2) := by decide +kernel
theorem dX7_needOpen_6 : decode cX7_needOpen 6 = .ok (.if_icmp .lt 10, 3) := by decide +kernel
theorem dX7_needOpen_9 : decode cX7_needOpen 9 = .ok (.aload_n 0, 1) := by decide +kernel
theorem dX7_needOpen_10 : decode cX7_needOpen 10 = .ok (.getfield 43, 3) := by decide +kernel
theorem dX7_needOpen_13 : decode cX7_needOpen 13 = .ok (.invokevirtual 93, 3) := by decide +kernel
theorem dX7_needOpen_16 : decode cX7_needOpen 16 = .ok (.aload_n 0, 1) := by decide +kernel
theorem dX7_needOpen_17 : decode cX7_needOpen 17 = .ok (.iload_n 1, 1) := by decide +kernel
theorem dX7_needOpen_18 : decode cX7_needOpen 18 = .ok (.invokevirtual 100, 3) := by decide +kernel
theorem dX7_needOpen_21 : decode cX7_needOpen 21 = .ok (.aload_n 0, 1) := by decide +kernel
theorem dX7_needOpen_22 : decode cX7_needOpen 22 = .ok (.dup, 1) := by decide +kernel
theorem dX7_needOpen_23 : decode cX7_needOpen 23 = .ok (.getfield 32, 3) := by decide +kernel
theorem dX7_needOpen_26 : decode cX7_needOpen 26 = .ok (.iconst 1, 1) := by decide +kernel
theorem dX7_needOpen_27 : decode cX7_needOpen 27 = .ok (.iadd, 1) := by decide +kernel
theorem dX7_needOpen_28 : decode cX7_needOpen 28 = .ok (.putfield 32, 3) := by decide +kernel
theorem dX7_needOpen_31 : decode cX7_needOpen 31 = .ok (.return_, 1) := by decide +kernel
theorem dX7_needClosed_0 : decode cX7_needClosed 0 = .ok (.aload_n 0, 1) := by decide +kernel
theorem dX7_needClosed_1 : decode cX7_needClosed 1 = .ok (.iload_n 1, 1) := by decide +kernel
theorem dX7_needClosed_2 : decode cX7_needClosed 2 = .ok (.invokevirtual 100, 3) := by decide +kernel
theorem dX7_needClosed_5 : decode cX7_needClosed 5 = .ok (.aload_n 0, 1) := by decide +kernel
theorem dX7_needClosed_6 : decode cX7_needClosed 6 = .ok (.dup, 1) := by decide +kernel
theorem dX7_needClosed_7 : decode cX7_needClosed 7 = .ok (.getfield 32, 3) := by decide +kernel
theorem dX7_needClosed_10 : decode cX7_needClosed 10 = .ok (.iconst 1, 1) := by decide +kernel
theorem dX7_needClosed_11 : decode cX7_needClosed 11 = .ok (.isub, 1) := by decide +kernel
theorem dX7_needClosed_12 : decode cX7_needClosed 12 = .ok (.putfield 32, 3) := by decide +kernel
theorem dX7_needClosed_15 : decode cX7_needClosed 15 = .ok (.return_, 1) := by decide +kernel
theorem dX7_add_0 : decode cX7_add 0 = .ok (.aload_n 0, 1) := by decide +kernel
theorem dX7_add_1 : decode cX7_add 1 = .ok (.getfield 51, 3) := by decide +kernel
theorem dX7_add_4 : decode cX7_add 4 = .ok (.iload_n 1, 1) := by decide +kernel
theorem dX7_add_5 : decode cX7_add 5 = .ok (.iload_n 2, 1) := by decide +kernel
theorem dX7_add_6 : decode cX7_add 6 = .ok (.iload_n 3, 1) := by decide +kernel
theorem dX7_add_7 : decode cX7_add 7 = .ok (.aload_n 0, 1) := by decide +kernel
theorem dX7_add_8 : decode cX7_add 8 = .ok (.getfield 35, 3) := by decide +kernel
theorem dX7_add_11 : decode cX7_add 11 = .ok (.invokevirtual 104, 3) := by decide +kernel
theorem dX7_add_14 : decode cX7_add 14 = .ok (.ireturn, 1) := by decide +kernel
theorem dX7_here_0 : decode cX7_here 0 = .ok (.aload_n 0, 1) := by decide +kernel
theorem dX7_here_1 : decode cX7_here 1 = .ok (.getfield 51, 3) := by decide +kernel
theorem dX7_here_4 : decode cX7_here 4 = .ok (.invokevirtual 108, 3) := by decide +kernel
theorem dX7_here_7 : decode cX7_here 7 = .ok (.ireturn, 1) := by decide +kernel
theorem dX7_aimAll_0 : decode cX7_aimAll 0 = .ok (.iload_n 1, 1) := by decide +kernel
theorem dX7_aimAll_1 : decode cX7_aimAll 1 = .ok (.istore_n 3, 1) := by decide +kernel
theorem dX7_aimAll_2 : decode cX7_aimAll 2 = .ok (.aload_n 0, 1) := by decide +kernel
theorem dX7_aimAll_3 : decode cX7_aimAll 3 = .ok (.getfield 51, 3) := by decide +kernel
theorem dX7_aimAll_6 : decode cX7_aimAll 6 = .ok (.invokevirtual 108, 3) := by decide +kernel
theorem dX7_aimAll_9 : decode cX7_aimAll 9 = .ok (.istore 4, 2) := by decide +kernel
theorem dX7_aimAll_11 : decode cX7_aimAll 11 = .ok (.iload 4, 2) := by decide +kernel
theorem dX7_aimAll_13 : decode cX7_aimAll 13 = .ok (.ifCond .le 35, 3) := by decide +kernel
theorem dX7_aimAll_16 : decode cX7_aimAll 16 = .ok (.iload_n 3, 1) := by decide +kernel
theorem dX7_aimAll_17 : decode cX7_aimAll 17 = .ok (.ifCond .lt 31, 3) := by decide +kernel
theorem dX7_aimAll_20 : decode cX7_aimAll 20 = .ok (.aload_n 0, 1) := by decide +kernel
theorem dX7_aimAll_21 : decode cX7_aimAll 21 = .ok (.getfield 51, 3) := by decide +kernel
theorem dX7_aimAll_24 : decode cX7_aimAll 24 = .ok (.iload_n 3, 1) := by decide +kernel
theorem dX7_aimAll_25 : decode cX7_aimAll 25 = .ok (.invokevirtual 111, 3) := by decide +kernel
theorem dX7_aimAll_28 : decode cX7_aimAll 28 = .ok (.istore 5, 2) := by decide +kernel
theorem dX7_aimAll_30 : decode cX7_aimAll 30 = .ok (.aload_n 0, 1) := by decide +kernel
theorem dX7_aimAll_31 : decode cX7_aimAll 31 = .ok (.getfield 51, 3) := by decide +kernel
theorem dX7_aimAll_34 : decode cX7_aimAll 34 = .ok (.iload_n 3, 1) := by decide +kernel
theorem dX7_aimAll_35 : decode cX7_aimAll 35 = .ok (.iload_n 2, 1) := by decide +kernel
theorem dX7_aimAll_36 : decode cX7_aimAll 36 = .ok (.invokevirtual 115, 3) := by decide +kernel
theorem dX7_aimAll_39 : decode cX7_aimAll 39 = .ok (.iload 5, 2) := by decide +kernel
theorem dX7_aimAll_41 : decode cX7_aimAll 41 = .ok (.istore_n 3, 1) := by decide +kernel
theorem dX7_aimAll_42 : decode cX7_aimAll 42 = .ok (.iinc 4 (-1), 3) := by decide +kernel
theorem dX7_aimAll_45 : decode cX7_aimAll 45 = .ok (.goto (-34), 3) := by decide +kernel
theorem dX7_aimAll_48 : decode cX7_aimAll 48 = .ok (.return_, 1) := by decide +kernel
theorem dX7_nameOfFailing_0 : decode cX7_nameOfFailing 0 = .ok (.aload_n 0, 1) := by decide +kernel
theorem dX7_nameOfFailing_1 : decode cX7_nameOfFailing 1 = .ok (.getfield 43, 3) := by decide +kernel
theorem dX7_nameOfFailing_4 : decode cX7_nameOfFailing 4 = .ok (.getfield 133, 3) := by decide +kernel
theorem dX7_nameOfFailing_7 : decode cX7_nameOfFailing 7 = .ok (.lstore_n 1, 1) := by decide +kernel
theorem dX7_nameOfFailing_8 : decode cX7_nameOfFailing 8 = .ok (.aload_n 0, 1) := by decide +kernel
theorem dX7_nameOfFailing_9 : decode cX7_nameOfFailing 9 = .ok (.getfield 43, 3) := by decide +kernel
theorem dX7_nameOfFailing_12 : decode cX7_nameOfFailing 12 = .ok (.getfield 96, 3) := by decide +kernel
theorem dX7_nameOfFailing_15 : decode cX7_nameOfFailing 15 = .ok (.istore_n 3, 1) := by decide +kernel
theorem dX7_nameOfFailing_16 : decode cX7_nameOfFailing 16 = .ok (.aload_n 0, 1) := by decide +kernel
theorem dX7_nameOfFailing_17 : decode cX7_nameOfFailing 17 = .ok (.iconst 1, 1) := by decide +kernel
theorem dX7_nameOfFailing_18 : decode cX7_nameOfFailing 18 = .ok (.invokevirtual 100, 3) := by decide +kernel
theorem dX7_nameOfFailing_21 : decode cX7_nameOfFailing 21 = .ok (.aload_n 0, 1) := by decide +kernel
theorem dX7_nameOfFailing_22 : decode cX7_nameOfFailing 22 = .ok (.getfield 47, 3) := by decide +kernel
theorem dX7_nameOfFailing_25 : decode cX7_nameOfFailing 25 = .ok (.lload_n 1, 1) := by decide +kernel
theorem dX7_nameOfFailing_26 : decode cX7_nameOfFailing 26 = .ok (.invokevirtual 137, 3) := by decide +kernel
theorem dX7_nameOfFailing_29 : decode cX7_nameOfFailing 29 = .ok (.istore 4, 2) := by decide +kernel
theorem dX7_nameOfFailing_31 : decode cX7_nameOfFailing 31 = .ok (.iload 4, 2) := by decide +kernel
theorem dX7_nameOfFailing_33 : decode cX7_nameOfFailing 33 = .ok (.ifCond .ne 9, 3) := by decide +kernel
theorem dX7_nameOfFailing_36 : decode cX7_nameOfFailing 36 = .ok (.aload_n 0, 1) := by decide +kernel
theorem dX7_nameOfFailing_37 : decode cX7_nameOfFailing 37 = .ok (.iconst 2, 1) := by decide +kernel
theorem dX7_nameOfFailing_38 : decode cX7_nameOfFailing 38 = .ok (.iload_n 3, 1) := by decide +kernel
theorem dX7_nameOfFailing_39 : decode cX7_nameOfFailing 39 = .ok (.invokevirtual 127, 3) := by decide +kernel
theorem dX7_nameOfFailing_42 : decode cX7_nameOfFailing 42 = .ok (.iload 4, 2) := by decide +kernel
theorem dX7_nameOfFailing_44 : decode cX7_nameOfFailing 44 = .ok (.ireturn, 1) := by decide +kernel
theorem dX7_variable_0 : decode cX7_variable 0 = .ok (.iconst 0, 1) := by decide +kernel
theorem dX7_variable_1 : decode cX7_variable 1 = .ok (.istore_n 3, 1) := by decide +kernel
theorem dX7_variable_2 : decode cX7_variable 2 = .ok (.iload_n 3, 1) := by decide +kernel
theorem dX7_variable_3 : decode cX7_variable 3 = .ok (.aload_n 0, 1) := by decide +kernel
theorem dX7_variable_4 : decode cX7_variable 4 = .ok (.getfield 19, 3) := by decide +kernel
theorem dX7_variable_7 : decode cX7_variable 7 = .ok (.if_icmp .ge 22, 3) := by decide +kernel
theorem dX7_variable_10 : decode cX7_variable 10 = .ok (.aload_n 0, 1) := by decide +kernel
theorem dX7_variable_11 : decode cX7_variable 11 = .ok (.getfield 15, 3) := by decide +kernel
theorem dX7_variable_14 : decode cX7_variable 14 = .ok (.iload_n 3, 1) := by decide +kernel
theorem dX7_variable_15 : decode cX7_variable 15 = .ok (.laload, 1) := by decide +kernel
theorem dX7_variable_16 : decode cX7_variable 16 = .ok (.lload_n 1, 1) := by decide +kernel
theorem dX7_variable_17 : decode cX7_variable 17 = .ok (.lcmp, 1) := by decide +kernel
theorem dX7_variable_18 : decode cX7_variable 18 = .ok (.ifCond .ne 5, 3) := by decide +kernel
theorem dX7_variable_21 : decode cX7_variable 21 = .ok (.iload_n 3, 1) := by decide +kernel
theorem dX7_variable_22 : decode cX7_variable 22 = .ok (.ireturn, 1) := by decide +kernel
theorem dX7_variable_23 : decode cX7_variable 23 = .ok (.iinc 3 1, 3) := by decide +kernel
theorem dX7_variable_26 : decode cX7_variable 26 = .ok (.goto (-24), 3) := by decide +kernel
theorem dX7_variable_29 : decode cX7_variable 29 = .ok (.iconst (-1), 1) := by decide +kernel
theorem dX7_variable_30 : decode cX7_variable 30 = .ok (.ireturn, 1) := by decide +kernel
theorem dX7_declare_0 : decode cX7_declare 0 = .ok (.aload_n 0, 1) := by decide +kernel
theorem dX7_declare_1 : decode cX7_declare 1 = .ok (.lload_n 1, 1) := by decide +kernel
theorem dX7_declare_2 : decode cX7_declare 2 = .ok (.invokevirtual 173, 3) := by decide +kernel
theorem dX7_declare_5 : decode cX7_declare 5 = .ok (.istore_n 3, 1) := by decide +kernel
theorem dX7_declare_6 : decode cX7_declare 6 = .ok (.iload_n 3, 1) := by decide +kernel
theorem dX7_declare_7 : decode cX7_declare 7 = .ok (.ifCond .ge 13, 3) := by decide +kernel
theorem dX7_declare_10 : decode cX7_declare 10 = .ok (.aload_n 0, 1) := by decide +kernel
theorem dX7_declare_11 : decode cX7_declare 11 = .ok (.getfield 19, 3) := by decide +kernel
theorem dX7_declare_14 : decode cX7_declare 14 = .ok (.sipush 1000, 3) := by decide +kernel
theorem dX7_declare_17 : decode cX7_declare 17 = .ok (.if_icmp .lt 9, 3) := by decide +kernel
theorem dX7_declare_20 : decode cX7_declare 20 = .ok (.iload_n 3, 1) := by decide +kernel
theorem dX7_declare_21 : decode cX7_declare 21 = .ok (.iconst 0, 1) := by decide +kernel
theorem dX7_declare_22 : decode cX7_declare 22 = .ok (.invokestatic 59, 3) := by decide +kernel
theorem dX7_declare_25 : decode cX7_declare 25 = .ok (.ireturn, 1) := by decide +kernel
theorem dX7_declare_26 : decode cX7_declare 26 = .ok (.aload_n 0, 1) := by decide +kernel
theorem dX7_declare_27 : decode cX7_declare 27 = .ok (.getfield 15, 3) := by decide +kernel
theorem dX7_declare_30 : decode cX7_declare 30 = .ok (.aload_n 0, 1) := by decide +kernel
theorem dX7_declare_31 : decode cX7_declare 31 = .ok (.getfield 19, 3) := by decide +kernel
theorem dX7_declare_34 : decode cX7_declare 34 = .ok (.lload_n 1, 1) := by decide +kernel
theorem dX7_declare_35 : decode cX7_declare 35 = .ok (.lastore, 1) := by decide +kernel
theorem dX7_declare_36 : decode cX7_declare 36 = .ok (.aload_n 0, 1) := by decide +kernel
theorem dX7_declare_37 : decode cX7_declare 37 = .ok (.dup, 1) := by decide +kernel
theorem dX7_declare_38 : decode cX7_declare 38 = .ok (.getfield 19, 3) := by decide +kernel
theorem dX7_declare_41 : decode cX7_declare 41 = .ok (.iconst 1, 1) := by decide +kernel
theorem dX7_declare_42 : decode cX7_declare 42 = .ok (.iadd, 1) := by decide +kernel
theorem dX7_declare_43 : decode cX7_declare 43 = .ok (.putfield 19, 3) := by decide +kernel
theorem dX7_declare_46 : decode cX7_declare 46 = .ok (.aload_n 0, 1) := by decide +kernel
theorem dX7_declare_47 : decode cX7_declare 47 = .ok (.getfield 19, 3) := by decide +kernel
theorem dX7_declare_50 : decode cX7_declare 50 = .ok (.iconst 1, 1) := by decide +kernel
theorem dX7_declare_51 : decode cX7_declare 51 = .ok (.isub, 1) := by decide +kernel
theorem dX7_declare_52 : decode cX7_declare 52 = .ok (.ireturn, 1) := by decide +kernel
theorem dX7_variableAt_0 : decode cX7_variableAt 0 = .ok (.aload_n 0, 1) := by decide +kernel
theorem dX7_variableAt_1 : decode cX7_variableAt 1 = .ok (.lload_n 1, 1) := by decide +kernel
theorem dX7_variableAt_2 : decode cX7_variableAt 2 = .ok (.invokevirtual 173, 3) := by decide +kernel
theorem dX7_variableAt_5 : decode cX7_variableAt 5 = .ok (.istore 4, 2) := by decide +kernel
theorem dX7_variableAt_7 : decode cX7_variableAt 7 = .ok (.iload 4, 2) := by decide +kernel
theorem dX7_variableAt_9 : decode cX7_variableAt 9 = .ok (.ifCond .ge 9, 3) := by decide +kernel
theorem dX7_variableAt_12 : decode cX7_variableAt 12 = .ok (.aload_n 0, 1) := by decide +kernel
theorem dX7_variableAt_13 : decode cX7_variableAt 13 = .ok (.iconst 3, 1) := by decide +kernel
theorem dX7_variableAt_14 : decode cX7_variableAt 14 = .ok (.iload_n 3, 1) := by decide +kernel
theorem dX7_variableAt_15 : decode cX7_variableAt 15 = .ok (.invokevirtual 127, 3) := by decide +kernel
theorem dX7_variableAt_18 : decode cX7_variableAt 18 = .ok (.iload 4, 2) := by decide +kernel
theorem dX7_variableAt_20 : decode cX7_variableAt 20 = .ok (.iconst 0, 1) := by decide +kernel
theorem dX7_variableAt_21 : decode cX7_variableAt 21 = .ok (.invokestatic 59, 3) := by decide +kernel
theorem dX7_variableAt_24 : decode cX7_variableAt 24 = .ok (.ireturn, 1) := by decide +kernel
theorem dX7_secondName_0 : decode cX7_secondName 0 = .ok (.aload_n 0, 1) := by decide +kernel
theorem dX7_secondName_1 : decode cX7_secondName 1 = .ok (.getfield 43, 3) := by decide +kernel
theorem dX7_secondName_4 : decode cX7_secondName 4 = .ok (.getfield 133, 3) := by decide +kernel
theorem dX7_secondName_7 : decode cX7_secondName 7 = .ok (.lstore_n 1, 1) := by decide +kernel
theorem dX7_secondName_8 : decode cX7_secondName 8 = .ok (.aload_n 0, 1) := by decide +kernel
theorem dX7_secondName_9 : decode cX7_secondName 9 = .ok (.iconst 1, 1) := by decide +kernel
theorem dX7_secondName_10 : decode cX7_secondName 10 = .ok (.invokevirtual 100, 3) := by decide +kernel
theorem dX7_secondName_13 : decode cX7_secondName 13 = .ok (.aload_n 0, 1) := by decide +kernel
theorem dX7_secondName_14 : decode cX7_secondName 14 = .ok (.lload_n 1, 1) := by decide +kernel
theorem dX7_secondName_15 : decode cX7_secondName 15 = .ok (.invokevirtual 176, 3) := by decide +kernel
theorem dX7_secondName_18 : decode cX7_secondName 18 = .ok (.ireturn, 1) := by decide +kernel
theorem dX7_ifFails_0 : decode cX7_ifFails 0 = .ok (.aload_n 0, 1) := by decide +kernel
theorem dX7_ifFails_1 : decode cX7_ifFails 1 = .ok (.getfield 29, 3) := by decide +kernel
theorem dX7_ifFails_4 : decode cX7_ifFails 4 = .ok (.iconst 2, 1) := by decide +kernel
theorem dX7_ifFails_5 : decode cX7_ifFails 5 = .ok (.if_icmp .ne 14, 3) := by decide +kernel
theorem dX7_ifFails_8 : decode cX7_ifFails 8 = .ok (.aload_n 0, 1) := by decide +kernel
theorem dX7_ifFails_9 : decode cX7_ifFails 9 = .ok (.bipush 26, 2) := by decide +kernel
theorem dX7_ifFails_11 : decode cX7_ifFails 11 = .ok (.iload_n 1, 1) := by decide +kernel
theorem dX7_ifFails_12 : decode cX7_ifFails 12 = .ok (.iload_n 2, 1) := by decide +kernel
theorem dX7_ifFails_13 : decode cX7_ifFails 13 = .ok (.invokevirtual 157, 3) := by decide +kernel
theorem dX7_ifFails_16 : decode cX7_ifFails 16 = .ok (.goto 4, 3) := by decide +kernel
theorem dX7_ifFails_19 : decode cX7_ifFails 19 = .ok (.iload_n 1, 1) := by decide +kernel
theorem dX7_ifFails_20 : decode cX7_ifFails 20 = .ok (.ireturn, 1) := by decide +kernel
theorem dX7_endOfParts_0 : decode cX7_endOfParts 0 = .ok (.aload_n 0, 1) := by decide +kernel
theorem dX7_endOfParts_1 : decode cX7_endOfParts 1 = .ok (.iload_n 1, 1) := by decide +kernel
theorem dX7_endOfParts_2 : decode cX7_endOfParts 2 = .ok (.iload_n 2, 1) := by decide +kernel
theorem dX7_endOfParts_3 : decode cX7_endOfParts 3 = .ok (.iload_n 3, 1) := by decide +kernel
theorem dX7_endOfParts_4 : decode cX7_endOfParts 4 = .ok (.invokevirtual 157, 3) := by decide +kernel
theorem dX7_endOfParts_7 : decode cX7_endOfParts 7 = .ok (.pop, 1) := by decide +kernel
theorem dX7_endOfParts_8 : decode cX7_endOfParts 8 = .ok (.aload_n 0, 1) := by decide +kernel
theorem dX7_endOfParts_9 : decode cX7_endOfParts 9 = .ok (.iload 4, 2) := by decide +kernel
theorem dX7_endOfParts_11 : decode cX7_endOfParts 11 = .ok (.aload_n 0, 1) := by decide +kernel
theorem dX7_endOfParts_12 : decode cX7_endOfParts 12 = .ok (.invokevirtual 244, 3) := by decide +kernel
theorem dX7_endOfParts_15 : decode cX7_endOfParts 15 = .ok (.invokevirtual 264, 3) := by decide +kernel
theorem dX7_endOfParts_18 : decode cX7_endOfParts 18 = .ok (.return_, 1) := by decide +kernel
theorem dX7_isTongueWord_0 : decode cX7_isTongueWord 0 = .ok (.aload_n 0, 1) := by decide +kernel
theorem dX7_isTongueWord_1 : decode cX7_isTongueWord 1 = .ok (.getfield 43, 3) := by decide +kernel
theorem dX7_isTongueWord_4 : decode cX7_isTongueWord 4 = .ok (.getfield 80, 3) := by decide +kernel
theorem dX7_isTongueWord_7 : decode cX7_isTongueWord 7 = .ok (.sipush 229, 3) := by decide +kernel
theorem dX7_isTongueWord_10 : decode cX7_isTongueWord 10 = .ok (.if_icmp .lt 20, 3) := by decide +kernel
theorem dX7_isTongueWord_13 : decode cX7_isTongueWord 13 = .ok (.aload_n 0, 1) := by decide +kernel
theorem dX7_isTongueWord_14 : decode cX7_isTongueWord 14 = .ok (.getfield 43, 3) := by decide +kernel
theorem dX7_isTongueWord_17 : decode cX7_isTongueWord 17 = .ok (.getfield 80, 3) := by decide +kernel
theorem dX7_isTongueWord_20 : decode cX7_isTongueWord 20 = .ok (.sipush 233, 3) := by decide +kernel
theorem dX7_isTongueWord_23 : decode cX7_isTongueWord 23 = .ok (.if_icmp .ge 7, 3) := by decide +kernel
theorem dX7_isTongueWord_26 : decode cX7_isTongueWord 26 = .ok (.iconst 1, 1) := by decide +kernel
theorem dX7_isTongueWord_27 : decode cX7_isTongueWord 27 = .ok (.goto 4, 3) := by decide +kernel
theorem dX7_isTongueWord_30 : decode cX7_isTongueWord 30 = .ok (.iconst 0, 1) := by decide +kernel
theorem dX7_isTongueWord_31 : decode cX7_isTongueWord 31 = .ok (.ireturn, 1) := by decide +kernel
def plc (o f : Int) : Prop := plain o ∨ ((o = 13 ∨ o = 14) ∧ 0 ≤ f ∧ f ≤ 400000)
theorem cef_pl {t o f c : Int} (h : plc o f) : cef t o c = 0 := by
  unfold plc plain at h
  unfold cef
  rw [if_neg (by omega), if_neg (by omega)]
theorem def_pl {o f t : Int} (h : plc o f) : def_ t o = 0 := by
  unfold plc plain at h
  unfold def_
  rw [if_neg (by omega), if_neg (by omega), if_neg (by omega), if_neg (by omega)]
theorem lcd0_pl {μ : M3} {P t i a b o f s : Int} (h : plc o f) : lcd0 μ P t i a b o f s := by
  rcases h with h | ⟨h, h2⟩
  · exact lcd0.pln h
  · refine ⟨fun _ => h2, fun z => ?_, fun z => ?_, fun z => ?_, fun z => ?_, fun z => ?_, fun z => ?_, fun z => ?_, fun z => ?_, fun z => ?_⟩ <;> exact absurd z (by omega)
set_option maxHeartbeats 4000000 in
set_option maxRecDepth 100000 in
theorem c_X7_add (ω : Om) (l : Launch) (μ : M3) (x1 : Int) (x2 : Int) (x3 : Int) (P : Int) (hx1 : ir x1) (hx2 : ir x2) (hx3 : ir x3) (hI : IC μ) (hP : P = μ.1 23 2) (hL : μ.1 P 1 < 9000) : CtI ω l yX7_add cX7_add 4 .int 3 127 [.ref (oP ω 23), .int (iv x1), .int (iv x2), .int (iv x3)] μ (fun (r : Int) (μ' : M3) => (Fr [P, P + 1] μ μ') ∧ (IC μ') ∧ (r = μ.1 P 1) ∧ (AD μ μ' P x1 x2 x3) ∧ (μ'.1 P 1 = μ.1 P 1 + 1) ∧ (μ'.1 P 7 = μ.1 P 7)) := by
  refine CtI.go (by decide) (Nat.le_of_ble_eq_true rfl) (fun ρ p e s m below meth c R ls G hR hret hlk hl => ?_)
  have hx := G.1.1
  have hb := G.1.2.1
  have hl : lv_has ls 4 [(0, .ref (oP ω 23)), (1, .int (iv x1)), (2, .int (iv x2)), (3, .int (iv x3))] := hl
  generalize s.drawn = d0 at G ⊢
  have hr_x1 : -2147483648 ≤ x1 ∧ x1 ≤ 2147483647 := hx1
  have hr_x2 : -2147483648 ≤ x2 ∧ x2 ≤ 2147483647 := hx2
  have hr_x3 : -2147483648 ≤ x3 ∧ x3 ≤ 2147483647 := hx3
  have hprP : isPr P := by have h9 := G.sr0.2.2.2.2.2; rw [← hP] at h9; exact h9
  have hprP_d : P = 13 ∨ P = 71 ∨ P = 81 ∨ P = 91 ∨ P = 101 := hprP
  have hk_1 := hI.pr (p := P) hprP
  unfold pk at hk_1
  have hc_2 : 16 ≤ μ.2.1 (P + 1) ∧ μ.2.1 (P + 1) ≤ 73024 := hI.rm.1 _ hprP.cap
  refine lv_aload_n hx hb dX7_add_0 rfl (lv_at hl 0 rfl) ?_
  refine xa_getr G fd_X7 (a := 23) (x := P) 2 rfl (by decide) rfl (wm 2 19 rfl rfl) ⟨rfl, rfl, rfl⟩ dX7_add_1 rfl hP.symm (by omega) (hprP.hq ω ρ) ?_
  refine lv_iload_n hx hb dX7_add_4 rfl (lv_at hl 1 rfl) ?_
  refine lv_iload_n hx hb dX7_add_5 rfl (lv_at hl 2 rfl) ?_
  refine lv_iload_n hx hb dX7_add_6 rfl (lv_at hl 3 rfl) ?_
  refine lv_aload_n hx hb dX7_add_7 rfl (lv_at hl 0 rfl) ?_
  refine xa_geti G fd_X7 (a := 23) (x := μ.1 23 10) 10 rfl (by decide) rfl (wm 2 27 rfl rfl) ⟨rfl, rfl, rfl⟩ dX7_add_8 rfl rfl ?_
  have hr_3 : -2147483648 ≤ μ.1 23 10 ∧ μ.1 23 10 ≤ 2147483647 := by have h9 := G.hr (a := 23) (k := 10) rfl; exact h9
  refine xc_iV G (b := P) (rest := []) (As := [.int (iv x1), .int (iv x2), .int (iv x3), .int (iv (μ.1 23 10))]) (c_X8_add ω l μ P x1 x2 x3 (μ.1 23 10) (μ.1 P 1) hprP (by unfold ir; omega) (by unfold ir; omega) (by unfold ir; omega) (by unfold ir; omega) hI (by omega) (by omega)) (wm 3 230 rfl rfl) (wm 3 231 rfl rfl) (wm 3 232 rfl rfl) hprP.ly rfl (by decide) (hprP.hq ω ρ) (wm 1 9 rfl rfl) (wm 3 233 rfl rfl) (by decide) hR (by decide) (n := 4) rfl rfl (Nat.le_of_ble_eq_true rfl) hl.1 dX7_add_11 (fun r_5 μ4 ρ d0 H locs hr_r_5 hp G => ?_)
  have hr_r_5 : -2147483648 ≤ r_5 ∧ r_5 ≤ 2147483647 := hr_r_5
  obtain ⟨F_6, hI_7, hp_8, hs_9, hs_10, hs_11, hs_12, hs_13, hs_14, ha_15⟩ := hp
  have e_16 : μ4.1 P 1 = (μ.1 P 1) + 1 := hs_9
  have e_17 : μ4.1 P 7 = μ.1 P 7 := hs_10
  exact xr_i G (x := r_5) hret hlk (by unfold ir; omega) rfl dX7_add_14 ⟨(Fr.tr Fr.rf F_6 (by simp)), hI_7, (by omega), (AD.of (n := μ.1 P 1) rfl (by omega) (by have h9 : μ4.1 P 1 = (μ.1 P 1) + 1 := hs_9; omega) hs_11 hs_12 hs_13 ha_15), (by omega), (by omega)⟩

set_option maxHeartbeats 4000000 in
set_option maxRecDepth 100000 in
theorem c_X7_here (ω : Om) (l : Launch) (μ : M3) (P : Int) (hI : IC μ) (hP : P = μ.1 23 2) : CtI ω l yX7_here cX7_here 1 .int 1 20 [.ref (oP ω 23)] μ (fun (r : Int) (μ' : M3) => (μ' = μ) ∧ (r = μ.1 P 1)) := by
  refine CtI.go (by decide) (Nat.le_of_ble_eq_true rfl) (fun ρ p e s m below meth c R ls G hR hret hlk hl => ?_)
  have hx := G.1.1
  have hb := G.1.2.1
  have hl : lv_has ls 1 [(0, .ref (oP ω 23))] := hl
  generalize s.drawn = d0 at G ⊢
  have hprP : isPr P := by have h9 := G.sr0.2.2.2.2.2; rw [← hP] at h9; exact h9
  have hprP_d : P = 13 ∨ P = 71 ∨ P = 81 ∨ P = 91 ∨ P = 101 := hprP
  have hk_1 := hI.pr (p := P) hprP
  unfold pk at hk_1
  have hc_2 : 16 ≤ μ.2.1 (P + 1) ∧ μ.2.1 (P + 1) ≤ 73024 := hI.rm.1 _ hprP.cap
  refine lv_aload_n hx hb dX7_here_0 rfl (lv_at hl 0 rfl) ?_
  refine xa_getr G fd_X7 (a := 23) (x := P) 2 rfl (by decide) rfl (wm 2 19 rfl rfl) ⟨rfl, rfl, rfl⟩ dX7_here_1 rfl hP.symm (by omega) (hprP.hq ω ρ) ?_
  refine xc_iV G (b := P) (rest := []) (As := []) (c_X8_length ω l μ P hprP hI) (wm 4 35 rfl rfl) (wm 4 36 rfl rfl) (wm 4 37 rfl rfl) hprP.ly rfl (by decide) (hprP.hq ω ρ) (wm 1 9 rfl rfl) (wm 4 38 rfl rfl) (by decide) hR (by decide) (n := 0) rfl rfl (Nat.le_of_ble_eq_true rfl) hl.1 dX7_here_4 (fun r_4 μ3 ρ d0 H locs hr_r_4 hp G => ?_)
  have hr_r_4 : -2147483648 ≤ r_4 ∧ r_4 ≤ 2147483647 := hr_r_4
  obtain ⟨hsm_5, hp_6⟩ := hp
  have hsm_5 := Eq.symm hsm_5
  subst hsm_5
  exact xr_i G (x := r_4) hret hlk (by unfold ir; omega) rfl dX7_here_7 ⟨rfl, (by omega)⟩

set_option maxHeartbeats 4000000 in
set_option maxRecDepth 100000 in
theorem c_X7_need (ω : Om) (l : Launch) (μ : M3) (x1 : Int) (hx1 : ir x1) (hI : IC μ) (hTK : TK μ) (hk : x1 ≠ 0 ∧ x1 ≠ 3) : CtV ω l yX7_need cX7_need 2 1 20 [.ref (oP ω 23), .int (iv x1)] μ (fun (μ' : M3) => (Fr [26] μ μ') ∧ (IC μ') ∧ (TK μ') ∧ (μ'.1 26 10 = μ.1 26 10 + 1 - μ'.1 26 11) ∧ (μ.1 26 11 ≤ μ'.1 26 11) ∧ (μ'.1 26 11 = 1 ∨ μ.1 26 12 = x1) ∧ (μ'.1 26 6 = μ.1 26 6) ∧ (μ'.1 26 7 = μ.1 26 7) ∧ (μ'.1 26 8 = μ.1 26 8) ∧ (μ'.1 26 9 = μ.1 26 9)) := by
  refine CtV.go (by decide) (Nat.le_of_ble_eq_true rfl) (fun ρ p e s m below meth c R ls G hR hret hlk hl => ?_)
  have hx := G.1.1
  have hb := G.1.2.1
  have hl : lv_has ls 2 [(0, .ref (oP ω 23)), (1, .int (iv x1))] := hl
  generalize s.drawn = d0 at G ⊢
  have hr_x1 : -2147483648 ≤ x1 ∧ x1 ≤ 2147483647 := hx1
  have hTKb := hTK.b
  refine lv_aload_n hx hb dX7_need_0 rfl (lv_at hl 0 rfl) ?_
  refine xa_getr G fd_X7 (a := 23) (x := 26) 0 rfl (by decide) rfl (wm 2 17 rfl rfl) ⟨rfl, rfl, rfl⟩ dX7_need_1 rfl (G.sk 23 rfl) (by decide) rfl ?_
  refine xa_getN G fd_X10 (host := "FourTongues") (a := 26) 12 rfl (by decide) (by decide) ⟨rfl, rfl, rfl⟩ dX7_need_4 rfl (v := .int (iv (μ.1 26 12))) (by rw [show μ.1 26 12 = μ.1 26 12 from rfl]; rfl) ?_
  have hr_1 : -2147483648 ≤ μ.1 26 12 ∧ μ.1 26 12 ≤ 2147483647 := by have h9 := G.hr (a := 26) (k := 12) rfl; exact h9
  refine lv_iload_n hx hb dX7_need_7 rfl (lv_at hl 1 rfl) ?_
  refine xb_icmp_ne (tgt := 21) hx hb (by unfold ir; omega) (by unfold ir; omega) dX7_need_8 (by decide) (fun c_8 => ?_) (fun c_8 => ?_)
  · refine lv_aload_n hx hb dX7_need_21 rfl (lv_at hl 0 rfl) ?_
    refine xa_getr G fd_X7 (a := 23) (x := 26) 0 rfl (by decide) rfl (wm 2 17 rfl rfl) ⟨rfl, rfl, rfl⟩ dX7_need_22 rfl (G.sk 23 rfl) (by decide) rfl ?_
    have hn_2 : 0 ≤ μ.1 26 6 ∧ μ.1 26 6 ≤ 3001 := hI.nm.2.2.2.2.2.2.2.2.2.1
    have hn_3 : 0 ≤ μ.1 26 7 ∧ μ.1 26 7 ≤ 3000 := hI.nm.2.2.2.2.2.2.2.2.2.2.1
    have hn_4 : 0 ≤ μ.1 26 9 ∧ μ.1 26 9 ≤ 3000 := hI.nm.2.2.2.2.2.2.2.2.2.2.2.1
    have hn_5 : -1 ≤ μ.1 26 10 ∧ μ.1 26 10 ≤ 3000 := hI.nm.2.2.2.2.2.2.2.2.2.2.2.2
    refine xc_vV G (b := 26) (rest := []) (As := []) (c_X10_stop ω l μ  hI) (wm 3 173 rfl rfl) (wm 3 174 rfl rfl) (wm 3 175 rfl rfl) rfl rfl (by decide) rfl (wm 1 13 rfl rfl) (wm 3 176 rfl rfl) (by decide) hR (by decide) (n := 0) rfl rfl (Nat.le_of_ble_eq_true rfl) hl.1 dX7_need_25 (fun μ6 ρ d0 H locs hp G => ?_)
    obtain ⟨F_7, hI_8, hp_9, hp_10, hs_11, hs_12, hs_13, hs_14, hs_15, hs_16, hs_17⟩ := hp
    have htk_18 : TK μ6 := TK.st hTK F_7 hp_9 hp_10 hs_11 hs_15 hs_16
    have e_19 : μ6.1 26 10 = μ.1 26 10 := hs_15
    have e_20 : μ6.1 26 6 = μ.1 26 6 := hs_11
    have e_21 : μ6.1 26 7 = μ.1 26 7 := hs_12
    have e_22 : μ6.1 26 8 = μ.1 26 8 := hs_13
    have e_23 : μ6.1 26 9 = μ.1 26 9 := hs_14
    exact xr_v G hret hlk dX7_need_28 ⟨(Fr.tr Fr.rf F_7 (by decide)), hI_8, htk_18, (by omega), (by omega), (by omega), (by omega), (by omega), (by omega), (by omega)⟩
  · refine lv_aload_n hx hb dX7_need_11 rfl (lv_at hl 0 rfl) ?_
    refine xa_getr G fd_X7 (a := 23) (x := 26) 0 rfl (by decide) rfl (wm 2 17 rfl rfl) ⟨rfl, rfl, rfl⟩ dX7_need_12 rfl (G.sk 23 rfl) (by decide) rfl ?_
    have hn_24 : 0 ≤ μ.1 26 6 ∧ μ.1 26 6 ≤ 3001 := hI.nm.2.2.2.2.2.2.2.2.2.1
    have hn_25 : -1 ≤ μ.1 26 10 ∧ μ.1 26 10 ≤ 3000 := hI.nm.2.2.2.2.2.2.2.2.2.2.2.2
    have hn_26 : 0 ≤ μ.1 26 7 ∧ μ.1 26 7 ≤ 3000 := hI.nm.2.2.2.2.2.2.2.2.2.2.1
    have hn_27 : 0 ≤ μ.1 26 9 ∧ μ.1 26 9 ≤ 3000 := hI.nm.2.2.2.2.2.2.2.2.2.2.2.1
    refine xc_vV G (b := 26) (rest := []) (As := []) (c_X10_next ω l μ  hI (by omega) (by omega)) (wm 3 164 rfl rfl) (wm 3 157 rfl rfl) (wm 3 158 rfl rfl) rfl rfl (by decide) rfl (wm 1 13 rfl rfl) (wm 3 159 rfl rfl) (by decide) hR (by decide) (n := 0) rfl rfl (Nat.le_of_ble_eq_true rfl) hl.1 dX7_need_15 (fun μ28 ρ d0 H locs hp G => ?_)
    obtain ⟨F_29, hI_30, hp_31, hp_32, hs_33, hs_34, hs_35, hs_36, hs_37⟩ := hp
    have hn_38 : -1 ≤ μ28.1 26 10 ∧ μ28.1 26 10 ≤ 3000 := hI_30.nm.2.2.2.2.2.2.2.2.2.2.2.2
    obtain ⟨htk_39, htk_39_s, htk_39_n⟩ := TK.nx hTK F_29 hs_34 hs_33 (by have h9 : μ.1 26 12 = μ.1 26 12 := rfl; omega) hp_31 hp_32
    clear hp_31 hp_32
    have htb_40 := htk_39.b
    refine lv_goto (tgt := 28) hx hb dX7_need_18 (by decide) ?_
    have e_41 : μ28.1 26 11 = μ.1 26 11 := hs_33
    have e_42 : μ28.1 26 11 = μ.1 26 11 := hs_33
    have e_43 : μ28.1 26 11 = μ.1 26 11 := hs_33
    have e_44 : μ28.1 26 6 = μ.1 26 6 := hs_34
    have e_45 : μ28.1 26 7 = μ.1 26 7 := hs_35
    have e_46 : μ28.1 26 8 = μ.1 26 8 := hs_36
    have e_47 : μ28.1 26 9 = μ.1 26 9 := hs_37
    exact xr_v G hret hlk dX7_need_28 ⟨(Fr.tr Fr.rf F_29 (by decide)), hI_30, htk_39, (by omega), (by omega), (by omega), (by omega), (by omega), (by omega), (by omega)⟩

set_option maxHeartbeats 4000000 in
set_option maxRecDepth 100000 in
theorem c_X7_needOpen (ω : Om) (l : Launch) (μ : M3) (x1 : Int) (hx1 : ir x1) (hI : IC μ) (hTK : TK μ) (hk : x1 ≠ 0 ∧ x1 ≠ 3) (hdp : -100 ≤ μ.1 23 9 ∧ μ.1 23 9 ≤ 100) : CtV ω l yX7_needOpen cX7_needOpen 2 2 41 [.ref (oP ω 23), .int (iv x1)] μ (fun (μ' : M3) => (Fr [26, 23] μ μ') ∧ (IC μ') ∧ (TK μ') ∧ (μ'.1 26 10 = μ.1 26 10 + 1 - μ'.1 26 11) ∧ (μ.1 26 11 ≤ μ'.1 26 11) ∧ (μ.1 23 9 < 8 ∨ μ'.1 26 11 = 1) ∧ (μ'.1 23 9 = μ.1 23 9 + 1) ∧ (μ'.1 26 6 = μ.1 26 6) ∧ (μ'.1 26 7 = μ.1 26 7) ∧ (μ'.1 26 8 = μ.1 26 8) ∧ (μ'.1 26 9 = μ.1 26 9) ∧ (μ'.1 23 2 = μ.1 23 2) ∧ (μ'.1 23 5 = μ.1 23 5) ∧ (μ'.1 23 6 = μ.1 23 6) ∧ (μ'.1 23 7 = μ.1 23 7) ∧ (μ'.1 23 8 = μ.1 23 8) ∧ (μ'.1 23 10 = μ.1 23 10)) := by
  refine CtV.go (by decide) (Nat.le_of_ble_eq_true rfl) (fun ρ p e s m below meth c R ls G hR hret hlk hl => ?_)
  have hx := G.1.1
  have hb := G.1.2.1
  have hl : lv_has ls 2 [(0, .ref (oP ω 23)), (1, .int (iv x1))] := hl
  generalize s.drawn = d0 at G ⊢
  have hr_x1 : -2147483648 ≤ x1 ∧ x1 ≤ 2147483647 := hx1
  have hTKb := hTK.b
  refine lv_aload_n hx hb dX7_needOpen_0 rfl (lv_at hl 0 rfl) ?_
  refine xa_geti G fd_X7 (a := 23) (x := μ.1 23 9) 9 rfl (by decide) rfl (wm 2 26 rfl rfl) ⟨rfl, rfl, rfl⟩ dX7_needOpen_1 rfl rfl ?_
  have hr_1 : -2147483648 ≤ μ.1 23 9 ∧ μ.1 23 9 ≤ 2147483647 := by have h9 := G.hr (a := 23) (k := 9) rfl; exact h9
  refine lv_bipush (v := iv 8) hx hb dX7_needOpen_4 rfl ?_
  refine xb_icmp_lt (tgt := 16) hx hb (by unfold ir; omega) (by unfold ir; omega) dX7_needOpen_6 (by decide) (fun c_6 => ?_) (fun c_6 => ?_)
  · refine lv_aload_n hx hb dX7_needOpen_16 rfl (lv_at hl 0 rfl) ?_
    refine lv_iload_n hx hb dX7_needOpen_17 rfl (lv_at hl 1 rfl) ?_
    have hn_2 : -1 ≤ μ.1 26 10 ∧ μ.1 26 10 ≤ 3000 := hI.nm.2.2.2.2.2.2.2.2.2.2.2.2
    have hn_3 : 0 ≤ μ.1 26 6 ∧ μ.1 26 6 ≤ 3001 := hI.nm.2.2.2.2.2.2.2.2.2.1
    have hn_4 : 0 ≤ μ.1 26 7 ∧ μ.1 26 7 ≤ 3000 := hI.nm.2.2.2.2.2.2.2.2.2.2.1
    have hn_5 : 0 ≤ μ.1 26 9 ∧ μ.1 26 9 ≤ 3000 := hI.nm.2.2.2.2.2.2.2.2.2.2.2.1
    refine xc_vV G (b := 23) (rest := []) (As := [.int (iv x1)]) (c_X7_need ω l μ x1 (by unfold ir; omega) hI hTK (by omega)) (wm 3 169 rfl rfl) (wm 3 171 rfl rfl) (wm 0 11 rfl rfl) rfl rfl (by decide) rfl (wm 1 12 rfl rfl) (wm 3 172 rfl rfl) (by decide) hR (by decide) (n := 1) rfl rfl (Nat.le_of_ble_eq_true rfl) hl.1 dX7_needOpen_18 (fun μ6 ρ d0 H locs hp G => ?_)
    obtain ⟨F_7, hI_8, hp_9, hp_10, hp_11, hp_12, hs_13, hs_14, hs_15, hs_16⟩ := hp
    have hn_17 : -1 ≤ μ6.1 26 10 ∧ μ6.1 26 10 ≤ 3000 := hI_8.nm.2.2.2.2.2.2.2.2.2.2.2.2
    have htb_18 := hp_9.b
    refine lv_aload_n hx hb dX7_needOpen_21 rfl (lv_at hl 0 rfl) ?_
    refine lv_dup hx hb dX7_needOpen_22 rfl ?_
    refine xa_geti G fd_X7 (a := 23) (x := μ.1 23 9) 9 rfl (by decide) rfl (wm 2 26 rfl rfl) ⟨rfl, rfl, rfl⟩ dX7_needOpen_23 rfl (F_7.1 23 (by decide) 9) ?_
    refine lv_iconst (v := iv 1) hx hb dX7_needOpen_26 rfl ?_
    refine xb_iadd hx hb dX7_needOpen_27 ?_
    refine xa_puti G fd_X7 (a := 23) (x := (μ.1 23 9) + 1) 9 (kz := 9) rfl rfl (by decide) rfl (by unfold ir; omega) (wm 2 26 rfl rfl) ⟨rfl, rfl, rfl, rfl⟩ rfl dX7_needOpen_28 rfl (fun H locs G => ?_)
    have htk_19 : TK (sv μ6 23 9 ((μ.1 23 9) + 1)) := hp_9.fr (K := [23]) (Fr.put Fr.rf (by decide)) (by decide) (by decide) (by decide)
    have hI_20 : IC (sv μ6 23 9 ((μ.1 23 9) + 1)) := (IC.put hI_8 (by decide +kernel))
    have e_21 : (sv μ6 23 9 ((μ.1 23 9) + 1)).1 26 10 = μ6.1 26 10 := (sv_n _ (fun h9 => absurd h9.1 (by decide)))
    have e_22 : (sv μ6 23 9 ((μ.1 23 9) + 1)).1 26 11 = μ6.1 26 11 := (sv_n _ (fun h9 => absurd h9.1 (by decide)))
    have e_23 : (sv μ6 23 9 ((μ.1 23 9) + 1)).1 26 11 = μ6.1 26 11 := (sv_n _ (fun h9 => absurd h9.1 (by decide)))
    have e_24 : (sv μ6 23 9 ((μ.1 23 9) + 1)).1 26 11 = μ6.1 26 11 := (sv_n _ (fun h9 => absurd h9.1 (by decide)))
    have e_25 : (sv μ6 23 9 ((μ.1 23 9) + 1)).1 23 9 = (μ.1 23 9) + 1 := (sv_s _ _ _ _)
    have e_26 : (sv μ6 23 9 ((μ.1 23 9) + 1)).1 26 6 = μ.1 26 6 := ((sv_n _ (fun h9 => absurd h9.1 (by decide))).trans hs_13)
    have e_27 : (sv μ6 23 9 ((μ.1 23 9) + 1)).1 26 7 = μ.1 26 7 := ((sv_n _ (fun h9 => absurd h9.1 (by decide))).trans hs_14)
    have e_28 : (sv μ6 23 9 ((μ.1 23 9) + 1)).1 26 8 = μ.1 26 8 := ((sv_n _ (fun h9 => absurd h9.1 (by decide))).trans hs_15)
    have e_29 : (sv μ6 23 9 ((μ.1 23 9) + 1)).1 26 9 = μ.1 26 9 := ((sv_n _ (fun h9 => absurd h9.1 (by decide))).trans hs_16)
    have e_30 : (sv μ6 23 9 ((μ.1 23 9) + 1)).1 23 2 = μ.1 23 2 := ((sv_n _ (by decide)).trans (F_7.1 23 (by decide) 2))
    have e_31 : (sv μ6 23 9 ((μ.1 23 9) + 1)).1 23 5 = μ.1 23 5 := ((sv_n _ (by decide)).trans (F_7.1 23 (by decide) 5))
    have e_32 : (sv μ6 23 9 ((μ.1 23 9) + 1)).1 23 6 = μ.1 23 6 := ((sv_n _ (by decide)).trans (F_7.1 23 (by decide) 6))
    have e_33 : (sv μ6 23 9 ((μ.1 23 9) + 1)).1 23 7 = μ.1 23 7 := ((sv_n _ (by decide)).trans (F_7.1 23 (by decide) 7))
    have e_34 : (sv μ6 23 9 ((μ.1 23 9) + 1)).1 23 8 = μ.1 23 8 := ((sv_n _ (by decide)).trans (F_7.1 23 (by decide) 8))
    have e_35 : (sv μ6 23 9 ((μ.1 23 9) + 1)).1 23 10 = μ.1 23 10 := ((sv_n _ (by decide)).trans (F_7.1 23 (by decide) 10))
    exact xr_v G hret hlk dX7_needOpen_31 ⟨(Fr.put (Fr.tr Fr.rf F_7 (by decide)) (by decide)), hI_20, htk_19, (by omega), (by omega), (by omega), (by omega), (by omega), (by omega), (by omega), (by omega), (by omega), (by omega), (by omega), (by omega), (by omega), (by omega)⟩
  · refine lv_aload_n hx hb dX7_needOpen_9 rfl (lv_at hl 0 rfl) ?_
    refine xa_getr G fd_X7 (a := 23) (x := 26) 0 rfl (by decide) rfl (wm 2 17 rfl rfl) ⟨rfl, rfl, rfl⟩ dX7_needOpen_10 rfl (G.sk 23 rfl) (by decide) rfl ?_
    have hn_36 : 0 ≤ μ.1 26 6 ∧ μ.1 26 6 ≤ 3001 := hI.nm.2.2.2.2.2.2.2.2.2.1
    have hn_37 : 0 ≤ μ.1 26 7 ∧ μ.1 26 7 ≤ 3000 := hI.nm.2.2.2.2.2.2.2.2.2.2.1
    have hn_38 : 0 ≤ μ.1 26 9 ∧ μ.1 26 9 ≤ 3000 := hI.nm.2.2.2.2.2.2.2.2.2.2.2.1
    have hn_39 : -1 ≤ μ.1 26 10 ∧ μ.1 26 10 ≤ 3000 := hI.nm.2.2.2.2.2.2.2.2.2.2.2.2
    refine xc_vV G (b := 26) (rest := []) (As := []) (c_X10_stop ω l μ  hI) (wm 3 173 rfl rfl) (wm 3 174 rfl rfl) (wm 3 175 rfl rfl) rfl rfl (by decide) rfl (wm 1 13 rfl rfl) (wm 3 176 rfl rfl) (by decide) hR (by decide) (n := 0) rfl rfl (Nat.le_of_ble_eq_true rfl) hl.1 dX7_needOpen_13 (fun μ40 ρ d0 H locs hp G => ?_)
    obtain ⟨F_41, hI_42, hp_43, hp_44, hs_45, hs_46, hs_47, hs_48, hs_49, hs_50, hs_51⟩ := hp
    have htk_52 : TK μ40 := TK.st hTK F_41 hp_43 hp_44 hs_45 hs_49 hs_50
    refine lv_aload_n hx hb dX7_needOpen_16 rfl (lv_at hl 0 rfl) ?_
    refine lv_iload_n hx hb dX7_needOpen_17 rfl (lv_at hl 1 rfl) ?_
    have e_53 : μ40.1 26 10 = μ.1 26 10 := hs_49
    have e_54 : μ40.1 26 6 = μ.1 26 6 := hs_45
    have e_55 : μ40.1 26 7 = μ.1 26 7 := hs_46
    have e_56 : μ40.1 26 8 = μ.1 26 8 := hs_47
    have e_57 : μ40.1 26 9 = μ.1 26 9 := hs_48
    refine xc_vV G (b := 23) (rest := []) (As := [.int (iv x1)]) (c_X7_need ω l μ40 x1 (by unfold ir; omega) hI_42 htk_52 (by omega)) (wm 3 169 rfl rfl) (wm 3 171 rfl rfl) (wm 0 11 rfl rfl) rfl rfl (by decide) rfl (wm 1 12 rfl rfl) (wm 3 172 rfl rfl) (by decide) hR (by decide) (n := 1) rfl rfl (Nat.le_of_ble_eq_true rfl) hl.1 dX7_needOpen_18 (fun μ58 ρ d0 H locs hp G => ?_)
    obtain ⟨F_59, hI_60, hp_61, hp_62, hp_63, hp_64, hs_65, hs_66, hs_67, hs_68⟩ := hp
    have hn_69 : -1 ≤ μ58.1 26 10 ∧ μ58.1 26 10 ≤ 3000 := hI_60.nm.2.2.2.2.2.2.2.2.2.2.2.2
    have htb_70 := hp_61.b
    refine lv_aload_n hx hb dX7_needOpen_21 rfl (lv_at hl 0 rfl) ?_
    refine lv_dup hx hb dX7_needOpen_22 rfl ?_
    refine xa_geti G fd_X7 (a := 23) (x := μ.1 23 9) 9 rfl (by decide) rfl (wm 2 26 rfl rfl) ⟨rfl, rfl, rfl⟩ dX7_needOpen_23 rfl ((F_59.1 23 (by decide) 9).trans (F_41.1 23 (by decide) 9)) ?_
    refine lv_iconst (v := iv 1) hx hb dX7_needOpen_26 rfl ?_
    refine xb_iadd hx hb dX7_needOpen_27 ?_
    refine xa_puti G fd_X7 (a := 23) (x := (μ.1 23 9) + 1) 9 (kz := 9) rfl rfl (by decide) rfl (by unfold ir; omega) (wm 2 26 rfl rfl) ⟨rfl, rfl, rfl, rfl⟩ rfl dX7_needOpen_28 rfl (fun H locs G => ?_)
    have htk_71 : TK (sv μ58 23 9 ((μ.1 23 9) + 1)) := hp_61.fr (K := [23]) (Fr.put Fr.rf (by decide)) (by decide) (by decide) (by decide)
    have hI_72 : IC (sv μ58 23 9 ((μ.1 23 9) + 1)) := (IC.put hI_60 (by decide +kernel))
    have e_73 : (sv μ58 23 9 ((μ.1 23 9) + 1)).1 26 10 = μ58.1 26 10 := (sv_n _ (fun h9 => absurd h9.1 (by decide)))
    have e_74 : (sv μ58 23 9 ((μ.1 23 9) + 1)).1 26 11 = μ58.1 26 11 := (sv_n _ (fun h9 => absurd h9.1 (by decide)))
    have e_75 : (sv μ58 23 9 ((μ.1 23 9) + 1)).1 26 11 = μ58.1 26 11 := (sv_n _ (fun h9 => absurd h9.1 (by decide)))
    have e_76 : (sv μ58 23 9 ((μ.1 23 9) + 1)).1 26 11 = μ58.1 26 11 := (sv_n _ (fun h9 => absurd h9.1 (by decide)))
    have e_77 : (sv μ58 23 9 ((μ.1 23 9) + 1)).1 23 9 = (μ.1 23 9) + 1 := (sv_s _ _ _ _)
    have e_78 : (sv μ58 23 9 ((μ.1 23 9) + 1)).1 26 6 = μ.1 26 6 := ((sv_n _ (fun h9 => absurd h9.1 (by decide))).trans (hs_65.trans hs_45))
    have e_79 : (sv μ58 23 9 ((μ.1 23 9) + 1)).1 26 7 = μ.1 26 7 := ((sv_n _ (fun h9 => absurd h9.1 (by decide))).trans (hs_66.trans hs_46))
    have e_80 : (sv μ58 23 9 ((μ.1 23 9) + 1)).1 26 8 = μ.1 26 8 := ((sv_n _ (fun h9 => absurd h9.1 (by decide))).trans (hs_67.trans hs_47))
    have e_81 : (sv μ58 23 9 ((μ.1 23 9) + 1)).1 26 9 = μ.1 26 9 := ((sv_n _ (fun h9 => absurd h9.1 (by decide))).trans (hs_68.trans hs_48))
    have e_82 : (sv μ58 23 9 ((μ.1 23 9) + 1)).1 23 2 = μ.1 23 2 := ((sv_n _ (by decide)).trans ((F_59.1 23 (by decide) 2).trans (F_41.1 23 (by decide) 2)))
    have e_83 : (sv μ58 23 9 ((μ.1 23 9) + 1)).1 23 5 = μ.1 23 5 := ((sv_n _ (by decide)).trans ((F_59.1 23 (by decide) 5).trans (F_41.1 23 (by decide) 5)))
    have e_84 : (sv μ58 23 9 ((μ.1 23 9) + 1)).1 23 6 = μ.1 23 6 := ((sv_n _ (by decide)).trans ((F_59.1 23 (by decide) 6).trans (F_41.1 23 (by decide) 6)))
    have e_85 : (sv μ58 23 9 ((μ.1 23 9) + 1)).1 23 7 = μ.1 23 7 := ((sv_n _ (by decide)).trans ((F_59.1 23 (by decide) 7).trans (F_41.1 23 (by decide) 7)))
    have e_86 : (sv μ58 23 9 ((μ.1 23 9) + 1)).1 23 8 = μ.1 23 8 := ((sv_n _ (by decide)).trans ((F_59.1 23 (by decide) 8).trans (F_41.1 23 (by decide) 8)))
    have e_87 : (sv μ58 23 9 ((μ.1 23 9) + 1)).1 23 10 = μ.1 23 10 := ((sv_n _ (by decide)).trans ((F_59.1 23 (by decide) 10).trans (F_41.1 23 (by decide) 10)))
    exact xr_v G hret hlk dX7_needOpen_31 ⟨(Fr.put (Fr.tr (Fr.tr Fr.rf F_41 (by decide)) F_59 (by decide)) (by decide)), hI_72, htk_71, (by omega), (by omega), (by omega), (by omega), (by omega), (by omega), (by omega), (by omega), (by omega), (by omega), (by omega), (by omega), (by omega), (by omega)⟩

set_option maxHeartbeats 4000000 in
set_option maxRecDepth 100000 in
theorem c_X7_needClosed (ω : Om) (l : Launch) (μ : M3) (x1 : Int) (hx1 : ir x1) (hI : IC μ) (hTK : TK μ) (hk : x1 ≠ 0 ∧ x1 ≠ 3) (hdp : -100 ≤ μ.1 23 9 ∧ μ.1 23 9 ≤ 100) : CtV ω l yX7_needClosed cX7_needClosed 2 2 41 [.ref (oP ω 23), .int (iv x1)] μ (fun (μ' : M3) => (Fr [26, 23] μ μ') ∧ (IC μ') ∧ (TK μ') ∧ (μ'.1 26 10 = μ.1 26 10 + 1 - μ'.1 26 11) ∧ (μ.1 26 11 ≤ μ'.1 26 11) ∧ (μ'.1 23 9 = μ.1 23 9 - 1) ∧ (μ'.1 26 6 = μ.1 26 6) ∧ (μ'.1 26 7 = μ.1 26 7) ∧ (μ'.1 26 8 = μ.1 26 8) ∧ (μ'.1 26 9 = μ.1 26 9) ∧ (μ'.1 23 2 = μ.1 23 2) ∧ (μ'.1 23 5 = μ.1 23 5) ∧ (μ'.1 23 6 = μ.1 23 6) ∧ (μ'.1 23 7 = μ.1 23 7) ∧ (μ'.1 23 8 = μ.1 23 8) ∧ (μ'.1 23 10 = μ.1 23 10)) := by
  refine CtV.go (by decide) (Nat.le_of_ble_eq_true rfl) (fun ρ p e s m below meth c R ls G hR hret hlk hl => ?_)
  have hx := G.1.1
  have hb := G.1.2.1
  have hl : lv_has ls 2 [(0, .ref (oP ω 23)), (1, .int (iv x1))] := hl
  generalize s.drawn = d0 at G ⊢
  have hr_x1 : -2147483648 ≤ x1 ∧ x1 ≤ 2147483647 := hx1
  have hTKb := hTK.b
  refine lv_aload_n hx hb dX7_needClosed_0 rfl (lv_at hl 0 rfl) ?_
  refine lv_iload_n hx hb dX7_needClosed_1 rfl (lv_at hl 1 rfl) ?_
  have hn_1 : -1 ≤ μ.1 26 10 ∧ μ.1 26 10 ≤ 3000 := hI.nm.2.2.2.2.2.2.2.2.2.2.2.2
  have hn_2 : 0 ≤ μ.1 26 6 ∧ μ.1 26 6 ≤ 3001 := hI.nm.2.2.2.2.2.2.2.2.2.1
  have hn_3 : 0 ≤ μ.1 26 7 ∧ μ.1 26 7 ≤ 3000 := hI.nm.2.2.2.2.2.2.2.2.2.2.1
  have hn_4 : 0 ≤ μ.1 26 9 ∧ μ.1 26 9 ≤ 3000 := hI.nm.2.2.2.2.2.2.2.2.2.2.2.1
  refine xc_vV G (b := 23) (rest := []) (As := [.int (iv x1)]) (c_X7_need ω l μ x1 (by unfold ir; omega) hI hTK (by omega)) (wm 3 169 rfl rfl) (wm 3 171 rfl rfl) (wm 0 11 rfl rfl) rfl rfl (by decide) rfl (wm 1 12 rfl rfl) (wm 3 172 rfl rfl) (by decide) hR (by decide) (n := 1) rfl rfl (Nat.le_of_ble_eq_true rfl) hl.1 dX7_needClosed_2 (fun μ5 ρ d0 H locs hp G => ?_)
  obtain ⟨F_6, hI_7, hp_8, hp_9, hp_10, hp_11, hs_12, hs_13, hs_14, hs_15⟩ := hp
  have hn_16 : -1 ≤ μ5.1 26 10 ∧ μ5.1 26 10 ≤ 3000 := hI_7.nm.2.2.2.2.2.2.2.2.2.2.2.2
  have htb_17 := hp_8.b
  refine lv_aload_n hx hb dX7_needClosed_5 rfl (lv_at hl 0 rfl) ?_
  refine lv_dup hx hb dX7_needClosed_6 rfl ?_
  refine xa_geti G fd_X7 (a := 23) (x := μ.1 23 9) 9 rfl (by decide) rfl (wm 2 26 rfl rfl) ⟨rfl, rfl, rfl⟩ dX7_needClosed_7 rfl (F_6.1 23 (by decide) 9) ?_
  have hr_18 : -2147483648 ≤ μ.1 23 9 ∧ μ.1 23 9 ≤ 2147483647 := by have h9 := G.hr (a := 23) (k := 9) rfl; rw [show μ5.1 23 9 = μ.1 23 9 from (F_6.1 23 (by decide) 9)] at h9; exact h9
  refine lv_iconst (v := iv 1) hx hb dX7_needClosed_10 rfl ?_
  refine xb_isub hx hb dX7_needClosed_11 ?_
  refine xa_puti G fd_X7 (a := 23) (x := (μ.1 23 9) - 1) 9 (kz := 9) rfl rfl (by decide) rfl (by unfold ir; omega) (wm 2 26 rfl rfl) ⟨rfl, rfl, rfl, rfl⟩ rfl dX7_needClosed_12 rfl (fun H locs G => ?_)
  have htk_19 : TK (sv μ5 23 9 ((μ.1 23 9) - 1)) := hp_8.fr (K := [23]) (Fr.put Fr.rf (by decide)) (by decide) (by decide) (by decide)
  have hI_20 : IC (sv μ5 23 9 ((μ.1 23 9) - 1)) := (IC.put hI_7 (by decide +kernel))
  have e_21 : (sv μ5 23 9 ((μ.1 23 9) - 1)).1 26 10 = μ5.1 26 10 := (sv_n _ (fun h9 => absurd h9.1 (by decide)))
  have e_22 : (sv μ5 23 9 ((μ.1 23 9) - 1)).1 26 11 = μ5.1 26 11 := (sv_n _ (fun h9 => absurd h9.1 (by decide)))
  have e_23 : (sv μ5 23 9 ((μ.1 23 9) - 1)).1 26 11 = μ5.1 26 11 := (sv_n _ (fun h9 => absurd h9.1 (by decide)))
  have e_24 : (sv μ5 23 9 ((μ.1 23 9) - 1)).1 23 9 = (μ.1 23 9) - 1 := (sv_s _ _ _ _)
  have e_25 : (sv μ5 23 9 ((μ.1 23 9) - 1)).1 26 6 = μ.1 26 6 := ((sv_n _ (fun h9 => absurd h9.1 (by decide))).trans hs_12)
  have e_26 : (sv μ5 23 9 ((μ.1 23 9) - 1)).1 26 7 = μ.1 26 7 := ((sv_n _ (fun h9 => absurd h9.1 (by decide))).trans hs_13)
  have e_27 : (sv μ5 23 9 ((μ.1 23 9) - 1)).1 26 8 = μ.1 26 8 := ((sv_n _ (fun h9 => absurd h9.1 (by decide))).trans hs_14)
  have e_28 : (sv μ5 23 9 ((μ.1 23 9) - 1)).1 26 9 = μ.1 26 9 := ((sv_n _ (fun h9 => absurd h9.1 (by decide))).trans hs_15)
  have e_29 : (sv μ5 23 9 ((μ.1 23 9) - 1)).1 23 2 = μ.1 23 2 := ((sv_n _ (by decide)).trans (F_6.1 23 (by decide) 2))
  have e_30 : (sv μ5 23 9 ((μ.1 23 9) - 1)).1 23 5 = μ.1 23 5 := ((sv_n _ (by decide)).trans (F_6.1 23 (by decide) 5))
  have e_31 : (sv μ5 23 9 ((μ.1 23 9) - 1)).1 23 6 = μ.1 23 6 := ((sv_n _ (by decide)).trans (F_6.1 23 (by decide) 6))
  have e_32 : (sv μ5 23 9 ((μ.1 23 9) - 1)).1 23 7 = μ.1 23 7 := ((sv_n _ (by decide)).trans (F_6.1 23 (by decide) 7))
  have e_33 : (sv μ5 23 9 ((μ.1 23 9) - 1)).1 23 8 = μ.1 23 8 := ((sv_n _ (by decide)).trans (F_6.1 23 (by decide) 8))
  have e_34 : (sv μ5 23 9 ((μ.1 23 9) - 1)).1 23 10 = μ.1 23 10 := ((sv_n _ (by decide)).trans (F_6.1 23 (by decide) 10))
  exact xr_v G hret hlk dX7_needClosed_15 ⟨(Fr.put (Fr.tr Fr.rf F_6 (by decide)) (by decide)), hI_20, htk_19, (by omega), (by omega), (by omega), (by omega), (by omega), (by omega), (by omega), (by omega), (by omega), (by omega), (by omega), (by omega), (by omega)⟩

set_option maxHeartbeats 4000000 in
set_option maxRecDepth 100000 in
theorem c_X7_took (ω : Om) (l : Launch) (μ : M3) (x1 : Int) (hx1 : ir x1) (hI : IC μ) (hTK : TK μ) (hk : x1 ≠ 0 ∧ x1 ≠ 3) : CtI ω l yX7_took cX7_took 2 .boolean 1 20 [.ref (oP ω 23), .int (iv x1)] μ (fun (r : Int) (μ' : M3) => (Fr [26] μ μ') ∧ (IC μ') ∧ (TK μ') ∧ ((r = 1 ∧ μ.1 26 12 = x1 ∧ μ'.1 26 10 = μ.1 26 10 + 1 ∧ μ.1 26 11 = 0) ∨ (r = 0 ∧ μ.1 26 12 ≠ x1 ∧ μ'.1 26 10 = μ.1 26 10 ∧ μ'.1 26 12 = μ.1 26 12)) ∧ (μ'.1 26 11 = μ.1 26 11) ∧ (μ'.1 26 6 = μ.1 26 6) ∧ (μ'.1 26 7 = μ.1 26 7) ∧ (μ'.1 26 8 = μ.1 26 8) ∧ (μ'.1 26 9 = μ.1 26 9)) := by
  refine CtI.go (by decide) (Nat.le_of_ble_eq_true rfl) (fun ρ p e s m below meth c R ls G hR hret hlk hl => ?_)
  have hx := G.1.1
  have hb := G.1.2.1
  have hl : lv_has ls 2 [(0, .ref (oP ω 23)), (1, .int (iv x1))] := hl
  generalize s.drawn = d0 at G ⊢
  have hr_x1 : -2147483648 ≤ x1 ∧ x1 ≤ 2147483647 := hx1
  have hTKb := hTK.b
  refine lv_aload_n hx hb dX7_took_0 rfl (lv_at hl 0 rfl) ?_
  refine xa_getr G fd_X7 (a := 23) (x := 26) 0 rfl (by decide) rfl (wm 2 17 rfl rfl) ⟨rfl, rfl, rfl⟩ dX7_took_1 rfl (G.sk 23 rfl) (by decide) rfl ?_
  refine xa_getN G fd_X10 (host := "FourTongues") (a := 26) 12 rfl (by decide) (by decide) ⟨rfl, rfl, rfl⟩ dX7_took_4 rfl (v := .int (iv (μ.1 26 12))) (by rw [show μ.1 26 12 = μ.1 26 12 from rfl]; rfl) ?_
  have hr_1 : -2147483648 ≤ μ.1 26 12 ∧ μ.1 26 12 ≤ 2147483647 := by have h9 := G.hr (a := 26) (k := 12) rfl; exact h9
  refine lv_iload_n hx hb dX7_took_7 rfl (lv_at hl 1 rfl) ?_
  refine xb_icmp_eq (tgt := 13) hx hb (by unfold ir; omega) (by unfold ir; omega) dX7_took_8 (by decide) (fun c_8 => ?_) (fun c_8 => ?_)
  · refine lv_aload_n hx hb dX7_took_13 rfl (lv_at hl 0 rfl) ?_
    refine xa_getr G fd_X7 (a := 23) (x := 26) 0 rfl (by decide) rfl (wm 2 17 rfl rfl) ⟨rfl, rfl, rfl⟩ dX7_took_14 rfl (G.sk 23 rfl) (by decide) rfl ?_
    have hn_2 : 0 ≤ μ.1 26 6 ∧ μ.1 26 6 ≤ 3001 := hI.nm.2.2.2.2.2.2.2.2.2.1
    have hn_3 : -1 ≤ μ.1 26 10 ∧ μ.1 26 10 ≤ 3000 := hI.nm.2.2.2.2.2.2.2.2.2.2.2.2
    have hn_4 : 0 ≤ μ.1 26 7 ∧ μ.1 26 7 ≤ 3000 := hI.nm.2.2.2.2.2.2.2.2.2.2.1
    have hn_5 : 0 ≤ μ.1 26 9 ∧ μ.1 26 9 ≤ 3000 := hI.nm.2.2.2.2.2.2.2.2.2.2.2.1
    refine xc_vV G (b := 26) (rest := []) (As := []) (c_X10_next ω l μ  hI (by omega) (by omega)) (wm 3 164 rfl rfl) (wm 3 157 rfl rfl) (wm 3 158 rfl rfl) rfl rfl (by decide) rfl (wm 1 13 rfl rfl) (wm 3 159 rfl rfl) (by decide) hR (by decide) (n := 0) rfl rfl (Nat.le_of_ble_eq_true rfl) hl.1 dX7_took_17 (fun μ6 ρ d0 H locs hp G => ?_)
    obtain ⟨F_7, hI_8, hp_9, hp_10, hs_11, hs_12, hs_13, hs_14, hs_15⟩ := hp
    have hn_16 : -1 ≤ μ6.1 26 10 ∧ μ6.1 26 10 ≤ 3000 := hI_8.nm.2.2.2.2.2.2.2.2.2.2.2.2
    obtain ⟨htk_17, htk_17_s, htk_17_n⟩ := TK.nx hTK F_7 hs_12 hs_11 (by have h9 : μ.1 26 12 = μ.1 26 12 := rfl; omega) hp_9 hp_10
    clear hp_9 hp_10
    have htb_18 := htk_17.b
    refine lv_iconst (v := iv 1) hx hb dX7_took_20 rfl ?_
    have e_19 : μ6.1 26 11 = μ.1 26 11 := hs_11
    have e_20 : μ6.1 26 6 = μ.1 26 6 := hs_12
    have e_21 : μ6.1 26 7 = μ.1 26 7 := hs_13
    have e_22 : μ6.1 26 8 = μ.1 26 8 := hs_14
    have e_23 : μ6.1 26 9 = μ.1 26 9 := hs_15
    exact xr_i G (x := 1) hret hlk (by unfold ir; omega) (zr (by omega)) dX7_took_21 ⟨(Fr.tr Fr.rf F_7 (by decide)), hI_8, htk_17, (by omega), (by omega), (by omega), (by omega), (by omega), (by omega)⟩
  · refine lv_iconst (v := iv 0) hx hb dX7_took_11 rfl ?_
    exact xr_i G (x := 0) hret hlk (by unfold ir; omega) (zr (by omega)) dX7_took_12 ⟨Fr.rf, hI, hTK, (by omega), (by omega), (by omega), (by omega), (by omega), (by omega)⟩

set_option maxHeartbeats 4000000 in
set_option maxRecDepth 100000 in
theorem c_X7_tellFault (ω : Om) (l : Launch) (μ : M3) (x1 : Int) (x2 : Int) (hx1 : ir x1) (hx2 : ir x2) (hI : IC μ) (h13 : 1 ≤ x1 ∧ x1 ≤ 3) : CtV ω l yX7_tellFault cX7_tellFault 3 0 0 [.ref (oP ω 23), .int (iv x1), .int (iv x2)] μ (fun (μ' : M3) => (Fr [24] μ μ') ∧ (IC μ')) := by
  refine CtV.go (by decide) (Nat.le_of_ble_eq_true rfl) (fun ρ p e s m below meth c R ls G hR hret hlk hl => ?_)
  have hx := G.1.1
  have hb := G.1.2.1
  have hl : lv_has ls 3 [(0, .ref (oP ω 23)), (1, .int (iv x1)), (2, .int (iv x2))] := hl
  generalize s.drawn = d0 at G ⊢
  have hr_x1 : -2147483648 ≤ x1 ∧ x1 ≤ 2147483647 := hx1
  have hr_x2 : -2147483648 ≤ x2 ∧ x2 ≤ 2147483647 := hx2
  refine lv_aload_n hx hb dX7_tellFault_0 rfl (lv_at hl 0 rfl) ?_
  refine xa_getr G fd_X7 (a := 23) (x := 24) 3 rfl (by decide) rfl (wm 2 20 rfl rfl) ⟨rfl, rfl, rfl⟩ dX7_tellFault_1 rfl (G.sk 25 rfl) (by decide) rfl ?_
  refine lv_iload_n hx hb dX7_tellFault_4 rfl (lv_at hl 1 rfl) ?_
  refine xa_iald G (a := 24) (i := x1) rfl (by have h9 := G.lc (a := 24) (n := 4) 14 rfl; omega) dX7_tellFault_5 rfl ?_
  have hr_1 : -2147483648 ≤ μ.1 24 x1 ∧ μ.1 24 x1 ≤ 2147483647 := by have h9 := G.hr (a := 24) (k := x1) rfl; exact h9
  refine xb_if_lt (tgt := 19) hx hb (by unfold ir; omega) dX7_tellFault_6 (by decide) (fun c_6 => ?_) (fun c_6 => ?_)
  · refine lv_aload_n hx hb dX7_tellFault_19 rfl (lv_at hl 0 rfl) ?_
    refine xa_getr G fd_X7 (a := 23) (x := 24) 3 rfl (by decide) rfl (wm 2 20 rfl rfl) ⟨rfl, rfl, rfl⟩ dX7_tellFault_20 rfl (G.sk 25 rfl) (by decide) rfl ?_
    refine lv_iload_n hx hb dX7_tellFault_23 rfl (lv_at hl 1 rfl) ?_
    refine lv_iload_n hx hb dX7_tellFault_24 rfl (lv_at hl 2 rfl) ?_
    refine xa_iast G (a := 24) (i := x1) (x := x2) rfl (by have h9 := G.lc (a := 24) (n := 4) 14 rfl; omega) (by unfold ir; omega) dX7_tellFault_25 rfl (fun H locs G => ?_)
    have hI_2 : IC (sv μ 24 x1 x2) := (IC.pua hI (by decide))
    exact xr_v G hret hlk dX7_tellFault_26 ⟨(Fr.put Fr.rf (by decide)), hI_2⟩
  · refine lv_iload_n hx hb dX7_tellFault_9 rfl (lv_at hl 2 rfl) ?_
    refine lv_aload_n hx hb dX7_tellFault_10 rfl (lv_at hl 0 rfl) ?_
    refine xa_getr G fd_X7 (a := 23) (x := 24) 3 rfl (by decide) rfl (wm 2 20 rfl rfl) ⟨rfl, rfl, rfl⟩ dX7_tellFault_11 rfl (G.sk 25 rfl) (by decide) rfl ?_
    refine lv_iload_n hx hb dX7_tellFault_14 rfl (lv_at hl 1 rfl) ?_
    refine xa_iald G (a := 24) (i := x1) rfl (by have h9 := G.lc (a := 24) (n := 4) 14 rfl; omega) dX7_tellFault_15 rfl ?_
    refine xb_icmp_ge (tgt := 26) hx hb (by unfold ir; omega) (by unfold ir; omega) dX7_tellFault_16 (by decide) (fun c_16 => ?_) (fun c_16 => ?_)
    · exact xr_v G hret hlk dX7_tellFault_26 ⟨Fr.rf, hI⟩
    · refine lv_aload_n hx hb dX7_tellFault_19 rfl (lv_at hl 0 rfl) ?_
      refine xa_getr G fd_X7 (a := 23) (x := 24) 3 rfl (by decide) rfl (wm 2 20 rfl rfl) ⟨rfl, rfl, rfl⟩ dX7_tellFault_20 rfl (G.sk 25 rfl) (by decide) rfl ?_
      refine lv_iload_n hx hb dX7_tellFault_23 rfl (lv_at hl 1 rfl) ?_
      refine lv_iload_n hx hb dX7_tellFault_24 rfl (lv_at hl 2 rfl) ?_
      refine xa_iast G (a := 24) (i := x1) (x := x2) rfl (by have h9 := G.lc (a := 24) (n := 4) 14 rfl; omega) (by unfold ir; omega) dX7_tellFault_25 rfl (fun H locs G => ?_)
      have hI_3 : IC (sv μ 24 x1 x2) := (IC.pua hI (by decide))
      exact xr_v G hret hlk dX7_tellFault_26 ⟨(Fr.put Fr.rf (by decide)), hI_3⟩

set_option maxHeartbeats 4000000 in
set_option maxRecDepth 100000 in
theorem c_X7_variable (ω : Om) (l : Launch) (μ : M3) (x1 : Int) (hx1 : jr x1) (hI : IC μ) : CtI ω l yX7_variable cX7_variable 4 .int 0 0 [.ref (oP ω 23), .long (jv x1)] μ (fun (r : Int) (μ' : M3) => (μ' = μ) ∧ (-1 ≤ r ∧ r < 1000)) := by
  refine CtI.go (by decide) (Nat.le_of_ble_eq_true rfl) (fun ρ p e s m below meth c R ls G hR hret hlk hl => ?_)
  have hx := G.1.1
  have hb := G.1.2.1
  have hl : lv_has ls 4 [(0, .ref (oP ω 23)), (1, .long (jv x1))] := hl
  generalize s.drawn = d0 at G ⊢
  have hn_1 : 0 ≤ μ.1 23 5 ∧ μ.1 23 5 ≤ 1000 := hI.nm.2.2.2.2.2.2.2.2.1
  refine lv_iconst (v := iv 0) hx hb dX7_variable_0 rfl ?_
  refine lv_istore_n (lv' := [(3, .int (iv 0)), (0, .ref (oP ω 23)), (1, .long (jv x1))]) hx hb dX7_variable_1 rfl hl (by decide) rfl (fun ls hl => ?_)
  refine xl (fun n_9 μ' ls => ∃ (i9 : Int), (μ' = μ) ∧ (-2147483648 ≤ i9 ∧ i9 ≤ 2147483647) ∧ (0 ≤ i9) ∧ n_9 = Int.toNat (1000 - i9) ∧ lv_has ls 4 [(3, .int (iv i9)), (0, .ref (oP ω 23)), (1, .long (jv x1))]) (fun n_9 ρ μL2 d0 H locs ls hI_l G ih => ?_) _ _ _ _ _ _ _ ⟨0, rfl, (by omega), (by omega), rfl, lv_sub hl [0, 1, 2] rfl⟩ G
  obtain ⟨i9, FL3, hi_5, hi_6, hn4, hl⟩ := hI_l
  have FL3 := Eq.symm FL3
  subst FL3
  refine lv_iload_n hx hb dX7_variable_2 rfl (lv_at hl 0 rfl) ?_
  refine lv_aload_n hx hb dX7_variable_3 rfl (lv_at hl 1 rfl) ?_
  refine xa_geti G fd_X7 (a := 23) (x := μ.1 23 5) 5 rfl (by decide) rfl (wm 2 22 rfl rfl) ⟨rfl, rfl, rfl⟩ dX7_variable_4 rfl rfl ?_
  have hr_7 : -2147483648 ≤ μ.1 23 5 ∧ μ.1 23 5 ≤ 2147483647 := by have h9 := G.hr (a := 23) (k := 5) rfl; exact h9
  refine xb_icmp_ge (tgt := 29) hx hb (by unfold ir; omega) (by unfold ir; omega) dX7_variable_7 (by decide) (fun c_7 => ?_) (fun c_7 => ?_)
  · refine lv_iconst (v := iv (-1)) hx hb dX7_variable_29 rfl ?_
    exact xr_i G (x := (-1)) hret hlk (by unfold ir; omega) rfl dX7_variable_30 ⟨rfl, (by omega)⟩
  · refine lv_aload_n hx hb dX7_variable_10 rfl (lv_at hl 1 rfl) ?_
    refine xa_getr G fd_X7 (a := 23) (x := 25) 4 rfl (by decide) rfl (wm 2 21 rfl rfl) ⟨rfl, rfl, rfl⟩ dX7_variable_11 rfl (G.sk 26 rfl) (by decide) rfl ?_
    refine lv_iload_n hx hb dX7_variable_14 rfl (lv_at hl 0 rfl) ?_
    refine xa_lald G (a := 25) (i := i9) rfl (by have h9 := G.lc (a := 25) (n := 1000) 15 rfl; omega) dX7_variable_15 rfl ?_
    have hj_8 : jr (μ.1 25 i9) := (by have h9 := G.hj (a := 25) (k := i9) rfl; exact h9)
    refine lv_lload_n hx hb dX7_variable_16 rfl (lv_at hl 2 rfl) ?_
    refine xb_lcmp hx hb hj_8 hx1 dX7_variable_17 ?_
    have hr_9 : -2147483648 ≤ lcm (μ.1 25 i9) x1 ∧ lcm (μ.1 25 i9) x1 ≤ 2147483647 := lcm_ir _ _
    refine xb_if_ne (tgt := 23) hx hb (by unfold ir; omega) dX7_variable_18 (by decide) (fun c_18 => ?_) (fun c_18 => ?_)
    · refine lv_iinc (v := iv (i9 + 1)) (lv' := [(3, .int (iv (i9 + 1))), (0, .ref (oP ω 23)), (1, .long (jv x1))]) hx hb dX7_variable_23 hl (k := 0) rfl (by rw [show Int32.ofInt 1 = iv 1 from rfl, iv_add]) (by decide) rfl (fun ls hl => ?_)
      refine lv_goto (tgt := 2) hx hb dX7_variable_26 (by decide) ?_
      exact ih _ _ _ _ _ _ _ (by omega) ⟨i9 + 1, rfl, (by omega), (by omega), rfl, lv_sub hl [0, 1, 2] rfl⟩ G
    · refine lv_iload_n hx hb dX7_variable_21 rfl (lv_at hl 0 rfl) ?_
      exact xr_i G (x := i9) hret hlk (by unfold ir; omega) rfl dX7_variable_22 ⟨rfl, (by omega)⟩

set_option maxHeartbeats 4000000 in
set_option maxRecDepth 100000 in
theorem c_X7_declare (ω : Om) (l : Launch) (μ : M3) (x1 : Int) (hx1 : jr x1) (hI : IC μ) : CtI ω l yX7_declare cX7_declare 4 .int 1 24 [.ref (oP ω 23), .long (jv x1)] μ (fun (r : Int) (μ' : M3) => (Fr [25, 23] μ μ') ∧ (IC μ') ∧ (0 ≤ r ∧ r < 1000) ∧ (μ'.1 23 2 = μ.1 23 2) ∧ (μ'.1 23 6 = μ.1 23 6) ∧ (μ'.1 23 7 = μ.1 23 7) ∧ (μ'.1 23 8 = μ.1 23 8) ∧ (μ'.1 23 9 = μ.1 23 9) ∧ (μ'.1 23 10 = μ.1 23 10)) := by
  refine CtI.go (by decide) (Nat.le_of_ble_eq_true rfl) (fun ρ p e s m below meth c R ls G hR hret hlk hl => ?_)
  have hx := G.1.1
  have hb := G.1.2.1
  have hl : lv_has ls 4 [(0, .ref (oP ω 23)), (1, .long (jv x1))] := hl
  generalize s.drawn = d0 at G ⊢
  have hn_1 : 0 ≤ μ.1 23 5 ∧ μ.1 23 5 ≤ 1000 := hI.nm.2.2.2.2.2.2.2.2.1
  refine lv_aload_n hx hb dX7_declare_0 rfl (lv_at hl 0 rfl) ?_
  refine lv_lload_n hx hb dX7_declare_1 rfl (lv_at hl 1 rfl) ?_
  refine xc_iV G (b := 23) (rest := []) (As := [.long (jv x1)]) (c_X7_variable ω l μ x1 hx1 hI) (wm 3 205 rfl rfl) (wm 3 207 rfl rfl) (wm 0 16 rfl rfl) rfl rfl (by decide) rfl (wm 1 12 rfl rfl) (wm 3 208 rfl rfl) (by decide) hR (by decide) (n := 1) rfl rfl (Nat.le_of_ble_eq_true rfl) hl.1 dX7_declare_2 (fun r_3 μ2 ρ d0 H locs hr_r_3 hp G => ?_)
  have hr_r_3 : -2147483648 ≤ r_3 ∧ r_3 ≤ 2147483647 := hr_r_3
  obtain ⟨hsm_4, hp_5⟩ := hp
  have hsm_4 := Eq.symm hsm_4
  subst hsm_4
  refine lv_istore_n (lv' := [(3, .int (iv r_3)), (0, .ref (oP ω 23)), (1, .long (jv x1))]) hx hb dX7_declare_5 rfl hl (by decide) rfl (fun ls hl => ?_)
  refine lv_iload_n hx hb dX7_declare_6 rfl (lv_at hl 0 rfl) ?_
  refine xb_if_ge (tgt := 20) hx hb (by unfold ir; omega) dX7_declare_7 (by decide) (fun c_7 => ?_) (fun c_7 => ?_)
  · refine lv_iload_n hx hb dX7_declare_20 rfl (lv_at hl 0 rfl) ?_
    refine lv_iconst (v := iv 0) hx hb dX7_declare_21 rfl ?_
    refine xm_max G (x := r_3) (y := 0) (wm 3 213 rfl rfl) (wm 1 148 rfl rfl) (wm 1 11 rfl rfl) (wm 1 149 rfl rfl) hR (by decide) (Nat.le_of_ble_eq_true rfl) hl.1 (by unfold ir; omega) (by unfold ir; omega) dX7_declare_22 ?_
    exact xr_i G (x := max r_3 0) hret hlk (by unfold ir; omega) rfl dX7_declare_25 ⟨Fr.rf, hI, (by omega), (by omega), (by omega), (by omega), (by omega), (by omega), (by omega)⟩
  · refine lv_aload_n hx hb dX7_declare_10 rfl (lv_at hl 1 rfl) ?_
    refine xa_geti G fd_X7 (a := 23) (x := μ.1 23 5) 5 rfl (by decide) rfl (wm 2 22 rfl rfl) ⟨rfl, rfl, rfl⟩ dX7_declare_11 rfl rfl ?_
    have hr_6 : -2147483648 ≤ μ.1 23 5 ∧ μ.1 23 5 ≤ 2147483647 := by have h9 := G.hr (a := 23) (k := 5) rfl; exact h9
    refine lv_sipush (v := iv 1000) hx hb dX7_declare_14 rfl ?_
    refine xb_icmp_lt (tgt := 26) hx hb (by unfold ir; omega) (by unfold ir; omega) dX7_declare_17 (by decide) (fun c_17 => ?_) (fun c_17 => ?_)
    · refine lv_aload_n hx hb dX7_declare_26 rfl (lv_at hl 1 rfl) ?_
      refine xa_getr G fd_X7 (a := 23) (x := 25) 4 rfl (by decide) rfl (wm 2 21 rfl rfl) ⟨rfl, rfl, rfl⟩ dX7_declare_27 rfl (G.sk 26 rfl) (by decide) rfl ?_
      refine lv_aload_n hx hb dX7_declare_30 rfl (lv_at hl 1 rfl) ?_
      refine xa_geti G fd_X7 (a := 23) (x := μ.1 23 5) 5 rfl (by decide) rfl (wm 2 22 rfl rfl) ⟨rfl, rfl, rfl⟩ dX7_declare_31 rfl rfl ?_
      refine lv_lload_n hx hb dX7_declare_34 rfl (lv_at hl 2 rfl) ?_
      refine xa_last G (a := 25) (i := μ.1 23 5) (x := x1) rfl (by have h9 := G.lc (a := 25) (n := 1000) 15 rfl; omega) hx1 dX7_declare_35 rfl (fun H locs G => ?_)
      refine lv_aload_n hx hb dX7_declare_36 rfl (lv_at hl 1 rfl) ?_
      refine lv_dup hx hb dX7_declare_37 rfl ?_
      refine xa_geti G fd_X7 (a := 23) (x := μ.1 23 5) 5 rfl (by decide) rfl (wm 2 22 rfl rfl) ⟨rfl, rfl, rfl⟩ dX7_declare_38 rfl (sv_n _ (fun h9 => absurd h9.1 (by decide))) ?_
      refine lv_iconst (v := iv 1) hx hb dX7_declare_41 rfl ?_
      refine xb_iadd hx hb dX7_declare_42 ?_
      refine xa_puti G fd_X7 (a := 23) (x := (μ.1 23 5) + 1) 5 (kz := 5) rfl rfl (by decide) rfl (by unfold ir; omega) (wm 2 22 rfl rfl) ⟨rfl, rfl, rfl, rfl⟩ rfl dX7_declare_43 rfl (fun H locs G => ?_)
      refine lv_aload_n hx hb dX7_declare_46 rfl (lv_at hl 1 rfl) ?_
      refine xa_geti G fd_X7 (a := 23) (x := (μ.1 23 5) + 1) 5 rfl (by decide) rfl (wm 2 22 rfl rfl) ⟨rfl, rfl, rfl⟩ dX7_declare_47 rfl (sv_s _ _ _ _) ?_
      have hr_7 : -2147483648 ≤ (μ.1 23 5) + 1 ∧ (μ.1 23 5) + 1 ≤ 2147483647 := by have h9 := G.hr (a := 23) (k := 5) rfl; rw [show (sv (sv μ 25 (μ.1 23 5) x1) 23 5 ((μ.1 23 5) + 1)).1 23 5 = (μ.1 23 5) + 1 from (sv_s _ _ _ _)] at h9; exact h9
      refine lv_iconst (v := iv 1) hx hb dX7_declare_50 rfl ?_
      refine xb_isub hx hb dX7_declare_51 ?_
      refine xb_ti (y := (μ.1 23 5)) (by omega) ?_
      have hI_8 : IC (sv (sv μ 25 (μ.1 23 5) x1) 23 5 ((μ.1 23 5) + 1)) := (IC.n_23_5 (IC.pua hI (by decide)) (by omega))
      have e_9 : (sv (sv μ 25 (μ.1 23 5) x1) 23 5 ((μ.1 23 5) + 1)).1 23 2 = μ.1 23 2 := ((sv_n _ (by decide)).trans (sv_n _ (fun h9 => absurd h9.1 (by decide))))
      have e_10 : (sv (sv μ 25 (μ.1 23 5) x1) 23 5 ((μ.1 23 5) + 1)).1 23 6 = μ.1 23 6 := ((sv_n _ (by decide)).trans (sv_n _ (fun h9 => absurd h9.1 (by decide))))
      have e_11 : (sv (sv μ 25 (μ.1 23 5) x1) 23 5 ((μ.1 23 5) + 1)).1 23 7 = μ.1 23 7 := ((sv_n _ (by decide)).trans (sv_n _ (fun h9 => absurd h9.1 (by decide))))
      have e_12 : (sv (sv μ 25 (μ.1 23 5) x1) 23 5 ((μ.1 23 5) + 1)).1 23 8 = μ.1 23 8 := ((sv_n _ (by decide)).trans (sv_n _ (fun h9 => absurd h9.1 (by decide))))
      have e_13 : (sv (sv μ 25 (μ.1 23 5) x1) 23 5 ((μ.1 23 5) + 1)).1 23 9 = μ.1 23 9 := ((sv_n _ (by decide)).trans (sv_n _ (fun h9 => absurd h9.1 (by decide))))
      have e_14 : (sv (sv μ 25 (μ.1 23 5) x1) 23 5 ((μ.1 23 5) + 1)).1 23 10 = μ.1 23 10 := ((sv_n _ (by decide)).trans (sv_n _ (fun h9 => absurd h9.1 (by decide))))
      exact xr_i G (x := (μ.1 23 5)) hret hlk (by unfold ir; omega) rfl dX7_declare_52 ⟨(Fr.put (Fr.put Fr.rf (by decide)) (by decide)), hI_8, (by omega), (by omega), (by omega), (by omega), (by omega), (by omega), (by omega)⟩
    · refine lv_iload_n hx hb dX7_declare_20 rfl (lv_at hl 0 rfl) ?_
      refine lv_iconst (v := iv 0) hx hb dX7_declare_21 rfl ?_
      refine xm_max G (x := r_3) (y := 0) (wm 3 213 rfl rfl) (wm 1 148 rfl rfl) (wm 1 11 rfl rfl) (wm 1 149 rfl rfl) hR (by decide) (Nat.le_of_ble_eq_true rfl) hl.1 (by unfold ir; omega) (by unfold ir; omega) dX7_declare_22 ?_
      exact xr_i G (x := max r_3 0) hret hlk (by unfold ir; omega) rfl dX7_declare_25 ⟨Fr.rf, hI, (by omega), (by omega), (by omega), (by omega), (by omega), (by omega), (by omega)⟩

set_option maxHeartbeats 4000000 in
set_option maxRecDepth 100000 in
theorem c_X7_variableAt (ω : Om) (l : Launch) (μ : M3) (x1 : Int) (x2 : Int) (hx1 : jr x1) (hx2 : ir x2) (hI : IC μ) : CtI ω l yX7_variableAt cX7_variableAt 5 .int 1 24 [.ref (oP ω 23), .long (jv x1), .int (iv x2)] μ (fun (r : Int) (μ' : M3) => (Fr [24] μ μ') ∧ (IC μ') ∧ (0 ≤ r ∧ r < 1000)) := by
  refine CtI.go (by decide) (Nat.le_of_ble_eq_true rfl) (fun ρ p e s m below meth c R ls G hR hret hlk hl => ?_)
  have hx := G.1.1
  have hb := G.1.2.1
  have hl : lv_has ls 5 [(0, .ref (oP ω 23)), (1, .long (jv x1)), (3, .int (iv x2))] := hl
  generalize s.drawn = d0 at G ⊢
  have hr_x2 : -2147483648 ≤ x2 ∧ x2 ≤ 2147483647 := hx2
  have hn_1 : 0 ≤ μ.1 23 5 ∧ μ.1 23 5 ≤ 1000 := hI.nm.2.2.2.2.2.2.2.2.1
  refine lv_aload_n hx hb dX7_variableAt_0 rfl (lv_at hl 0 rfl) ?_
  refine lv_lload_n hx hb dX7_variableAt_1 rfl (lv_at hl 1 rfl) ?_
  refine xc_iV G (b := 23) (rest := []) (As := [.long (jv x1)]) (c_X7_variable ω l μ x1 hx1 hI) (wm 3 205 rfl rfl) (wm 3 207 rfl rfl) (wm 0 16 rfl rfl) rfl rfl (by decide) rfl (wm 1 12 rfl rfl) (wm 3 208 rfl rfl) (by decide) hR (by decide) (n := 1) rfl rfl (Nat.le_of_ble_eq_true rfl) hl.1 dX7_variableAt_2 (fun r_3 μ2 ρ d0 H locs hr_r_3 hp G => ?_)
  have hr_r_3 : -2147483648 ≤ r_3 ∧ r_3 ≤ 2147483647 := hr_r_3
  obtain ⟨hsm_4, hp_5⟩ := hp
  have hsm_4 := Eq.symm hsm_4
  subst hsm_4
  refine lv_istore (lv' := [(4, .int (iv r_3)), (0, .ref (oP ω 23)), (1, .long (jv x1)), (3, .int (iv x2))]) hx hb dX7_variableAt_5 hl (by decide) rfl (fun ls hl => ?_)
  refine lv_iload hx hb dX7_variableAt_7 (lv_at hl 0 rfl) ?_
  refine xb_if_ge (tgt := 18) hx hb (by unfold ir; omega) dX7_variableAt_9 (by decide) (fun c_9 => ?_) (fun c_9 => ?_)
  · refine lv_iload hx hb dX7_variableAt_18 (lv_at hl 0 rfl) ?_
    refine lv_iconst (v := iv 0) hx hb dX7_variableAt_20 rfl ?_
    refine xm_max G (x := r_3) (y := 0) (wm 3 213 rfl rfl) (wm 1 148 rfl rfl) (wm 1 11 rfl rfl) (wm 1 149 rfl rfl) hR (by decide) (Nat.le_of_ble_eq_true rfl) hl.1 (by unfold ir; omega) (by unfold ir; omega) dX7_variableAt_21 ?_
    exact xr_i G (x := max r_3 0) hret hlk (by unfold ir; omega) rfl dX7_variableAt_24 ⟨Fr.rf, hI, (by omega)⟩
  · refine lv_aload_n hx hb dX7_variableAt_12 rfl (lv_at hl 1 rfl) ?_
    refine lv_iconst (v := iv 3) hx hb dX7_variableAt_13 rfl ?_
    refine lv_iload_n hx hb dX7_variableAt_14 rfl (lv_at hl 3 rfl) ?_
    refine xc_vV G (b := 23) (rest := []) (As := [.int (iv 3), .int (iv x2)]) (c_X7_tellFault ω l μ 3 x2 (by unfold ir; omega) (by unfold ir; omega) hI (by omega)) (wm 3 177 rfl rfl) (wm 3 179 rfl rfl) (wm 0 12 rfl rfl) rfl rfl (by decide) rfl (wm 1 12 rfl rfl) (wm 3 180 rfl rfl) (by decide) hR (by decide) (n := 2) rfl rfl (Nat.le_of_ble_eq_true rfl) hl.1 dX7_variableAt_15 (fun μ6 ρ d0 H locs hp G => ?_)
    obtain ⟨F_7, hI_8⟩ := hp
    refine lv_iload hx hb dX7_variableAt_18 (lv_at hl 0 rfl) ?_
    refine lv_iconst (v := iv 0) hx hb dX7_variableAt_20 rfl ?_
    refine xm_max G (x := r_3) (y := 0) (wm 3 213 rfl rfl) (wm 1 148 rfl rfl) (wm 1 11 rfl rfl) (wm 1 149 rfl rfl) hR (by decide) (Nat.le_of_ble_eq_true rfl) hl.1 (by unfold ir; omega) (by unfold ir; omega) dX7_variableAt_21 ?_
    exact xr_i G (x := max r_3 0) hret hlk (by unfold ir; omega) rfl dX7_variableAt_24 ⟨(Fr.tr Fr.rf F_7 (by decide)), hI_8, (by omega)⟩

set_option maxHeartbeats 4000000 in
set_option maxRecDepth 100000 in
theorem c_X7_nameOfFailing (ω : Om) (l : Launch) (μ : M3) (hI : IC μ) (hTK : TK μ) : CtI ω l yX7_nameOfFailing cX7_nameOfFailing 5 .int 2 41 [.ref (oP ω 23)] μ (fun (r : Int) (μ' : M3) => (Fr [26, 2, 3, 4, 24] μ μ') ∧ (IC μ') ∧ (TK μ') ∧ (μ'.1 26 10 = μ.1 26 10 + 1 - μ'.1 26 11) ∧ (μ.1 26 11 ≤ μ'.1 26 11) ∧ (μ'.1 26 6 = μ.1 26 6) ∧ (μ'.1 26 7 = μ.1 26 7) ∧ (μ'.1 26 8 = μ.1 26 8) ∧ (μ'.1 26 9 = μ.1 26 9) ∧ (μ'.1 2 4 = μ.1 2 4)) := by
  refine CtI.go (by decide) (Nat.le_of_ble_eq_true rfl) (fun ρ p e s m below meth c R ls G hR hret hlk hl => ?_)
  have hx := G.1.1
  have hb := G.1.2.1
  have hl : lv_has ls 5 [(0, .ref (oP ω 23))] := hl
  generalize s.drawn = d0 at G ⊢
  have hTKb := hTK.b
  refine lv_aload_n hx hb dX7_nameOfFailing_0 rfl (lv_at hl 0 rfl) ?_
  refine xa_getr G fd_X7 (a := 23) (x := 26) 0 rfl (by decide) rfl (wm 2 17 rfl rfl) ⟨rfl, rfl, rfl⟩ dX7_nameOfFailing_1 rfl (G.sk 23 rfl) (by decide) rfl ?_
  refine xa_getN G fd_X10 (host := "FourTongues") (a := 26) 14 rfl (by decide) (by decide) ⟨rfl, rfl, rfl⟩ dX7_nameOfFailing_4 rfl (v := .long (jv (μ.1 26 14))) (by rw [show μ.1 26 14 = μ.1 26 14 from rfl]; rfl) ?_
  have hj_1 : jr (μ.1 26 14) := by have h9 := G.hj (a := 26) (k := 14) rfl; exact h9
  refine lv_lstore_n (lv' := [(1, .long (jv (μ.1 26 14))), (0, .ref (oP ω 23))]) hx hb dX7_nameOfFailing_7 rfl hl (by decide) rfl (fun ls hl => ?_)
  refine lv_aload_n hx hb dX7_nameOfFailing_8 rfl (lv_at hl 1 rfl) ?_
  refine xa_getr G fd_X7 (a := 23) (x := 26) 0 rfl (by decide) rfl (wm 2 17 rfl rfl) ⟨rfl, rfl, rfl⟩ dX7_nameOfFailing_9 rfl (G.sk 23 rfl) (by decide) rfl ?_
  refine xa_getN G fd_X10 (host := "FourTongues") (a := 26) 13 rfl (by decide) (by decide) ⟨rfl, rfl, rfl⟩ dX7_nameOfFailing_12 rfl (v := .int (iv (μ.1 26 13))) (by rw [show μ.1 26 13 = μ.1 26 13 from rfl]; rfl) ?_
  have hr_2 : -2147483648 ≤ μ.1 26 13 ∧ μ.1 26 13 ≤ 2147483647 := by have h9 := G.hr (a := 26) (k := 13) rfl; exact h9
  refine lv_istore_n (lv' := [(3, .int (iv (μ.1 26 13))), (1, .long (jv (μ.1 26 14))), (0, .ref (oP ω 23))]) hx hb dX7_nameOfFailing_15 rfl hl (by decide) rfl (fun ls hl => ?_)
  refine lv_aload_n hx hb dX7_nameOfFailing_16 rfl (lv_at hl 2 rfl) ?_
  refine lv_iconst (v := iv 1) hx hb dX7_nameOfFailing_17 rfl ?_
  have hn_3 : -1 ≤ μ.1 26 10 ∧ μ.1 26 10 ≤ 3000 := hI.nm.2.2.2.2.2.2.2.2.2.2.2.2
  have hn_4 : 0 ≤ μ.1 26 6 ∧ μ.1 26 6 ≤ 3001 := hI.nm.2.2.2.2.2.2.2.2.2.1
  have hn_5 : 0 ≤ μ.1 26 7 ∧ μ.1 26 7 ≤ 3000 := hI.nm.2.2.2.2.2.2.2.2.2.2.1
  have hn_6 : 0 ≤ μ.1 26 9 ∧ μ.1 26 9 ≤ 3000 := hI.nm.2.2.2.2.2.2.2.2.2.2.2.1
  refine xc_vV G (b := 23) (rest := []) (As := [.int (iv 1)]) (c_X7_need ω l μ 1 (by unfold ir; omega) hI hTK (by omega)) (wm 3 169 rfl rfl) (wm 3 171 rfl rfl) (wm 0 11 rfl rfl) rfl rfl (by decide) rfl (wm 1 12 rfl rfl) (wm 3 172 rfl rfl) (by decide) hR (by decide) (n := 1) rfl rfl (Nat.le_of_ble_eq_true rfl) hl.1 dX7_nameOfFailing_18 (fun μ7 ρ d0 H locs hp G => ?_)
  obtain ⟨F_8, hI_9, hp_10, hp_11, hp_12, hp_13, hs_14, hs_15, hs_16, hs_17⟩ := hp
  have hn_18 : -1 ≤ μ7.1 26 10 ∧ μ7.1 26 10 ≤ 3000 := hI_9.nm.2.2.2.2.2.2.2.2.2.2.2.2
  have htb_19 := hp_10.b
  refine lv_aload_n hx hb dX7_nameOfFailing_21 rfl (lv_at hl 2 rfl) ?_
  refine xa_getr G fd_X7 (a := 23) (x := 2) 1 rfl (by decide) rfl (wm 2 18 rfl rfl) ⟨rfl, rfl, rfl⟩ dX7_nameOfFailing_22 rfl (G.sk 24 rfl) (by decide) rfl ?_
  refine lv_lload_n hx hb dX7_nameOfFailing_25 rfl (lv_at hl 1 rfl) ?_
  have hn_20 : 0 ≤ μ.1 2 3 ∧ μ.1 2 3 ≤ 51 := hI.nm.2.1
  have e_21 : μ7.1 2 3 = μ.1 2 3 := (F_8.1 2 (by decide) 3)
  have e_22 : μ7.1 2 3 = μ.1 2 3 := (F_8.1 2 (by decide) 3)
  have hn_23 : 0 ≤ μ.1 2 4 ∧ μ.1 2 4 ≤ 51 := hI.nm.2.2.1
  have e_24 : μ7.1 2 4 = μ.1 2 4 := (F_8.1 2 (by decide) 4)
  refine xc_iV G (b := 2) (rest := []) (As := [.long (jv (μ.1 26 14))]) (c_X5_numberOf ω l μ7 (μ.1 26 14) hj_1 hI_9) (wm 4 116 rfl rfl) (wm 4 117 rfl rfl) (wm 4 118 rfl rfl) rfl rfl (by decide) rfl (wm 1 2 rfl rfl) (wm 4 119 rfl rfl) (by decide) hR (by decide) (n := 1) rfl rfl (Nat.le_of_ble_eq_true rfl) hl.1 dX7_nameOfFailing_26 (fun r_26 μ25 ρ d0 H locs hr_r_26 hp G => ?_)
  have hr_r_26 : -2147483648 ≤ r_26 ∧ r_26 ≤ 2147483647 := hr_r_26
  obtain ⟨F_27, hI_28, hp_29, hp_30, hp_31, hp_32, hs_33⟩ := hp
  have hn_34 : 0 ≤ μ25.1 2 3 ∧ μ25.1 2 3 ≤ 51 := hI_28.nm.2.1
  refine lv_istore (lv' := [(4, .int (iv r_26)), (3, .int (iv (μ.1 26 13))), (1, .long (jv (μ.1 26 14))), (0, .ref (oP ω 23))]) hx hb dX7_nameOfFailing_29 hl (by decide) rfl (fun ls hl => ?_)
  refine lv_iload hx hb dX7_nameOfFailing_31 (lv_at hl 0 rfl) ?_
  refine xb_if_ne (tgt := 42) hx hb (by unfold ir; omega) dX7_nameOfFailing_33 (by decide) (fun c_33 => ?_) (fun c_33 => ?_)
  · refine lv_iload hx hb dX7_nameOfFailing_42 (lv_at hl 0 rfl) ?_
    have htk_35 : TK μ25 := hp_10.fr (K := [2, 3, 4]) (Fr.tr Fr.rf F_27 (by decide)) (by decide) (by decide) (by decide)
    have e_36 : μ25.1 26 10 = μ7.1 26 10 := (F_27.1 26 (by decide) 10)
    have e_37 : μ25.1 26 11 = μ7.1 26 11 := (F_27.1 26 (by decide) 11)
    have e_38 : μ25.1 26 11 = μ7.1 26 11 := (F_27.1 26 (by decide) 11)
    have e_39 : μ25.1 26 6 = μ.1 26 6 := ((F_27.1 26 (by decide) 6).trans hs_14)
    have e_40 : μ25.1 26 7 = μ.1 26 7 := ((F_27.1 26 (by decide) 7).trans hs_15)
    have e_41 : μ25.1 26 8 = μ.1 26 8 := ((F_27.1 26 (by decide) 8).trans hs_16)
    have e_42 : μ25.1 26 9 = μ.1 26 9 := ((F_27.1 26 (by decide) 9).trans hs_17)
    have e_43 : μ25.1 2 4 = μ.1 2 4 := (hs_33.trans (F_8.1 2 (by decide) 4))
    exact xr_i G (x := r_26) hret hlk (by unfold ir; omega) rfl dX7_nameOfFailing_44 ⟨(Fr.tr (Fr.tr Fr.rf F_8 (by decide)) F_27 (by decide)), hI_28, htk_35, (by omega), (by omega), (by omega), (by omega), (by omega), (by omega), (by omega)⟩
  · refine lv_aload_n hx hb dX7_nameOfFailing_36 rfl (lv_at hl 3 rfl) ?_
    refine lv_iconst (v := iv 2) hx hb dX7_nameOfFailing_37 rfl ?_
    refine lv_iload_n hx hb dX7_nameOfFailing_38 rfl (lv_at hl 1 rfl) ?_
    refine xc_vV G (b := 23) (rest := []) (As := [.int (iv 2), .int (iv (μ.1 26 13))]) (c_X7_tellFault ω l μ25 2 (μ.1 26 13) (by unfold ir; omega) (by unfold ir; omega) hI_28 (by omega)) (wm 3 177 rfl rfl) (wm 3 179 rfl rfl) (wm 0 12 rfl rfl) rfl rfl (by decide) rfl (wm 1 12 rfl rfl) (wm 3 180 rfl rfl) (by decide) hR (by decide) (n := 2) rfl rfl (Nat.le_of_ble_eq_true rfl) hl.1 dX7_nameOfFailing_39 (fun μ44 ρ d0 H locs hp G => ?_)
    obtain ⟨F_45, hI_46⟩ := hp
    refine lv_iload hx hb dX7_nameOfFailing_42 (lv_at hl 0 rfl) ?_
    have htk_47 : TK μ44 := hp_10.fr (K := [24, 2, 3, 4]) (Fr.tr (Fr.tr Fr.rf F_27 (by decide)) F_45 (by decide)) (by decide) (by decide) (by decide)
    have e_48 : μ44.1 26 10 = μ7.1 26 10 := ((F_45.1 26 (by decide) 10).trans (F_27.1 26 (by decide) 10))
    have e_49 : μ44.1 26 11 = μ7.1 26 11 := ((F_45.1 26 (by decide) 11).trans (F_27.1 26 (by decide) 11))
    have e_50 : μ44.1 26 11 = μ7.1 26 11 := ((F_45.1 26 (by decide) 11).trans (F_27.1 26 (by decide) 11))
    have e_51 : μ44.1 26 6 = μ.1 26 6 := ((F_45.1 26 (by decide) 6).trans ((F_27.1 26 (by decide) 6).trans hs_14))
    have e_52 : μ44.1 26 7 = μ.1 26 7 := ((F_45.1 26 (by decide) 7).trans ((F_27.1 26 (by decide) 7).trans hs_15))
    have e_53 : μ44.1 26 8 = μ.1 26 8 := ((F_45.1 26 (by decide) 8).trans ((F_27.1 26 (by decide) 8).trans hs_16))
    have e_54 : μ44.1 26 9 = μ.1 26 9 := ((F_45.1 26 (by decide) 9).trans ((F_27.1 26 (by decide) 9).trans hs_17))
    have e_55 : μ44.1 2 4 = μ.1 2 4 := ((F_45.1 2 (by decide) 4).trans (hs_33.trans (F_8.1 2 (by decide) 4)))
    exact xr_i G (x := r_26) hret hlk (by unfold ir; omega) rfl dX7_nameOfFailing_44 ⟨(Fr.tr (Fr.tr (Fr.tr Fr.rf F_8 (by decide)) F_27 (by decide)) F_45 (by decide)), hI_46, htk_47, (by omega), (by omega), (by omega), (by omega), (by omega), (by omega), (by omega)⟩

set_option maxHeartbeats 4000000 in
set_option maxRecDepth 100000 in
theorem c_X7_secondName (ω : Om) (l : Launch) (μ : M3) (hI : IC μ) (hTK : TK μ) : CtI ω l yX7_secondName cX7_secondName 3 .int 2 47 [.ref (oP ω 23)] μ (fun (r : Int) (μ' : M3) => (Fr [26, 25, 23] μ μ') ∧ (IC μ') ∧ (TK μ') ∧ (μ'.1 26 10 = μ.1 26 10 + 1 - μ'.1 26 11) ∧ (μ.1 26 11 ≤ μ'.1 26 11) ∧ (0 ≤ r ∧ r < 1000) ∧ (μ'.1 26 6 = μ.1 26 6) ∧ (μ'.1 26 7 = μ.1 26 7) ∧ (μ'.1 26 8 = μ.1 26 8) ∧ (μ'.1 26 9 = μ.1 26 9) ∧ (μ'.1 23 2 = μ.1 23 2) ∧ (μ'.1 23 6 = μ.1 23 6) ∧ (μ'.1 23 7 = μ.1 23 7) ∧ (μ'.1 23 8 = μ.1 23 8) ∧ (μ'.1 23 9 = μ.1 23 9) ∧ (μ'.1 23 10 = μ.1 23 10)) := by
  refine CtI.go (by decide) (Nat.le_of_ble_eq_true rfl) (fun ρ p e s m below meth c R ls G hR hret hlk hl => ?_)
  have hx := G.1.1
  have hb := G.1.2.1
  have hl : lv_has ls 3 [(0, .ref (oP ω 23))] := hl
  generalize s.drawn = d0 at G ⊢
  have hTKb := hTK.b
  have hn_1 : 0 ≤ μ.1 23 5 ∧ μ.1 23 5 ≤ 1000 := hI.nm.2.2.2.2.2.2.2.2.1
  refine lv_aload_n hx hb dX7_secondName_0 rfl (lv_at hl 0 rfl) ?_
  refine xa_getr G fd_X7 (a := 23) (x := 26) 0 rfl (by decide) rfl (wm 2 17 rfl rfl) ⟨rfl, rfl, rfl⟩ dX7_secondName_1 rfl (G.sk 23 rfl) (by decide) rfl ?_
  refine xa_getN G fd_X10 (host := "FourTongues") (a := 26) 14 rfl (by decide) (by decide) ⟨rfl, rfl, rfl⟩ dX7_secondName_4 rfl (v := .long (jv (μ.1 26 14))) (by rw [show μ.1 26 14 = μ.1 26 14 from rfl]; rfl) ?_
  have hj_2 : jr (μ.1 26 14) := by have h9 := G.hj (a := 26) (k := 14) rfl; exact h9
  refine lv_lstore_n (lv' := [(1, .long (jv (μ.1 26 14))), (0, .ref (oP ω 23))]) hx hb dX7_secondName_7 rfl hl (by decide) rfl (fun ls hl => ?_)
  refine lv_aload_n hx hb dX7_secondName_8 rfl (lv_at hl 1 rfl) ?_
  refine lv_iconst (v := iv 1) hx hb dX7_secondName_9 rfl ?_
  have hn_3 : -1 ≤ μ.1 26 10 ∧ μ.1 26 10 ≤ 3000 := hI.nm.2.2.2.2.2.2.2.2.2.2.2.2
  have hn_4 : 0 ≤ μ.1 26 6 ∧ μ.1 26 6 ≤ 3001 := hI.nm.2.2.2.2.2.2.2.2.2.1
  have hn_5 : 0 ≤ μ.1 26 7 ∧ μ.1 26 7 ≤ 3000 := hI.nm.2.2.2.2.2.2.2.2.2.2.1
  have hn_6 : 0 ≤ μ.1 26 9 ∧ μ.1 26 9 ≤ 3000 := hI.nm.2.2.2.2.2.2.2.2.2.2.2.1
  refine xc_vV G (b := 23) (rest := []) (As := [.int (iv 1)]) (c_X7_need ω l μ 1 (by unfold ir; omega) hI hTK (by omega)) (wm 3 169 rfl rfl) (wm 3 171 rfl rfl) (wm 0 11 rfl rfl) rfl rfl (by decide) rfl (wm 1 12 rfl rfl) (wm 3 172 rfl rfl) (by decide) hR (by decide) (n := 1) rfl rfl (Nat.le_of_ble_eq_true rfl) hl.1 dX7_secondName_10 (fun μ7 ρ d0 H locs hp G => ?_)
  obtain ⟨F_8, hI_9, hp_10, hp_11, hp_12, hp_13, hs_14, hs_15, hs_16, hs_17⟩ := hp
  have hn_18 : -1 ≤ μ7.1 26 10 ∧ μ7.1 26 10 ≤ 3000 := hI_9.nm.2.2.2.2.2.2.2.2.2.2.2.2
  have htb_19 := hp_10.b
  refine lv_aload_n hx hb dX7_secondName_13 rfl (lv_at hl 1 rfl) ?_
  refine lv_lload_n hx hb dX7_secondName_14 rfl (lv_at hl 0 rfl) ?_
  have e_20 : μ7.1 23 2 = μ.1 23 2 := (F_8.1 23 (by decide) 2)
  have e_21 : μ7.1 23 6 = μ.1 23 6 := (F_8.1 23 (by decide) 6)
  have e_22 : μ7.1 23 7 = μ.1 23 7 := (F_8.1 23 (by decide) 7)
  have e_23 : μ7.1 23 8 = μ.1 23 8 := (F_8.1 23 (by decide) 8)
  have e_24 : μ7.1 23 9 = μ.1 23 9 := (F_8.1 23 (by decide) 9)
  have e_25 : μ7.1 23 10 = μ.1 23 10 := (F_8.1 23 (by decide) 10)
  refine xc_iV G (b := 23) (rest := []) (As := [.long (jv (μ.1 26 14))]) (c_X7_declare ω l μ7 (μ.1 26 14) hj_2 hI_9) (wm 3 209 rfl rfl) (wm 3 211 rfl rfl) (wm 0 17 rfl rfl) rfl rfl (by decide) rfl (wm 1 12 rfl rfl) (wm 3 212 rfl rfl) (by decide) hR (by decide) (n := 1) rfl rfl (Nat.le_of_ble_eq_true rfl) hl.1 dX7_secondName_15 (fun r_27 μ26 ρ d0 H locs hr_r_27 hp G => ?_)
  have hr_r_27 : -2147483648 ≤ r_27 ∧ r_27 ≤ 2147483647 := hr_r_27
  obtain ⟨F_28, hI_29, hp_30, hs_31, hs_32, hs_33, hs_34, hs_35, hs_36⟩ := hp
  have htk_37 : TK μ26 := hp_10.fr (K := [25, 23]) (Fr.tr Fr.rf F_28 (by decide)) (by decide) (by decide) (by decide)
  have e_38 : μ26.1 26 10 = μ7.1 26 10 := (F_28.1 26 (by decide) 10)
  have e_39 : μ26.1 26 11 = μ7.1 26 11 := (F_28.1 26 (by decide) 11)
  have e_40 : μ26.1 26 11 = μ7.1 26 11 := (F_28.1 26 (by decide) 11)
  have e_41 : μ26.1 26 6 = μ.1 26 6 := ((F_28.1 26 (by decide) 6).trans hs_14)
  have e_42 : μ26.1 26 7 = μ.1 26 7 := ((F_28.1 26 (by decide) 7).trans hs_15)
  have e_43 : μ26.1 26 8 = μ.1 26 8 := ((F_28.1 26 (by decide) 8).trans hs_16)
  have e_44 : μ26.1 26 9 = μ.1 26 9 := ((F_28.1 26 (by decide) 9).trans hs_17)
  have e_45 : μ26.1 23 2 = μ.1 23 2 := (hs_31.trans (F_8.1 23 (by decide) 2))
  have e_46 : μ26.1 23 6 = μ.1 23 6 := (hs_32.trans (F_8.1 23 (by decide) 6))
  have e_47 : μ26.1 23 7 = μ.1 23 7 := (hs_33.trans (F_8.1 23 (by decide) 7))
  have e_48 : μ26.1 23 8 = μ.1 23 8 := (hs_34.trans (F_8.1 23 (by decide) 8))
  have e_49 : μ26.1 23 9 = μ.1 23 9 := (hs_35.trans (F_8.1 23 (by decide) 9))
  have e_50 : μ26.1 23 10 = μ.1 23 10 := (hs_36.trans (F_8.1 23 (by decide) 10))
  exact xr_i G (x := r_27) hret hlk (by unfold ir; omega) rfl dX7_secondName_18 ⟨(Fr.tr (Fr.tr Fr.rf F_8 (by decide)) F_28 (by decide)), hI_29, htk_37, (by omega), (by omega), (by omega), (by omega), (by omega), (by omega), (by omega), (by omega), (by omega), (by omega), (by omega), (by omega), (by omega)⟩

set_option maxHeartbeats 4000000 in
set_option maxRecDepth 100000 in
theorem c_X7_isTongueWord (ω : Om) (l : Launch) (μ : M3) (hI : IC μ) : CtI ω l yX7_isTongueWord cX7_isTongueWord 1 .boolean 0 0 [.ref (oP ω 23)] μ (fun (r : Int) (μ' : M3) => (μ' = μ) ∧ ((r = 1 ∧ 229 ≤ μ.1 26 12 ∧ μ.1 26 12 ≤ 232) ∨ (r = 0 ∧ (μ.1 26 12 < 229 ∨ 232 < μ.1 26 12)))) := by
  refine CtI.go (by decide) (Nat.le_of_ble_eq_true rfl) (fun ρ p e s m below meth c R ls G hR hret hlk hl => ?_)
  have hx := G.1.1
  have hb := G.1.2.1
  have hl : lv_has ls 1 [(0, .ref (oP ω 23))] := hl
  generalize s.drawn = d0 at G ⊢
  refine lv_aload_n hx hb dX7_isTongueWord_0 rfl (lv_at hl 0 rfl) ?_
  refine xa_getr G fd_X7 (a := 23) (x := 26) 0 rfl (by decide) rfl (wm 2 17 rfl rfl) ⟨rfl, rfl, rfl⟩ dX7_isTongueWord_1 rfl (G.sk 23 rfl) (by decide) rfl ?_
  refine xa_getN G fd_X10 (host := "FourTongues") (a := 26) 12 rfl (by decide) (by decide) ⟨rfl, rfl, rfl⟩ dX7_isTongueWord_4 rfl (v := .int (iv (μ.1 26 12))) (by rw [show μ.1 26 12 = μ.1 26 12 from rfl]; rfl) ?_
  have hr_1 : -2147483648 ≤ μ.1 26 12 ∧ μ.1 26 12 ≤ 2147483647 := by have h9 := G.hr (a := 26) (k := 12) rfl; exact h9
  refine lv_sipush (v := iv 229) hx hb dX7_isTongueWord_7 rfl ?_
  refine xb_icmp_lt (tgt := 30) hx hb (by unfold ir; omega) (by unfold ir; omega) dX7_isTongueWord_10 (by decide) (fun c_10 => ?_) (fun c_10 => ?_)
  · refine lv_iconst (v := iv 0) hx hb dX7_isTongueWord_30 rfl ?_
    exact xr_i G (x := 0) hret hlk (by unfold ir; omega) (zr (by omega)) dX7_isTongueWord_31 ⟨rfl, (by omega)⟩
  · refine lv_aload_n hx hb dX7_isTongueWord_13 rfl (lv_at hl 0 rfl) ?_
    refine xa_getr G fd_X7 (a := 23) (x := 26) 0 rfl (by decide) rfl (wm 2 17 rfl rfl) ⟨rfl, rfl, rfl⟩ dX7_isTongueWord_14 rfl (G.sk 23 rfl) (by decide) rfl ?_
    refine xa_getN G fd_X10 (host := "FourTongues") (a := 26) 12 rfl (by decide) (by decide) ⟨rfl, rfl, rfl⟩ dX7_isTongueWord_17 rfl (v := .int (iv (μ.1 26 12))) (by rw [show μ.1 26 12 = μ.1 26 12 from rfl]; rfl) ?_
    refine lv_sipush (v := iv 233) hx hb dX7_isTongueWord_20 rfl ?_
    refine xb_icmp_ge (tgt := 30) hx hb (by unfold ir; omega) (by unfold ir; omega) dX7_isTongueWord_23 (by decide) (fun c_23 => ?_) (fun c_23 => ?_)
    · refine lv_iconst (v := iv 0) hx hb dX7_isTongueWord_30 rfl ?_
      exact xr_i G (x := 0) hret hlk (by unfold ir; omega) (zr (by omega)) dX7_isTongueWord_31 ⟨rfl, (by omega)⟩
    · refine lv_iconst (v := iv 1) hx hb dX7_isTongueWord_26 rfl ?_
      refine lv_goto (tgt := 31) hx hb dX7_isTongueWord_27 (by decide) ?_
      exact xr_i G (x := 1) hret hlk (by unfold ir; omega) (zr (by omega)) dX7_isTongueWord_31 ⟨rfl, (by omega)⟩

set_option maxHeartbeats 4000000 in
set_option maxRecDepth 100000 in
theorem c_X7_aimAll (ω : Om) (l : Launch) (μ : M3) (x1 : Int) (x2 : Int) (μo : M3) (w : Int) (P : Int) (tt : Int) (hx1 : ir x1) (hx2 : ir x2) (hI : IC μ) (hP : P = μ.1 23 2) (htt : tt = μ.1 23 8) (hpx : μ.1 26 11 = 0 → PXE μo μ P tt w x1 w) (hT : x2 = μ.1 P 1) : CtV ω l yX7_aimAll cX7_aimAll 6 2 43 [.ref (oP ω 23), .int (iv x1), .int (iv x2)] μ (fun (μ' : M3) => (Fr [P + 1] μ μ') ∧ (IC μ') ∧ (μ.1 26 11 = 0 → EX μo μ' P tt w 0) ∧ (μ'.1 P 1 = μ.1 P 1) ∧ (μ'.1 P 7 = μ.1 P 7)) := by
  refine CtV.go (by decide) (Nat.le_of_ble_eq_true rfl) (fun ρ p e s m below meth c R ls G hR hret hlk hl => ?_)
  have hx := G.1.1
  have hb := G.1.2.1
  have hl : lv_has ls 6 [(0, .ref (oP ω 23)), (1, .int (iv x1)), (2, .int (iv x2))] := hl
  generalize s.drawn = d0 at G ⊢
  have hr_x1 : -2147483648 ≤ x1 ∧ x1 ≤ 2147483647 := hx1
  have hr_x2 : -2147483648 ≤ x2 ∧ x2 ≤ 2147483647 := hx2
  have hprP : isPr P := by have h9 := G.sr0.2.2.2.2.2; rw [← hP] at h9; exact h9
  have hprP_d : P = 13 ∨ P = 71 ∨ P = 81 ∨ P = 91 ∨ P = 101 := hprP
  have hk_1 := hI.pr (p := P) hprP
  unfold pk at hk_1
  have hc_2 : 16 ≤ μ.2.1 (P + 1) ∧ μ.2.1 (P + 1) ≤ 73024 := hI.rm.1 _ hprP.cap
  refine lv_iload_n hx hb dX7_aimAll_0 rfl (lv_at hl 1 rfl) ?_
  refine lv_istore_n (lv' := [(3, .int (iv x1)), (0, .ref (oP ω 23)), (1, .int (iv x1)), (2, .int (iv x2))]) hx hb dX7_aimAll_1 rfl hl (by decide) rfl (fun ls hl => ?_)
  refine lv_aload_n hx hb dX7_aimAll_2 rfl (lv_at hl 1 rfl) ?_
  refine xa_getr G fd_X7 (a := 23) (x := P) 2 rfl (by decide) rfl (wm 2 19 rfl rfl) ⟨rfl, rfl, rfl⟩ dX7_aimAll_3 rfl hP.symm (by omega) (hprP.hq ω ρ) ?_
  refine xc_iV G (b := P) (rest := []) (As := []) (c_X8_length ω l μ P hprP hI) (wm 4 35 rfl rfl) (wm 4 36 rfl rfl) (wm 4 37 rfl rfl) hprP.ly rfl (by decide) (hprP.hq ω ρ) (wm 1 9 rfl rfl) (wm 4 38 rfl rfl) (by decide) hR (by decide) (n := 0) rfl rfl (Nat.le_of_ble_eq_true rfl) hl.1 dX7_aimAll_6 (fun r_4 μ3 ρ d0 H locs hr_r_4 hp G => ?_)
  have hr_r_4 : -2147483648 ≤ r_4 ∧ r_4 ≤ 2147483647 := hr_r_4
  obtain ⟨hsm_5, hp_6⟩ := hp
  have hsm_5 := Eq.symm hsm_5
  subst hsm_5
  refine lv_istore (lv' := [(4, .int (iv r_4)), (3, .int (iv x1)), (0, .ref (oP ω 23)), (1, .int (iv x1)), (2, .int (iv x2))]) hx hb dX7_aimAll_9 hl (by decide) rfl (fun ls hl => ?_)
  refine xl (fun n_9 μ' ls => ∃ (t9 : Int), ∃ (n9 : Int), (Fr [P + 1] μ μ') ∧ (-2147483648 ≤ t9 ∧ t9 ≤ 2147483647) ∧ (-2147483648 ≤ n9 ∧ n9 ≤ 2147483647) ∧ (0 ≤ n9) ∧ (μ.1 26 11 = 0 → AW μo μ μ' P tt x1 x2 t9 n9 w) ∧ (μ'.1 P 1 = μ.1 P 1) ∧ (μ'.1 P 7 = μ.1 P 7) ∧ (IC μ') ∧ n_9 = Int.toNat (n9) ∧ lv_has ls 6 [(4, .int (iv n9)), (3, .int (iv t9)), (0, .ref (oP ω 23)), (1, .int (iv x1)), (2, .int (iv x2))]) (fun n_9 ρ μL7 d0 H locs ls hI_l G ih => ?_) _ _ _ _ _ _ _ ⟨x1, r_4, Fr.rf, (by omega), (by omega), (by omega), (fun h0 => by rw [hp_6]; exact AW.go (hpx h0) (by omega)), rfl, rfl, hI, rfl, lv_sub hl [0, 1, 2, 3, 4] rfl⟩ G
  obtain ⟨t9, n9, FL8, hi_10, hi_11, hi_12, hi_13, hi_14, hi_15, hi_16, hn9, hl⟩ := hI_l
  refine lv_iload hx hb dX7_aimAll_11 (lv_at hl 0 rfl) ?_
  refine xb_if_le (tgt := 48) hx hb (by unfold ir; omega) dX7_aimAll_13 (by decide) (fun c_13 => ?_) (fun c_13 => ?_)
  · have e_17 : μL7.1 P 1 = μ.1 P 1 := hi_14
    have e_18 : μL7.1 P 7 = μ.1 P 7 := hi_15
    exact xr_v G hret hlk dX7_aimAll_48 ⟨(Fr.tr Fr.rf FL8 (by simp)), hi_16, (fun h0 => (hi_13 h0).ed (by omega) (by omega)), (by omega), (by omega)⟩
  · refine lv_iload_n hx hb dX7_aimAll_16 rfl (lv_at hl 1 rfl) ?_
    refine xb_if_lt (tgt := 48) hx hb (by unfold ir; omega) dX7_aimAll_17 (by decide) (fun c_17 => ?_) (fun c_17 => ?_)
    · have e_19 : μL7.1 P 1 = μ.1 P 1 := hi_14
      have e_20 : μL7.1 P 7 = μ.1 P 7 := hi_15
      exact xr_v G hret hlk dX7_aimAll_48 ⟨(Fr.tr Fr.rf FL8 (by simp)), hi_16, (fun h0 => (hi_13 h0).ed (by omega) (by omega)), (by omega), (by omega)⟩
    · refine lv_aload_n hx hb dX7_aimAll_20 rfl (lv_at hl 2 rfl) ?_
      refine xa_getr G fd_X7 (a := 23) (x := P) 2 rfl (by decide) rfl (wm 2 19 rfl rfl) ⟨rfl, rfl, rfl⟩ dX7_aimAll_21 rfl ((FL8.1 23 (by simp <;> omega) 2).trans hP.symm) (by omega) (hprP.hq ω ρ) ?_
      refine lv_iload_n hx hb dX7_aimAll_24 rfl (lv_at hl 1 rfl) ?_
      refine xc_iV G (b := P) (rest := []) (As := [.int (iv t9)]) (c_X8_first ω l μL7 P t9 hprP (by unfold ir; omega) hi_16) (wm 4 43 rfl rfl) (wm 4 44 rfl rfl) (wm 4 45 rfl rfl) hprP.ly rfl (by decide) (hprP.hq ω ρ) (wm 1 9 rfl rfl) (wm 4 46 rfl rfl) (by decide) hR (by decide) (n := 1) rfl rfl (Nat.le_of_ble_eq_true rfl) hl.1 dX7_aimAll_25 (fun r_22 μ21 ρ d0 H locs hr_r_22 hp G => ?_)
      have hr_r_22 : -2147483648 ≤ r_22 ∧ r_22 ≤ 2147483647 := hr_r_22
      obtain ⟨hsm_23, hp_24⟩ := hp
      have hsm_23 := Eq.symm hsm_23
      subst hsm_23
      refine lv_istore (lv' := [(5, .int (iv r_22)), (4, .int (iv n9)), (3, .int (iv t9)), (0, .ref (oP ω 23)), (1, .int (iv x1)), (2, .int (iv x2))]) hx hb dX7_aimAll_28 hl (by decide) rfl (fun ls hl => ?_)
      refine lv_aload_n hx hb dX7_aimAll_30 rfl (lv_at hl 3 rfl) ?_
      refine xa_getr G fd_X7 (a := 23) (x := P) 2 rfl (by decide) rfl (wm 2 19 rfl rfl) ⟨rfl, rfl, rfl⟩ dX7_aimAll_31 rfl ((FL8.1 23 (by simp <;> omega) 2).trans hP.symm) (by omega) (hprP.hq ω ρ) ?_
      refine lv_iload_n hx hb dX7_aimAll_34 rfl (lv_at hl 2 rfl) ?_
      refine lv_iload_n hx hb dX7_aimAll_35 rfl (lv_at hl 5 rfl) ?_
      have e_25 : μL7.1 P 1 = μ.1 P 1 := hi_14
      have e_26 : μL7.1 P 1 = μ.1 P 1 := hi_14
      have e_27 : μL7.1 P 1 = μ.1 P 1 := hi_14
      have e_28 : μL7.1 P 1 = μ.1 P 1 := hi_14
      refine xc_vV G (b := P) (rest := []) (As := [.int (iv t9), .int (iv x2)]) (c_X8_setFirst ω l μL7 P t9 x2 (μ.1 P 1) hprP (by unfold ir; omega) (by unfold ir; omega) hi_16 (by omega)) (wm 4 51 rfl rfl) (wm 4 52 rfl rfl) (wm 4 53 rfl rfl) hprP.ly rfl (by decide) (hprP.hq ω ρ) (wm 1 9 rfl rfl) (wm 4 54 rfl rfl) (by decide) hR (by decide) (n := 2) rfl rfl (Nat.le_of_ble_eq_true rfl) hl.1 dX7_aimAll_36 (fun μ29 ρ d0 H locs hp G => ?_)
      obtain ⟨F_30, hI_31, hp_32, hp_33, ha_34⟩ := hp
      refine lv_iload hx hb dX7_aimAll_39 (lv_at hl 0 rfl) ?_
      refine lv_istore_n (lv' := [(3, .int (iv r_22)), (5, .int (iv r_22)), (4, .int (iv n9)), (0, .ref (oP ω 23)), (1, .int (iv x1)), (2, .int (iv x2))]) hx hb dX7_aimAll_41 rfl hl (by decide) rfl (fun ls hl => ?_)
      refine lv_iinc (v := iv (n9 - 1)) (lv' := [(4, .int (iv (n9 - 1))), (3, .int (iv r_22)), (5, .int (iv r_22)), (0, .ref (oP ω 23)), (1, .int (iv x1)), (2, .int (iv x2))]) hx hb dX7_aimAll_42 hl (k := 2) rfl (by rw [show Int32.ofInt (-1) = iv (-1) from rfl, iv_add] <;> (congr 1 <;> omega)) (by decide) rfl (fun ls hl => ?_)
      refine lv_goto (tgt := 11) hx hb dX7_aimAll_45 (by decide) ?_
      have hmf_35 : μ.1 26 11 = 0 → AW μo μ μ29 P tt x1 x2 (cdp μL7 P t9 1) (n9 - 1) w := by
        intro h0
        have h7 := (hi_13 h0).x
        refine (hi_13 h0).st (by omega) ?_
        rcases hp_33 with ⟨q1, q2, q3⟩ | ⟨q1, q2⟩
        · exact MF.of (by have h9 : μ29.1 P 1 = μ.1 P 1 := ((F_30.1 P (by simp <;> omega) 1).trans hi_14); have h8 : μL7.1 P 1 = μ.1 P 1 := hi_14; omega) ⟨q1, by have h8 : μL7.1 P 1 = μ.1 P 1 := hi_14; omega⟩ q3 ha_34
        · exfalso; have h8 : μL7.1 P 1 = μ.1 P 1 := hi_14; omega
      exact ih _ _ _ _ _ _ _ (by omega) ⟨r_22, n9 - 1, (Fr.tr FL8 F_30 (by simp)), (by omega), (by omega), (by omega), (by rw [hp_24]; exact hmf_35), ((F_30.1 P (by simp <;> omega) 1).trans hi_14), ((F_30.1 P (by simp <;> omega) 7).trans hi_15), hI_31, rfl, lv_sub hl [0, 1, 3, 4, 5] rfl⟩ G

set_option maxHeartbeats 4000000 in
set_option maxRecDepth 100000 in
theorem c_X7_ifFails (ω : Om) (l : Launch) (μ : M3) (x1 : Int) (x2 : Int) (μo : M3) (e : Int) (w : Int) (P : Int) (tt : Int) (hx1 : ir x1) (hx2 : ir x2) (hI : IC μ) (hP : P = μ.1 23 2) (htt : tt = μ.1 23 8) (hL : μ.1 P 1 < 8990) (hpx : μ.1 26 11 = 0 → PXE μo μ P tt e x1 w) (hx2b : 0 ≤ x2 ∧ x2 ≤ 100000) (hew : e ≤ w + x2) : CtI ω l yX7_ifFails cX7_ifFails 3 .int 4 150 [.ref (oP ω 23), .int (iv x1), .int (iv x2)] μ (fun (r : Int) (μ' : M3) => (Fr [P, P + 1] μ μ') ∧ (IC μ') ∧ (μ.1 26 11 = 0 → PXE μo μ' P tt e r w) ∧ (μ.1 P 1 ≤ μ'.1 P 1 ∧ μ'.1 P 1 ≤ μ.1 P 1 + 1) ∧ (μ'.1 P 7 = μ.1 P 7)) := by
  refine CtI.go (by decide) (Nat.le_of_ble_eq_true rfl) (fun ρ p e s m below meth c R ls G hR hret hlk hl => ?_)
  have hx := G.1.1
  have hb := G.1.2.1
  have hl : lv_has ls 3 [(0, .ref (oP ω 23)), (1, .int (iv x1)), (2, .int (iv x2))] := hl
  generalize s.drawn = d0 at G ⊢
  have hr_x1 : -2147483648 ≤ x1 ∧ x1 ≤ 2147483647 := hx1
  have hr_x2 : -2147483648 ≤ x2 ∧ x2 ≤ 2147483647 := hx2
  have hprP : isPr P := by have h9 := G.sr0.2.2.2.2.2; rw [← hP] at h9; exact h9
  have hprP_d : P = 13 ∨ P = 71 ∨ P = 81 ∨ P = 91 ∨ P = 101 := hprP
  have hk_1 := hI.pr (p := P) hprP
  unfold pk at hk_1
  have hc_2 : 16 ≤ μ.2.1 (P + 1) ∧ μ.2.1 (P + 1) ≤ 73024 := hI.rm.1 _ hprP.cap
  refine lv_aload_n hx hb dX7_ifFails_0 rfl (lv_at hl 0 rfl) ?_
  refine xa_geti G fd_X7 (a := 23) (x := tt) 8 rfl (by decide) rfl (wm 2 25 rfl rfl) ⟨rfl, rfl, rfl⟩ dX7_ifFails_1 rfl htt.symm ?_
  have hr_3 : -2147483648 ≤ tt ∧ tt ≤ 2147483647 := by have h9 := G.hr (a := 23) (k := 8) rfl; rw [show μ.1 23 8 = tt from htt.symm] at h9; exact h9
  refine lv_iconst (v := iv 2) hx hb dX7_ifFails_4 rfl ?_
  refine xb_icmp_ne (tgt := 19) hx hb (by unfold ir; omega) (by unfold ir; omega) dX7_ifFails_5 (by decide) (fun c_5 => ?_) (fun c_5 => ?_)
  · refine lv_iload_n hx hb dX7_ifFails_19 rfl (lv_at hl 1 rfl) ?_
    exact xr_i G (x := x1) hret hlk (by unfold ir; omega) rfl dX7_ifFails_20 ⟨Fr.rf, hI, hpx, (by omega), (by omega)⟩
  · refine lv_aload_n hx hb dX7_ifFails_8 rfl (lv_at hl 0 rfl) ?_
    refine lv_bipush (v := iv 26) hx hb dX7_ifFails_9 rfl ?_
    refine lv_iload_n hx hb dX7_ifFails_11 rfl (lv_at hl 1 rfl) ?_
    refine lv_iload_n hx hb dX7_ifFails_12 rfl (lv_at hl 2 rfl) ?_
    have e_4 : μ.1 23 2 = P := hP.symm
    refine xc_iV G (b := 23) (rest := []) (As := [.int (iv 26), .int (iv x1), .int (iv x2)]) (c_X7_add ω l μ 26 x1 x2 P (by unfold ir; omega) (by unfold ir; omega) (by unfold ir; omega) hI (by omega) (by omega)) (wm 3 226 rfl rfl) (wm 3 228 rfl rfl) (wm 0 21 rfl rfl) rfl rfl (by decide) rfl (wm 1 12 rfl rfl) (wm 3 229 rfl rfl) (by decide) hR (by decide) (n := 3) rfl rfl (Nat.le_of_ble_eq_true rfl) hl.1 dX7_ifFails_13 (fun r_6 μ5 ρ d0 H locs hr_r_6 hp G => ?_)
    have hr_r_6 : -2147483648 ≤ r_6 ∧ r_6 ≤ 2147483647 := hr_r_6
    obtain ⟨F_7, hI_8, hp_9, hp_10, hs_11, hs_12⟩ := hp
    refine lv_goto (tgt := 20) hx hb dX7_ifFails_16 (by decide) ?_
    have e_13 : μ5.1 P 1 = μ.1 P 1 + 1 := hs_11
    have e_14 : μ5.1 P 1 = μ.1 P 1 + 1 := hs_11
    have e_15 : μ5.1 P 7 = μ.1 P 7 := hs_12
    exact xr_i G (x := r_6) hret hlk (by unfold ir; omega) rfl dX7_ifFails_20 ⟨(Fr.tr Fr.rf F_7 (by simp)), hI_8, (fun h0 => by rw [show r_6 = μ.1 P 1 by omega]; exact (hpx h0).iff hp_10 hx2b hew), (by omega), (by omega)⟩

set_option maxHeartbeats 4000000 in
set_option maxRecDepth 100000 in
theorem c_X7_endOfParts (ω : Om) (l : Launch) (μ : M3) (x1 : Int) (x2 : Int) (x3 : Int) (x4 : Int) (μo : M3) (e : Int) (w : Int) (P : Int) (tt : Int) (hx1 : ir x1) (hx2 : ir x2) (hx3 : ir x3) (hx4 : ir x4) (hI : IC μ) (hP : P = μ.1 23 2) (htt : tt = μ.1 23 8) (hL : μ.1 P 1 < 8990) (hpx : μ.1 26 11 = 0 → PXE μo μ P tt e x4 w) (hpl : plc x1 x2) (hw : 0 ≤ w) (hew : e + eff x1 x2 = w) : CtV ω l yX7_endOfParts cX7_endOfParts 5 4 150 [.ref (oP ω 23), .int (iv x1), .int (iv x2), .int (iv x3), .int (iv x4)] μ (fun (μ' : M3) => (Fr [P, P + 1] μ μ') ∧ (IC μ') ∧ (μ.1 26 11 = 0 → EX μo μ' P tt w 0) ∧ (μ'.1 P 1 = μ.1 P 1 + 1) ∧ (μ'.1 P 7 = μ.1 P 7)) := by
  refine CtV.go (by decide) (Nat.le_of_ble_eq_true rfl) (fun ρ p e s m below meth c R ls G hR hret hlk hl => ?_)
  have hx := G.1.1
  have hb := G.1.2.1
  have hl : lv_has ls 5 [(0, .ref (oP ω 23)), (1, .int (iv x1)), (2, .int (iv x2)), (3, .int (iv x3)), (4, .int (iv x4))] := hl
  generalize s.drawn = d0 at G ⊢
  have hr_x1 : -2147483648 ≤ x1 ∧ x1 ≤ 2147483647 := hx1
  have hr_x2 : -2147483648 ≤ x2 ∧ x2 ≤ 2147483647 := hx2
  have hr_x3 : -2147483648 ≤ x3 ∧ x3 ≤ 2147483647 := hx3
  have hr_x4 : -2147483648 ≤ x4 ∧ x4 ≤ 2147483647 := hx4
  have hprP : isPr P := by have h9 := G.sr0.2.2.2.2.2; rw [← hP] at h9; exact h9
  have hprP_d : P = 13 ∨ P = 71 ∨ P = 81 ∨ P = 91 ∨ P = 101 := hprP
  have hk_1 := hI.pr (p := P) hprP
  unfold pk at hk_1
  have hc_2 : 16 ≤ μ.2.1 (P + 1) ∧ μ.2.1 (P + 1) ≤ 73024 := hI.rm.1 _ hprP.cap
  refine lv_aload_n hx hb dX7_endOfParts_0 rfl (lv_at hl 0 rfl) ?_
  refine lv_iload_n hx hb dX7_endOfParts_1 rfl (lv_at hl 1 rfl) ?_
  refine lv_iload_n hx hb dX7_endOfParts_2 rfl (lv_at hl 2 rfl) ?_
  refine lv_iload_n hx hb dX7_endOfParts_3 rfl (lv_at hl 3 rfl) ?_
  have e_3 : μ.1 23 2 = P := hP.symm
  refine xc_iV G (b := 23) (rest := []) (As := [.int (iv x1), .int (iv x2), .int (iv x3)]) (c_X7_add ω l μ x1 x2 x3 P (by unfold ir; omega) (by unfold ir; omega) (by unfold ir; omega) hI (by omega) (by omega)) (wm 3 226 rfl rfl) (wm 3 228 rfl rfl) (wm 0 21 rfl rfl) rfl rfl (by decide) rfl (wm 1 12 rfl rfl) (wm 3 229 rfl rfl) (by decide) hR (by decide) (n := 3) rfl rfl (Nat.le_of_ble_eq_true rfl) hl.1 dX7_endOfParts_4 (fun r_5 μ4 ρ d0 H locs hr_r_5 hp G => ?_)
  have hr_r_5 : -2147483648 ≤ r_5 ∧ r_5 ≤ 2147483647 := hr_r_5
  obtain ⟨F_6, hI_7, hp_8, hp_9, hs_10, hs_11⟩ := hp
  refine lv_pop hx hb dX7_endOfParts_7 rfl ?_
  refine lv_aload_n hx hb dX7_endOfParts_8 rfl (lv_at hl 0 rfl) ?_
  refine lv_iload hx hb dX7_endOfParts_9 (lv_at hl 4 rfl) ?_
  refine lv_aload_n hx hb dX7_endOfParts_11 rfl (lv_at hl 0 rfl) ?_
  have e_12 : μ4.1 23 2 = P := ((F_6.1 23 (by simp <;> omega) 2).trans hP.symm)
  have e_13 : μ4.1 P 1 = μ.1 P 1 + 1 := hs_10
  refine xc_iV G (b := 23) (rest := [.int (iv x4), .ref (oP ω 23)]) (As := []) (c_X7_here ω l μ4 P hI_7 (by omega)) (wm 4 31 rfl rfl) (wm 4 33 rfl rfl) (wm 0 31 rfl rfl) rfl rfl (by decide) rfl (wm 1 12 rfl rfl) (wm 4 34 rfl rfl) (by decide) hR (by decide) (n := 0) rfl rfl (Nat.le_of_ble_eq_true rfl) hl.1 dX7_endOfParts_12 (fun r_15 μ14 ρ d0 H locs hr_r_15 hp G => ?_)
  have hr_r_15 : -2147483648 ≤ r_15 ∧ r_15 ≤ 2147483647 := hr_r_15
  obtain ⟨hsm_16, hp_17⟩ := hp
  have hsm_16 := Eq.symm hsm_16
  subst hsm_16
  have hpx1 : μ.1 26 11 = 0 → PXE μo μ4 P tt w x4 w := fun h0 => (PXE.app (hpx h0) (EX.ad (e := eff x1 x2) hp_9 (by omega) rfl (by have := (hpx h0).h; omega) (cef_pl hpl) (def_pl hpl) (fun i b => lcd0_pl hpl))).e (by omega)
  have e_18 : μ4.1 23 2 = P := ((F_6.1 23 (by simp <;> omega) 2).trans hP.symm)
  have e_19 : μ4.1 23 8 = tt := ((F_6.1 23 (by simp <;> omega) 8).trans htt.symm)
  have e_20 : μ4.1 P 1 = μ.1 P 1 + 1 := hs_10
  have e_21 : μ4.1 P 1 = μ.1 P 1 + 1 := hs_10
  have e_22 : μ4.1 P 7 = μ.1 P 7 := hs_11
  refine xc_vV G (b := 23) (rest := []) (As := [.int (iv x4), .int (iv r_15)]) (c_X7_aimAll ω l μ4 x4 r_15 μo w P tt (by unfold ir; omega) (by unfold ir; omega) hI_7 (by omega) (by omega) (fun h0 => hpx1 (by have h9 : μ4.1 26 11 = μ.1 26 11 := (F_6.1 26 (by simp <;> omega) 11); omega)) (by omega)) (wm 4 39 rfl rfl) (wm 4 41 rfl rfl) (wm 0 32 rfl rfl) rfl rfl (by decide) rfl (wm 1 12 rfl rfl) (wm 4 42 rfl rfl) (by decide) hR (by decide) (n := 2) rfl rfl (Nat.le_of_ble_eq_true rfl) hl.1 dX7_endOfParts_15 (fun μ23 ρ d0 H locs hp G => ?_)
  obtain ⟨F_24, hI_25, hp_26, hs_27, hs_28⟩ := hp
  have e_29 : μ23.1 P 1 = μ.1 P 1 + 1 := (hs_27.trans hs_10)
  have e_30 : μ23.1 P 7 = μ.1 P 7 := (hs_28.trans hs_11)
  exact xr_v G hret hlk dX7_endOfParts_18 ⟨(Fr.tr (Fr.tr Fr.rf F_6 (by simp)) F_24 (by simp)), hI_25, (fun h0 => hp_26 (by have h9 : μ4.1 26 11 = μ.1 26 11 := (F_6.1 26 (by simp <;> omega) 11); omega)), (by omega), (by omega)⟩
