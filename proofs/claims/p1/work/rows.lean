section
-- ===== PART A: goes FIRST, ahead of the names: the tables' words, and 'selects' of the private methods out of them =====
/-- a private method of a class that the tables say can be made, by its rows of tables_1 -/
def lw_okq (q : MethodName × Nat) : Prop := (q.1.cls ≠ "java/lang/invoke/MethodHandle" ∧ q.1.cls ≠ "java/lang/invoke/VarHandle") ∧ Cond.instantiable q.1.cls q.2 ∈ tables_1 ∧ Cond.privateMethod q.1 ∈ tables_1 ∧ Cond.instanceMethod q.1 ∈ tables_1
theorem lw_p0 : lw_okq (⟨"FourTongues", "addBytes", "(I)V"⟩, 9) := ⟨⟨by decide +kernel, by decide +kernel⟩, List.mem_of_getElem? (i := 25) (by decide +kernel), List.mem_of_getElem? (i := 469) (by decide +kernel), List.mem_of_getElem? (i := 470) (by decide +kernel)⟩
theorem lw_p1 : lw_okq (⟨"FourTongues$Tokens", "readToken", "()V"⟩, 16) := ⟨⟨by decide +kernel, by decide +kernel⟩, List.mem_of_getElem? (i := 196) (by decide +kernel), List.mem_of_getElem? (i := 535) (by decide +kernel), List.mem_of_getElem? (i := 536) (by decide +kernel)⟩
theorem lw_p2 : lw_okq (⟨"FourTongues$Tokens", "byteAt", "(I)I"⟩, 16) := ⟨⟨by decide +kernel, by decide +kernel⟩, List.mem_of_getElem? (i := 196) (by decide +kernel), List.mem_of_getElem? (i := 539) (by decide +kernel), List.mem_of_getElem? (i := 540) (by decide +kernel)⟩
theorem lw_p3 : lw_okq (⟨"FourTongues$Tokens", "readName", "()V"⟩, 16) := ⟨⟨by decide +kernel, by decide +kernel⟩, List.mem_of_getElem? (i := 196) (by decide +kernel), List.mem_of_getElem? (i := 546) (by decide +kernel), List.mem_of_getElem? (i := 547) (by decide +kernel)⟩
theorem lw_p4 : lw_okq (⟨"FourTongues$Tokens", "wordOrName", "()I"⟩, 16) := ⟨⟨by decide +kernel, by decide +kernel⟩, List.mem_of_getElem? (i := 196) (by decide +kernel), List.mem_of_getElem? (i := 553) (by decide +kernel), List.mem_of_getElem? (i := 554) (by decide +kernel)⟩
theorem lw_p5 : lw_okq (⟨"FourTongues$Tokens", "readNumber", "()V"⟩, 16) := ⟨⟨by decide +kernel, by decide +kernel⟩, List.mem_of_getElem? (i := 196) (by decide +kernel), List.mem_of_getElem? (i := 557) (by decide +kernel), List.mem_of_getElem? (i := 558) (by decide +kernel)⟩
theorem lw_p6 : lw_okq (⟨"FourTongues$Tokens", "readReal", "()V"⟩, 16) := ⟨⟨by decide +kernel, by decide +kernel⟩, List.mem_of_getElem? (i := 196) (by decide +kernel), List.mem_of_getElem? (i := 561) (by decide +kernel), List.mem_of_getElem? (i := 562) (by decide +kernel)⟩
theorem lw_p7 : lw_okq (⟨"FourTongues$Tokens", "readDigits", "(I)I"⟩, 16) := ⟨⟨by decide +kernel, by decide +kernel⟩, List.mem_of_getElem? (i := 196) (by decide +kernel), List.mem_of_getElem? (i := 565) (by decide +kernel), List.mem_of_getElem? (i := 566) (by decide +kernel)⟩
theorem lw_p8 : lw_okq (⟨"FourTongues$Tokens", "readSign", "(I)V"⟩, 16) := ⟨⟨by decide +kernel, by decide +kernel⟩, List.mem_of_getElem? (i := 196) (by decide +kernel), List.mem_of_getElem? (i := 577) (by decide +kernel), List.mem_of_getElem? (i := 578) (by decide +kernel)⟩
theorem lw_p9 : lw_okq (⟨"FourTongues$Parser", "took", "(I)Z"⟩, 11) := ⟨⟨by decide +kernel, by decide +kernel⟩, List.mem_of_getElem? (i := 190) (by decide +kernel), List.mem_of_getElem? (i := 641) (by decide +kernel), List.mem_of_getElem? (i := 642) (by decide +kernel)⟩
theorem lw_p10 : lw_okq (⟨"FourTongues$Parser", "function", "()V"⟩, 11) := ⟨⟨by decide +kernel, by decide +kernel⟩, List.mem_of_getElem? (i := 190) (by decide +kernel), List.mem_of_getElem? (i := 646) (by decide +kernel), List.mem_of_getElem? (i := 647) (by decide +kernel)⟩
theorem lw_p11 : lw_okq (⟨"FourTongues$Parser", "need", "(I)V"⟩, 11) := ⟨⟨by decide +kernel, by decide +kernel⟩, List.mem_of_getElem? (i := 190) (by decide +kernel), List.mem_of_getElem? (i := 650) (by decide +kernel), List.mem_of_getElem? (i := 651) (by decide +kernel)⟩
theorem lw_p12 : lw_okq (⟨"FourTongues$Parser", "tellFault", "(II)V"⟩, 11) := ⟨⟨by decide +kernel, by decide +kernel⟩, List.mem_of_getElem? (i := 190) (by decide +kernel), List.mem_of_getElem? (i := 658) (by decide +kernel), List.mem_of_getElem? (i := 659) (by decide +kernel)⟩
theorem lw_p13 : lw_okq (⟨"FourTongues$Parser", "parameters", "()V"⟩, 11) := ⟨⟨by decide +kernel, by decide +kernel⟩, List.mem_of_getElem? (i := 190) (by decide +kernel), List.mem_of_getElem? (i := 674) (by decide +kernel), List.mem_of_getElem? (i := 675) (by decide +kernel)⟩
theorem lw_p14 : lw_okq (⟨"FourTongues$Parser", "needOpen", "(I)V"⟩, 11) := ⟨⟨by decide +kernel, by decide +kernel⟩, List.mem_of_getElem? (i := 190) (by decide +kernel), List.mem_of_getElem? (i := 678) (by decide +kernel), List.mem_of_getElem? (i := 679) (by decide +kernel)⟩
theorem lw_p15 : lw_okq (⟨"FourTongues$Parser", "parameter", "()V"⟩, 11) := ⟨⟨by decide +kernel, by decide +kernel⟩, List.mem_of_getElem? (i := 190) (by decide +kernel), List.mem_of_getElem? (i := 682) (by decide +kernel), List.mem_of_getElem? (i := 683) (by decide +kernel)⟩
def lw_privs_1 : List (MethodName × Nat) := [(⟨"FourTongues", "addBytes", "(I)V"⟩, 9), (⟨"FourTongues$Tokens", "readToken", "()V"⟩, 16), (⟨"FourTongues$Tokens", "byteAt", "(I)I"⟩, 16), (⟨"FourTongues$Tokens", "readName", "()V"⟩, 16), (⟨"FourTongues$Tokens", "wordOrName", "()I"⟩, 16), (⟨"FourTongues$Tokens", "readNumber", "()V"⟩, 16), (⟨"FourTongues$Tokens", "readReal", "()V"⟩, 16), (⟨"FourTongues$Tokens", "readDigits", "(I)I"⟩, 16), (⟨"FourTongues$Tokens", "readSign", "(I)V"⟩, 16), (⟨"FourTongues$Parser", "took", "(I)Z"⟩, 11), (⟨"FourTongues$Parser", "function", "()V"⟩, 11), (⟨"FourTongues$Parser", "need", "(I)V"⟩, 11), (⟨"FourTongues$Parser", "tellFault", "(II)V"⟩, 11), (⟨"FourTongues$Parser", "parameters", "()V"⟩, 11), (⟨"FourTongues$Parser", "needOpen", "(I)V"⟩, 11), (⟨"FourTongues$Parser", "parameter", "()V"⟩, 11)]
theorem lw_r1 : ∀ q ∈ lw_privs_1, lw_okq q := List.forall_mem_cons.mpr ⟨lw_p0, List.forall_mem_cons.mpr ⟨lw_p1, List.forall_mem_cons.mpr ⟨lw_p2, List.forall_mem_cons.mpr ⟨lw_p3, List.forall_mem_cons.mpr ⟨lw_p4, List.forall_mem_cons.mpr ⟨lw_p5, List.forall_mem_cons.mpr ⟨lw_p6, List.forall_mem_cons.mpr ⟨lw_p7, List.forall_mem_cons.mpr ⟨lw_p8, List.forall_mem_cons.mpr ⟨lw_p9, List.forall_mem_cons.mpr ⟨lw_p10, List.forall_mem_cons.mpr ⟨lw_p11, List.forall_mem_cons.mpr ⟨lw_p12, List.forall_mem_cons.mpr ⟨lw_p13, List.forall_mem_cons.mpr ⟨lw_p14, List.forall_mem_cons.mpr ⟨lw_p15, fun _ h => absurd h List.not_mem_nil⟩⟩⟩⟩⟩⟩⟩⟩⟩⟩⟩⟩⟩⟩⟩⟩
theorem lw_p16 : lw_okq (⟨"FourTongues$Parser", "variable", "(J)I"⟩, 11) := ⟨⟨by decide +kernel, by decide +kernel⟩, List.mem_of_getElem? (i := 190) (by decide +kernel), List.mem_of_getElem? (i := 686) (by decide +kernel), List.mem_of_getElem? (i := 687) (by decide +kernel)⟩
theorem lw_p17 : lw_okq (⟨"FourTongues$Parser", "declare", "(J)I"⟩, 11) := ⟨⟨by decide +kernel, by decide +kernel⟩, List.mem_of_getElem? (i := 190) (by decide +kernel), List.mem_of_getElem? (i := 690) (by decide +kernel), List.mem_of_getElem? (i := 691) (by decide +kernel)⟩
theorem lw_p18 : lw_okq (⟨"FourTongues$Parser", "needClosed", "(I)V"⟩, 11) := ⟨⟨by decide +kernel, by decide +kernel⟩, List.mem_of_getElem? (i := 190) (by decide +kernel), List.mem_of_getElem? (i := 695) (by decide +kernel), List.mem_of_getElem? (i := 696) (by decide +kernel)⟩
theorem lw_p19 : lw_okq (⟨"FourTongues$Parser", "block", "()V"⟩, 11) := ⟨⟨by decide +kernel, by decide +kernel⟩, List.mem_of_getElem? (i := 190) (by decide +kernel), List.mem_of_getElem? (i := 699) (by decide +kernel), List.mem_of_getElem? (i := 700) (by decide +kernel)⟩
theorem lw_p20 : lw_okq (⟨"FourTongues$Parser", "statement", "()V"⟩, 11) := ⟨⟨by decide +kernel, by decide +kernel⟩, List.mem_of_getElem? (i := 190) (by decide +kernel), List.mem_of_getElem? (i := 703) (by decide +kernel), List.mem_of_getElem? (i := 704) (by decide +kernel)⟩
theorem lw_p21 : lw_okq (⟨"FourTongues$Parser", "add", "(III)I"⟩, 11) := ⟨⟨by decide +kernel, by decide +kernel⟩, List.mem_of_getElem? (i := 190) (by decide +kernel), List.mem_of_getElem? (i := 707) (by decide +kernel), List.mem_of_getElem? (i := 708) (by decide +kernel)⟩
theorem lw_p22 : lw_okq (⟨"FourTongues$Parser", "let", "()V"⟩, 11) := ⟨⟨by decide +kernel, by decide +kernel⟩, List.mem_of_getElem? (i := 190) (by decide +kernel), List.mem_of_getElem? (i := 716) (by decide +kernel), List.mem_of_getElem? (i := 717) (by decide +kernel)⟩
theorem lw_p23 : lw_okq (⟨"FourTongues$Parser", "withExpression", "(II)V"⟩, 11) := ⟨⟨by decide +kernel, by decide +kernel⟩, List.mem_of_getElem? (i := 190) (by decide +kernel), List.mem_of_getElem? (i := 720) (by decide +kernel), List.mem_of_getElem? (i := 721) (by decide +kernel)⟩
theorem lw_p24 : lw_okq (⟨"FourTongues$Parser", "expression", "(Z)V"⟩, 11) := ⟨⟨by decide +kernel, by decide +kernel⟩, List.mem_of_getElem? (i := 190) (by decide +kernel), List.mem_of_getElem? (i := 724) (by decide +kernel), List.mem_of_getElem? (i := 725) (by decide +kernel)⟩
theorem lw_p25 : lw_okq (⟨"FourTongues$Parser", "comparison", "(Z)V"⟩, 11) := ⟨⟨by decide +kernel, by decide +kernel⟩, List.mem_of_getElem? (i := 190) (by decide +kernel), List.mem_of_getElem? (i := 728) (by decide +kernel), List.mem_of_getElem? (i := 729) (by decide +kernel)⟩
theorem lw_p26 : lw_okq (⟨"FourTongues$Parser", "sum", "(Z)V"⟩, 11) := ⟨⟨by decide +kernel, by decide +kernel⟩, List.mem_of_getElem? (i := 190) (by decide +kernel), List.mem_of_getElem? (i := 732) (by decide +kernel), List.mem_of_getElem? (i := 733) (by decide +kernel)⟩
theorem lw_p27 : lw_okq (⟨"FourTongues$Parser", "product", "(Z)V"⟩, 11) := ⟨⟨by decide +kernel, by decide +kernel⟩, List.mem_of_getElem? (i := 190) (by decide +kernel), List.mem_of_getElem? (i := 736) (by decide +kernel), List.mem_of_getElem? (i := 737) (by decide +kernel)⟩
theorem lw_p28 : lw_okq (⟨"FourTongues$Parser", "unary", "(Z)V"⟩, 11) := ⟨⟨by decide +kernel, by decide +kernel⟩, List.mem_of_getElem? (i := 190) (by decide +kernel), List.mem_of_getElem? (i := 740) (by decide +kernel), List.mem_of_getElem? (i := 741) (by decide +kernel)⟩
theorem lw_p29 : lw_okq (⟨"FourTongues$Parser", "ifFails", "(II)I"⟩, 11) := ⟨⟨by decide +kernel, by decide +kernel⟩, List.mem_of_getElem? (i := 190) (by decide +kernel), List.mem_of_getElem? (i := 744) (by decide +kernel), List.mem_of_getElem? (i := 745) (by decide +kernel)⟩
theorem lw_p30 : lw_okq (⟨"FourTongues$Parser", "endOfParts", "(IIII)V"⟩, 11) := ⟨⟨by decide +kernel, by decide +kernel⟩, List.mem_of_getElem? (i := 190) (by decide +kernel), List.mem_of_getElem? (i := 748) (by decide +kernel), List.mem_of_getElem? (i := 749) (by decide +kernel)⟩
theorem lw_p31 : lw_okq (⟨"FourTongues$Parser", "here", "()I"⟩, 11) := ⟨⟨by decide +kernel, by decide +kernel⟩, List.mem_of_getElem? (i := 190) (by decide +kernel), List.mem_of_getElem? (i := 752) (by decide +kernel), List.mem_of_getElem? (i := 753) (by decide +kernel)⟩
def lw_privs_2 : List (MethodName × Nat) := [(⟨"FourTongues$Parser", "variable", "(J)I"⟩, 11), (⟨"FourTongues$Parser", "declare", "(J)I"⟩, 11), (⟨"FourTongues$Parser", "needClosed", "(I)V"⟩, 11), (⟨"FourTongues$Parser", "block", "()V"⟩, 11), (⟨"FourTongues$Parser", "statement", "()V"⟩, 11), (⟨"FourTongues$Parser", "add", "(III)I"⟩, 11), (⟨"FourTongues$Parser", "let", "()V"⟩, 11), (⟨"FourTongues$Parser", "withExpression", "(II)V"⟩, 11), (⟨"FourTongues$Parser", "expression", "(Z)V"⟩, 11), (⟨"FourTongues$Parser", "comparison", "(Z)V"⟩, 11), (⟨"FourTongues$Parser", "sum", "(Z)V"⟩, 11), (⟨"FourTongues$Parser", "product", "(Z)V"⟩, 11), (⟨"FourTongues$Parser", "unary", "(Z)V"⟩, 11), (⟨"FourTongues$Parser", "ifFails", "(II)I"⟩, 11), (⟨"FourTongues$Parser", "endOfParts", "(IIII)V"⟩, 11), (⟨"FourTongues$Parser", "here", "()I"⟩, 11)]
theorem lw_r2 : ∀ q ∈ lw_privs_2, lw_okq q := List.forall_mem_cons.mpr ⟨lw_p16, List.forall_mem_cons.mpr ⟨lw_p17, List.forall_mem_cons.mpr ⟨lw_p18, List.forall_mem_cons.mpr ⟨lw_p19, List.forall_mem_cons.mpr ⟨lw_p20, List.forall_mem_cons.mpr ⟨lw_p21, List.forall_mem_cons.mpr ⟨lw_p22, List.forall_mem_cons.mpr ⟨lw_p23, List.forall_mem_cons.mpr ⟨lw_p24, List.forall_mem_cons.mpr ⟨lw_p25, List.forall_mem_cons.mpr ⟨lw_p26, List.forall_mem_cons.mpr ⟨lw_p27, List.forall_mem_cons.mpr ⟨lw_p28, List.forall_mem_cons.mpr ⟨lw_p29, List.forall_mem_cons.mpr ⟨lw_p30, List.forall_mem_cons.mpr ⟨lw_p31, fun _ h => absurd h List.not_mem_nil⟩⟩⟩⟩⟩⟩⟩⟩⟩⟩⟩⟩⟩⟩⟩⟩
theorem lw_p32 : lw_okq (⟨"FourTongues$Parser", "aimAll", "(II)V"⟩, 11) := ⟨⟨by decide +kernel, by decide +kernel⟩, List.mem_of_getElem? (i := 190) (by decide +kernel), List.mem_of_getElem? (i := 760) (by decide +kernel), List.mem_of_getElem? (i := 761) (by decide +kernel)⟩
theorem lw_p33 : lw_okq (⟨"FourTongues$Program", "part", "(II)I"⟩, 8) := ⟨⟨by decide +kernel, by decide +kernel⟩, List.mem_of_getElem? (i := 136) (by decide +kernel), List.mem_of_getElem? (i := 768) (by decide +kernel), List.mem_of_getElem? (i := 769) (by decide +kernel)⟩
theorem lw_p34 : lw_okq (⟨"FourTongues$Parser", "primary", "()V"⟩, 11) := ⟨⟨by decide +kernel, by decide +kernel⟩, List.mem_of_getElem? (i := 190) (by decide +kernel), List.mem_of_getElem? (i := 776) (by decide +kernel), List.mem_of_getElem? (i := 777) (by decide +kernel)⟩
theorem lw_p35 : lw_okq (⟨"FourTongues$Parser", "afterName", "(JI)V"⟩, 11) := ⟨⟨by decide +kernel, by decide +kernel⟩, List.mem_of_getElem? (i := 190) (by decide +kernel), List.mem_of_getElem? (i := 780) (by decide +kernel), List.mem_of_getElem? (i := 781) (by decide +kernel)⟩
theorem lw_p36 : lw_okq (⟨"FourTongues$Parser", "arguments", "(IIJI)V"⟩, 11) := ⟨⟨by decide +kernel, by decide +kernel⟩, List.mem_of_getElem? (i := 190) (by decide +kernel), List.mem_of_getElem? (i := 784) (by decide +kernel), List.mem_of_getElem? (i := 785) (by decide +kernel)⟩
theorem lw_p37 : lw_okq (⟨"FourTongues$Parser", "variableAt", "(JI)I"⟩, 11) := ⟨⟨by decide +kernel, by decide +kernel⟩, List.mem_of_getElem? (i := 190) (by decide +kernel), List.mem_of_getElem? (i := 805) (by decide +kernel), List.mem_of_getElem? (i := 806) (by decide +kernel)⟩
theorem lw_p38 : lw_okq (⟨"FourTongues$Parser", "cellParts", "(I)I"⟩, 11) := ⟨⟨by decide +kernel, by decide +kernel⟩, List.mem_of_getElem? (i := 190) (by decide +kernel), List.mem_of_getElem? (i := 809) (by decide +kernel), List.mem_of_getElem? (i := 810) (by decide +kernel)⟩
theorem lw_p39 : lw_okq (⟨"FourTongues$Parser", "inBrackets", "(II)V"⟩, 11) := ⟨⟨by decide +kernel, by decide +kernel⟩, List.mem_of_getElem? (i := 190) (by decide +kernel), List.mem_of_getElem? (i := 813) (by decide +kernel), List.mem_of_getElem? (i := 814) (by decide +kernel)⟩
theorem lw_p40 : lw_okq (⟨"FourTongues$Parser", "number", "()V"⟩, 11) := ⟨⟨by decide +kernel, by decide +kernel⟩, List.mem_of_getElem? (i := 190) (by decide +kernel), List.mem_of_getElem? (i := 817) (by decide +kernel), List.mem_of_getElem? (i := 818) (by decide +kernel)⟩
theorem lw_p41 : lw_okq (⟨"FourTongues$Parser", "functionItself", "()V"⟩, 11) := ⟨⟨by decide +kernel, by decide +kernel⟩, List.mem_of_getElem? (i := 190) (by decide +kernel), List.mem_of_getElem? (i := 821) (by decide +kernel), List.mem_of_getElem? (i := 822) (by decide +kernel)⟩
theorem lw_p42 : lw_okq (⟨"FourTongues$Parser", "isTongueWord", "()Z"⟩, 11) := ⟨⟨by decide +kernel, by decide +kernel⟩, List.mem_of_getElem? (i := 190) (by decide +kernel), List.mem_of_getElem? (i := 825) (by decide +kernel), List.mem_of_getElem? (i := 826) (by decide +kernel)⟩
theorem lw_p43 : lw_okq (⟨"FourTongues$Parser", "ownPrimary", "()V"⟩, 11) := ⟨⟨by decide +kernel, by decide +kernel⟩, List.mem_of_getElem? (i := 190) (by decide +kernel), List.mem_of_getElem? (i := 829) (by decide +kernel), List.mem_of_getElem? (i := 830) (by decide +kernel)⟩
theorem lw_p44 : lw_okq (⟨"FourTongues$Parser", "nameOfFailing", "()I"⟩, 11) := ⟨⟨by decide +kernel, by decide +kernel⟩, List.mem_of_getElem? (i := 190) (by decide +kernel), List.mem_of_getElem? (i := 833) (by decide +kernel), List.mem_of_getElem? (i := 834) (by decide +kernel)⟩
theorem lw_p45 : lw_okq (⟨"FourTongues$Parser", "ifElse", "()V"⟩, 11) := ⟨⟨by decide +kernel, by decide +kernel⟩, List.mem_of_getElem? (i := 190) (by decide +kernel), List.mem_of_getElem? (i := 841) (by decide +kernel), List.mem_of_getElem? (i := 842) (by decide +kernel)⟩
theorem lw_p46 : lw_okq (⟨"FourTongues$Parser", "question", "()I"⟩, 11) := ⟨⟨by decide +kernel, by decide +kernel⟩, List.mem_of_getElem? (i := 190) (by decide +kernel), List.mem_of_getElem? (i := 845) (by decide +kernel), List.mem_of_getElem? (i := 846) (by decide +kernel)⟩
theorem lw_p47 : lw_okq (⟨"FourTongues$Parser", "whileTrue", "()V"⟩, 11) := ⟨⟨by decide +kernel, by decide +kernel⟩, List.mem_of_getElem? (i := 190) (by decide +kernel), List.mem_of_getElem? (i := 849) (by decide +kernel), List.mem_of_getElem? (i := 850) (by decide +kernel)⟩
def lw_privs_3 : List (MethodName × Nat) := [(⟨"FourTongues$Parser", "aimAll", "(II)V"⟩, 11), (⟨"FourTongues$Program", "part", "(II)I"⟩, 8), (⟨"FourTongues$Parser", "primary", "()V"⟩, 11), (⟨"FourTongues$Parser", "afterName", "(JI)V"⟩, 11), (⟨"FourTongues$Parser", "arguments", "(IIJI)V"⟩, 11), (⟨"FourTongues$Parser", "variableAt", "(JI)I"⟩, 11), (⟨"FourTongues$Parser", "cellParts", "(I)I"⟩, 11), (⟨"FourTongues$Parser", "inBrackets", "(II)V"⟩, 11), (⟨"FourTongues$Parser", "number", "()V"⟩, 11), (⟨"FourTongues$Parser", "functionItself", "()V"⟩, 11), (⟨"FourTongues$Parser", "isTongueWord", "()Z"⟩, 11), (⟨"FourTongues$Parser", "ownPrimary", "()V"⟩, 11), (⟨"FourTongues$Parser", "nameOfFailing", "()I"⟩, 11), (⟨"FourTongues$Parser", "ifElse", "()V"⟩, 11), (⟨"FourTongues$Parser", "question", "()I"⟩, 11), (⟨"FourTongues$Parser", "whileTrue", "()V"⟩, 11)]
theorem lw_r3 : ∀ q ∈ lw_privs_3, lw_okq q := List.forall_mem_cons.mpr ⟨lw_p32, List.forall_mem_cons.mpr ⟨lw_p33, List.forall_mem_cons.mpr ⟨lw_p34, List.forall_mem_cons.mpr ⟨lw_p35, List.forall_mem_cons.mpr ⟨lw_p36, List.forall_mem_cons.mpr ⟨lw_p37, List.forall_mem_cons.mpr ⟨lw_p38, List.forall_mem_cons.mpr ⟨lw_p39, List.forall_mem_cons.mpr ⟨lw_p40, List.forall_mem_cons.mpr ⟨lw_p41, List.forall_mem_cons.mpr ⟨lw_p42, List.forall_mem_cons.mpr ⟨lw_p43, List.forall_mem_cons.mpr ⟨lw_p44, List.forall_mem_cons.mpr ⟨lw_p45, List.forall_mem_cons.mpr ⟨lw_p46, List.forall_mem_cons.mpr ⟨lw_p47, fun _ h => absurd h List.not_mem_nil⟩⟩⟩⟩⟩⟩⟩⟩⟩⟩⟩⟩⟩⟩⟩⟩
theorem lw_p48 : lw_okq (⟨"FourTongues$Parser", "nameFirst", "()V"⟩, 11) := ⟨⟨by decide +kernel, by decide +kernel⟩, List.mem_of_getElem? (i := 190) (by decide +kernel), List.mem_of_getElem? (i := 853) (by decide +kernel), List.mem_of_getElem? (i := 854) (by decide +kernel)⟩
theorem lw_p49 : lw_okq (⟨"FourTongues$Parser", "forgetAll", "(I)V"⟩, 11) := ⟨⟨by decide +kernel, by decide +kernel⟩, List.mem_of_getElem? (i := 190) (by decide +kernel), List.mem_of_getElem? (i := 857) (by decide +kernel), List.mem_of_getElem? (i := 858) (by decide +kernel)⟩
theorem lw_p50 : lw_okq (⟨"FourTongues$Parser", "ownStatement", "()Z"⟩, 11) := ⟨⟨by decide +kernel, by decide +kernel⟩, List.mem_of_getElem? (i := 190) (by decide +kernel), List.mem_of_getElem? (i := 865) (by decide +kernel), List.mem_of_getElem? (i := 866) (by decide +kernel)⟩
theorem lw_p51 : lw_okq (⟨"FourTongues$Parser", "tryCatch", "()V"⟩, 11) := ⟨⟨by decide +kernel, by decide +kernel⟩, List.mem_of_getElem? (i := 190) (by decide +kernel), List.mem_of_getElem? (i := 869) (by decide +kernel), List.mem_of_getElem? (i := 870) (by decide +kernel)⟩
theorem lw_p52 : lw_okq (⟨"FourTongues$Parser", "catches", "(I)V"⟩, 11) := ⟨⟨by decide +kernel, by decide +kernel⟩, List.mem_of_getElem? (i := 190) (by decide +kernel), List.mem_of_getElem? (i := 873) (by decide +kernel), List.mem_of_getElem? (i := 874) (by decide +kernel)⟩
theorem lw_p53 : lw_okq (⟨"FourTongues$Parser", "secondName", "()I"⟩, 11) := ⟨⟨by decide +kernel, by decide +kernel⟩, List.mem_of_getElem? (i := 190) (by decide +kernel), List.mem_of_getElem? (i := 884) (by decide +kernel), List.mem_of_getElem? (i := 885) (by decide +kernel)⟩
theorem lw_p54 : lw_okq (⟨"FourTongues$Parser", "finishing", "(I)V"⟩, 11) := ⟨⟨by decide +kernel, by decide +kernel⟩, List.mem_of_getElem? (i := 190) (by decide +kernel), List.mem_of_getElem? (i := 888) (by decide +kernel), List.mem_of_getElem? (i := 889) (by decide +kernel)⟩
theorem lw_p55 : lw_okq (⟨"FourTongues$Parser", "onGo", "()V"⟩, 11) := ⟨⟨by decide +kernel, by decide +kernel⟩, List.mem_of_getElem? (i := 190) (by decide +kernel), List.mem_of_getElem? (i := 892) (by decide +kernel), List.mem_of_getElem? (i := 893) (by decide +kernel)⟩
theorem lw_p56 : lw_okq (⟨"FourTongues$Parser", "withEnd", "()V"⟩, 11) := ⟨⟨by decide +kernel, by decide +kernel⟩, List.mem_of_getElem? (i := 190) (by decide +kernel), List.mem_of_getElem? (i := 896) (by decide +kernel), List.mem_of_getElem? (i := 897) (by decide +kernel)⟩
theorem lw_p57 : lw_okq (⟨"FourTongues$Parser", "openThen", "()V"⟩, 11) := ⟨⟨by decide +kernel, by decide +kernel⟩, List.mem_of_getElem? (i := 190) (by decide +kernel), List.mem_of_getElem? (i := 900) (by decide +kernel), List.mem_of_getElem? (i := 901) (by decide +kernel)⟩
theorem lw_p58 : lw_okq (⟨"FourTongues$Parser", "cleanDo", "()V"⟩, 11) := ⟨⟨by decide +kernel, by decide +kernel⟩, List.mem_of_getElem? (i := 190) (by decide +kernel), List.mem_of_getElem? (i := 904) (by decide +kernel), List.mem_of_getElem? (i := 905) (by decide +kernel)⟩
theorem lw_p59 : lw_okq (⟨"FourTongues$Parser", "kindUnder", "()V"⟩, 11) := ⟨⟨by decide +kernel, by decide +kernel⟩, List.mem_of_getElem? (i := 190) (by decide +kernel), List.mem_of_getElem? (i := 912) (by decide +kernel), List.mem_of_getElem? (i := 913) (by decide +kernel)⟩
theorem lw_p60 : lw_okq (⟨"FourTongues", "canFail", "(II)Z"⟩, 9) := ⟨⟨by decide +kernel, by decide +kernel⟩, List.mem_of_getElem? (i := 25) (by decide +kernel), List.mem_of_getElem? (i := 970) (by decide +kernel), List.mem_of_getElem? (i := 971) (by decide +kernel)⟩
theorem lw_p61 : lw_okq (⟨"FourTongues$Borders", "find", "(III)I"⟩, 6) := ⟨⟨by decide +kernel, by decide +kernel⟩, List.mem_of_getElem? (i := 107) (by decide +kernel), List.mem_of_getElem? (i := 986) (by decide +kernel), List.mem_of_getElem? (i := 987) (by decide +kernel)⟩
theorem lw_p62 : lw_okq (⟨"FourTongues$Machine", "clear", "()V"⟩, 17) := ⟨⟨by decide +kernel, by decide +kernel⟩, List.mem_of_getElem? (i := 292) (by decide +kernel), List.mem_of_getElem? (i := 1012) (by decide +kernel), List.mem_of_getElem? (i := 1013) (by decide +kernel)⟩
theorem lw_p63 : lw_okq (⟨"FourTongues$Machine", "pushNumber", "(IJ)V"⟩, 17) := ⟨⟨by decide +kernel, by decide +kernel⟩, List.mem_of_getElem? (i := 292) (by decide +kernel), List.mem_of_getElem? (i := 1031) (by decide +kernel), List.mem_of_getElem? (i := 1032) (by decide +kernel)⟩
def lw_privs_4 : List (MethodName × Nat) := [(⟨"FourTongues$Parser", "nameFirst", "()V"⟩, 11), (⟨"FourTongues$Parser", "forgetAll", "(I)V"⟩, 11), (⟨"FourTongues$Parser", "ownStatement", "()Z"⟩, 11), (⟨"FourTongues$Parser", "tryCatch", "()V"⟩, 11), (⟨"FourTongues$Parser", "catches", "(I)V"⟩, 11), (⟨"FourTongues$Parser", "secondName", "()I"⟩, 11), (⟨"FourTongues$Parser", "finishing", "(I)V"⟩, 11), (⟨"FourTongues$Parser", "onGo", "()V"⟩, 11), (⟨"FourTongues$Parser", "withEnd", "()V"⟩, 11), (⟨"FourTongues$Parser", "openThen", "()V"⟩, 11), (⟨"FourTongues$Parser", "cleanDo", "()V"⟩, 11), (⟨"FourTongues$Parser", "kindUnder", "()V"⟩, 11), (⟨"FourTongues", "canFail", "(II)Z"⟩, 9), (⟨"FourTongues$Borders", "find", "(III)I"⟩, 6), (⟨"FourTongues$Machine", "clear", "()V"⟩, 17), (⟨"FourTongues$Machine", "pushNumber", "(IJ)V"⟩, 17)]
theorem lw_r4 : ∀ q ∈ lw_privs_4, lw_okq q := List.forall_mem_cons.mpr ⟨lw_p48, List.forall_mem_cons.mpr ⟨lw_p49, List.forall_mem_cons.mpr ⟨lw_p50, List.forall_mem_cons.mpr ⟨lw_p51, List.forall_mem_cons.mpr ⟨lw_p52, List.forall_mem_cons.mpr ⟨lw_p53, List.forall_mem_cons.mpr ⟨lw_p54, List.forall_mem_cons.mpr ⟨lw_p55, List.forall_mem_cons.mpr ⟨lw_p56, List.forall_mem_cons.mpr ⟨lw_p57, List.forall_mem_cons.mpr ⟨lw_p58, List.forall_mem_cons.mpr ⟨lw_p59, List.forall_mem_cons.mpr ⟨lw_p60, List.forall_mem_cons.mpr ⟨lw_p61, List.forall_mem_cons.mpr ⟨lw_p62, List.forall_mem_cons.mpr ⟨lw_p63, fun _ h => absurd h List.not_mem_nil⟩⟩⟩⟩⟩⟩⟩⟩⟩⟩⟩⟩⟩⟩⟩⟩
theorem lw_p64 : lw_okq (⟨"FourTongues$Machine", "enter", "(IIII)V"⟩, 17) := ⟨⟨by decide +kernel, by decide +kernel⟩, List.mem_of_getElem? (i := 292) (by decide +kernel), List.mem_of_getElem? (i := 1036) (by decide +kernel), List.mem_of_getElem? (i := 1037) (by decide +kernel)⟩
theorem lw_p65 : lw_okq (⟨"FourTongues$Machine", "carryOn", "()V"⟩, 17) := ⟨⟨by decide +kernel, by decide +kernel⟩, List.mem_of_getElem? (i := 292) (by decide +kernel), List.mem_of_getElem? (i := 1068) (by decide +kernel), List.mem_of_getElem? (i := 1069) (by decide +kernel)⟩
theorem lw_p66 : lw_okq (⟨"FourTongues$Machine", "isHeld", "(I)Z"⟩, 17) := ⟨⟨by decide +kernel, by decide +kernel⟩, List.mem_of_getElem? (i := 292) (by decide +kernel), List.mem_of_getElem? (i := 1072) (by decide +kernel), List.mem_of_getElem? (i := 1073) (by decide +kernel)⟩
theorem lw_p67 : lw_okq (⟨"FourTongues$Frames", "of", "([I)I"⟩, 8) := ⟨⟨by decide +kernel, by decide +kernel⟩, List.mem_of_getElem? (i := 324) (by decide +kernel), List.mem_of_getElem? (i := 1080) (by decide +kernel), List.mem_of_getElem? (i := 1081) (by decide +kernel)⟩
theorem lw_p68 : lw_okq (⟨"FourTongues$Guards", "of", "([I)I"⟩, 7) := ⟨⟨by decide +kernel, by decide +kernel⟩, List.mem_of_getElem? (i := 355) (by decide +kernel), List.mem_of_getElem? (i := 1088) (by decide +kernel), List.mem_of_getElem? (i := 1089) (by decide +kernel)⟩
theorem lw_p69 : lw_okq (⟨"FourTongues$Machine", "targetFor", "(II)I"⟩, 17) := ⟨⟨by decide +kernel, by decide +kernel⟩, List.mem_of_getElem? (i := 292) (by decide +kernel), List.mem_of_getElem? (i := 1134) (by decide +kernel), List.mem_of_getElem? (i := 1135) (by decide +kernel)⟩
theorem lw_p70 : lw_okq (⟨"FourTongues$Machine", "catchFor", "(II)I"⟩, 17) := ⟨⟨by decide +kernel, by decide +kernel⟩, List.mem_of_getElem? (i := 292) (by decide +kernel), List.mem_of_getElem? (i := 1138) (by decide +kernel), List.mem_of_getElem? (i := 1139) (by decide +kernel)⟩
theorem lw_p71 : lw_okq (⟨"FourTongues$Machine", "outOfFunction", "(I)V"⟩, 17) := ⟨⟨by decide +kernel, by decide +kernel⟩, List.mem_of_getElem? (i := 292) (by decide +kernel), List.mem_of_getElem? (i := 1171) (by decide +kernel), List.mem_of_getElem? (i := 1172) (by decide +kernel)⟩
theorem lw_p72 : lw_okq (⟨"FourTongues$Machine", "end", "(I)V"⟩, 17) := ⟨⟨by decide +kernel, by decide +kernel⟩, List.mem_of_getElem? (i := 292) (by decide +kernel), List.mem_of_getElem? (i := 1175) (by decide +kernel), List.mem_of_getElem? (i := 1176) (by decide +kernel)⟩
theorem lw_p73 : lw_okq (⟨"FourTongues$Machine", "backToCaller", "()V"⟩, 17) := ⟨⟨by decide +kernel, by decide +kernel⟩, List.mem_of_getElem? (i := 292) (by decide +kernel), List.mem_of_getElem? (i := 1187) (by decide +kernel), List.mem_of_getElem? (i := 1188) (by decide +kernel)⟩
theorem lw_p74 : lw_okq (⟨"FourTongues$Machine", "turnFailure", "(I)V"⟩, 17) := ⟨⟨by decide +kernel, by decide +kernel⟩, List.mem_of_getElem? (i := 292) (by decide +kernel), List.mem_of_getElem? (i := 1199) (by decide +kernel), List.mem_of_getElem? (i := 1200) (by decide +kernel)⟩
theorem lw_p75 : lw_okq (⟨"FourTongues$Machine", "step", "()Z"⟩, 17) := ⟨⟨by decide +kernel, by decide +kernel⟩, List.mem_of_getElem? (i := 292) (by decide +kernel), List.mem_of_getElem? (i := 1203) (by decide +kernel), List.mem_of_getElem? (i := 1204) (by decide +kernel)⟩
theorem lw_p76 : lw_okq (⟨"FourTongues$Borders", "setTurned", "(LFourTongues$Row;IIIJ)V"⟩, 6) := ⟨⟨by decide +kernel, by decide +kernel⟩, List.mem_of_getElem? (i := 107) (by decide +kernel), List.mem_of_getElem? (i := 1244) (by decide +kernel), List.mem_of_getElem? (i := 1245) (by decide +kernel)⟩
theorem lw_p77 : lw_okq (⟨"FourTongues$Machine", "give", "(I)V"⟩, 17) := ⟨⟨by decide +kernel, by decide +kernel⟩, List.mem_of_getElem? (i := 292) (by decide +kernel), List.mem_of_getElem? (i := 1262) (by decide +kernel), List.mem_of_getElem? (i := 1263) (by decide +kernel)⟩
theorem lw_p78 : lw_okq (⟨"FourTongues$Machine", "goOnBehindCall", "()V"⟩, 17) := ⟨⟨by decide +kernel, by decide +kernel⟩, List.mem_of_getElem? (i := 292) (by decide +kernel), List.mem_of_getElem? (i := 1266) (by decide +kernel), List.mem_of_getElem? (i := 1267) (by decide +kernel)⟩
theorem lw_p79 : lw_okq (⟨"FourTongues$Machine", "leaveFunction", "()V"⟩, 17) := ⟨⟨by decide +kernel, by decide +kernel⟩, List.mem_of_getElem? (i := 292) (by decide +kernel), List.mem_of_getElem? (i := 1270) (by decide +kernel), List.mem_of_getElem? (i := 1271) (by decide +kernel)⟩
def lw_privs_5 : List (MethodName × Nat) := [(⟨"FourTongues$Machine", "enter", "(IIII)V"⟩, 17), (⟨"FourTongues$Machine", "carryOn", "()V"⟩, 17), (⟨"FourTongues$Machine", "isHeld", "(I)Z"⟩, 17), (⟨"FourTongues$Frames", "of", "([I)I"⟩, 8), (⟨"FourTongues$Guards", "of", "([I)I"⟩, 7), (⟨"FourTongues$Machine", "targetFor", "(II)I"⟩, 17), (⟨"FourTongues$Machine", "catchFor", "(II)I"⟩, 17), (⟨"FourTongues$Machine", "outOfFunction", "(I)V"⟩, 17), (⟨"FourTongues$Machine", "end", "(I)V"⟩, 17), (⟨"FourTongues$Machine", "backToCaller", "()V"⟩, 17), (⟨"FourTongues$Machine", "turnFailure", "(I)V"⟩, 17), (⟨"FourTongues$Machine", "step", "()Z"⟩, 17), (⟨"FourTongues$Borders", "setTurned", "(LFourTongues$Row;IIIJ)V"⟩, 6), (⟨"FourTongues$Machine", "give", "(I)V"⟩, 17), (⟨"FourTongues$Machine", "goOnBehindCall", "()V"⟩, 17), (⟨"FourTongues$Machine", "leaveFunction", "()V"⟩, 17)]
theorem lw_r5 : ∀ q ∈ lw_privs_5, lw_okq q := List.forall_mem_cons.mpr ⟨lw_p64, List.forall_mem_cons.mpr ⟨lw_p65, List.forall_mem_cons.mpr ⟨lw_p66, List.forall_mem_cons.mpr ⟨lw_p67, List.forall_mem_cons.mpr ⟨lw_p68, List.forall_mem_cons.mpr ⟨lw_p69, List.forall_mem_cons.mpr ⟨lw_p70, List.forall_mem_cons.mpr ⟨lw_p71, List.forall_mem_cons.mpr ⟨lw_p72, List.forall_mem_cons.mpr ⟨lw_p73, List.forall_mem_cons.mpr ⟨lw_p74, List.forall_mem_cons.mpr ⟨lw_p75, List.forall_mem_cons.mpr ⟨lw_p76, List.forall_mem_cons.mpr ⟨lw_p77, List.forall_mem_cons.mpr ⟨lw_p78, List.forall_mem_cons.mpr ⟨lw_p79, fun _ h => absurd h List.not_mem_nil⟩⟩⟩⟩⟩⟩⟩⟩⟩⟩⟩⟩⟩⟩⟩⟩
theorem lw_p80 : lw_okq (⟨"FourTongues$Machine", "top", "()I"⟩, 17) := ⟨⟨by decide +kernel, by decide +kernel⟩, List.mem_of_getElem? (i := 292) (by decide +kernel), List.mem_of_getElem? (i := 1274) (by decide +kernel), List.mem_of_getElem? (i := 1275) (by decide +kernel)⟩
theorem lw_p81 : lw_okq (⟨"FourTongues$Machine", "giveAnswer", "()V"⟩, 17) := ⟨⟨by decide +kernel, by decide +kernel⟩, List.mem_of_getElem? (i := 292) (by decide +kernel), List.mem_of_getElem? (i := 1286) (by decide +kernel), List.mem_of_getElem? (i := 1287) (by decide +kernel)⟩
theorem lw_p82 : lw_okq (⟨"FourTongues$Machine", "fails", "(II)V"⟩, 17) := ⟨⟨by decide +kernel, by decide +kernel⟩, List.mem_of_getElem? (i := 292) (by decide +kernel), List.mem_of_getElem? (i := 1294) (by decide +kernel), List.mem_of_getElem? (i := 1295) (by decide +kernel)⟩
theorem lw_p83 : lw_okq (⟨"FourTongues$Machine", "endWithAnswer", "()V"⟩, 17) := ⟨⟨by decide +kernel, by decide +kernel⟩, List.mem_of_getElem? (i := 292) (by decide +kernel), List.mem_of_getElem? (i := 1298) (by decide +kernel), List.mem_of_getElem? (i := 1299) (by decide +kernel)⟩
theorem lw_p84 : lw_okq (⟨"FourTongues$Machine", "lengthAt", "(J)I"⟩, 17) := ⟨⟨by decide +kernel, by decide +kernel⟩, List.mem_of_getElem? (i := 292) (by decide +kernel), List.mem_of_getElem? (i := 1302) (by decide +kernel), List.mem_of_getElem? (i := 1303) (by decide +kernel)⟩
theorem lw_p85 : lw_okq (⟨"FourTongues$Machine", "workOut", "()V"⟩, 17) := ⟨⟨by decide +kernel, by decide +kernel⟩, List.mem_of_getElem? (i := 292) (by decide +kernel), List.mem_of_getElem? (i := 1319) (by decide +kernel), List.mem_of_getElem? (i := 1320) (by decide +kernel)⟩
theorem lw_p86 : lw_okq (⟨"FourTongues$Machine", "store", "(I)V"⟩, 17) := ⟨⟨by decide +kernel, by decide +kernel⟩, List.mem_of_getElem? (i := 292) (by decide +kernel), List.mem_of_getElem? (i := 1331) (by decide +kernel), List.mem_of_getElem? (i := 1332) (by decide +kernel)⟩
theorem lw_p87 : lw_okq (⟨"FourTongues$Machine", "dropValue", "()V"⟩, 17) := ⟨⟨by decide +kernel, by decide +kernel⟩, List.mem_of_getElem? (i := 292) (by decide +kernel), List.mem_of_getElem? (i := 1335) (by decide +kernel), List.mem_of_getElem? (i := 1336) (by decide +kernel)⟩
theorem lw_p88 : lw_okq (⟨"FourTongues$Machine", "sign", "(I)V"⟩, 17) := ⟨⟨by decide +kernel, by decide +kernel⟩, List.mem_of_getElem? (i := 292) (by decide +kernel), List.mem_of_getElem? (i := 1339) (by decide +kernel), List.mem_of_getElem? (i := 1340) (by decide +kernel)⟩
theorem lw_p89 : lw_okq (⟨"FourTongues$Machine", "areSame", "(II)Z"⟩, 17) := ⟨⟨by decide +kernel, by decide +kernel⟩, List.mem_of_getElem? (i := 292) (by decide +kernel), List.mem_of_getElem? (i := 1343) (by decide +kernel), List.mem_of_getElem? (i := 1344) (by decide +kernel)⟩
theorem lw_p90 : lw_okq (⟨"FourTongues$Machine", "replaceParts", "(II)V"⟩, 17) := ⟨⟨by decide +kernel, by decide +kernel⟩, List.mem_of_getElem? (i := 292) (by decide +kernel), List.mem_of_getElem? (i := 1348) (by decide +kernel), List.mem_of_getElem? (i := 1349) (by decide +kernel)⟩
theorem lw_p91 : lw_okq (⟨"FourTongues$Machine", "isTrue", "(II)Z"⟩, 17) := ⟨⟨by decide +kernel, by decide +kernel⟩, List.mem_of_getElem? (i := 292) (by decide +kernel), List.mem_of_getElem? (i := 1352) (by decide +kernel), List.mem_of_getElem? (i := 1353) (by decide +kernel)⟩
theorem lw_p92 : lw_okq (⟨"FourTongues$Machine", "reckonReals", "(II)I"⟩, 17) := ⟨⟨by decide +kernel, by decide +kernel⟩, List.mem_of_getElem? (i := 292) (by decide +kernel), List.mem_of_getElem? (i := 1362) (by decide +kernel), List.mem_of_getElem? (i := 1363) (by decide +kernel)⟩
theorem lw_p93 : lw_okq (⟨"FourTongues$Machine", "reckonWholes", "(II)I"⟩, 17) := ⟨⟨by decide +kernel, by decide +kernel⟩, List.mem_of_getElem? (i := 292) (by decide +kernel), List.mem_of_getElem? (i := 1379) (by decide +kernel), List.mem_of_getElem? (i := 1380) (by decide +kernel)⟩
theorem lw_p94 : lw_okq (⟨"FourTongues$Machine", "negate", "()V"⟩, 17) := ⟨⟨by decide +kernel, by decide +kernel⟩, List.mem_of_getElem? (i := 292) (by decide +kernel), List.mem_of_getElem? (i := 1393) (by decide +kernel), List.mem_of_getElem? (i := 1394) (by decide +kernel)⟩
theorem lw_p95 : lw_okq (⟨"FourTongues$Machine", "newArray", "()V"⟩, 17) := ⟨⟨by decide +kernel, by decide +kernel⟩, List.mem_of_getElem? (i := 292) (by decide +kernel), List.mem_of_getElem? (i := 1397) (by decide +kernel), List.mem_of_getElem? (i := 1398) (by decide +kernel)⟩
def lw_privs_6 : List (MethodName × Nat) := [(⟨"FourTongues$Machine", "top", "()I"⟩, 17), (⟨"FourTongues$Machine", "giveAnswer", "()V"⟩, 17), (⟨"FourTongues$Machine", "fails", "(II)V"⟩, 17), (⟨"FourTongues$Machine", "endWithAnswer", "()V"⟩, 17), (⟨"FourTongues$Machine", "lengthAt", "(J)I"⟩, 17), (⟨"FourTongues$Machine", "workOut", "()V"⟩, 17), (⟨"FourTongues$Machine", "store", "(I)V"⟩, 17), (⟨"FourTongues$Machine", "dropValue", "()V"⟩, 17), (⟨"FourTongues$Machine", "sign", "(I)V"⟩, 17), (⟨"FourTongues$Machine", "areSame", "(II)Z"⟩, 17), (⟨"FourTongues$Machine", "replaceParts", "(II)V"⟩, 17), (⟨"FourTongues$Machine", "isTrue", "(II)Z"⟩, 17), (⟨"FourTongues$Machine", "reckonReals", "(II)I"⟩, 17), (⟨"FourTongues$Machine", "reckonWholes", "(II)I"⟩, 17), (⟨"FourTongues$Machine", "negate", "()V"⟩, 17), (⟨"FourTongues$Machine", "newArray", "()V"⟩, 17)]
theorem lw_r6 : ∀ q ∈ lw_privs_6, lw_okq q := List.forall_mem_cons.mpr ⟨lw_p80, List.forall_mem_cons.mpr ⟨lw_p81, List.forall_mem_cons.mpr ⟨lw_p82, List.forall_mem_cons.mpr ⟨lw_p83, List.forall_mem_cons.mpr ⟨lw_p84, List.forall_mem_cons.mpr ⟨lw_p85, List.forall_mem_cons.mpr ⟨lw_p86, List.forall_mem_cons.mpr ⟨lw_p87, List.forall_mem_cons.mpr ⟨lw_p88, List.forall_mem_cons.mpr ⟨lw_p89, List.forall_mem_cons.mpr ⟨lw_p90, List.forall_mem_cons.mpr ⟨lw_p91, List.forall_mem_cons.mpr ⟨lw_p92, List.forall_mem_cons.mpr ⟨lw_p93, List.forall_mem_cons.mpr ⟨lw_p94, List.forall_mem_cons.mpr ⟨lw_p95, fun _ h => absurd h List.not_mem_nil⟩⟩⟩⟩⟩⟩⟩⟩⟩⟩⟩⟩⟩⟩⟩⟩
theorem lw_p96 : lw_okq (⟨"FourTongues$Machine", "smallWhole", "(I)I"⟩, 17) := ⟨⟨by decide +kernel, by decide +kernel⟩, List.mem_of_getElem? (i := 292) (by decide +kernel), List.mem_of_getElem? (i := 1401) (by decide +kernel), List.mem_of_getElem? (i := 1402) (by decide +kernel)⟩
theorem lw_p97 : lw_okq (⟨"FourTongues$Machine", "lengthOfArray", "()V"⟩, 17) := ⟨⟨by decide +kernel, by decide +kernel⟩, List.mem_of_getElem? (i := 292) (by decide +kernel), List.mem_of_getElem? (i := 1407) (by decide +kernel), List.mem_of_getElem? (i := 1408) (by decide +kernel)⟩
theorem lw_p98 : lw_okq (⟨"FourTongues$Machine", "cellOfArray", "()V"⟩, 17) := ⟨⟨by decide +kernel, by decide +kernel⟩, List.mem_of_getElem? (i := 292) (by decide +kernel), List.mem_of_getElem? (i := 1411) (by decide +kernel), List.mem_of_getElem? (i := 1412) (by decide +kernel)⟩
theorem lw_p99 : lw_okq (⟨"FourTongues$Machine", "whatFailsAsArray", "(I)I"⟩, 17) := ⟨⟨by decide +kernel, by decide +kernel⟩, List.mem_of_getElem? (i := 292) (by decide +kernel), List.mem_of_getElem? (i := 1415) (by decide +kernel), List.mem_of_getElem? (i := 1416) (by decide +kernel)⟩
theorem lw_p100 : lw_okq (⟨"FourTongues$Machine", "whatFailsAsIndex", "(II)I"⟩, 17) := ⟨⟨by decide +kernel, by decide +kernel⟩, List.mem_of_getElem? (i := 292) (by decide +kernel), List.mem_of_getElem? (i := 1419) (by decide +kernel), List.mem_of_getElem? (i := 1420) (by decide +kernel)⟩
theorem lw_p101 : lw_okq (⟨"FourTongues$Machine", "tongueOfArray", "(I)I"⟩, 17) := ⟨⟨by decide +kernel, by decide +kernel⟩, List.mem_of_getElem? (i := 292) (by decide +kernel), List.mem_of_getElem? (i := 1423) (by decide +kernel), List.mem_of_getElem? (i := 1424) (by decide +kernel)⟩
theorem lw_p102 : lw_okq (⟨"FourTongues$Machine", "cellAt", "(II)I"⟩, 17) := ⟨⟨by decide +kernel, by decide +kernel⟩, List.mem_of_getElem? (i := 292) (by decide +kernel), List.mem_of_getElem? (i := 1427) (by decide +kernel), List.mem_of_getElem? (i := 1428) (by decide +kernel)⟩
theorem lw_p103 : lw_okq (⟨"FourTongues$Machine", "putIntoArray", "()V"⟩, 17) := ⟨⟨by decide +kernel, by decide +kernel⟩, List.mem_of_getElem? (i := 292) (by decide +kernel), List.mem_of_getElem? (i := 1431) (by decide +kernel), List.mem_of_getElem? (i := 1432) (by decide +kernel)⟩
theorem lw_p104 : lw_okq (⟨"FourTongues$Machine", "leaveIfGoing", "()V"⟩, 17) := ⟨⟨by decide +kernel, by decide +kernel⟩, List.mem_of_getElem? (i := 292) (by decide +kernel), List.mem_of_getElem? (i := 1435) (by decide +kernel), List.mem_of_getElem? (i := 1436) (by decide +kernel)⟩
theorem lw_p105 : lw_okq (⟨"FourTongues$Machine", "callNamed", "(II)V"⟩, 17) := ⟨⟨by decide +kernel, by decide +kernel⟩, List.mem_of_getElem? (i := 292) (by decide +kernel), List.mem_of_getElem? (i := 1439) (by decide +kernel), List.mem_of_getElem? (i := 1440) (by decide +kernel)⟩
theorem lw_p106 : lw_okq (⟨"FourTongues$Machine", "whatFailsGoing", "(II)I"⟩, 17) := ⟨⟨by decide +kernel, by decide +kernel⟩, List.mem_of_getElem? (i := 292) (by decide +kernel), List.mem_of_getElem? (i := 1444) (by decide +kernel), List.mem_of_getElem? (i := 1445) (by decide +kernel)⟩
theorem lw_p107 : lw_okq (⟨"FourTongues$Machine", "callHeld", "(I)V"⟩, 17) := ⟨⟨by decide +kernel, by decide +kernel⟩, List.mem_of_getElem? (i := 292) (by decide +kernel), List.mem_of_getElem? (i := 1452) (by decide +kernel), List.mem_of_getElem? (i := 1453) (by decide +kernel)⟩
theorem lw_p108 : lw_okq (⟨"FourTongues$Machine", "functionItself", "(II)V"⟩, 17) := ⟨⟨by decide +kernel, by decide +kernel⟩, List.mem_of_getElem? (i := 292) (by decide +kernel), List.mem_of_getElem? (i := 1457) (by decide +kernel), List.mem_of_getElem? (i := 1458) (by decide +kernel)⟩
theorem lw_p109 : lw_okq (⟨"FourTongues$Machine", "tagOfTop", "()V"⟩, 17) := ⟨⟨by decide +kernel, by decide +kernel⟩, List.mem_of_getElem? (i := 292) (by decide +kernel), List.mem_of_getElem? (i := 1461) (by decide +kernel), List.mem_of_getElem? (i := 1462) (by decide +kernel)⟩
theorem lw_p110 : lw_okq (⟨"FourTongues$Machine", "failsWithTop", "(I)V"⟩, 17) := ⟨⟨by decide +kernel, by decide +kernel⟩, List.mem_of_getElem? (i := 292) (by decide +kernel), List.mem_of_getElem? (i := 1465) (by decide +kernel), List.mem_of_getElem? (i := 1466) (by decide +kernel)⟩
theorem lw_p111 : lw_okq (⟨"FourTongues$Machine", "goElsewhere", "()V"⟩, 17) := ⟨⟨by decide +kernel, by decide +kernel⟩, List.mem_of_getElem? (i := 292) (by decide +kernel), List.mem_of_getElem? (i := 1469) (by decide +kernel), List.mem_of_getElem? (i := 1470) (by decide +kernel)⟩
def lw_privs_7 : List (MethodName × Nat) := [(⟨"FourTongues$Machine", "smallWhole", "(I)I"⟩, 17), (⟨"FourTongues$Machine", "lengthOfArray", "()V"⟩, 17), (⟨"FourTongues$Machine", "cellOfArray", "()V"⟩, 17), (⟨"FourTongues$Machine", "whatFailsAsArray", "(I)I"⟩, 17), (⟨"FourTongues$Machine", "whatFailsAsIndex", "(II)I"⟩, 17), (⟨"FourTongues$Machine", "tongueOfArray", "(I)I"⟩, 17), (⟨"FourTongues$Machine", "cellAt", "(II)I"⟩, 17), (⟨"FourTongues$Machine", "putIntoArray", "()V"⟩, 17), (⟨"FourTongues$Machine", "leaveIfGoing", "()V"⟩, 17), (⟨"FourTongues$Machine", "callNamed", "(II)V"⟩, 17), (⟨"FourTongues$Machine", "whatFailsGoing", "(II)I"⟩, 17), (⟨"FourTongues$Machine", "callHeld", "(I)V"⟩, 17), (⟨"FourTongues$Machine", "functionItself", "(II)V"⟩, 17), (⟨"FourTongues$Machine", "tagOfTop", "()V"⟩, 17), (⟨"FourTongues$Machine", "failsWithTop", "(I)V"⟩, 17), (⟨"FourTongues$Machine", "goElsewhere", "()V"⟩, 17)]
theorem lw_r7 : ∀ q ∈ lw_privs_7, lw_okq q := List.forall_mem_cons.mpr ⟨lw_p96, List.forall_mem_cons.mpr ⟨lw_p97, List.forall_mem_cons.mpr ⟨lw_p98, List.forall_mem_cons.mpr ⟨lw_p99, List.forall_mem_cons.mpr ⟨lw_p100, List.forall_mem_cons.mpr ⟨lw_p101, List.forall_mem_cons.mpr ⟨lw_p102, List.forall_mem_cons.mpr ⟨lw_p103, List.forall_mem_cons.mpr ⟨lw_p104, List.forall_mem_cons.mpr ⟨lw_p105, List.forall_mem_cons.mpr ⟨lw_p106, List.forall_mem_cons.mpr ⟨lw_p107, List.forall_mem_cons.mpr ⟨lw_p108, List.forall_mem_cons.mpr ⟨lw_p109, List.forall_mem_cons.mpr ⟨lw_p110, List.forall_mem_cons.mpr ⟨lw_p111, fun _ h => absurd h List.not_mem_nil⟩⟩⟩⟩⟩⟩⟩⟩⟩⟩⟩⟩⟩⟩⟩⟩
theorem lw_p112 : lw_okq (⟨"FourTongues$Machine", "question", "(I)V"⟩, 17) := ⟨⟨by decide +kernel, by decide +kernel⟩, List.mem_of_getElem? (i := 292) (by decide +kernel), List.mem_of_getElem? (i := 1473) (by decide +kernel), List.mem_of_getElem? (i := 1474) (by decide +kernel)⟩
theorem lw_p113 : lw_okq (⟨"FourTongues$Machine", "keepMark", "()V"⟩, 17) := ⟨⟨by decide +kernel, by decide +kernel⟩, List.mem_of_getElem? (i := 292) (by decide +kernel), List.mem_of_getElem? (i := 1477) (by decide +kernel), List.mem_of_getElem? (i := 1478) (by decide +kernel)⟩
theorem lw_p114 : lw_okq (⟨"FourTongues$Machine", "failWithCode", "()V"⟩, 17) := ⟨⟨by decide +kernel, by decide +kernel⟩, List.mem_of_getElem? (i := 292) (by decide +kernel), List.mem_of_getElem? (i := 1481) (by decide +kernel), List.mem_of_getElem? (i := 1482) (by decide +kernel)⟩
theorem lw_p115 : lw_okq (⟨"FourTongues$Machine", "exitTo", "(I)V"⟩, 17) := ⟨⟨by decide +kernel, by decide +kernel⟩, List.mem_of_getElem? (i := 292) (by decide +kernel), List.mem_of_getElem? (i := 1485) (by decide +kernel), List.mem_of_getElem? (i := 1486) (by decide +kernel)⟩
theorem lw_p116 : lw_okq (⟨"FourTongues$Machine", "jumpIfFails", "(II)V"⟩, 17) := ⟨⟨by decide +kernel, by decide +kernel⟩, List.mem_of_getElem? (i := 292) (by decide +kernel), List.mem_of_getElem? (i := 1498) (by decide +kernel), List.mem_of_getElem? (i := 1499) (by decide +kernel)⟩
theorem lw_p117 : lw_okq (⟨"FourTongues$Machine", "jumpIfWell", "(I)V"⟩, 17) := ⟨⟨by decide +kernel, by decide +kernel⟩, List.mem_of_getElem? (i := 292) (by decide +kernel), List.mem_of_getElem? (i := 1502) (by decide +kernel), List.mem_of_getElem? (i := 1503) (by decide +kernel)⟩
theorem lw_p118 : lw_okq (⟨"FourTongues$Machine", "finished", "(I)V"⟩, 17) := ⟨⟨by decide +kernel, by decide +kernel⟩, List.mem_of_getElem? (i := 292) (by decide +kernel), List.mem_of_getElem? (i := 1510) (by decide +kernel), List.mem_of_getElem? (i := 1511) (by decide +kernel)⟩
theorem lw_p119 : lw_okq (⟨"FourTonguesModel", "next", "()V"⟩, 106) := ⟨⟨by decide +kernel, by decide +kernel⟩, List.mem_of_getElem? (i := 1576) (by decide +kernel), List.mem_of_getElem? (i := 1921) (by decide +kernel), List.mem_of_getElem? (i := 1922) (by decide +kernel)⟩
theorem lw_p120 : lw_okq (⟨"FourTonguesModel", "isWrong", "()Z"⟩, 106) := ⟨⟨by decide +kernel, by decide +kernel⟩, List.mem_of_getElem? (i := 1576) (by decide +kernel), List.mem_of_getElem? (i := 1925) (by decide +kernel), List.mem_of_getElem? (i := 1926) (by decide +kernel)⟩
theorem lw_p121 : lw_okq (⟨"FourTonguesModel", "here", "()I"⟩, 106) := ⟨⟨by decide +kernel, by decide +kernel⟩, List.mem_of_getElem? (i := 1576) (by decide +kernel), List.mem_of_getElem? (i := 1929) (by decide +kernel), List.mem_of_getElem? (i := 1930) (by decide +kernel)⟩
theorem lw_p122 : lw_okq (⟨"FourTonguesModel", "spells", "()V"⟩, 106) := ⟨⟨by decide +kernel, by decide +kernel⟩, List.mem_of_getElem? (i := 1576) (by decide +kernel), List.mem_of_getElem? (i := 1936) (by decide +kernel), List.mem_of_getElem? (i := 1937) (by decide +kernel)⟩
theorem lw_p123 : lw_okq (⟨"FourTonguesModel", "wrong", "(I)V"⟩, 106) := ⟨⟨by decide +kernel, by decide +kernel⟩, List.mem_of_getElem? (i := 1576) (by decide +kernel), List.mem_of_getElem? (i := 1943) (by decide +kernel), List.mem_of_getElem? (i := 1944) (by decide +kernel)⟩
theorem lw_p124 : lw_okq (⟨"FourTonguesModel", "counts", "()V"⟩, 106) := ⟨⟨by decide +kernel, by decide +kernel⟩, List.mem_of_getElem? (i := 1576) (by decide +kernel), List.mem_of_getElem? (i := 1951) (by decide +kernel), List.mem_of_getElem? (i := 1952) (by decide +kernel)⟩
theorem lw_p125 : lw_okq (⟨"FourTonguesModel", "whole", "(J)Z"⟩, 106) := ⟨⟨by decide +kernel, by decide +kernel⟩, List.mem_of_getElem? (i := 1576) (by decide +kernel), List.mem_of_getElem? (i := 1958) (by decide +kernel), List.mem_of_getElem? (i := 1959) (by decide +kernel)⟩
theorem lw_p126 : lw_okq (⟨"FourTonguesModel", "signs", "(I)V"⟩, 106) := ⟨⟨by decide +kernel, by decide +kernel⟩, List.mem_of_getElem? (i := 1576) (by decide +kernel), List.mem_of_getElem? (i := 1975) (by decide +kernel), List.mem_of_getElem? (i := 1976) (by decide +kernel)⟩
theorem lw_p127 : lw_okq (⟨"FourTonguesModel", "text", "()V"⟩, 106) := ⟨⟨by decide +kernel, by decide +kernel⟩, List.mem_of_getElem? (i := 1576) (by decide +kernel), List.mem_of_getElem? (i := 1979) (by decide +kernel), List.mem_of_getElem? (i := 1980) (by decide +kernel)⟩
def lw_privs_8 : List (MethodName × Nat) := [(⟨"FourTongues$Machine", "question", "(I)V"⟩, 17), (⟨"FourTongues$Machine", "keepMark", "()V"⟩, 17), (⟨"FourTongues$Machine", "failWithCode", "()V"⟩, 17), (⟨"FourTongues$Machine", "exitTo", "(I)V"⟩, 17), (⟨"FourTongues$Machine", "jumpIfFails", "(II)V"⟩, 17), (⟨"FourTongues$Machine", "jumpIfWell", "(I)V"⟩, 17), (⟨"FourTongues$Machine", "finished", "(I)V"⟩, 17), (⟨"FourTonguesModel", "next", "()V"⟩, 106), (⟨"FourTonguesModel", "isWrong", "()Z"⟩, 106), (⟨"FourTonguesModel", "here", "()I"⟩, 106), (⟨"FourTonguesModel", "spells", "()V"⟩, 106), (⟨"FourTonguesModel", "wrong", "(I)V"⟩, 106), (⟨"FourTonguesModel", "counts", "()V"⟩, 106), (⟨"FourTonguesModel", "whole", "(J)Z"⟩, 106), (⟨"FourTonguesModel", "signs", "(I)V"⟩, 106), (⟨"FourTonguesModel", "text", "()V"⟩, 106)]
theorem lw_r8 : ∀ q ∈ lw_privs_8, lw_okq q := List.forall_mem_cons.mpr ⟨lw_p112, List.forall_mem_cons.mpr ⟨lw_p113, List.forall_mem_cons.mpr ⟨lw_p114, List.forall_mem_cons.mpr ⟨lw_p115, List.forall_mem_cons.mpr ⟨lw_p116, List.forall_mem_cons.mpr ⟨lw_p117, List.forall_mem_cons.mpr ⟨lw_p118, List.forall_mem_cons.mpr ⟨lw_p119, List.forall_mem_cons.mpr ⟨lw_p120, List.forall_mem_cons.mpr ⟨lw_p121, List.forall_mem_cons.mpr ⟨lw_p122, List.forall_mem_cons.mpr ⟨lw_p123, List.forall_mem_cons.mpr ⟨lw_p124, List.forall_mem_cons.mpr ⟨lw_p125, List.forall_mem_cons.mpr ⟨lw_p126, List.forall_mem_cons.mpr ⟨lw_p127, fun _ h => absurd h List.not_mem_nil⟩⟩⟩⟩⟩⟩⟩⟩⟩⟩⟩⟩⟩⟩⟩⟩
theorem lw_p128 : lw_okq (⟨"FourTonguesModel", "isWord", "(I)Z"⟩, 106) := ⟨⟨by decide +kernel, by decide +kernel⟩, List.mem_of_getElem? (i := 1576) (by decide +kernel), List.mem_of_getElem? (i := 1983) (by decide +kernel), List.mem_of_getElem? (i := 1984) (by decide +kernel)⟩
theorem lw_p129 : lw_okq (⟨"FourTonguesModel", "function", "()V"⟩, 106) := ⟨⟨by decide +kernel, by decide +kernel⟩, List.mem_of_getElem? (i := 1576) (by decide +kernel), List.mem_of_getElem? (i := 1987) (by decide +kernel), List.mem_of_getElem? (i := 1988) (by decide +kernel)⟩
theorem lw_p130 : lw_okq (⟨"FourTonguesModel", "takesName", "()J"⟩, 106) := ⟨⟨by decide +kernel, by decide +kernel⟩, List.mem_of_getElem? (i := 1576) (by decide +kernel), List.mem_of_getElem? (i := 1991) (by decide +kernel), List.mem_of_getElem? (i := 1992) (by decide +kernel)⟩
theorem lw_p131 : lw_okq (⟨"FourTonguesModel", "wrong3", "(I)V"⟩, 106) := ⟨⟨by decide +kernel, by decide +kernel⟩, List.mem_of_getElem? (i := 1576) (by decide +kernel), List.mem_of_getElem? (i := 1995) (by decide +kernel), List.mem_of_getElem? (i := 1996) (by decide +kernel)⟩
theorem lw_p132 : lw_okq (⟨"FourTonguesModel", "wrong2", "(I)V"⟩, 106) := ⟨⟨by decide +kernel, by decide +kernel⟩, List.mem_of_getElem? (i := 1576) (by decide +kernel), List.mem_of_getElem? (i := 1999) (by decide +kernel), List.mem_of_getElem? (i := 2000) (by decide +kernel)⟩
theorem lw_p133 : lw_okq (⟨"FourTonguesModel", "params", "()V"⟩, 106) := ⟨⟨by decide +kernel, by decide +kernel⟩, List.mem_of_getElem? (i := 1576) (by decide +kernel), List.mem_of_getElem? (i := 2003) (by decide +kernel), List.mem_of_getElem? (i := 2004) (by decide +kernel)⟩
theorem lw_p134 : lw_okq (⟨"FourTonguesModel", "opensWith", "(I)V"⟩, 106) := ⟨⟨by decide +kernel, by decide +kernel⟩, List.mem_of_getElem? (i := 1576) (by decide +kernel), List.mem_of_getElem? (i := 2007) (by decide +kernel), List.mem_of_getElem? (i := 2008) (by decide +kernel)⟩
theorem lw_p135 : lw_okq (⟨"FourTonguesModel", "isSign", "(I)Z"⟩, 106) := ⟨⟨by decide +kernel, by decide +kernel⟩, List.mem_of_getElem? (i := 1576) (by decide +kernel), List.mem_of_getElem? (i := 2011) (by decide +kernel), List.mem_of_getElem? (i := 2012) (by decide +kernel)⟩
theorem lw_p136 : lw_okq (⟨"FourTonguesModel", "opens", "()V"⟩, 106) := ⟨⟨by decide +kernel, by decide +kernel⟩, List.mem_of_getElem? (i := 1576) (by decide +kernel), List.mem_of_getElem? (i := 2015) (by decide +kernel), List.mem_of_getElem? (i := 2016) (by decide +kernel)⟩
theorem lw_p137 : lw_okq (⟨"FourTonguesModel", "slotOf", "(J)I"⟩, 106) := ⟨⟨by decide +kernel, by decide +kernel⟩, List.mem_of_getElem? (i := 1576) (by decide +kernel), List.mem_of_getElem? (i := 2019) (by decide +kernel), List.mem_of_getElem? (i := 2020) (by decide +kernel)⟩
theorem lw_p138 : lw_okq (⟨"FourTonguesModel", "newSlot", "(J)I"⟩, 106) := ⟨⟨by decide +kernel, by decide +kernel⟩, List.mem_of_getElem? (i := 1576) (by decide +kernel), List.mem_of_getElem? (i := 2023) (by decide +kernel), List.mem_of_getElem? (i := 2024) (by decide +kernel)⟩
theorem lw_p139 : lw_okq (⟨"FourTonguesModel", "takesSign", "(I)Z"⟩, 106) := ⟨⟨by decide +kernel, by decide +kernel⟩, List.mem_of_getElem? (i := 1576) (by decide +kernel), List.mem_of_getElem? (i := 2027) (by decide +kernel), List.mem_of_getElem? (i := 2028) (by decide +kernel)⟩
theorem lw_p140 : lw_okq (⟨"FourTonguesModel", "closesWith", "(I)V"⟩, 106) := ⟨⟨by decide +kernel, by decide +kernel⟩, List.mem_of_getElem? (i := 1576) (by decide +kernel), List.mem_of_getElem? (i := 2031) (by decide +kernel), List.mem_of_getElem? (i := 2032) (by decide +kernel)⟩
theorem lw_p141 : lw_okq (⟨"FourTonguesModel", "wantsSign", "(I)V"⟩, 106) := ⟨⟨by decide +kernel, by decide +kernel⟩, List.mem_of_getElem? (i := 1576) (by decide +kernel), List.mem_of_getElem? (i := 2035) (by decide +kernel), List.mem_of_getElem? (i := 2036) (by decide +kernel)⟩
theorem lw_p142 : lw_okq (⟨"FourTonguesModel", "block", "()V"⟩, 106) := ⟨⟨by decide +kernel, by decide +kernel⟩, List.mem_of_getElem? (i := 1576) (by decide +kernel), List.mem_of_getElem? (i := 2039) (by decide +kernel), List.mem_of_getElem? (i := 2040) (by decide +kernel)⟩
theorem lw_p143 : lw_okq (⟨"FourTonguesModel", "statement", "()V"⟩, 106) := ⟨⟨by decide +kernel, by decide +kernel⟩, List.mem_of_getElem? (i := 1576) (by decide +kernel), List.mem_of_getElem? (i := 2043) (by decide +kernel), List.mem_of_getElem? (i := 2044) (by decide +kernel)⟩
def lw_privs_9 : List (MethodName × Nat) := [(⟨"FourTonguesModel", "isWord", "(I)Z"⟩, 106), (⟨"FourTonguesModel", "function", "()V"⟩, 106), (⟨"FourTonguesModel", "takesName", "()J"⟩, 106), (⟨"FourTonguesModel", "wrong3", "(I)V"⟩, 106), (⟨"FourTonguesModel", "wrong2", "(I)V"⟩, 106), (⟨"FourTonguesModel", "params", "()V"⟩, 106), (⟨"FourTonguesModel", "opensWith", "(I)V"⟩, 106), (⟨"FourTonguesModel", "isSign", "(I)Z"⟩, 106), (⟨"FourTonguesModel", "opens", "()V"⟩, 106), (⟨"FourTonguesModel", "slotOf", "(J)I"⟩, 106), (⟨"FourTonguesModel", "newSlot", "(J)I"⟩, 106), (⟨"FourTonguesModel", "takesSign", "(I)Z"⟩, 106), (⟨"FourTonguesModel", "closesWith", "(I)V"⟩, 106), (⟨"FourTonguesModel", "wantsSign", "(I)V"⟩, 106), (⟨"FourTonguesModel", "block", "()V"⟩, 106), (⟨"FourTonguesModel", "statement", "()V"⟩, 106)]
theorem lw_r9 : ∀ q ∈ lw_privs_9, lw_okq q := List.forall_mem_cons.mpr ⟨lw_p128, List.forall_mem_cons.mpr ⟨lw_p129, List.forall_mem_cons.mpr ⟨lw_p130, List.forall_mem_cons.mpr ⟨lw_p131, List.forall_mem_cons.mpr ⟨lw_p132, List.forall_mem_cons.mpr ⟨lw_p133, List.forall_mem_cons.mpr ⟨lw_p134, List.forall_mem_cons.mpr ⟨lw_p135, List.forall_mem_cons.mpr ⟨lw_p136, List.forall_mem_cons.mpr ⟨lw_p137, List.forall_mem_cons.mpr ⟨lw_p138, List.forall_mem_cons.mpr ⟨lw_p139, List.forall_mem_cons.mpr ⟨lw_p140, List.forall_mem_cons.mpr ⟨lw_p141, List.forall_mem_cons.mpr ⟨lw_p142, List.forall_mem_cons.mpr ⟨lw_p143, fun _ h => absurd h List.not_mem_nil⟩⟩⟩⟩⟩⟩⟩⟩⟩⟩⟩⟩⟩⟩⟩⟩
theorem lw_p144 : lw_okq (⟨"FourTonguesModel", "emit", "(IJI)I"⟩, 106) := ⟨⟨by decide +kernel, by decide +kernel⟩, List.mem_of_getElem? (i := 1576) (by decide +kernel), List.mem_of_getElem? (i := 2047) (by decide +kernel), List.mem_of_getElem? (i := 2048) (by decide +kernel)⟩
theorem lw_p145 : lw_okq (⟨"FourTonguesModel", "lets", "()V"⟩, 106) := ⟨⟨by decide +kernel, by decide +kernel⟩, List.mem_of_getElem? (i := 1576) (by decide +kernel), List.mem_of_getElem? (i := 2052) (by decide +kernel), List.mem_of_getElem? (i := 2053) (by decide +kernel)⟩
theorem lw_p146 : lw_okq (⟨"FourTonguesModel", "anySlot", "(J)I"⟩, 106) := ⟨⟨by decide +kernel, by decide +kernel⟩, List.mem_of_getElem? (i := 1576) (by decide +kernel), List.mem_of_getElem? (i := 2056) (by decide +kernel), List.mem_of_getElem? (i := 2057) (by decide +kernel)⟩
theorem lw_p147 : lw_okq (⟨"FourTonguesModel", "expr", "()V"⟩, 106) := ⟨⟨by decide +kernel, by decide +kernel⟩, List.mem_of_getElem? (i := 1576) (by decide +kernel), List.mem_of_getElem? (i := 2060) (by decide +kernel), List.mem_of_getElem? (i := 2061) (by decide +kernel)⟩
theorem lw_p148 : lw_okq (⟨"FourTonguesModel", "question", "()V"⟩, 106) := ⟨⟨by decide +kernel, by decide +kernel⟩, List.mem_of_getElem? (i := 1576) (by decide +kernel), List.mem_of_getElem? (i := 2064) (by decide +kernel), List.mem_of_getElem? (i := 2065) (by decide +kernel)⟩
theorem lw_p149 : lw_okq (⟨"FourTonguesModel", "sum", "()V"⟩, 106) := ⟨⟨by decide +kernel, by decide +kernel⟩, List.mem_of_getElem? (i := 1576) (by decide +kernel), List.mem_of_getElem? (i := 2068) (by decide +kernel), List.mem_of_getElem? (i := 2069) (by decide +kernel)⟩
theorem lw_p150 : lw_okq (⟨"FourTonguesModel", "product", "()V"⟩, 106) := ⟨⟨by decide +kernel, by decide +kernel⟩, List.mem_of_getElem? (i := 1576) (by decide +kernel), List.mem_of_getElem? (i := 2072) (by decide +kernel), List.mem_of_getElem? (i := 2073) (by decide +kernel)⟩
theorem lw_p151 : lw_okq (⟨"FourTonguesModel", "unary", "()V"⟩, 106) := ⟨⟨by decide +kernel, by decide +kernel⟩, List.mem_of_getElem? (i := 1576) (by decide +kernel), List.mem_of_getElem? (i := 2076) (by decide +kernel), List.mem_of_getElem? (i := 2077) (by decide +kernel)⟩
theorem lw_p152 : lw_okq (⟨"FourTonguesModel", "skips", "(I)I"⟩, 106) := ⟨⟨by decide +kernel, by decide +kernel⟩, List.mem_of_getElem? (i := 1576) (by decide +kernel), List.mem_of_getElem? (i := 2080) (by decide +kernel), List.mem_of_getElem? (i := 2081) (by decide +kernel)⟩
theorem lw_p153 : lw_okq (⟨"FourTonguesModel", "landsSkip", "(I)V"⟩, 106) := ⟨⟨by decide +kernel, by decide +kernel⟩, List.mem_of_getElem? (i := 1576) (by decide +kernel), List.mem_of_getElem? (i := 2084) (by decide +kernel), List.mem_of_getElem? (i := 2085) (by decide +kernel)⟩
theorem lw_p154 : lw_okq (⟨"FourTonguesModel", "lands", "(I)V"⟩, 106) := ⟨⟨by decide +kernel, by decide +kernel⟩, List.mem_of_getElem? (i := 1576) (by decide +kernel), List.mem_of_getElem? (i := 2088) (by decide +kernel), List.mem_of_getElem? (i := 2089) (by decide +kernel)⟩
theorem lw_p155 : lw_okq (⟨"FourTonguesModel", "slot", "(IJ)I"⟩, 106) := ⟨⟨by decide +kernel, by decide +kernel⟩, List.mem_of_getElem? (i := 1576) (by decide +kernel), List.mem_of_getElem? (i := 2092) (by decide +kernel), List.mem_of_getElem? (i := 2093) (by decide +kernel)⟩
theorem lw_p156 : lw_okq (⟨"FourTonguesModel", "primary", "(IJ)V"⟩, 106) := ⟨⟨by decide +kernel, by decide +kernel⟩, List.mem_of_getElem? (i := 1576) (by decide +kernel), List.mem_of_getElem? (i := 2096) (by decide +kernel), List.mem_of_getElem? (i := 2097) (by decide +kernel)⟩
theorem lw_p157 : lw_okq (⟨"FourTonguesModel", "call", "(IJ)V"⟩, 106) := ⟨⟨by decide +kernel, by decide +kernel⟩, List.mem_of_getElem? (i := 1576) (by decide +kernel), List.mem_of_getElem? (i := 2100) (by decide +kernel), List.mem_of_getElem? (i := 2101) (by decide +kernel)⟩
theorem lw_p158 : lw_okq (⟨"FourTonguesModel", "arguments", "(I)I"⟩, 106) := ⟨⟨by decide +kernel, by decide +kernel⟩, List.mem_of_getElem? (i := 1576) (by decide +kernel), List.mem_of_getElem? (i := 2104) (by decide +kernel), List.mem_of_getElem? (i := 2105) (by decide +kernel)⟩
theorem lw_p159 : lw_okq (⟨"FourTonguesModel", "landsFrom", "(I)V"⟩, 106) := ⟨⟨by decide +kernel, by decide +kernel⟩, List.mem_of_getElem? (i := 1576) (by decide +kernel), List.mem_of_getElem? (i := 2108) (by decide +kernel), List.mem_of_getElem? (i := 2109) (by decide +kernel)⟩
def lw_privs_10 : List (MethodName × Nat) := [(⟨"FourTonguesModel", "emit", "(IJI)I"⟩, 106), (⟨"FourTonguesModel", "lets", "()V"⟩, 106), (⟨"FourTonguesModel", "anySlot", "(J)I"⟩, 106), (⟨"FourTonguesModel", "expr", "()V"⟩, 106), (⟨"FourTonguesModel", "question", "()V"⟩, 106), (⟨"FourTonguesModel", "sum", "()V"⟩, 106), (⟨"FourTonguesModel", "product", "()V"⟩, 106), (⟨"FourTonguesModel", "unary", "()V"⟩, 106), (⟨"FourTonguesModel", "skips", "(I)I"⟩, 106), (⟨"FourTonguesModel", "landsSkip", "(I)V"⟩, 106), (⟨"FourTonguesModel", "lands", "(I)V"⟩, 106), (⟨"FourTonguesModel", "slot", "(IJ)I"⟩, 106), (⟨"FourTonguesModel", "primary", "(IJ)V"⟩, 106), (⟨"FourTonguesModel", "call", "(IJ)V"⟩, 106), (⟨"FourTonguesModel", "arguments", "(I)I"⟩, 106), (⟨"FourTonguesModel", "landsFrom", "(I)V"⟩, 106)]
theorem lw_r10 : ∀ q ∈ lw_privs_10, lw_okq q := List.forall_mem_cons.mpr ⟨lw_p144, List.forall_mem_cons.mpr ⟨lw_p145, List.forall_mem_cons.mpr ⟨lw_p146, List.forall_mem_cons.mpr ⟨lw_p147, List.forall_mem_cons.mpr ⟨lw_p148, List.forall_mem_cons.mpr ⟨lw_p149, List.forall_mem_cons.mpr ⟨lw_p150, List.forall_mem_cons.mpr ⟨lw_p151, List.forall_mem_cons.mpr ⟨lw_p152, List.forall_mem_cons.mpr ⟨lw_p153, List.forall_mem_cons.mpr ⟨lw_p154, List.forall_mem_cons.mpr ⟨lw_p155, List.forall_mem_cons.mpr ⟨lw_p156, List.forall_mem_cons.mpr ⟨lw_p157, List.forall_mem_cons.mpr ⟨lw_p158, List.forall_mem_cons.mpr ⟨lw_p159, fun _ h => absurd h List.not_mem_nil⟩⟩⟩⟩⟩⟩⟩⟩⟩⟩⟩⟩⟩⟩⟩⟩
theorem lw_p160 : lw_okq (⟨"FourTonguesModel", "bang", "()V"⟩, 106) := ⟨⟨by decide +kernel, by decide +kernel⟩, List.mem_of_getElem? (i := 1576) (by decide +kernel), List.mem_of_getElem? (i := 2112) (by decide +kernel), List.mem_of_getElem? (i := 2113) (by decide +kernel)⟩
theorem lw_p161 : lw_okq (⟨"FourTonguesModel", "worded", "()V"⟩, 106) := ⟨⟨by decide +kernel, by decide +kernel⟩, List.mem_of_getElem? (i := 1576) (by decide +kernel), List.mem_of_getElem? (i := 2116) (by decide +kernel), List.mem_of_getElem? (i := 2117) (by decide +kernel)⟩
theorem lw_p162 : lw_okq (⟨"FourTonguesModel", "ofPart", "(IIII)V"⟩, 106) := ⟨⟨by decide +kernel, by decide +kernel⟩, List.mem_of_getElem? (i := 1576) (by decide +kernel), List.mem_of_getElem? (i := 2120) (by decide +kernel), List.mem_of_getElem? (i := 2121) (by decide +kernel)⟩
theorem lw_p163 : lw_okq (⟨"FourTonguesModel", "takesKind", "()I"⟩, 106) := ⟨⟨by decide +kernel, by decide +kernel⟩, List.mem_of_getElem? (i := 1576) (by decide +kernel), List.mem_of_getElem? (i := 2124) (by decide +kernel), List.mem_of_getElem? (i := 2125) (by decide +kernel)⟩
theorem lw_p164 : lw_okq (⟨"FourTonguesModel", "name", "(IJ)I"⟩, 106) := ⟨⟨by decide +kernel, by decide +kernel⟩, List.mem_of_getElem? (i := 1576) (by decide +kernel), List.mem_of_getElem? (i := 2128) (by decide +kernel), List.mem_of_getElem? (i := 2129) (by decide +kernel)⟩
theorem lw_p165 : lw_okq (⟨"FourTonguesModel", "nameOf", "(J)I"⟩, 106) := ⟨⟨by decide +kernel, by decide +kernel⟩, List.mem_of_getElem? (i := 1576) (by decide +kernel), List.mem_of_getElem? (i := 2132) (by decide +kernel), List.mem_of_getElem? (i := 2133) (by decide +kernel)⟩
theorem lw_p166 : lw_okq (⟨"FourTonguesModel", "signed", "()V"⟩, 106) := ⟨⟨by decide +kernel, by decide +kernel⟩, List.mem_of_getElem? (i := 1576) (by decide +kernel), List.mem_of_getElem? (i := 2136) (by decide +kernel), List.mem_of_getElem? (i := 2137) (by decide +kernel)⟩
theorem lw_p167 : lw_okq (⟨"FourTonguesModel", "products", "()V"⟩, 106) := ⟨⟨by decide +kernel, by decide +kernel⟩, List.mem_of_getElem? (i := 1576) (by decide +kernel), List.mem_of_getElem? (i := 2140) (by decide +kernel), List.mem_of_getElem? (i := 2141) (by decide +kernel)⟩
theorem lw_p168 : lw_okq (⟨"FourTonguesModel", "two", "(II)V"⟩, 106) := ⟨⟨by decide +kernel, by decide +kernel⟩, List.mem_of_getElem? (i := 1576) (by decide +kernel), List.mem_of_getElem? (i := 2144) (by decide +kernel), List.mem_of_getElem? (i := 2145) (by decide +kernel)⟩
theorem lw_p169 : lw_okq (⟨"FourTonguesModel", "sums", "()V"⟩, 106) := ⟨⟨by decide +kernel, by decide +kernel⟩, List.mem_of_getElem? (i := 1576) (by decide +kernel), List.mem_of_getElem? (i := 2148) (by decide +kernel), List.mem_of_getElem? (i := 2149) (by decide +kernel)⟩
theorem lw_p170 : lw_okq (⟨"FourTonguesModel", "compares", "()V"⟩, 106) := ⟨⟨by decide +kernel, by decide +kernel⟩, List.mem_of_getElem? (i := 1576) (by decide +kernel), List.mem_of_getElem? (i := 2152) (by decide +kernel), List.mem_of_getElem? (i := 2153) (by decide +kernel)⟩
theorem lw_p171 : lw_okq (⟨"FourTonguesModel", "elses", "()V"⟩, 106) := ⟨⟨by decide +kernel, by decide +kernel⟩, List.mem_of_getElem? (i := 1576) (by decide +kernel), List.mem_of_getElem? (i := 2159) (by decide +kernel), List.mem_of_getElem? (i := 2160) (by decide +kernel)⟩
theorem lw_p172 : lw_okq (⟨"FourTonguesModel", "ifs", "()V"⟩, 106) := ⟨⟨by decide +kernel, by decide +kernel⟩, List.mem_of_getElem? (i := 1576) (by decide +kernel), List.mem_of_getElem? (i := 2163) (by decide +kernel), List.mem_of_getElem? (i := 2164) (by decide +kernel)⟩
theorem lw_p173 : lw_okq (⟨"FourTonguesModel", "whiles", "(I)V"⟩, 106) := ⟨⟨by decide +kernel, by decide +kernel⟩, List.mem_of_getElem? (i := 1576) (by decide +kernel), List.mem_of_getElem? (i := 2167) (by decide +kernel), List.mem_of_getElem? (i := 2168) (by decide +kernel)⟩
theorem lw_p174 : lw_okq (⟨"FourTonguesModel", "own", "()Z"⟩, 106) := ⟨⟨by decide +kernel, by decide +kernel⟩, List.mem_of_getElem? (i := 1576) (by decide +kernel), List.mem_of_getElem? (i := 2171) (by decide +kernel), List.mem_of_getElem? (i := 2172) (by decide +kernel)⟩
theorem lw_p175 : lw_okq (⟨"FourTonguesModel", "tries", "()V"⟩, 106) := ⟨⟨by decide +kernel, by decide +kernel⟩, List.mem_of_getElem? (i := 1576) (by decide +kernel), List.mem_of_getElem? (i := 2175) (by decide +kernel), List.mem_of_getElem? (i := 2176) (by decide +kernel)⟩
def lw_privs_11 : List (MethodName × Nat) := [(⟨"FourTonguesModel", "bang", "()V"⟩, 106), (⟨"FourTonguesModel", "worded", "()V"⟩, 106), (⟨"FourTonguesModel", "ofPart", "(IIII)V"⟩, 106), (⟨"FourTonguesModel", "takesKind", "()I"⟩, 106), (⟨"FourTonguesModel", "name", "(IJ)I"⟩, 106), (⟨"FourTonguesModel", "nameOf", "(J)I"⟩, 106), (⟨"FourTonguesModel", "signed", "()V"⟩, 106), (⟨"FourTonguesModel", "products", "()V"⟩, 106), (⟨"FourTonguesModel", "two", "(II)V"⟩, 106), (⟨"FourTonguesModel", "sums", "()V"⟩, 106), (⟨"FourTonguesModel", "compares", "()V"⟩, 106), (⟨"FourTonguesModel", "elses", "()V"⟩, 106), (⟨"FourTonguesModel", "ifs", "()V"⟩, 106), (⟨"FourTonguesModel", "whiles", "(I)V"⟩, 106), (⟨"FourTonguesModel", "own", "()Z"⟩, 106), (⟨"FourTonguesModel", "tries", "()V"⟩, 106)]
theorem lw_r11 : ∀ q ∈ lw_privs_11, lw_okq q := List.forall_mem_cons.mpr ⟨lw_p160, List.forall_mem_cons.mpr ⟨lw_p161, List.forall_mem_cons.mpr ⟨lw_p162, List.forall_mem_cons.mpr ⟨lw_p163, List.forall_mem_cons.mpr ⟨lw_p164, List.forall_mem_cons.mpr ⟨lw_p165, List.forall_mem_cons.mpr ⟨lw_p166, List.forall_mem_cons.mpr ⟨lw_p167, List.forall_mem_cons.mpr ⟨lw_p168, List.forall_mem_cons.mpr ⟨lw_p169, List.forall_mem_cons.mpr ⟨lw_p170, List.forall_mem_cons.mpr ⟨lw_p171, List.forall_mem_cons.mpr ⟨lw_p172, List.forall_mem_cons.mpr ⟨lw_p173, List.forall_mem_cons.mpr ⟨lw_p174, List.forall_mem_cons.mpr ⟨lw_p175, fun _ h => absurd h List.not_mem_nil⟩⟩⟩⟩⟩⟩⟩⟩⟩⟩⟩⟩⟩⟩⟩⟩
theorem lw_p176 : lw_okq (⟨"FourTonguesModel", "takesWord", "(I)Z"⟩, 106) := ⟨⟨by decide +kernel, by decide +kernel⟩, List.mem_of_getElem? (i := 1576) (by decide +kernel), List.mem_of_getElem? (i := 2179) (by decide +kernel), List.mem_of_getElem? (i := 2180) (by decide +kernel)⟩
theorem lw_p177 : lw_okq (⟨"FourTonguesModel", "door", "(II)V"⟩, 106) := ⟨⟨by decide +kernel, by decide +kernel⟩, List.mem_of_getElem? (i := 1576) (by decide +kernel), List.mem_of_getElem? (i := 2184) (by decide +kernel), List.mem_of_getElem? (i := 2185) (by decide +kernel)⟩
theorem lw_p178 : lw_okq (⟨"FourTonguesModel", "wantsWord", "(I)V"⟩, 106) := ⟨⟨by decide +kernel, by decide +kernel⟩, List.mem_of_getElem? (i := 1576) (by decide +kernel), List.mem_of_getElem? (i := 2188) (by decide +kernel), List.mem_of_getElem? (i := 2189) (by decide +kernel)⟩
theorem lw_p179 : lw_okq (⟨"FourTonguesModel", "cleans", "()V"⟩, 106) := ⟨⟨by decide +kernel, by decide +kernel⟩, List.mem_of_getElem? (i := 1576) (by decide +kernel), List.mem_of_getElem? (i := 2192) (by decide +kernel), List.mem_of_getElem? (i := 2193) (by decide +kernel)⟩
theorem lw_p180 : lw_okq (⟨"FourTonguesModel", "plain", "()V"⟩, 106) := ⟨⟨by decide +kernel, by decide +kernel⟩, List.mem_of_getElem? (i := 1576) (by decide +kernel), List.mem_of_getElem? (i := 2196) (by decide +kernel), List.mem_of_getElem? (i := 2197) (by decide +kernel)⟩
theorem lw_p181 : lw_okq (⟨"FourTonguesModel", "named", "()V"⟩, 106) := ⟨⟨by decide +kernel, by decide +kernel⟩, List.mem_of_getElem? (i := 1576) (by decide +kernel), List.mem_of_getElem? (i := 2200) (by decide +kernel), List.mem_of_getElem? (i := 2201) (by decide +kernel)⟩
theorem lw_p182 : lw_okq (⟨"FourTonguesModel", "keeps", "()V"⟩, 106) := ⟨⟨by decide +kernel, by decide +kernel⟩, List.mem_of_getElem? (i := 1576) (by decide +kernel), List.mem_of_getElem? (i := 2204) (by decide +kernel), List.mem_of_getElem? (i := 2205) (by decide +kernel)⟩
theorem lw_p183 : lw_okq (⟨"FourTonguesModel", "goesBack", "()V"⟩, 106) := ⟨⟨by decide +kernel, by decide +kernel⟩, List.mem_of_getElem? (i := 1576) (by decide +kernel), List.mem_of_getElem? (i := 2208) (by decide +kernel), List.mem_of_getElem? (i := 2209) (by decide +kernel)⟩
theorem lw_p184 : lw_okq (⟨"FourTonguesModel", "kind", "()V"⟩, 106) := ⟨⟨by decide +kernel, by decide +kernel⟩, List.mem_of_getElem? (i := 1576) (by decide +kernel), List.mem_of_getElem? (i := 2212) (by decide +kernel), List.mem_of_getElem? (i := 2213) (by decide +kernel)⟩
theorem lw_p185 : lw_okq (⟨"FourTonguesModel", "isUnderNew", "(II)Z"⟩, 106) := ⟨⟨by decide +kernel, by decide +kernel⟩, List.mem_of_getElem? (i := 1576) (by decide +kernel), List.mem_of_getElem? (i := 2216) (by decide +kernel), List.mem_of_getElem? (i := 2217) (by decide +kernel)⟩
theorem lw_p186 : lw_okq (⟨"FourTonguesModel", "canFail", "(II)Z"⟩, 106) := ⟨⟨by decide +kernel, by decide +kernel⟩, List.mem_of_getElem? (i := 1576) (by decide +kernel), List.mem_of_getElem? (i := 2232) (by decide +kernel), List.mem_of_getElem? (i := 2233) (by decide +kernel)⟩
theorem lw_p187 : lw_okq (⟨"FourTonguesModel", "entryOf", "(II)I"⟩, 106) := ⟨⟨by decide +kernel, by decide +kernel⟩, List.mem_of_getElem? (i := 1576) (by decide +kernel), List.mem_of_getElem? (i := 2236) (by decide +kernel), List.mem_of_getElem? (i := 2237) (by decide +kernel)⟩
theorem lw_p188 : lw_okq (⟨"FourTonguesModel", "turns", "(IIIJ)V"⟩, 106) := ⟨⟨by decide +kernel, by decide +kernel⟩, List.mem_of_getElem? (i := 1576) (by decide +kernel), List.mem_of_getElem? (i := 2244) (by decide +kernel), List.mem_of_getElem? (i := 2245) (by decide +kernel)⟩
theorem lw_p189 : lw_okq (⟨"FourTonguesModel", "turnsTo", "(ZJ)V"⟩, 106) := ⟨⟨by decide +kernel, by decide +kernel⟩, List.mem_of_getElem? (i := 1576) (by decide +kernel), List.mem_of_getElem? (i := 2248) (by decide +kernel), List.mem_of_getElem? (i := 2249) (by decide +kernel)⟩
theorem lw_p190 : lw_okq (⟨"FourTonguesModel", "enters", "(II)V"⟩, 106) := ⟨⟨by decide +kernel, by decide +kernel⟩, List.mem_of_getElem? (i := 1576) (by decide +kernel), List.mem_of_getElem? (i := 2266) (by decide +kernel), List.mem_of_getElem? (i := 2267) (by decide +kernel)⟩
theorem lw_p191 : lw_okq (⟨"FourTonguesModel", "puts", "(IIJ)V"⟩, 106) := ⟨⟨by decide +kernel, by decide +kernel⟩, List.mem_of_getElem? (i := 1576) (by decide +kernel), List.mem_of_getElem? (i := 2271) (by decide +kernel), List.mem_of_getElem? (i := 2272) (by decide +kernel)⟩
def lw_privs_12 : List (MethodName × Nat) := [(⟨"FourTonguesModel", "takesWord", "(I)Z"⟩, 106), (⟨"FourTonguesModel", "door", "(II)V"⟩, 106), (⟨"FourTonguesModel", "wantsWord", "(I)V"⟩, 106), (⟨"FourTonguesModel", "cleans", "()V"⟩, 106), (⟨"FourTonguesModel", "plain", "()V"⟩, 106), (⟨"FourTonguesModel", "named", "()V"⟩, 106), (⟨"FourTonguesModel", "keeps", "()V"⟩, 106), (⟨"FourTonguesModel", "goesBack", "()V"⟩, 106), (⟨"FourTonguesModel", "kind", "()V"⟩, 106), (⟨"FourTonguesModel", "isUnderNew", "(II)Z"⟩, 106), (⟨"FourTonguesModel", "canFail", "(II)Z"⟩, 106), (⟨"FourTonguesModel", "entryOf", "(II)I"⟩, 106), (⟨"FourTonguesModel", "turns", "(IIIJ)V"⟩, 106), (⟨"FourTonguesModel", "turnsTo", "(ZJ)V"⟩, 106), (⟨"FourTonguesModel", "enters", "(II)V"⟩, 106), (⟨"FourTonguesModel", "puts", "(IIJ)V"⟩, 106)]
theorem lw_r12 : ∀ q ∈ lw_privs_12, lw_okq q := List.forall_mem_cons.mpr ⟨lw_p176, List.forall_mem_cons.mpr ⟨lw_p177, List.forall_mem_cons.mpr ⟨lw_p178, List.forall_mem_cons.mpr ⟨lw_p179, List.forall_mem_cons.mpr ⟨lw_p180, List.forall_mem_cons.mpr ⟨lw_p181, List.forall_mem_cons.mpr ⟨lw_p182, List.forall_mem_cons.mpr ⟨lw_p183, List.forall_mem_cons.mpr ⟨lw_p184, List.forall_mem_cons.mpr ⟨lw_p185, List.forall_mem_cons.mpr ⟨lw_p186, List.forall_mem_cons.mpr ⟨lw_p187, List.forall_mem_cons.mpr ⟨lw_p188, List.forall_mem_cons.mpr ⟨lw_p189, List.forall_mem_cons.mpr ⟨lw_p190, List.forall_mem_cons.mpr ⟨lw_p191, fun _ h => absurd h List.not_mem_nil⟩⟩⟩⟩⟩⟩⟩⟩⟩⟩⟩⟩⟩⟩⟩⟩
theorem lw_p192 : lw_okq (⟨"FourTonguesModel", "runs", "()V"⟩, 106) := ⟨⟨by decide +kernel, by decide +kernel⟩, List.mem_of_getElem? (i := 1576) (by decide +kernel), List.mem_of_getElem? (i := 2275) (by decide +kernel), List.mem_of_getElem? (i := 2276) (by decide +kernel)⟩
theorem lw_p193 : lw_okq (⟨"FourTonguesModel", "acts", "(II)V"⟩, 106) := ⟨⟨by decide +kernel, by decide +kernel⟩, List.mem_of_getElem? (i := 1576) (by decide +kernel), List.mem_of_getElem? (i := 2279) (by decide +kernel), List.mem_of_getElem? (i := 2280) (by decide +kernel)⟩
theorem lw_p194 : lw_okq (⟨"FourTonguesModel", "step", "()Z"⟩, 106) := ⟨⟨by decide +kernel, by decide +kernel⟩, List.mem_of_getElem? (i := 1576) (by decide +kernel), List.mem_of_getElem? (i := 2283) (by decide +kernel), List.mem_of_getElem? (i := 2284) (by decide +kernel)⟩
theorem lw_p195 : lw_okq (⟨"FourTonguesModel", "push", "(IJ)V"⟩, 106) := ⟨⟨by decide +kernel, by decide +kernel⟩, List.mem_of_getElem? (i := 1576) (by decide +kernel), List.mem_of_getElem? (i := 2288) (by decide +kernel), List.mem_of_getElem? (i := 2289) (by decide +kernel)⟩
theorem lw_p196 : lw_okq (⟨"FourTonguesModel", "setsCell", "(I)V"⟩, 106) := ⟨⟨by decide +kernel, by decide +kernel⟩, List.mem_of_getElem? (i := 1576) (by decide +kernel), List.mem_of_getElem? (i := 2292) (by decide +kernel), List.mem_of_getElem? (i := 2293) (by decide +kernel)⟩
theorem lw_p197 : lw_okq (⟨"FourTonguesModel", "unwinds", "(IIJ)V"⟩, 106) := ⟨⟨by decide +kernel, by decide +kernel⟩, List.mem_of_getElem? (i := 1576) (by decide +kernel), List.mem_of_getElem? (i := 2296) (by decide +kernel), List.mem_of_getElem? (i := 2297) (by decide +kernel)⟩
theorem lw_p198 : lw_okq (⟨"FourTonguesModel", "block", "(III)V"⟩, 106) := ⟨⟨by decide +kernel, by decide +kernel⟩, List.mem_of_getElem? (i := 1576) (by decide +kernel), List.mem_of_getElem? (i := 2300) (by decide +kernel), List.mem_of_getElem? (i := 2301) (by decide +kernel)⟩
theorem lw_p199 : lw_okq (⟨"FourTonguesModel", "lies", "(IIJI)V"⟩, 106) := ⟨⟨by decide +kernel, by decide +kernel⟩, List.mem_of_getElem? (i := 1576) (by decide +kernel), List.mem_of_getElem? (i := 2304) (by decide +kernel), List.mem_of_getElem? (i := 2305) (by decide +kernel)⟩
theorem lw_p200 : lw_okq (⟨"FourTonguesModel", "catches", "(II)Z"⟩, 106) := ⟨⟨by decide +kernel, by decide +kernel⟩, List.mem_of_getElem? (i := 1576) (by decide +kernel), List.mem_of_getElem? (i := 2308) (by decide +kernel), List.mem_of_getElem? (i := 2309) (by decide +kernel)⟩
theorem lw_p201 : lw_okq (⟨"FourTonguesModel", "isUnder", "(II)Z"⟩, 106) := ⟨⟨by decide +kernel, by decide +kernel⟩, List.mem_of_getElem? (i := 1576) (by decide +kernel), List.mem_of_getElem? (i := 2312) (by decide +kernel), List.mem_of_getElem? (i := 2313) (by decide +kernel)⟩
theorem lw_p202 : lw_okq (⟨"FourTonguesModel", "opensTo", "(II)Z"⟩, 106) := ⟨⟨by decide +kernel, by decide +kernel⟩, List.mem_of_getElem? (i := 1576) (by decide +kernel), List.mem_of_getElem? (i := 2316) (by decide +kernel), List.mem_of_getElem? (i := 2317) (by decide +kernel)⟩
theorem lw_p203 : lw_okq (⟨"FourTonguesModel", "answers", "(IJ)V"⟩, 106) := ⟨⟨by decide +kernel, by decide +kernel⟩, List.mem_of_getElem? (i := 1576) (by decide +kernel), List.mem_of_getElem? (i := 2320) (by decide +kernel), List.mem_of_getElem? (i := 2321) (by decide +kernel)⟩
theorem lw_p204 : lw_okq (⟨"FourTonguesModel", "now", "()I"⟩, 106) := ⟨⟨by decide +kernel, by decide +kernel⟩, List.mem_of_getElem? (i := 1576) (by decide +kernel), List.mem_of_getElem? (i := 2324) (by decide +kernel), List.mem_of_getElem? (i := 2325) (by decide +kernel)⟩
theorem lw_p205 : lw_okq (⟨"FourTonguesModel", "leavesFrame", "()V"⟩, 106) := ⟨⟨by decide +kernel, by decide +kernel⟩, List.mem_of_getElem? (i := 1576) (by decide +kernel), List.mem_of_getElem? (i := 2328) (by decide +kernel), List.mem_of_getElem? (i := 2329) (by decide +kernel)⟩
theorem lw_p206 : lw_okq (⟨"FourTonguesModel", "ends", "(IIJ)V"⟩, 106) := ⟨⟨by decide +kernel, by decide +kernel⟩, List.mem_of_getElem? (i := 1576) (by decide +kernel), List.mem_of_getElem? (i := 2332) (by decide +kernel), List.mem_of_getElem? (i := 2333) (by decide +kernel)⟩
theorem lw_p207 : lw_okq (⟨"FourTonguesModel", "turnsFailure", "(I)V"⟩, 106) := ⟨⟨by decide +kernel, by decide +kernel⟩, List.mem_of_getElem? (i := 1576) (by decide +kernel), List.mem_of_getElem? (i := 2336) (by decide +kernel), List.mem_of_getElem? (i := 2337) (by decide +kernel)⟩
def lw_privs_13 : List (MethodName × Nat) := [(⟨"FourTonguesModel", "runs", "()V"⟩, 106), (⟨"FourTonguesModel", "acts", "(II)V"⟩, 106), (⟨"FourTonguesModel", "step", "()Z"⟩, 106), (⟨"FourTonguesModel", "push", "(IJ)V"⟩, 106), (⟨"FourTonguesModel", "setsCell", "(I)V"⟩, 106), (⟨"FourTonguesModel", "unwinds", "(IIJ)V"⟩, 106), (⟨"FourTonguesModel", "block", "(III)V"⟩, 106), (⟨"FourTonguesModel", "lies", "(IIJI)V"⟩, 106), (⟨"FourTonguesModel", "catches", "(II)Z"⟩, 106), (⟨"FourTonguesModel", "isUnder", "(II)Z"⟩, 106), (⟨"FourTonguesModel", "opensTo", "(II)Z"⟩, 106), (⟨"FourTonguesModel", "answers", "(IJ)V"⟩, 106), (⟨"FourTonguesModel", "now", "()I"⟩, 106), (⟨"FourTonguesModel", "leavesFrame", "()V"⟩, 106), (⟨"FourTonguesModel", "ends", "(IIJ)V"⟩, 106), (⟨"FourTonguesModel", "turnsFailure", "(I)V"⟩, 106)]
theorem lw_r13 : ∀ q ∈ lw_privs_13, lw_okq q := List.forall_mem_cons.mpr ⟨lw_p192, List.forall_mem_cons.mpr ⟨lw_p193, List.forall_mem_cons.mpr ⟨lw_p194, List.forall_mem_cons.mpr ⟨lw_p195, List.forall_mem_cons.mpr ⟨lw_p196, List.forall_mem_cons.mpr ⟨lw_p197, List.forall_mem_cons.mpr ⟨lw_p198, List.forall_mem_cons.mpr ⟨lw_p199, List.forall_mem_cons.mpr ⟨lw_p200, List.forall_mem_cons.mpr ⟨lw_p201, List.forall_mem_cons.mpr ⟨lw_p202, List.forall_mem_cons.mpr ⟨lw_p203, List.forall_mem_cons.mpr ⟨lw_p204, List.forall_mem_cons.mpr ⟨lw_p205, List.forall_mem_cons.mpr ⟨lw_p206, List.forall_mem_cons.mpr ⟨lw_p207, fun _ h => absurd h List.not_mem_nil⟩⟩⟩⟩⟩⟩⟩⟩⟩⟩⟩⟩⟩⟩⟩⟩
theorem lw_p208 : lw_okq (⟨"FourTonguesModel", "turnsValue", "(IIIJ)V"⟩, 106) := ⟨⟨by decide +kernel, by decide +kernel⟩, List.mem_of_getElem? (i := 1576) (by decide +kernel), List.mem_of_getElem? (i := 2340) (by decide +kernel), List.mem_of_getElem? (i := 2341) (by decide +kernel)⟩
theorem lw_p209 : lw_okq (⟨"FourTonguesModel", "newFailure", "(IIIJ)I"⟩, 106) := ⟨⟨by decide +kernel, by decide +kernel⟩, List.mem_of_getElem? (i := 1576) (by decide +kernel), List.mem_of_getElem? (i := 2344) (by decide +kernel), List.mem_of_getElem? (i := 2345) (by decide +kernel)⟩
theorem lw_p210 : lw_okq (⟨"FourTonguesModel", "goesOut", "(IZ)V"⟩, 106) := ⟨⟨by decide +kernel, by decide +kernel⟩, List.mem_of_getElem? (i := 1576) (by decide +kernel), List.mem_of_getElem? (i := 2348) (by decide +kernel), List.mem_of_getElem? (i := 2349) (by decide +kernel)⟩
theorem lw_p211 : lw_okq (⟨"FourTonguesModel", "codeGoes", "(IZ)V"⟩, 106) := ⟨⟨by decide +kernel, by decide +kernel⟩, List.mem_of_getElem? (i := 1576) (by decide +kernel), List.mem_of_getElem? (i := 2352) (by decide +kernel), List.mem_of_getElem? (i := 2353) (by decide +kernel)⟩
theorem lw_p212 : lw_okq (⟨"FourTonguesModel", "failsOut", "(I)V"⟩, 106) := ⟨⟨by decide +kernel, by decide +kernel⟩, List.mem_of_getElem? (i := 1576) (by decide +kernel), List.mem_of_getElem? (i := 2356) (by decide +kernel), List.mem_of_getElem? (i := 2357) (by decide +kernel)⟩
theorem lw_p213 : lw_okq (⟨"FourTonguesModel", "arises", "(I)V"⟩, 106) := ⟨⟨by decide +kernel, by decide +kernel⟩, List.mem_of_getElem? (i := 1576) (by decide +kernel), List.mem_of_getElem? (i := 2360) (by decide +kernel), List.mem_of_getElem? (i := 2361) (by decide +kernel)⟩
theorem lw_p214 : lw_okq (⟨"FourTonguesModel", "arisesWith", "(IIJ)V"⟩, 106) := ⟨⟨by decide +kernel, by decide +kernel⟩, List.mem_of_getElem? (i := 1576) (by decide +kernel), List.mem_of_getElem? (i := 2364) (by decide +kernel), List.mem_of_getElem? (i := 2365) (by decide +kernel)⟩
theorem lw_p215 : lw_okq (⟨"FourTonguesModel", "arisesHere", "(I)V"⟩, 106) := ⟨⟨by decide +kernel, by decide +kernel⟩, List.mem_of_getElem? (i := 1576) (by decide +kernel), List.mem_of_getElem? (i := 2368) (by decide +kernel), List.mem_of_getElem? (i := 2369) (by decide +kernel)⟩
theorem lw_p216 : lw_okq (⟨"FourTonguesModel", "indexOf", "(IJI)I"⟩, 106) := ⟨⟨by decide +kernel, by decide +kernel⟩, List.mem_of_getElem? (i := 1576) (by decide +kernel), List.mem_of_getElem? (i := 2372) (by decide +kernel), List.mem_of_getElem? (i := 2373) (by decide +kernel)⟩
theorem lw_p217 : lw_okq (⟨"FourTonguesModel", "asksNumber", "()Z"⟩, 106) := ⟨⟨by decide +kernel, by decide +kernel⟩, List.mem_of_getElem? (i := 1576) (by decide +kernel), List.mem_of_getElem? (i := 2376) (by decide +kernel), List.mem_of_getElem? (i := 2377) (by decide +kernel)⟩
theorem lw_p218 : lw_okq (⟨"FourTonguesModel", "top", "()I"⟩, 106) := ⟨⟨by decide +kernel, by decide +kernel⟩, List.mem_of_getElem? (i := 1576) (by decide +kernel), List.mem_of_getElem? (i := 2380) (by decide +kernel), List.mem_of_getElem? (i := 2381) (by decide +kernel)⟩
theorem lw_p219 : lw_okq (⟨"FourTonguesModel", "isZero", "(IJ)Z"⟩, 106) := ⟨⟨by decide +kernel, by decide +kernel⟩, List.mem_of_getElem? (i := 1576) (by decide +kernel), List.mem_of_getElem? (i := 2384) (by decide +kernel), List.mem_of_getElem? (i := 2385) (by decide +kernel)⟩
theorem lw_p220 : lw_okq (⟨"FourTonguesModel", "failsBy", "()V"⟩, 106) := ⟨⟨by decide +kernel, by decide +kernel⟩, List.mem_of_getElem? (i := 1576) (by decide +kernel), List.mem_of_getElem? (i := 2388) (by decide +kernel), List.mem_of_getElem? (i := 2389) (by decide +kernel)⟩
theorem lw_p221 : lw_okq (⟨"FourTonguesModel", "exits", "(IIJ)V"⟩, 106) := ⟨⟨by decide +kernel, by decide +kernel⟩, List.mem_of_getElem? (i := 1576) (by decide +kernel), List.mem_of_getElem? (i := 2392) (by decide +kernel), List.mem_of_getElem? (i := 2393) (by decide +kernel)⟩
theorem lw_p222 : lw_okq (⟨"FourTonguesModel", "isOpen", "(I)Z"⟩, 106) := ⟨⟨by decide +kernel, by decide +kernel⟩, List.mem_of_getElem? (i := 1576) (by decide +kernel), List.mem_of_getElem? (i := 2396) (by decide +kernel), List.mem_of_getElem? (i := 2397) (by decide +kernel)⟩
theorem lw_p223 : lw_okq (⟨"FourTonguesModel", "works", "(II)V"⟩, 106) := ⟨⟨by decide +kernel, by decide +kernel⟩, List.mem_of_getElem? (i := 1576) (by decide +kernel), List.mem_of_getElem? (i := 2400) (by decide +kernel), List.mem_of_getElem? (i := 2401) (by decide +kernel)⟩
def lw_privs_14 : List (MethodName × Nat) := [(⟨"FourTonguesModel", "turnsValue", "(IIIJ)V"⟩, 106), (⟨"FourTonguesModel", "newFailure", "(IIIJ)I"⟩, 106), (⟨"FourTonguesModel", "goesOut", "(IZ)V"⟩, 106), (⟨"FourTonguesModel", "codeGoes", "(IZ)V"⟩, 106), (⟨"FourTonguesModel", "failsOut", "(I)V"⟩, 106), (⟨"FourTonguesModel", "arises", "(I)V"⟩, 106), (⟨"FourTonguesModel", "arisesWith", "(IIJ)V"⟩, 106), (⟨"FourTonguesModel", "arisesHere", "(I)V"⟩, 106), (⟨"FourTonguesModel", "indexOf", "(IJI)I"⟩, 106), (⟨"FourTonguesModel", "asksNumber", "()Z"⟩, 106), (⟨"FourTonguesModel", "top", "()I"⟩, 106), (⟨"FourTonguesModel", "isZero", "(IJ)Z"⟩, 106), (⟨"FourTonguesModel", "failsBy", "()V"⟩, 106), (⟨"FourTonguesModel", "exits", "(IIJ)V"⟩, 106), (⟨"FourTonguesModel", "isOpen", "(I)Z"⟩, 106), (⟨"FourTonguesModel", "works", "(II)V"⟩, 106)]
theorem lw_r14 : ∀ q ∈ lw_privs_14, lw_okq q := List.forall_mem_cons.mpr ⟨lw_p208, List.forall_mem_cons.mpr ⟨lw_p209, List.forall_mem_cons.mpr ⟨lw_p210, List.forall_mem_cons.mpr ⟨lw_p211, List.forall_mem_cons.mpr ⟨lw_p212, List.forall_mem_cons.mpr ⟨lw_p213, List.forall_mem_cons.mpr ⟨lw_p214, List.forall_mem_cons.mpr ⟨lw_p215, List.forall_mem_cons.mpr ⟨lw_p216, List.forall_mem_cons.mpr ⟨lw_p217, List.forall_mem_cons.mpr ⟨lw_p218, List.forall_mem_cons.mpr ⟨lw_p219, List.forall_mem_cons.mpr ⟨lw_p220, List.forall_mem_cons.mpr ⟨lw_p221, List.forall_mem_cons.mpr ⟨lw_p222, List.forall_mem_cons.mpr ⟨lw_p223, fun _ h => absurd h List.not_mem_nil⟩⟩⟩⟩⟩⟩⟩⟩⟩⟩⟩⟩⟩⟩⟩⟩
theorem lw_p224 : lw_okq (⟨"FourTonguesModel", "makes", "(I)V"⟩, 106) := ⟨⟨by decide +kernel, by decide +kernel⟩, List.mem_of_getElem? (i := 1576) (by decide +kernel), List.mem_of_getElem? (i := 2404) (by decide +kernel), List.mem_of_getElem? (i := 2405) (by decide +kernel)⟩
theorem lw_p225 : lw_okq (⟨"FourTonguesModel", "pushNumber", "(IJ)V"⟩, 106) := ⟨⟨by decide +kernel, by decide +kernel⟩, List.mem_of_getElem? (i := 1576) (by decide +kernel), List.mem_of_getElem? (i := 2408) (by decide +kernel), List.mem_of_getElem? (i := 2409) (by decide +kernel)⟩
theorem lw_p226 : lw_okq (⟨"FourTonguesModel", "getsCell", "(I)V"⟩, 106) := ⟨⟨by decide +kernel, by decide +kernel⟩, List.mem_of_getElem? (i := 1576) (by decide +kernel), List.mem_of_getElem? (i := 2412) (by decide +kernel), List.mem_of_getElem? (i := 2413) (by decide +kernel)⟩
theorem lw_p227 : lw_okq (⟨"FourTonguesModel", "functionOf", "(IJ)I"⟩, 106) := ⟨⟨by decide +kernel, by decide +kernel⟩, List.mem_of_getElem? (i := 1576) (by decide +kernel), List.mem_of_getElem? (i := 2416) (by decide +kernel), List.mem_of_getElem? (i := 2417) (by decide +kernel)⟩
theorem lw_p228 : lw_okq (⟨"FourTonguesModel", "calls", "(III)V"⟩, 106) := ⟨⟨by decide +kernel, by decide +kernel⟩, List.mem_of_getElem? (i := 1576) (by decide +kernel), List.mem_of_getElem? (i := 2420) (by decide +kernel), List.mem_of_getElem? (i := 2421) (by decide +kernel)⟩
theorem lw_p229 : lw_okq (⟨"FourTonguesModel", "callsBy", "(I)V"⟩, 106) := ⟨⟨by decide +kernel, by decide +kernel⟩, List.mem_of_getElem? (i := 1576) (by decide +kernel), List.mem_of_getElem? (i := 2424) (by decide +kernel), List.mem_of_getElem? (i := 2425) (by decide +kernel)⟩
theorem lw_p230 : lw_okq (⟨"FourTonguesModel", "signs", "(II)V"⟩, 106) := ⟨⟨by decide +kernel, by decide +kernel⟩, List.mem_of_getElem? (i := 1576) (by decide +kernel), List.mem_of_getElem? (i := 2429) (by decide +kernel), List.mem_of_getElem? (i := 2430) (by decide +kernel)⟩
theorem lw_p231 : lw_okq (⟨"FourTonguesModel", "reals", "(IDD)V"⟩, 106) := ⟨⟨by decide +kernel, by decide +kernel⟩, List.mem_of_getElem? (i := 1576) (by decide +kernel), List.mem_of_getElem? (i := 2436) (by decide +kernel), List.mem_of_getElem? (i := 2437) (by decide +kernel)⟩
theorem lw_p232 : lw_okq (⟨"FourTonguesModel", "wholes", "(IIJJ)V"⟩, 106) := ⟨⟨by decide +kernel, by decide +kernel⟩, List.mem_of_getElem? (i := 1576) (by decide +kernel), List.mem_of_getElem? (i := 2445) (by decide +kernel), List.mem_of_getElem? (i := 2446) (by decide +kernel)⟩
theorem lw_p233 : lw_okq (⟨"FourTonguesModel", "minus", "(I)V"⟩, 106) := ⟨⟨by decide +kernel, by decide +kernel⟩, List.mem_of_getElem? (i := 1576) (by decide +kernel), List.mem_of_getElem? (i := 2449) (by decide +kernel), List.mem_of_getElem? (i := 2450) (by decide +kernel)⟩
theorem lw_p234 : lw_okq (⟨"FourTonguesModel", "failureAt", "(I)I"⟩, 106) := ⟨⟨by decide +kernel, by decide +kernel⟩, List.mem_of_getElem? (i := 1576) (by decide +kernel), List.mem_of_getElem? (i := 2473) (by decide +kernel), List.mem_of_getElem? (i := 2474) (by decide +kernel)⟩
theorem lw_p235 : lw_okq (⟨"FourTonguesModel", "told", "(II)I"⟩, 106) := ⟨⟨by decide +kernel, by decide +kernel⟩, List.mem_of_getElem? (i := 1576) (by decide +kernel), List.mem_of_getElem? (i := 2477) (by decide +kernel), List.mem_of_getElem? (i := 2478) (by decide +kernel)⟩
theorem lw_p236 : lw_okq (⟨"FourTonguesModel", "underMany", "(I)I"⟩, 106) := ⟨⟨by decide +kernel, by decide +kernel⟩, List.mem_of_getElem? (i := 1576) (by decide +kernel), List.mem_of_getElem? (i := 2481) (by decide +kernel), List.mem_of_getElem? (i := 2482) (by decide +kernel)⟩
def lw_privs_15 : List (MethodName × Nat) := [(⟨"FourTonguesModel", "makes", "(I)V"⟩, 106), (⟨"FourTonguesModel", "pushNumber", "(IJ)V"⟩, 106), (⟨"FourTonguesModel", "getsCell", "(I)V"⟩, 106), (⟨"FourTonguesModel", "functionOf", "(IJ)I"⟩, 106), (⟨"FourTonguesModel", "calls", "(III)V"⟩, 106), (⟨"FourTonguesModel", "callsBy", "(I)V"⟩, 106), (⟨"FourTonguesModel", "signs", "(II)V"⟩, 106), (⟨"FourTonguesModel", "reals", "(IDD)V"⟩, 106), (⟨"FourTonguesModel", "wholes", "(IIJJ)V"⟩, 106), (⟨"FourTonguesModel", "minus", "(I)V"⟩, 106), (⟨"FourTonguesModel", "failureAt", "(I)I"⟩, 106), (⟨"FourTonguesModel", "told", "(II)I"⟩, 106), (⟨"FourTonguesModel", "underMany", "(I)I"⟩, 106)]
theorem lw_r15 : ∀ q ∈ lw_privs_15, lw_okq q := List.forall_mem_cons.mpr ⟨lw_p224, List.forall_mem_cons.mpr ⟨lw_p225, List.forall_mem_cons.mpr ⟨lw_p226, List.forall_mem_cons.mpr ⟨lw_p227, List.forall_mem_cons.mpr ⟨lw_p228, List.forall_mem_cons.mpr ⟨lw_p229, List.forall_mem_cons.mpr ⟨lw_p230, List.forall_mem_cons.mpr ⟨lw_p231, List.forall_mem_cons.mpr ⟨lw_p232, List.forall_mem_cons.mpr ⟨lw_p233, List.forall_mem_cons.mpr ⟨lw_p234, List.forall_mem_cons.mpr ⟨lw_p235, List.forall_mem_cons.mpr ⟨lw_p236, fun _ h => absurd h List.not_mem_nil⟩⟩⟩⟩⟩⟩⟩⟩⟩⟩⟩⟩⟩
def lw_privs : List (MethodName × Nat) := lw_privs_1 ++ (lw_privs_2 ++ (lw_privs_3 ++ (lw_privs_4 ++ (lw_privs_5 ++ (lw_privs_6 ++ (lw_privs_7 ++ (lw_privs_8 ++ (lw_privs_9 ++ (lw_privs_10 ++ (lw_privs_11 ++ (lw_privs_12 ++ (lw_privs_13 ++ (lw_privs_14 ++ (lw_privs_15))))))))))))))
def lw_tbl : List Cond := k2_sels lw_privs ++ tables_1
theorem lw_privs_ok : ∀ q ∈ lw_privs, lw_okq q := by
  show ∀ q ∈ lw_privs_1 ++ (lw_privs_2 ++ (lw_privs_3 ++ (lw_privs_4 ++ (lw_privs_5 ++ (lw_privs_6 ++ (lw_privs_7 ++ (lw_privs_8 ++ (lw_privs_9 ++ (lw_privs_10 ++ (lw_privs_11 ++ (lw_privs_12 ++ (lw_privs_13 ++ (lw_privs_14 ++ (lw_privs_15)))))))))))))), lw_okq q
  exact List.forall_mem_append.mpr ⟨lw_r1, List.forall_mem_append.mpr ⟨lw_r2, List.forall_mem_append.mpr ⟨lw_r3, List.forall_mem_append.mpr ⟨lw_r4, List.forall_mem_append.mpr ⟨lw_r5, List.forall_mem_append.mpr ⟨lw_r6, List.forall_mem_append.mpr ⟨lw_r7, List.forall_mem_append.mpr ⟨lw_r8, List.forall_mem_append.mpr ⟨lw_r9, List.forall_mem_append.mpr ⟨lw_r10, List.forall_mem_append.mpr ⟨lw_r11, List.forall_mem_append.mpr ⟨lw_r12, List.forall_mem_append.mpr ⟨lw_r13, List.forall_mem_append.mpr ⟨lw_r14, lw_r15⟩⟩⟩⟩⟩⟩⟩⟩⟩⟩⟩⟩⟩⟩
/-- the streams that the claim lets the run draw from -/
abbrev lw_cs : List Choice := [Jvm.Choice.named "NaN.bits", Jvm.Choice.named "NaN.copy"]
theorem lw_bits : nanBits ∈ lw_cs := by first | decide | exact List.mem_cons_self | simp [lw_cs, nanBits]
-- ===== end of PART A; then your names; then what follows =====
end
section
theorem goodIn_r {big : List Cond} (ws : List Cond) (ps : List Nat) (hp : ws = ps.filterMap (fun i => big[i]?)) (h : ws.all goodWord = true) : GoodIn big ws := by
  intro w hw
  have h1 := List.all_eq_true.mp h w hw
  rw [hp] at hw
  obtain ⟨i, -, hi⟩ := List.mem_filterMap.mp hw
  have hm : w ∈ big := by first | exact List.mem_of_getElem? hi | exact List.getElem?_mem hi
  exact ⟨hm, good_of_word h1⟩
theorem goodIn_app {big a b : List Cond} (ha : GoodIn big a) (hb : GoodIn big b) : GoodIn big (a ++ b) := fun w h => (List.mem_append.mp h).elim (ha w) (hb w)
def RX0 : String := "FourTongues$Borders"
def TX0 : u_T := fun k => match k with
  | 0 => ("FourTongues$Borders", "rules", "[I", true)
  | 1 => ("FourTongues$Borders", "defaults", "[I", true)
  | 2 => ("FourTongues$Borders", "entryBorders", "[I", true)
  | 3 => ("FourTongues$Borders", "entryWhats", "[I", true)
  | 4 => ("FourTongues$Borders", "entryAs", "[I", true)
  | _ => ("FourTongues$Borders", "entries", "I", false)
def RX1 : String := "FourTongues$Failures"
def TX1 : u_T := fun k => match k with
  | 0 => ("FourTongues$Failures", "facts", "[I", false)
  | 1 => ("FourTongues$Failures", "count", "I", false)
  | 2 => ("FourTongues$Failures", "values", "LFourTongues$Row;", true)
  | 3 => ("FourTongues$Failures", "lying", "[I", false)
  | _ => ("FourTongues$Failures", "lyingCount", "I", false)
def RX2 : String := "FourTongues$Frames"
def TX2 : u_T := fun k => match k with
  | 0 => ("FourTongues$Frames", "tongues", "[I", true)
  | 1 => ("FourTongues$Frames", "functions", "[I", true)
  | 2 => ("FourTongues$Frames", "bases", "[I", true)
  | 3 => ("FourTongues$Frames", "floors", "[I", true)
  | 4 => ("FourTongues$Frames", "tops", "[I", true)
  | 5 => ("FourTongues$Frames", "calledAt", "[I", true)
  | 6 => ("FourTongues$Frames", "guardBases", "[I", true)
  | _ => ("FourTongues$Frames", "count", "I", false)
def RX3 : String := "FourTongues$Guards"
def TX3 : u_T := fun k => match k with
  | 0 => ("FourTongues$Guards", "kinds", "[I", true)
  | 1 => ("FourTongues$Guards", "targets", "[I", true)
  | 2 => ("FourTongues$Guards", "names", "[I", true)
  | 3 => ("FourTongues$Guards", "underWay", "[I", true)
  | 4 => ("FourTongues$Guards", "failures", "[I", true)
  | 5 => ("FourTongues$Guards", "answers", "LFourTongues$Row;", true)
  | _ => ("FourTongues$Guards", "count", "I", false)
def RX4 : String := "FourTongues$Machine"
def TX4 : u_T := fun k => match k with
  | 0 => ("FourTongues$Machine", "programs", "[LFourTongues$Program;", true)
  | 1 => ("FourTongues$Machine", "names", "LFourTongues$Names;", true)
  | 2 => ("FourTongues$Machine", "borders", "LFourTongues$Borders;", true)
  | 3 => ("FourTongues$Machine", "stack", "LFourTongues$Row;", true)
  | 4 => ("FourTongues$Machine", "heap", "LFourTongues$Row;", true)
  | 5 => ("FourTongues$Machine", "marks", "LFourTongues$Row;", true)
  | 6 => ("FourTongues$Machine", "failures", "LFourTongues$Failures;", true)
  | 7 => ("FourTongues$Machine", "frames", "LFourTongues$Frames;", true)
  | 8 => ("FourTongues$Machine", "guards", "LFourTongues$Guards;", true)
  | 9 => ("FourTongues$Machine", "tally", "[I", true)
  | 10 => ("FourTongues$Machine", "program", "LFourTongues$Program;", false)
  | 11 => ("FourTongues$Machine", "at", "I", false)
  | 12 => ("FourTongues$Machine", "pc", "I", false)
  | 13 => ("FourTongues$Machine", "state", "I", false)
  | 14 => ("FourTongues$Machine", "carried", "I", false)
  | 15 => ("FourTongues$Machine", "cameOut", "I", false)
  | _ => ("FourTongues$Machine", "answer", "J", false)
def RX5 : String := "FourTongues$Names"
def TX5 : u_T := fun k => match k with
  | 0 => ("FourTongues$Names", "packed", "[J", true)
  | 1 => ("FourTongues$Names", "above", "[I", true)
  | 2 => ("FourTongues$Names", "keptAbove", "[I", true)
  | 3 => ("FourTongues$Names", "count", "I", false)
  | _ => ("FourTongues$Names", "keptCount", "I", false)
def RX7 : String := "FourTongues$Parser"
def TX7 : u_T := fun k => match k with
  | 0 => ("FourTongues$Parser", "tokens", "LFourTongues$Tokens;", true)
  | 1 => ("FourTongues$Parser", "names", "LFourTongues$Names;", true)
  | 2 => ("FourTongues$Parser", "program", "LFourTongues$Program;", false)
  | 3 => ("FourTongues$Parser", "faults", "[I", true)
  | 4 => ("FourTongues$Parser", "variables", "[J", true)
  | 5 => ("FourTongues$Parser", "variableCount", "I", false)
  | 6 => ("FourTongues$Parser", "counted", "I", false)
  | 7 => ("FourTongues$Parser", "told", "I", false)
  | 8 => ("FourTongues$Parser", "tongue", "I", false)
  | 9 => ("FourTongues$Parser", "depth", "I", false)
  | _ => ("FourTongues$Parser", "place", "I", false)
def RX8 : String := "FourTongues$Program"
def TX8 : u_T := fun k => match k with
  | 0 => ("FourTongues$Program", "code", "[I", false)
  | 1 => ("FourTongues$Program", "length", "I", false)
  | 2 => ("FourTongues$Program", "constants", "LFourTongues$Row;", true)
  | 3 => ("FourTongues$Program", "names", "[J", true)
  | 4 => ("FourTongues$Program", "starts", "[I", true)
  | 5 => ("FourTongues$Program", "parameters", "[I", true)
  | 6 => ("FourTongues$Program", "variables", "[I", true)
  | _ => ("FourTongues$Program", "functions", "I", false)
def RX9 : String := "FourTongues$Row"
def TX9 : u_T := fun k => match k with
  | 0 => ("FourTongues$Row", "kinds", "[I", false)
  | 1 => ("FourTongues$Row", "wholes", "[J", false)
  | 2 => ("FourTongues$Row", "reals", "[D", false)
  | _ => ("FourTongues$Row", "count", "I", false)
def tyX9 : Nat → FieldType := fun k => match k with
  | 0 => .array .int
  | 1 => .array .long
  | 2 => .array .double
  | _ => .int
abbrev wsX90 : List Cond := u_ws RX9 TX9 4
theorem nmX9 : ∀ a, a < 4 → ∀ b, b < 4 → a ≠ b → (TX9 a).2.1 ≠ (TX9 b).2.1 := by decide +kernel
theorem tyX9_ok : ∀ k, k < 4 → parseFieldDescriptor (TX9 k).2.2.1 = some (tyX9 k) := by decide +kernel
abbrev cX9_init : ByteArray := prog_11_method_1_code
def yX9_init : MethodName := ⟨RX9, "<init>", "(I)V"⟩
def RX10 : String := "FourTongues$Tokens"
def TX10 : u_T := fun k => match k with
  | 0 => ("FourTongues$Tokens", "text", "[B", true)
  | 1 => ("FourTongues$Tokens", "words", "[J", true)
  | 2 => ("FourTongues$Tokens", "kinds", "[I", true)
  | 3 => ("FourTongues$Tokens", "places", "[I", true)
  | 4 => ("FourTongues$Tokens", "wholes", "[J", true)
  | 5 => ("FourTongues$Tokens", "reals", "[D", true)
  | 6 => ("FourTongues$Tokens", "count", "I", false)
  | 7 => ("FourTongues$Tokens", "length", "I", false)
  | 8 => ("FourTongues$Tokens", "tongue", "I", false)
  | 9 => ("FourTongues$Tokens", "at", "I", false)
  | 10 => ("FourTongues$Tokens", "now", "I", false)
  | 11 => ("FourTongues$Tokens", "stopped", "Z", false)
  | 12 => ("FourTongues$Tokens", "kind", "I", false)
  | 13 => ("FourTongues$Tokens", "place", "I", false)
  | 14 => ("FourTongues$Tokens", "whole", "J", false)
  | _ => ("FourTongues$Tokens", "real", "D", false)
def RX11 : String := "FourTongues"
def TX11 : u_T := fun k => match k with
  | 0 => ("FourTongues", "tape", "[B", true)
  | 1 => ("FourTongues", "taped", "I", false)
  | 2 => ("FourTongues", "faultKind", "I", false)
  | 3 => ("FourTongues", "names", "LFourTongues$Names;", true)
  | 4 => ("FourTongues", "borders", "LFourTongues$Borders;", true)
  | 5 => ("FourTongues", "programs", "[LFourTongues$Program;", true)
  | 6 => ("FourTongues", "draft", "LFourTongues$Program;", false)
  | 7 => ("FourTongues", "parser", "LFourTongues$Parser;", true)
  | _ => ("FourTongues", "machine", "LFourTongues$Machine;", true)
abbrev cX11_isTongue : ByteArray := prog_1_method_17_code
def yX11_isTongue : MethodName := ⟨RX11, "isTongue", "(I)Z"⟩
def RX12 : String := "FourTonguesModel"
def TX12 : u_T := fun k => match k with
  | 0 => ("FourTonguesModel", "thrown", "I", false)
  | 1 => ("FourTonguesModel", "tape", "[I", true)
  | 2 => ("FourTonguesModel", "taped", "I", false)
  | 3 => ("FourTonguesModel", "names", "[J", true)
  | 4 => ("FourTonguesModel", "namesMany", "I", false)
  | 5 => ("FourTonguesModel", "parents", "[I", true)
  | 6 => ("FourTonguesModel", "at", "I", false)
  | 7 => ("FourTonguesModel", "size", "I", false)
  | 8 => ("FourTonguesModel", "sort", "I", false)
  | 9 => ("FourTonguesModel", "place", "I", false)
  | 10 => ("FourTonguesModel", "word", "J", false)
  | 11 => ("FourTonguesModel", "which", "I", false)
  | 12 => ("FourTonguesModel", "number", "J", false)
  | 13 => ("FourTonguesModel", "sign", "I", false)
  | 14 => ("FourTonguesModel", "tongue", "I", false)
  | 15 => ("FourTonguesModel", "fault1", "I", false)
  | 16 => ("FourTonguesModel", "fault2", "I", false)
  | 17 => ("FourTonguesModel", "fault3", "I", false)
  | 18 => ("FourTonguesModel", "nested", "I", false)
  | 19 => ("FourTonguesModel", "ops", "[I", true)
  | 20 => ("FourTonguesModel", "args", "[J", true)
  | 21 => ("FourTonguesModel", "seconds", "[I", true)
  | 22 => ("FourTonguesModel", "code", "I", false)
  | 23 => ("FourTonguesModel", "functionNames", "[J", true)
  | 24 => ("FourTonguesModel", "functionAt", "[I", true)
  | 25 => ("FourTonguesModel", "functionParams", "[I", true)
  | 26 => ("FourTonguesModel", "functionSlots", "[I", true)
  | 27 => ("FourTonguesModel", "functions", "[I", true)
  | 28 => ("FourTonguesModel", "newParents", "[I", true)
  | 29 => ("FourTonguesModel", "newNames", "I", false)
  | 30 => ("FourTonguesModel", "slots", "[J", true)
  | 31 => ("FourTonguesModel", "slotsMany", "I", false)
  | 32 => ("FourTonguesModel", "variables", "I", false)
  | 33 => ("FourTonguesModel", "overs", "[I", true)
  | 34 => ("FourTonguesModel", "keptAt", "I", false)
  | 35 => ("FourTonguesModel", "keptPlace", "I", false)
  | 36 => ("FourTonguesModel", "keptWord", "J", false)
  | 37 => ("FourTonguesModel", "keptCode", "I", false)
  | 38 => ("FourTonguesModel", "waiting", "[I", true)
  | 39 => ("FourTonguesModel", "waitingMany", "I", false)
  | 40 => ("FourTonguesModel", "latestFault", "I", false)
  | 41 => ("FourTonguesModel", "fTongue", "[I", true)
  | 42 => ("FourTonguesModel", "fFunction", "[I", true)
  | 43 => ("FourTonguesModel", "fPc", "[I", true)
  | 44 => ("FourTonguesModel", "fPlace", "[I", true)
  | 45 => ("FourTonguesModel", "fStack", "[I", true)
  | 46 => ("FourTonguesModel", "fBlocks", "[I", true)
  | 47 => ("FourTonguesModel", "frames", "I", false)
  | 48 => ("FourTonguesModel", "framesMost", "I", false)
  | 49 => ("FourTonguesModel", "varKinds", "[B", true)
  | 50 => ("FourTonguesModel", "varBits", "[J", true)
  | 51 => ("FourTonguesModel", "kinds", "[B", true)
  | 52 => ("FourTonguesModel", "bits", "[J", true)
  | 53 => ("FourTonguesModel", "many", "I", false)
  | 54 => ("FourTonguesModel", "bKind", "[I", true)
  | 55 => ("FourTonguesModel", "bTo", "[I", true)
  | 56 => ("FourTonguesModel", "bWhat", "[I", true)
  | 57 => ("FourTonguesModel", "bMany", "[I", true)
  | 58 => ("FourTonguesModel", "bPending", "[I", true)
  | 59 => ("FourTonguesModel", "bPendingKind", "[I", true)
  | 60 => ("FourTonguesModel", "bPendingBits", "[J", true)
  | 61 => ("FourTonguesModel", "blocks", "I", false)
  | 62 => ("FourTonguesModel", "arrayFrom", "[I", true)
  | 63 => ("FourTonguesModel", "arraySize", "[I", true)
  | 64 => ("FourTonguesModel", "arrayTongue", "[I", true)
  | 65 => ("FourTonguesModel", "arrays", "I", false)
  | 66 => ("FourTonguesModel", "cellKinds", "[B", true)
  | 67 => ("FourTonguesModel", "cellBits", "[J", true)
  | 68 => ("FourTonguesModel", "cells", "I", false)
  | 69 => ("FourTonguesModel", "cellsCounted", "I", false)
  | 70 => ("FourTonguesModel", "gTongue", "[I", true)
  | 71 => ("FourTonguesModel", "gWhat", "[I", true)
  | 72 => ("FourTonguesModel", "gKind", "[B", true)
  | 73 => ("FourTonguesModel", "gBits", "[J", true)
  | 74 => ("FourTonguesModel", "gPlace", "[I", true)
  | 75 => ("FourTonguesModel", "gFunction", "[I", true)
  | 76 => ("FourTonguesModel", "gHow", "[I", true)
  | 77 => ("FourTonguesModel", "gFrom", "[I", true)
  | 78 => ("FourTonguesModel", "gUnder", "[I", true)
  | 79 => ("FourTonguesModel", "lyingOnes", "[I", true)
  | 80 => ("FourTonguesModel", "lyingNext", "[I", true)
  | 81 => ("FourTonguesModel", "lyingMany", "I", false)
  | 82 => ("FourTonguesModel", "failures", "I", false)
  | 83 => ("FourTonguesModel", "steps", "I", false)
  | 84 => ("FourTonguesModel", "stepsEver", "I", false)
  | 85 => ("FourTonguesModel", "marks", "I", false)
  | 86 => ("FourTonguesModel", "markBits", "[J", true)
  | 87 => ("FourTonguesModel", "markTongues", "[I", true)
  | 88 => ("FourTonguesModel", "dropped", "I", false)
  | 89 => ("FourTonguesModel", "borders", "I", false)
  | 90 => ("FourTonguesModel", "turnedFailures", "I", false)
  | 91 => ("FourTonguesModel", "theCell", "I", false)
  | 92 => ("FourTonguesModel", "hasRun", "Z", false)
  | 93 => ("FourTonguesModel", "outcome", "I", false)
  | 94 => ("FourTonguesModel", "isOver", "Z", false)
  | 95 => ("FourTonguesModel", "answerKind", "I", false)
  | 96 => ("FourTonguesModel", "answerBits", "J", false)
  | 97 => ("FourTonguesModel", "failed", "I", false)
  | 98 => ("FourTonguesModel", "isTurned", "Z", false)
  | 99 => ("FourTonguesModel", "turned", "J", false)
  | 100 => ("FourTonguesModel", "rules", "[I", true)
  | 101 => ("FourTonguesModel", "entryBorder", "[I", true)
  | 102 => ("FourTonguesModel", "entryWhat", "[I", true)
  | 103 => ("FourTonguesModel", "entryAs", "[I", true)
  | 104 => ("FourTonguesModel", "entries", "I", false)
  | _ => ("FourTonguesModel", "defaults", "[I", true)
def wsX9_init : List Cond := .code yX9_init cX9_init 3 none :: ([.methodLink RX9 1 objectInit, .instanceMethod objectInit, .code objectInit ⟨#[0xb1]⟩ 1 none, .fieldLink RX9 7 "FourTongues$Row" "count" "I", .methodLink RX9 13 Lib.Math.max.name, .static Lib.Math.max.name, .initialized "java/lang/Math", .code Lib.Math.max.name Lib.Math.max.code 2 (some .int), .arrayClass .int, .fieldLink RX9 19 "FourTongues$Row" "kinds" "[I", .arrayClass .long, .fieldLink RX9 23 "FourTongues$Row" "wholes" "[J", .arrayClass .double, .fieldLink RX9 27 "FourTongues$Row" "reals" "[D"] ++ wsX90)
def wsX11_isTongue : List Cond := .code yX11_isTongue cX11_isTongue 1 (some .boolean) :: ([])
theorem dX9_init_0 : decode cX9_init 0 = .ok (.aload_n 0, 1) := by decide +kernel
theorem dX9_init_1 : decode cX9_init 1 = .ok (.invokespecial 1, 3) := by decide +kernel
theorem dX9_init_4 : decode cX9_init 4 = .ok (.aload_n 0, 1) := by decide +kernel
theorem dX9_init_5 : decode cX9_init 5 = .ok (.iconst 0, 1) := by decide +kernel
theorem dX9_init_6 : decode cX9_init 6 = .ok (.putfield 7, 3) := by decide +kernel
theorem dX9_init_9 : decode cX9_init 9 = .ok (.iload_n 1, 1) := by decide +kernel
theorem dX9_init_10 : decode cX9_init 10 = .ok (.iconst 1, 1) := by decide +kernel
theorem dX9_init_11 : decode cX9_init 11 = .ok (.invokestatic 13, 3) := by decide +kernel
theorem dX9_init_14 : decode cX9_init 14 = .ok (.istore_n 2, 1) := by decide +kernel
theorem dX9_init_15 : decode cX9_init 15 = .ok (.aload_n 0, 1) := by decide +kernel
theorem dX9_init_16 : decode cX9_init 16 = .ok (.iload_n 2, 1) := by decide +kernel
theorem dX9_init_17 : decode cX9_init 17 = .ok (.newarray .int, 2) := by decide +kernel
theorem dX9_init_19 : decode cX9_init 19 = .ok (.putfield 19, 3) := by decide +kernel
theorem dX9_init_22 : decode cX9_init 22 = .ok (.aload_n 0, 1) := by decide +kernel
theorem dX9_init_23 : decode cX9_init 23 = .ok (.iload_n 2, 1) := by decide +kernel
theorem dX9_init_24 : decode cX9_init 24 = .ok (.newarray .long, 2) := by decide +kernel
theorem dX9_init_26 : decode cX9_init 26 = .ok (.putfield 23, 3) := by decide +kernel
theorem dX9_init_29 : decode cX9_init 29 = .ok (.aload_n 0, 1) := by decide +kernel
theorem dX9_init_30 : decode cX9_init 30 = .ok (.iload_n 2, 1) := by decide +kernel
theorem dX9_init_31 : decode cX9_init 31 = .ok (.newarray .double, 2) := by decide +kernel
theorem dX9_init_33 : decode cX9_init 33 = .ok (.putfield 27, 3) := by decide +kernel
theorem dX9_init_36 : decode cX9_init 36 = .ok (.return_, 1) := by decide +kernel
theorem dX11_isTongue_0 : decode cX11_isTongue 0 = .ok (.iload_n 0, 1) := by decide +kernel
theorem dX11_isTongue_1 : decode cX11_isTongue 1 = .ok (.ifCond .lt 12, 3) := by decide +kernel
theorem dX11_isTongue_4 : decode cX11_isTongue 4 = .ok (.iload_n 0, 1) := by decide +kernel
theorem dX11_isTongue_5 : decode cX11_isTongue 5 = .ok (.iconst 4, 1) := by decide +kernel
theorem dX11_isTongue_6 : decode cX11_isTongue 6 = .ok (.if_icmp .ge 7, 3) := by decide +kernel
theorem dX11_isTongue_9 : decode cX11_isTongue 9 = .ok (.iconst 1, 1) := by decide +kernel
theorem dX11_isTongue_10 : decode cX11_isTongue 10 = .ok (.goto 4, 3) := by decide +kernel
theorem dX11_isTongue_13 : decode cX11_isTongue 13 = .ok (.iconst 0, 1) := by decide +kernel
theorem dX11_isTongue_14 : decode cX11_isTongue 14 = .ok (.ireturn, 1) := by decide +kernel
abbrev vwCl : List vw_C := [(RX0, TX0, 6), (RX1, TX1, 5), (RX2, TX2, 8), (RX3, TX3, 7), (RX4, TX4, 17), (RX5, TX5, 5), (RX7, TX7, 11), (RX8, TX8, 8), (RX9, TX9, 4), (RX10, TX10, 16), (RX11, TX11, 9), (RX12, TX12, 106)]
end
section
/-! words of my own over the kit's worlds: what a method that only reads is given (xR), what one that writes is given (xM), what it leaves (xB) -/
section XB
variable {p : Program} {l : Launch} {e : Env} {R : Room} {s : State} {m : MethodId} {args : Array Value} {below : List Frame} {meth : Method} {c : Code} {H : Heap} {locs : List Loc} {cells slots : Nat} {Q : State → Prop}
theorem my_ti {pc : Nat} {ls : Array Slot} {rest : List Value} {x v : Int32} (h : x = v) (k : W p l e R s m args below meth c H locs cells slots Q (F0 m pc ls (.int v :: rest))) : W p l e R s m args below meth c H locs cells slots Q (F0 m pc ls (.int x :: rest)) := by
  subst h; exact k
theorem my_tl {pc : Nat} {ls : Array Slot} {rest : List Value} {x v : Int64} (h : x = v) (k : W p l e R s m args below meth c H locs cells slots Q (F0 m pc ls (.long v :: rest))) : W p l e R s m args below meth c H locs cells slots Q (F0 m pc ls (.long x :: rest)) := by
  subst h; exact k
theorem my_tv {pc : Nat} {ls : Array Slot} {rest : List Value} {x v : Value} (h : x = v) (k : W p l e R s m args below meth c H locs cells slots Q (F0 m pc ls (v :: rest))) : W p l e R s m args below meth c H locs cells slots Q (F0 m pc ls (x :: rest)) := by
  subst h; exact k
end XB
def xR (D : va_G) (ws : va_W) (tys : List (ClassId × FieldType)) (U : State) : Prop := va_P D vwCl ws U.heap ∧ va_K D vwCl tys U
def xM (D : va_G) (sz : Nat) (ws : va_W) (tys : List (ClassId × FieldType)) (U : State) : Prop := U.heap.size = sz ∧ va_P D vwCl ws U.heap ∧ va_K D vwCl tys U ∧ va_D (fun _ => True) ws
def xB (D : va_G) (ws : va_W) (tys : List (ClassId × FieldType)) (A : Nat → Prop) (t : State) : Prop := va_P D vwCl ws t.heap ∧ va_K D vwCl tys t ∧ va_D A ws
theorem xR.at {D : va_G} {ws : va_W} {tys : List (ClassId × FieldType)} {s U : State} {H : Heap} (hP : va_P D vwCl ws H) (hK : va_K D vwCl tys s) (hU : U.heap = H) (hW : s.WarmedH U.vm) : xR D ws tys U := ⟨by rw [hU]; exact hP, va_K.moved hW.alike hK⟩
theorem xM.at {D : va_G} {ws : va_W} {tys : List (ClassId × FieldType)} {s U : State} {H : Heap} {A : Nat → Prop} (hP : va_P D vwCl ws H) (hK : va_K D vwCl tys s) (hD : va_D A ws) (hU : U.heap = H) (hW : s.WarmedH U.vm) : xM D H.size ws tys U := ⟨by rw [hU], by rw [hU]; exact hP, va_K.moved hW.alike hK, hD.weaken (fun _ _ _ _ => trivial)⟩
theorem xR.keep {D : va_G} {ws : va_W} {H H1 : Heap} (hP : va_P D vwCl ws H) (hk : ∀ q : Nat, q < H.size → ¬ (fun _ : Nat => False) q → H1[q]? = H[q]?) : va_P D vwCl ws H1 := fun k q h => (hP k q h).kept (hk q.1 (hP k q h).lt (fun h => h))
theorem xB.nil {D : va_G} {A : Nat → Prop} {tys : List (ClassId × FieldType)} {s t : State} (hvm : s.vm.Alike t.vm) (hK : va_K D vwCl tys s) : xB D [] [] A t := ⟨fun k q h => by simp at h, va_K.moved hvm (hK.sub [] rfl), ⟨fun i j p q h => by simp at h, fun k q h => by simp at h⟩⟩
theorem xB.join {A0 : Nat → Prop} {D : va_G} {ws wc wr w1 : va_W} {tys t1 : List (ClassId × FieldType)} {H H1 : Heap} {s t : State} (hP : va_P D vwCl ws H) (hD : va_D A0 ws) (hK : va_K D vwCl tys s) (isC isR : List Nat) (hC : isC.map (fun i => ws[i]?) = wc.map some) (hR : isR.map (fun i => ws[i]?) = wr.map some) (hn : va_nd isR = true) (hdis : ∀ i ∈ isR, i ∉ isC)
    (hk : ∀ q : Nat, q < H.size → ¬ va_A wc H.size q → H1[q]? = H[q]?) (hF : ∀ q, va_A wc H.size q → A0 q) (hB : xB D w1 t1 (va_A wc H.size) t) (ht : t.heap = H1) (hvm : s.vm.Alike t.vm) : va_P D vwCl (wr ++ w1) H1 ∧ va_D A0 (wr ++ w1) ∧ va_K D vwCl (tys ++ t1) s := by
  obtain ⟨hP1, hK1, hD1⟩ := hB
  rw [ht] at hP1
  obtain ⟨h1, h2⟩ := va_join hP hD isC isR hC hR hn hdis hk hF hP1 hD1
  exact ⟨h1, h2, hK.app (va_K.moved hvm.symm hK1)⟩
theorem cz_int (n : Nat) : ∀ cA : ClassId, vp_cell cA (n, .inl (fun _ => 0)) = arrV cA n (fun _ => defaultValue .int) := fun _ => rfl
theorem cz_byte (n : Nat) : ∀ cA : ClassId, vp_cell cA (n, .inl (fun _ => 0)) = arrV cA n (fun _ => defaultValue .byte) := fun _ => rfl
theorem cz_long (n : Nat) : ∀ cA : ClassId, vp_cell cA (n, .inr (.inl (fun _ => 0))) = arrV cA n (fun _ => defaultValue .long) := fun _ => rfl
theorem cz_double (n : Nat) : ∀ cA : ClassId, vp_cell cA (n, .inr (.inr (.inr (.inl (fun _ => 0))))) = arrV cA n (fun _ => defaultValue .double) := fun _ => rfl
end
section
set_option maxRecDepth 100000 in
theorem in_X9_init_RX9 : ∀ w ∈ u_ws RX9 TX9 4, w ∈ wsX9_init := by decide +kernel
set_option maxHeartbeats 4000000 in
set_option maxRecDepth 100000 in
theorem c_X11_isTongue (l : Launch) (dC : Nat → ClassId) (dI : Nat → Nat → Nat) (x1 : Int32) : Met l yX11_isTongue wsX11_isTongue ({ frames := 0, cells := 0, slots := 0, locals := 0 }) (va_Pc [.int x1] (fun U => xR (dC, dI) [] [] U)) (va_Qi (fun (r : Int32) (_ : Unit) => r = if 0 ≤ x1 ∧ x1 < 4 then 1 else 0) (fun (_ : Unit) _ => True) (fun _ => False)) 0 0 (fun _ => False) := by
  refine Met.ofW (cc := cX11_isTongue) (maxL := 1) (ret := (some .boolean)) (by decide) rfl ?_
  intro p e s m args below meth c s₁ B hml hv
  obtain ⟨rfl, hP, hK⟩ := hv
  have hx := B.exec
  have hb := B.bytes
  have hr := B.returns
  have hts := atoms_spec (ws := wsX11_isTongue) B.pre
  have hown : s.vm.findClass RX11 = some m.cls := findClass_of_methodNamed B.named
  have hlocks := B.notSynchronized
  have hS : va_S (fun _ => False) s.heap s.heap [] := va_S.rf
  have hl := lv_entry ([.int x1]) (n := 1) (Nat.le_of_ble_eq_true rfl)
  rw [lg_entry_eq]
  generalize (lg_sl ([.int x1]) ++ List.replicate (1 - (lg_sl ([.int x1])).length) Slot.unset).toArray = ls at hl ⊢
  have hl : lv_has ls 1 [(0, .int x1)] := hl
  refine lv_iload_n hx hb dX11_isTongue_0 rfl (lv_at hl 0 rfl) ?_
  refine lv_if_lt (tgt := 13) hx hb dX11_isTongue_1 (by decide) (fun c_1 => ?_) (fun c_1 => ?_)
  · refine lv_iconst (v := 0) hx hb dX11_isTongue_13 (by decide) ?_
    exact W.zret (v := 0) hx hb hr rfl (fun t ht hW => ⟨⟨0, (), rfl, (if_neg (fun h => absurd h.1 (Int32.not_le.mpr c_1))).symm, trivial⟩, hS.F ht⟩) hS.2.2 dX11_isTongue_14
  · refine lv_iload_n hx hb dX11_isTongue_4 rfl (lv_at hl 0 rfl) ?_
    refine lv_iconst (v := 4) hx hb dX11_isTongue_5 (by decide) ?_
    refine lv_icmp_ge (tgt := 13) hx hb dX11_isTongue_6 (by decide) (fun c_6 => ?_) (fun c_6 => ?_)
    · refine lv_iconst (v := 0) hx hb dX11_isTongue_13 (by decide) ?_
      exact W.zret (v := 0) hx hb hr rfl (fun t ht hW => ⟨⟨0, (), rfl, (if_neg (fun h => absurd h.2 (Int32.not_lt.mpr c_6))).symm, trivial⟩, hS.F ht⟩) hS.2.2 dX11_isTongue_14
    · refine lv_iconst (v := 1) hx hb dX11_isTongue_9 (by decide) ?_
      refine lv_goto (tgt := 14) hx hb dX11_isTongue_10 (by decide) ?_
      exact W.zret (v := 1) hx hb hr rfl (fun t ht hW => ⟨⟨1, (), rfl, (if_pos ⟨Int32.not_lt.mp c_1, Int32.not_le.mp c_6⟩).symm, trivial⟩, hS.F ht⟩) hS.2.2 dX11_isTongue_14

set_option maxHeartbeats 4000000 in
set_option maxRecDepth 100000 in
theorem c_X9_init (l : Launch) (dC : Nat → ClassId) (dI : Nat → Nat → Nat) (sz : Nat) (h0 : Nat) : Met l yX9_init wsX9_init ({ frames := 1, cells := 3, slots := 96, locals := 20 }) (va_Pc [.ref h0, .int 32] (fun U => xM (dC, dI) sz [(h0, .inr (8, [.null, .null, .null, .int 0]))] [] U)) (va_Qv (fun _ : Unit => True) (fun (_ : Unit) t => ∃ (q1 : Nat), ∃ (q2 : Nat), ∃ (q3 : Nat), ∃ (cA1 : ClassId), xB (dC, dI) [(h0, .inr (8, [.ref q1, .ref q2, .ref q3, .int 0])), (q1, .inl (cA1, 32, .inl (fun _ => 0)))] [(cA1, .int)] (va_A [(h0, .inr (8, [.null, .null, .null, .int 0]))] sz) t) (va_A [(h0, .inr (8, [.null, .null, .null, .int 0]))] sz)) 3 96 (va_A [(h0, .inr (8, [.null, .null, .null, .int 0]))] sz) := by
  refine Met.ofW (cc := cX9_init) (maxL := 3) (ret := none) (by decide) rfl ?_
  intro p e s m args below meth c s₁ B hml hv
  obtain ⟨rfl, hsz, hP, hK, hD0⟩ := hv
  have hx := B.exec
  have hb := B.bytes
  have hr := B.returns
  have hts := atoms_spec (ws := wsX9_init) B.pre
  have hown : s.vm.findClass RX9 = some m.cls := findClass_of_methodNamed B.named
  have hlocks := B.notSynchronized
  have hin : meth.name = "<init>" := (name_of_methodNamed B.named B.method).1
  subst hsz
  have hD := hD0.self (sz := s.heap.size)
  generalize hAe : va_A [(h0, .inr (8, [.null, .null, .null, .int 0]))] s.heap.size = A at hD ⊢
  have hA : ∀ q : Nat, s.heap.size ≤ q → A q := fun q h => by rw [← hAe]; exact Or.inr h
  have hS : va_S A s.heap s.heap [] := va_S.rf
  have hl := lv_entry ([.ref h0, .int 32]) (n := 3) (Nat.le_of_ble_eq_true rfl)
  rw [lg_entry_eq]
  generalize (lg_sl ([.ref h0, .int 32]) ++ List.replicate (3 - (lg_sl ([.ref h0, .int 32])).length) Slot.unset).toArray = ls at hl ⊢
  have hl : lv_has ls 3 [(0, .ref h0), (1, .int 32)] := hl
  refine lv_aload_n hx hb dX9_init_0 rfl (lv_at hl 0 rfl) ?_
  refine W.objInit hx hb hown (hts (.methodLink RX9 1 objectInit) (by decide +kernel)) (hts (.instanceMethod objectInit) (by decide +kernel)) (hts (.code objectInit ⟨#[0xb1]⟩ 1 none) (by decide +kernel)) rfl (by rw [hml]; exact hl.1) rfl dX9_init_1 (Nat.le_of_ble_eq_true rfl) (Nat.le_of_ble_eq_true rfl) ?_
  refine W.eq (g2 := F0 m 4 ls []) rfl ?_
  refine lv_aload_n hx hb dX9_init_4 rfl (lv_at hl 0 rfl) ?_
  refine lv_iconst (v := 0) hx hb dX9_init_5 (by decide) ?_
  refine va_put (D := (dC, dI)) (ci := 8) (v := .int 0) (ty := .int) (C := RX9) (T := TX9) (N := 4) hx hb hts in_X9_init_RX9 tyX9 tyX9_ok nmX9 hown hK hP hD hS 0 rfl rfl 3 (by decide) (hts (.fieldLink RX9 7 "FourTongues$Row" "count" "I") (by decide +kernel)) (fun _ h9 => h9) rfl (by decide +kernel) rfl rfl (Nat.le_of_ble_eq_true rfl) dX9_init_6 (fun H locs hP hD hS => ?_)
  have hP : va_P (dC, dI) vwCl [(h0, .inr (8, [.null, .null, .null, .int 0]))] _ := hP
  have hD : va_D A [(h0, .inr (8, [.null, .null, .null, .int 0]))] := hD
  refine lv_iload_n hx hb dX9_init_9 rfl (lv_at hl 1 rfl) ?_
  refine lv_iconst (v := 1) hx hb dX9_init_10 (by decide) ?_
  refine va_mmax hx hb (by rw [hml]; exact hl.1.symm) hown (hts (.methodLink RX9 13 Lib.Math.max.name) (by decide +kernel)) (hts (.static Lib.Math.max.name) (by decide +kernel)) (hts (.initialized "java/lang/Math") (by decide +kernel)) (hts (.code Lib.Math.max.name Lib.Math.max.code 2 (some .int)) (by decide +kernel)) (Nat.le_of_ble_eq_true rfl) (Nat.le_of_ble_eq_true rfl) (Nat.le_of_ble_eq_true rfl) (Nat.le_of_ble_eq_true rfl) dX9_init_11 ?_
  refine my_ti (v := 32) (by decide) ?_
  refine lv_istore_n (lv' := [(2, .int 32), (0, .ref h0), (1, .int 32)]) hx hb dX9_init_14 rfl hl (by decide) rfl (fun ls hl => ?_)
  refine lv_aload_n hx hb dX9_init_15 rfl (lv_at hl 1 rfl) ?_
  refine lv_iload_n hx hb dX9_init_16 rfl (lv_at hl 0 rfl) ?_
  refine va_newa (atype := .int) (ty := .int) (a0 := (32, .inl (fun _ => 0))) (N' := 32) hx hb (hts (.arrayClass .int) (by decide +kernel)) rfl hK hP hD hS hA (cz_int 32) (by decide +kernel) (by decide +kernel) (by decide +kernel) (Nat.le_of_ble_eq_true rfl) (Nat.le_of_ble_eq_true rfl) dX9_init_17 (fun q_1 cA_2 H hK hP hD hS => ?_)
  have hP : va_P (dC, dI) vwCl [(h0, .inr (8, [.null, .null, .null, .int 0])), (q_1, .inl (cA_2, 32, .inl (fun _ => 0)))] _ := hP
  have hD : va_D A [(h0, .inr (8, [.null, .null, .null, .int 0])), (q_1, .inl (cA_2, 32, .inl (fun _ => 0)))] := hD
  have hK : va_K (dC, dI) vwCl [(cA_2, .int)] s := hK
  refine W.widen (k := 1) (n := 32) (Nat.le_of_ble_eq_true rfl) (Nat.le_of_ble_eq_true rfl) ?_
  refine va_put (D := (dC, dI)) (ci := 8) (v := .ref q_1) (ty := .array .int) (C := RX9) (T := TX9) (N := 4) hx hb hts in_X9_init_RX9 tyX9 tyX9_ok nmX9 hown hK hP hD hS 0 rfl rfl 0 (by decide) (hts (.fieldLink RX9 19 "FourTongues$Row" "kinds" "[I") (by decide +kernel)) (fun _ h9 => h9) rfl (by decide +kernel) rfl rfl (Nat.le_of_ble_eq_true rfl) dX9_init_19 (fun H locs hP hD hS => ?_)
  have hP : va_P (dC, dI) vwCl [(h0, .inr (8, [.ref q_1, .null, .null, .int 0])), (q_1, .inl (cA_2, 32, .inl (fun _ => 0)))] _ := hP
  have hD : va_D A [(h0, .inr (8, [.ref q_1, .null, .null, .int 0])), (q_1, .inl (cA_2, 32, .inl (fun _ => 0)))] := hD
  refine lv_aload_n hx hb dX9_init_22 rfl (lv_at hl 1 rfl) ?_
  refine lv_iload_n hx hb dX9_init_23 rfl (lv_at hl 0 rfl) ?_
  refine va_newa (atype := .long) (ty := .long) (a0 := (32, .inr (.inl (fun _ => 0)))) (N' := 32) hx hb (hts (.arrayClass .long) (by decide +kernel)) rfl hK hP hD hS hA (cz_long 32) (by decide +kernel) (by decide +kernel) (by decide +kernel) (Nat.le_of_ble_eq_true rfl) (Nat.le_of_ble_eq_true rfl) dX9_init_24 (fun q_3 cA_4 H hK hP hD hS => ?_)
  have hP : va_P (dC, dI) vwCl [(h0, .inr (8, [.ref q_1, .null, .null, .int 0])), (q_1, .inl (cA_2, 32, .inl (fun _ => 0))), (q_3, .inl (cA_4, 32, .inr (.inl (fun _ => 0))))] _ := hP
  have hD : va_D A [(h0, .inr (8, [.ref q_1, .null, .null, .int 0])), (q_1, .inl (cA_2, 32, .inl (fun _ => 0))), (q_3, .inl (cA_4, 32, .inr (.inl (fun _ => 0))))] := hD
  have hK : va_K (dC, dI) vwCl [(cA_2, .int), (cA_4, .long)] s := hK
  refine W.widen (k := 2) (n := 64) (Nat.le_of_ble_eq_true rfl) (Nat.le_of_ble_eq_true rfl) ?_
  refine va_put (D := (dC, dI)) (ci := 8) (v := .ref q_3) (ty := .array .long) (C := RX9) (T := TX9) (N := 4) hx hb hts in_X9_init_RX9 tyX9 tyX9_ok nmX9 hown hK hP hD hS 0 rfl rfl 1 (by decide) (hts (.fieldLink RX9 23 "FourTongues$Row" "wholes" "[J") (by decide +kernel)) (fun _ h9 => h9) rfl (by decide +kernel) rfl rfl (Nat.le_of_ble_eq_true rfl) dX9_init_26 (fun H locs hP hD hS => ?_)
  have hP : va_P (dC, dI) vwCl [(h0, .inr (8, [.ref q_1, .ref q_3, .null, .int 0])), (q_1, .inl (cA_2, 32, .inl (fun _ => 0))), (q_3, .inl (cA_4, 32, .inr (.inl (fun _ => 0))))] _ := hP
  have hD : va_D A [(h0, .inr (8, [.ref q_1, .ref q_3, .null, .int 0])), (q_1, .inl (cA_2, 32, .inl (fun _ => 0))), (q_3, .inl (cA_4, 32, .inr (.inl (fun _ => 0))))] := hD
  refine lv_aload_n hx hb dX9_init_29 rfl (lv_at hl 1 rfl) ?_
  refine lv_iload_n hx hb dX9_init_30 rfl (lv_at hl 0 rfl) ?_
  refine va_newa (atype := .double) (ty := .double) (a0 := (32, .inr (.inr (.inr (.inl (fun _ => 0)))))) (N' := 32) hx hb (hts (.arrayClass .double) (by decide +kernel)) rfl hK hP hD hS hA (cz_double 32) (by decide +kernel) (by decide +kernel) (by decide +kernel) (Nat.le_of_ble_eq_true rfl) (Nat.le_of_ble_eq_true rfl) dX9_init_31 (fun q_5 cA_6 H hK hP hD hS => ?_)
  have hP : va_P (dC, dI) vwCl [(h0, .inr (8, [.ref q_1, .ref q_3, .null, .int 0])), (q_1, .inl (cA_2, 32, .inl (fun _ => 0))), (q_3, .inl (cA_4, 32, .inr (.inl (fun _ => 0)))), (q_5, .inl (cA_6, 32, .inr (.inr (.inr (.inl (fun _ => 0))))))] _ := hP
  have hD : va_D A [(h0, .inr (8, [.ref q_1, .ref q_3, .null, .int 0])), (q_1, .inl (cA_2, 32, .inl (fun _ => 0))), (q_3, .inl (cA_4, 32, .inr (.inl (fun _ => 0)))), (q_5, .inl (cA_6, 32, .inr (.inr (.inr (.inl (fun _ => 0))))))] := hD
  have hK : va_K (dC, dI) vwCl [(cA_2, .int), (cA_4, .long), (cA_6, .double)] s := hK
  refine W.widen (k := 3) (n := 96) (Nat.le_of_ble_eq_true rfl) (Nat.le_of_ble_eq_true rfl) ?_
  refine va_put (D := (dC, dI)) (ci := 8) (v := .ref q_5) (ty := .array .double) (C := RX9) (T := TX9) (N := 4) hx hb hts in_X9_init_RX9 tyX9 tyX9_ok nmX9 hown hK hP hD hS 0 rfl rfl 2 (by decide) (hts (.fieldLink RX9 27 "FourTongues$Row" "reals" "[D") (by decide +kernel)) (fun _ h9 => h9) rfl (by decide +kernel) rfl rfl (Nat.le_of_ble_eq_true rfl) dX9_init_33 (fun H locs hP hD hS => ?_)
  have hP : va_P (dC, dI) vwCl [(h0, .inr (8, [.ref q_1, .ref q_3, .ref q_5, .int 0])), (q_1, .inl (cA_2, 32, .inl (fun _ => 0))), (q_3, .inl (cA_4, 32, .inr (.inl (fun _ => 0)))), (q_5, .inl (cA_6, 32, .inr (.inr (.inr (.inl (fun _ => 0))))))] _ := hP
  have hD : va_D A [(h0, .inr (8, [.ref q_1, .ref q_3, .ref q_5, .int 0])), (q_1, .inl (cA_2, 32, .inl (fun _ => 0))), (q_3, .inl (cA_4, 32, .inr (.inl (fun _ => 0)))), (q_5, .inl (cA_6, 32, .inr (.inr (.inr (.inl (fun _ => 0))))))] := hD
  have hP9 := hP.sub (ws' := [(h0, .inr (8, [.ref q_1, .ref q_3, .ref q_5, .int 0])), (q_1, .inl (cA_2, 32, .inl (fun _ => 0)))]) [0, 1] rfl
  have hD9 := hD.sub (ws' := [(h0, .inr (8, [.ref q_1, .ref q_3, .ref q_5, .int 0])), (q_1, .inl (cA_2, 32, .inl (fun _ => 0)))]) [0, 1] (by decide) rfl
  have hK9 := hK.sub (tys' := [(cA_2, .int)]) [0] rfl
  exact W.vret hx hb hr (fun t ht hW => ⟨⟨(), rfl, trivial, ⟨q_1, q_3, q_5, cA_2, by rw [ht]; exact hP9, va_K.moved hW.alike hK9, hD9⟩⟩, hS.F ht⟩) hS.2.2 dX9_init_36
end
