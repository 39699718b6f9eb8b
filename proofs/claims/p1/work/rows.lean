section
-- ===== PART A: goes FIRST, ahead of the names: the tables' words, and 'selects' of the private methods out of them =====
/-- a private method of a class that the tables say can be made, by its rows of tables_1 -/
def lw_okq (q : MethodName × Nat) : Prop := (q.1.cls ≠ "java/lang/invoke/MethodHandle" ∧ q.1.cls ≠ "java/lang/invoke/VarHandle") ∧ Cond.instantiable q.1.cls q.2 ∈ tables_1 ∧ Cond.privateMethod q.1 ∈ tables_1 ∧ Cond.instanceMethod q.1 ∈ tables_1
theorem lw_p0 : lw_okq (⟨"FourTongues", "addBytes", "(I)V"⟩, 9) := ⟨⟨by decide +kernel, by decide +kernel⟩, List.mem_of_getElem? (i := 25) (by decide +kernel), List.mem_of_getElem? (i := 469) (by decide +kernel), List.mem_of_getElem? (i := 470) (by decide +kernel)⟩
theorem lw_p1 : lw_okq (⟨"FourTongues$Tokens", "readToken", "()V"⟩, 16) := ⟨⟨by decide +kernel, by decide +kernel⟩, List.mem_of_getElem? (i := 196) (by decide +kernel), List.mem_of_getElem? (i := 535) (by decide +kernel), List.mem_of_getElem? (i := 536) (by decide +kernel)⟩
theorem lw_p2 : lw_okq (⟨"FourTongues$Tokens", "byteAt", "(I)I"⟩, 16) := ⟨⟨by decide +kernel, by decide +kernel⟩, List.mem_of_getElem? (i := 196) (by decide +kernel), List.mem_of_getElem? (i := 539) (by decide +kernel), List.mem_of_getElem? (i := 540) (by decide +kernel)⟩
theorem lw_p3 : lw_okq (⟨"FourTongues$Tokens", "readName", "()V"⟩, 16) := ⟨⟨by decide +kernel, by decide +kernel⟩, List.mem_of_getElem? (i := 196) (by decide +kernel), List.mem_of_getElem? (i := 546) (by decide +kernel), List.mem_of_getElem? (i := 547) (by decide +kernel)⟩
theorem lw_p4 : lw_okq (⟨"FourTongues$Tokens", "wordOrName", "()I"⟩, 16) := ⟨⟨by decide +kernel, by decide +kernel⟩, List.mem_of_getElem? (i := 196) (by decide +kernel), List.mem_of_getElem? (i := 553) (by decide +kernel), List.mem_of_getElem? (i := 554) (by decide +kernel)⟩
theorem lw_p5 : lw_okq (⟨"FourTongues$Tokens", "readNumber", "()V"⟩, 16) := ⟨⟨by decide +kernel, by decide +kernel⟩, List.mem_of_getElem? (i := 196) (by decide +kernel), List.mem_of_getElem? (i := 557) (by decide +kernel), List.mem_of_getElem? (i := 558) (by decide +kernel)⟩
theorem lw_p6 : lw_okq (⟨"FourTongues$Tokens", "readReal", "()V"⟩, 16) := ⟨⟨by decide +kernel, by decide +kernel⟩, List.mem_of_getElem? (i := 196) (by decide +kernel), List.mem_of_getElem? (i := 561) (by decide +kernel), List.mem_of_getElem? (i := 562) (by decide +kernel)⟩
theorem lw_p7 : lw_okq (⟨"FourTongues$Tokens", "readDigits", "(I)I"⟩, 16) := ⟨⟨by decide +kernel, by decide +kernel⟩, List.mem_of_getElem? (i := 196) (by decide +kernel), List.mem_of_getElem? (i := 565) (by decide +kernel), List.mem_of_getElem? (i := 566) (by decide +kernel)⟩
theorem lw_p8 : lw_okq (⟨"FourTongues$Tokens", "readSign", "(I)V"⟩, 16) := ⟨⟨by decide +kernel, by decide +kernel⟩, List.mem_of_getElem? (i := 196) (by decide +kernel), List.mem_of_getElem? (i := 577) (by decide +kernel), List.mem_of_getElem? (i := 578) (by decide +kernel)⟩
theorem lw_p9 : lw_okq (⟨"FourTongues$Parser", "took", "(I)Z"⟩, 11) := ⟨⟨by decide +kernel, by decide +kernel⟩, List.mem_of_getElem? (i := 190) (by decide +kernel), List.mem_of_getElem? (i := 641) (by decide +kernel), List.mem_of_getElem? (i := 642) (by decide +kernel)⟩
theorem lw_p10 : lw_okq (⟨"FourTongues$Parser", "function", "()V"⟩, 11) := ⟨⟨by decide +kernel, by decide +kernel⟩, List.mem_of_getElem? (i := 190) (by decide +kernel), List.mem_of_getElem? (i := 646) (by decide +kernel), List.mem_of_getElem? (i := 647) (by decide +kernel)⟩
theorem lw_p11 : lw_okq (⟨"FourTongues$Parser", "need", "(I)V"⟩, 11) := ⟨⟨by decide +kernel, by decide +kernel⟩, List.mem_of_getElem? (i := 190) (by decide +kernel), List.mem_of_getElem? (i := 650) (by decide +kernel), List.mem_of_getElem? (i := 651) (by decide +kernel)⟩
theorem lw_p12 : lw_okq (⟨"FourTongues$Parser", "tellFault", "(II)V"⟩, 11) := ⟨⟨by decide +kernel, by decide +kernel⟩, List.mem_of_getElem? (i := 190) (by decide +kernel), List.mem_of_getElem? (i := 658) (by decide +kernel), List.mem_of_getElem? (i := 659) (by decide +kernel)⟩
theorem lw_p13 : lw_okq (⟨"FourTongues$Parser", "parameters", "()V"⟩, 11) := ⟨⟨by decide +kernel, by decide +kernel⟩, List.mem_of_getElem? (i := 190) (by decide +kernel), List.mem_of_getElem? (i := 674) (by decide +kernel), List.mem_of_getElem? (i := 675) (by decide +kernel)⟩
theorem lw_p14 : lw_okq (⟨"FourTongues$Parser", "needOpen", "(I)V"⟩, 11) := ⟨⟨by decide +kernel, by decide +kernel⟩, List.mem_of_getElem? (i := 190) (by decide +kernel), List.mem_of_getElem? (i := 678) (by decide +kernel), List.mem_of_getElem? (i := 679) (by decide +kernel)⟩
theorem lw_p15 : lw_okq (⟨"FourTongues$Parser", "parameter", "()V"⟩, 11) := ⟨⟨by decide +kernel, by decide +kernel⟩, List.mem_of_getElem? (i := 190) (by decide +kernel), List.mem_of_getElem? (i := 682) (by decide +kernel), List.mem_of_getElem? (i := 683) (by decide +kernel)⟩
def lw_privs_1 : List (MethodName × Nat) := [(⟨"FourTongues", "addBytes", "(I)V"⟩, 9), (⟨"FourTongues$Tokens", "readToken", "()V"⟩, 16), (⟨"FourTongues$Tokens", "byteAt", "(I)I"⟩, 16), (⟨"FourTongues$Tokens", "readName", "()V"⟩, 16), (⟨"FourTongues$Tokens", "wordOrName", "()I"⟩, 16), (⟨"FourTongues$Tokens", "readNumber", "()V"⟩, 16), (⟨"FourTongues$Tokens", "readReal", "()V"⟩, 16), (⟨"FourTongues$Tokens", "readDigits", "(I)I"⟩, 16), (⟨"FourTongues$Tokens", "readSign", "(I)V"⟩, 16), (⟨"FourTongues$Parser", "took", "(I)Z"⟩, 11), (⟨"FourTongues$Parser", "function", "()V"⟩, 11), (⟨"FourTongues$Parser", "need", "(I)V"⟩, 11), (⟨"FourTongues$Parser", "tellFault", "(II)V"⟩, 11), (⟨"FourTongues$Parser", "parameters", "()V"⟩, 11), (⟨"FourTongues$Parser", "needOpen", "(I)V"⟩, 11), (⟨"FourTongues$Parser", "parameter", "()V"⟩, 11)]
theorem lw_r1 : ∀ q ∈ lw_privs_1, lw_okq q := List.forall_mem_cons.mpr ⟨lw_p0, List.forall_mem_cons.mpr ⟨lw_p1, List.forall_mem_cons.mpr ⟨lw_p2, List.forall_mem_cons.mpr ⟨lw_p3, List.forall_mem_cons.mpr ⟨lw_p4, List.forall_mem_cons.mpr ⟨lw_p5, List.forall_mem_cons.mpr ⟨lw_p6, List.forall_mem_cons.mpr ⟨lw_p7, List.forall_mem_cons.mpr ⟨lw_p8, List.forall_mem_cons.mpr ⟨lw_p9, List.forall_mem_cons.mpr ⟨lw_p10, List.forall_mem_cons.mpr ⟨lw_p11, List.forall_mem_cons.mpr ⟨lw_p12, List.forall_mem_cons.mpr ⟨lw_p13, List.forall_mem_cons.mpr ⟨lw_p14, List.forall_mem_cons.mpr ⟨lw_p15, fun _ h => absurd h List.not_mem_nil⟩⟩⟩⟩⟩⟩⟩⟩⟩⟩⟩⟩⟩⟩⟩⟩
theorem lw_p16 : lw_okq (⟨"FourTongues$Parser", "variable", "(J)I"⟩, 11) := ⟨⟨by decide +kernel, by decide +kernel⟩, List.mem_of_getElem? (i := 190) (by decide +kernel), List.mem_of_getElem? (i := 686) (by decide +kernel), List.mem_of_getElem? (i := 687) (by decide +kernel)⟩
theorem lw_p17 : lw_okq (⟨"FourTongues$Parser", "declare", "(J)I"⟩, 11) := ⟨⟨by decide +kernel, by decide +kernel⟩, List.mem_of_getElem? (i := 190) (by decide +kernel), List.mem_of_getElem? (i := 690) (by decide +kernel), List.mem_of_getElem? (i := 691) (by decide +kernel)⟩
theorem lw_p18 : lw_okq (⟨"FourTongues$Parser", "needClosed", "(I)V"⟩, 11) := ⟨⟨by decide +kernel, by decide +kernel⟩, List.mem_of_getElem? (i := 190) (by decide +kernel), List.mem_of_getElem? (i := 695) (by decide +kernel), List.mem_of_getElem? (i := 696) (by decide +kernel)⟩
theorem lw_p19 : lw_okq (⟨"FourTongues$Parser", "block", "()V"⟩, 11) := ⟨⟨by decide +kernel, by decide +kernel⟩, List.mem_of_getElem? (i := 190) (by decide +kernel), List.mem_of_getElem? (i := 699) (by decide +kernel), List.mem_of_getElem? (i := 700) (by decide +kernel)⟩
theorem lw_p20 : lw_okq (⟨"FourTongues$Parser", "statement", "()V"⟩, 11) := ⟨⟨by decide +kernel, by decide +kernel⟩, List.mem_of_getElem? (i := 190) (by decide +kernel), List.mem_of_getElem? (i := 703) (by decide +kernel), List.mem_of_getElem? (i := 704) (by decide +kernel)⟩
theorem lw_p21 : lw_okq (⟨"FourTongues$Parser", "add", "(III)I"⟩, 11) := ⟨⟨by decide +kernel, by decide +kernel⟩, List.mem_of_getElem? (i := 190) (by decide +kernel), List.mem_of_getElem? (i := 707) (by decide +kernel), List.mem_of_getElem? (i := 708) (by decide +kernel)⟩
theorem lw_p22 : lw_okq (⟨"FourTongues$Parser", "let", "()V"⟩, 11) := ⟨⟨by decide +kernel, by decide +kernel⟩, List.mem_of_getElem? (i := 190) (by decide +kernel), List.mem_of_getElem? (i := 716) (by decide +kernel), List.mem_of_getElem? (i := 717) (by decide +kernel)⟩
theorem lw_p23 : lw_okq (⟨"FourTongues$Parser", "withExpression", "(II)V"⟩, 11) := ⟨⟨by decide +kernel, by decide +kernel⟩, List.mem_of_getElem? (i := 190) (by decide +kernel), List.mem_of_getElem? (i := 720) (by decide +kernel), List.mem_of_getElem? (i := 721) (by decide +kernel)⟩
theorem lw_p24 : lw_okq (⟨"FourTongues$Parser", "expression", "(Z)V"⟩, 11) := ⟨⟨by decide +kernel, by decide +kernel⟩, List.mem_of_getElem? (i := 190) (by decide +kernel), List.mem_of_getElem? (i := 724) (by decide +kernel), List.mem_of_getElem? (i := 725) (by decide +kernel)⟩
theorem lw_p25 : lw_okq (⟨"FourTongues$Parser", "comparison", "(Z)V"⟩, 11) := ⟨⟨by decide +kernel, by decide +kernel⟩, List.mem_of_getElem? (i := 190) (by decide +kernel), List.mem_of_getElem? (i := 728) (by decide +kernel), List.mem_of_getElem? (i := 729) (by decide +kernel)⟩
theorem lw_p26 : lw_okq (⟨"FourTongues$Parser", "sum", "(Z)V"⟩, 11) := ⟨⟨by decide +kernel, by decide +kernel⟩, List.mem_of_getElem? (i := 190) (by decide +kernel), List.mem_of_getElem? (i := 732) (by decide +kernel), List.mem_of_getElem? (i := 733) (by decide +kernel)⟩
theorem lw_p27 : lw_okq (⟨"FourTongues$Parser", "product", "(Z)V"⟩, 11) := ⟨⟨by decide +kernel, by decide +kernel⟩, List.mem_of_getElem? (i := 190) (by decide +kernel), List.mem_of_getElem? (i := 736) (by decide +kernel), List.mem_of_getElem? (i := 737) (by decide +kernel)⟩
theorem lw_p28 : lw_okq (⟨"FourTongues$Parser", "unary", "(Z)V"⟩, 11) := ⟨⟨by decide +kernel, by decide +kernel⟩, List.mem_of_getElem? (i := 190) (by decide +kernel), List.mem_of_getElem? (i := 740) (by decide +kernel), List.mem_of_getElem? (i := 741) (by decide +kernel)⟩
theorem lw_p29 : lw_okq (⟨"FourTongues$Parser", "ifFails", "(II)I"⟩, 11) := ⟨⟨by decide +kernel, by decide +kernel⟩, List.mem_of_getElem? (i := 190) (by decide +kernel), List.mem_of_getElem? (i := 744) (by decide +kernel), List.mem_of_getElem? (i := 745) (by decide +kernel)⟩
theorem lw_p30 : lw_okq (⟨"FourTongues$Parser", "endOfParts", "(IIII)V"⟩, 11) := ⟨⟨by decide +kernel, by decide +kernel⟩, List.mem_of_getElem? (i := 190) (by decide +kernel), List.mem_of_getElem? (i := 748) (by decide +kernel), List.mem_of_getElem? (i := 749) (by decide +kernel)⟩
theorem lw_p31 : lw_okq (⟨"FourTongues$Parser", "here", "()I"⟩, 11) := ⟨⟨by decide +kernel, by decide +kernel⟩, List.mem_of_getElem? (i := 190) (by decide +kernel), List.mem_of_getElem? (i := 752) (by decide +kernel), List.mem_of_getElem? (i := 753) (by decide +kernel)⟩
def lw_privs_2 : List (MethodName × Nat) := [(⟨"FourTongues$Parser", "variable", "(J)I"⟩, 11), (⟨"FourTongues$Parser", "declare", "(J)I"⟩, 11), (⟨"FourTongues$Parser", "needClosed", "(I)V"⟩, 11), (⟨"FourTongues$Parser", "block", "()V"⟩, 11), (⟨"FourTongues$Parser", "statement", "()V"⟩, 11), (⟨"FourTongues$Parser", "add", "(III)I"⟩, 11), (⟨"FourTongues$Parser", "let", "()V"⟩, 11), (⟨"FourTongues$Parser", "withExpression", "(II)V"⟩, 11), (⟨"FourTongues$Parser", "expression", "(Z)V"⟩, 11), (⟨"FourTongues$Parser", "comparison", "(Z)V"⟩, 11), (⟨"FourTongues$Parser", "sum", "(Z)V"⟩, 11), (⟨"FourTongues$Parser", "product", "(Z)V"⟩, 11), (⟨"FourTongues$Parser", "unary", "(Z)V"⟩, 11), (⟨"FourTongues$Parser", "ifFails", "(II)I"⟩, 11), (⟨"FourTongues$Parser", "endOfParts", "(IIII)V"⟩, 11), (⟨"FourTongues$Parser", "here", "()I"⟩, 11)]
theorem lw_r2 : ∀ q ∈ lw_privs_2, lw_okq q := List.forall_mem_cons.mpr ⟨lw_p16, List.forall_mem_cons.mpr ⟨lw_p17, List.forall_mem_cons.mpr ⟨lw_p18, List.forall_mem_cons.mpr ⟨lw_p19, List.forall_mem_cons.mpr ⟨lw_p20, List.forall_mem_cons.mpr ⟨lw_p21, List.forall_mem_cons.mpr ⟨lw_p22, List.forall_mem_cons.mpr ⟨lw_p23, List.forall_mem_cons.mpr ⟨lw_p24, List.forall_mem_cons.mpr ⟨lw_p25, List.forall_mem_cons.mpr ⟨lw_p26, List.forall_mem_cons.mpr ⟨lw_p27, List.forall_mem_cons.mpr ⟨lw_p28, List.forall_mem_cons.mpr ⟨lw_p29, List.forall_mem_cons.mpr ⟨lw_p30, List.forall_mem_cons.mpr ⟨lw_p31, fun _ h => absurd h List.not_mem_nil⟩⟩⟩⟩⟩⟩⟩⟩⟩⟩⟩⟩⟩⟩⟩⟩
theorem lw_p32 : lw_okq (⟨"FourTongues$Parser", "aimAll", "(II)V"⟩, 11) := ⟨⟨by decide +kernel, by decide +kernel⟩, List.mem_of_getElem? (i := 190) (by decide +kernel), List.mem_of_getElem? (i := 760) (by decide +kernel), List.mem_of_getElem? (i := 761) (by decide +kernel)⟩
theorem lw_p33 : lw_okq (⟨"FourTongues$Program", "part", "(II)I"⟩, 8) := ⟨⟨by decide +kernel, by decide +kernel⟩, List.mem_of_getElem? (i := 136) (by decide +kernel), List.mem_of_getElem? (i := 768) (by decide +kernel), List.mem_of_getElem? (i := 769) (by decide +kernel)⟩
theorem lw_p34 : lw_okq (⟨"FourTongues$Parser", "primary", "()V"⟩, 11) := ⟨⟨by decide +kernel, by decide +kernel⟩, List.mem_of_getElem? (i := 190) (by decide +kernel), List.mem_of_getElem? (i := 776) (by decide +kernel), List.mem_of_getElem? (i := 777) (by decide +kernel)⟩
theorem lw_p35 : lw_okq (⟨"FourTongues$Parser", "afterName", "(JI)V"⟩, 11) := ⟨⟨by decide +kernel, by decide +kernel⟩, List.mem_of_getElem? (i := 190) (by decide +kernel), List.mem_of_getElem? (i := 780) (by decide +kernel), List.mem_of_getElem? (i := 781) (by decide +kernel)⟩
theorem lw_p36 : lw_okq (⟨"FourTongues$Parser", "arguments", "(IIJI)V"⟩, 11) := ⟨⟨by decide +kernel, by decide +kernel⟩, List.mem_of_getElem? (i := 190) (by decide +kernel), List.mem_of_getElem? (i := 784) (by decide +kernel), List.mem_of_getElem? (i := 785) (by decide +kernel)⟩
theorem lw_p37 : lw_okq (⟨"FourTongues$Parser", "variableAt", "(JI)I"⟩, 11) := ⟨⟨by decide +kernel, by decide +kernel⟩, List.mem_of_getElem? (i := 190) (by decide +kernel), List.mem_of_getElem? (i := 805) (by decide +kernel), List.mem_of_getElem? (i := 806) (by decide +kernel)⟩
theorem lw_p38 : lw_okq (⟨"FourTongues$Parser", "cellParts", "(I)I"⟩, 11) := ⟨⟨by decide +kernel, by decide +kernel⟩, List.mem_of_getElem? (i := 190) (by decide +kernel), List.mem_of_getElem? (i := 809) (by decide +kernel), List.mem_of_getElem? (i := 810) (by decide +kernel)⟩
theorem lw_p39 : lw_okq (⟨"FourTongues$Parser", "inBrackets", "(II)V"⟩, 11) := ⟨⟨by decide +kernel, by decide +kernel⟩, List.mem_of_getElem? (i := 190) (by decide +kernel), List.mem_of_getElem? (i := 813) (by decide +kernel), List.mem_of_getElem? (i := 814) (by decide +kernel)⟩
theorem lw_p40 : lw_okq (⟨"FourTongues$Parser", "number", "()V"⟩, 11) := ⟨⟨by decide +kernel, by decide +kernel⟩, List.mem_of_getElem? (i := 190) (by decide +kernel), List.mem_of_getElem? (i := 817) (by decide +kernel), List.mem_of_getElem? (i := 818) (by decide +kernel)⟩
theorem lw_p41 : lw_okq (⟨"FourTongues$Parser", "functionItself", "()V"⟩, 11) := ⟨⟨by decide +kernel, by decide +kernel⟩, List.mem_of_getElem? (i := 190) (by decide +kernel), List.mem_of_getElem? (i := 821) (by decide +kernel), List.mem_of_getElem? (i := 822) (by decide +kernel)⟩
theorem lw_p42 : lw_okq (⟨"FourTongues$Parser", "isTongueWord", "()Z"⟩, 11) := ⟨⟨by decide +kernel, by decide +kernel⟩, List.mem_of_getElem? (i := 190) (by decide +kernel), List.mem_of_getElem? (i := 825) (by decide +kernel), List.mem_of_getElem? (i := 826) (by decide +kernel)⟩
theorem lw_p43 : lw_okq (⟨"FourTongues$Parser", "ownPrimary", "()V"⟩, 11) := ⟨⟨by decide +kernel, by decide +kernel⟩, List.mem_of_getElem? (i := 190) (by decide +kernel), List.mem_of_getElem? (i := 829) (by decide +kernel), List.mem_of_getElem? (i := 830) (by decide +kernel)⟩
theorem lw_p44 : lw_okq (⟨"FourTongues$Parser", "nameOfFailing", "()I"⟩, 11) := ⟨⟨by decide +kernel, by decide +kernel⟩, List.mem_of_getElem? (i := 190) (by decide +kernel), List.mem_of_getElem? (i := 833) (by decide +kernel), List.mem_of_getElem? (i := 834) (by decide +kernel)⟩
theorem lw_p45 : lw_okq (⟨"FourTongues$Parser", "ifElse", "()V"⟩, 11) := ⟨⟨by decide +kernel, by decide +kernel⟩, List.mem_of_getElem? (i := 190) (by decide +kernel), List.mem_of_getElem? (i := 841) (by decide +kernel), List.mem_of_getElem? (i := 842) (by decide +kernel)⟩
theorem lw_p46 : lw_okq (⟨"FourTongues$Parser", "question", "()I"⟩, 11) := ⟨⟨by decide +kernel, by decide +kernel⟩, List.mem_of_getElem? (i := 190) (by decide +kernel), List.mem_of_getElem? (i := 845) (by decide +kernel), List.mem_of_getElem? (i := 846) (by decide +kernel)⟩
theorem lw_p47 : lw_okq (⟨"FourTongues$Parser", "whileTrue", "()V"⟩, 11) := ⟨⟨by decide +kernel, by decide +kernel⟩, List.mem_of_getElem? (i := 190) (by decide +kernel), List.mem_of_getElem? (i := 849) (by decide +kernel), List.mem_of_getElem? (i := 850) (by decide +kernel)⟩
def lw_privs_3 : List (MethodName × Nat) := [(⟨"FourTongues$Parser", "aimAll", "(II)V"⟩, 11), (⟨"FourTongues$Program", "part", "(II)I"⟩, 8), (⟨"FourTongues$Parser", "primary", "()V"⟩, 11), (⟨"FourTongues$Parser", "afterName", "(JI)V"⟩, 11), (⟨"FourTongues$Parser", "arguments", "(IIJI)V"⟩, 11), (⟨"FourTongues$Parser", "variableAt", "(JI)I"⟩, 11), (⟨"FourTongues$Parser", "cellParts", "(I)I"⟩, 11), (⟨"FourTongues$Parser", "inBrackets", "(II)V"⟩, 11), (⟨"FourTongues$Parser", "number", "()V"⟩, 11), (⟨"FourTongues$Parser", "functionItself", "()V"⟩, 11), (⟨"FourTongues$Parser", "isTongueWord", "()Z"⟩, 11), (⟨"FourTongues$Parser", "ownPrimary", "()V"⟩, 11), (⟨"FourTongues$Parser", "nameOfFailing", "()I"⟩, 11), (⟨"FourTongues$Parser", "ifElse", "()V"⟩, 11), (⟨"FourTongues$Parser", "question", "()I"⟩, 11), (⟨"FourTongues$Parser", "whileTrue", "()V"⟩, 11)]
theorem lw_r3 : ∀ q ∈ lw_privs_3, lw_okq q := List.forall_mem_cons.mpr ⟨lw_p32, List.forall_mem_cons.mpr ⟨lw_p33, List.forall_mem_cons.mpr ⟨lw_p34, List.forall_mem_cons.mpr ⟨lw_p35, List.forall_mem_cons.mpr ⟨lw_p36, List.forall_mem_cons.mpr ⟨lw_p37, List.forall_mem_cons.mpr ⟨lw_p38, List.forall_mem_cons.mpr ⟨lw_p39, List.forall_mem_cons.mpr ⟨lw_p40, List.forall_mem_cons.mpr ⟨lw_p41, List.forall_mem_cons.mpr ⟨lw_p42, List.forall_mem_cons.mpr ⟨lw_p43, List.forall_mem_cons.mpr ⟨lw_p44, List.forall_mem_cons.mpr ⟨lw_p45, List.forall_mem_cons.mpr ⟨lw_p46, List.forall_mem_cons.mpr ⟨lw_p47, fun _ h => absurd h List.not_mem_nil⟩⟩⟩⟩⟩⟩⟩⟩⟩⟩⟩⟩⟩⟩⟩⟩
theorem lw_p48 : lw_okq (⟨"FourTongues$Parser", "nameFirst", "()V"⟩, 11) := ⟨⟨by decide +kernel, by decide +kernel⟩, List.mem_of_getElem? (i := 190) (by decide +kernel), List.mem_of_getElem? (i := 853) (by decide +kernel), List.mem_of_getElem? (i := 854) (by decide +kernel)⟩
theorem lw_p49 : lw_okq (⟨"FourTongues$Parser", "forgetAll", "(I)V"⟩, 11) := ⟨⟨by decide +kernel, by decide +kernel⟩, List.mem_of_getElem? (i := 190) (by decide +kernel), List.mem_of_getElem? (i := 857) (by decide +kernel), List.mem_of_getElem? (i := 858) (by decide +kernel)⟩
theorem lw_p50 : lw_okq (⟨"FourTongues$Parser", "ownStatement", "()Z"⟩, 11) := ⟨⟨by decide +kernel, by decide +kernel⟩, List.mem_of_getElem? (i := 190) (by decide +kernel), List.mem_of_getElem? (i := 865) (by decide +kernel), List.mem_of_getElem? (i := 866) (by decide +kernel)⟩
theorem lw_p51 : lw_okq (⟨"FourTongues$Parser", "tryCatch", "()V"⟩, 11) := ⟨⟨by decide +kernel, by decide +kernel⟩, List.mem_of_getElem? (i := 190) (by decide +kernel), List.mem_of_getElem? (i := 869) (by decide +kernel), List.mem_of_getElem? (i := 870) (by decide +kernel)⟩
theorem lw_p52 : lw_okq (⟨"FourTongues$Parser", "catches", "(I)V"⟩, 11) := ⟨⟨by decide +kernel, by decide +kernel⟩, List.mem_of_getElem? (i := 190) (by decide +kernel), List.mem_of_getElem? (i := 873) (by decide +kernel), List.mem_of_getElem? (i := 874) (by decide +kernel)⟩
theorem lw_p53 : lw_okq (⟨"FourTongues$Parser", "secondName", "()I"⟩, 11) := ⟨⟨by decide +kernel, by decide +kernel⟩, List.mem_of_getElem? (i := 190) (by decide +kernel), List.mem_of_getElem? (i := 884) (by decide +kernel), List.mem_of_getElem? (i := 885) (by decide +kernel)⟩
theorem lw_p54 : lw_okq (⟨"FourTongues$Parser", "finishing", "(I)V"⟩, 11) := ⟨⟨by decide +kernel, by decide +kernel⟩, List.mem_of_getElem? (i := 190) (by decide +kernel), List.mem_of_getElem? (i := 888) (by decide +kernel), List.mem_of_getElem? (i := 889) (by decide +kernel)⟩
theorem lw_p55 : lw_okq (⟨"FourTongues$Parser", "onGo", "()V"⟩, 11) := ⟨⟨by decide +kernel, by decide +kernel⟩, List.mem_of_getElem? (i := 190) (by decide +kernel), List.mem_of_getElem? (i := 892) (by decide +kernel), List.mem_of_getElem? (i := 893) (by decide +kernel)⟩
theorem lw_p56 : lw_okq (⟨"FourTongues$Parser", "withEnd", "()V"⟩, 11) := ⟨⟨by decide +kernel, by decide +kernel⟩, List.mem_of_getElem? (i := 190) (by decide +kernel), List.mem_of_getElem? (i := 896) (by decide +kernel), List.mem_of_getElem? (i := 897) (by decide +kernel)⟩
theorem lw_p57 : lw_okq (⟨"FourTongues$Parser", "openThen", "()V"⟩, 11) := ⟨⟨by decide +kernel, by decide +kernel⟩, List.mem_of_getElem? (i := 190) (by decide +kernel), List.mem_of_getElem? (i := 900) (by decide +kernel), List.mem_of_getElem? (i := 901) (by decide +kernel)⟩
theorem lw_p58 : lw_okq (⟨"FourTongues$Parser", "cleanDo", "()V"⟩, 11) := ⟨⟨by decide +kernel, by decide +kernel⟩, List.mem_of_getElem? (i := 190) (by decide +kernel), List.mem_of_getElem? (i := 904) (by decide +kernel), List.mem_of_getElem? (i := 905) (by decide +kernel)⟩
theorem lw_p59 : lw_okq (⟨"FourTongues$Parser", "kindUnder", "()V"⟩, 11) := ⟨⟨by decide +kernel, by decide +kernel⟩, List.mem_of_getElem? (i := 190) (by decide +kernel), List.mem_of_getElem? (i := 912) (by decide +kernel), List.mem_of_getElem? (i := 913) (by decide +kernel)⟩
theorem lw_p60 : lw_okq (⟨"FourTongues", "canFail", "(II)Z"⟩, 9) := ⟨⟨by decide +kernel, by decide +kernel⟩, List.mem_of_getElem? (i := 25) (by decide +kernel), List.mem_of_getElem? (i := 970) (by decide +kernel), List.mem_of_getElem? (i := 971) (by decide +kernel)⟩
theorem lw_p61 : lw_okq (⟨"FourTongues$Borders", "find", "(III)I"⟩, 6) := ⟨⟨by decide +kernel, by decide +kernel⟩, List.mem_of_getElem? (i := 107) (by decide +kernel), List.mem_of_getElem? (i := 986) (by decide +kernel), List.mem_of_getElem? (i := 987) (by decide +kernel)⟩
theorem lw_p62 : lw_okq (⟨"FourTongues$Machine", "clear", "()V"⟩, 17) := ⟨⟨by decide +kernel, by decide +kernel⟩, List.mem_of_getElem? (i := 292) (by decide +kernel), List.mem_of_getElem? (i := 1012) (by decide +kernel), List.mem_of_getElem? (i := 1013) (by decide +kernel)⟩
theorem lw_p63 : lw_okq (⟨"FourTongues$Machine", "pushNumber", "(IJ)V"⟩, 17) := ⟨⟨by decide +kernel, by decide +kernel⟩, List.mem_of_getElem? (i := 292) (by decide +kernel), List.mem_of_getElem? (i := 1031) (by decide +kernel), List.mem_of_getElem? (i := 1032) (by decide +kernel)⟩
def lw_privs_4 : List (MethodName × Nat) := [(⟨"FourTongues$Parser", "nameFirst", "()V"⟩, 11), (⟨"FourTongues$Parser", "forgetAll", "(I)V"⟩, 11), (⟨"FourTongues$Parser", "ownStatement", "()Z"⟩, 11), (⟨"FourTongues$Parser", "tryCatch", "()V"⟩, 11), (⟨"FourTongues$Parser", "catches", "(I)V"⟩, 11), (⟨"FourTongues$Parser", "secondName", "()I"⟩, 11), (⟨"FourTongues$Parser", "finishing", "(I)V"⟩, 11), (⟨"FourTongues$Parser", "onGo", "()V"⟩, 11), (⟨"FourTongues$Parser", "withEnd", "()V"⟩, 11), (⟨"FourTongues$Parser", "openThen", "()V"⟩, 11), (⟨"FourTongues$Parser", "cleanDo", "()V"⟩, 11), (⟨"FourTongues$Parser", "kindUnder", "()V"⟩, 11), (⟨"FourTongues", "canFail", "(II)Z"⟩, 9), (⟨"FourTongues$Borders", "find", "(III)I"⟩, 6), (⟨"FourTongues$Machine", "clear", "()V"⟩, 17), (⟨"FourTongues$Machine", "pushNumber", "(IJ)V"⟩, 17)]
theorem lw_r4 : ∀ q ∈ lw_privs_4, lw_okq q := List.forall_mem_cons.mpr ⟨lw_p48, List.forall_mem_cons.mpr ⟨lw_p49, List.forall_mem_cons.mpr ⟨lw_p50, List.forall_mem_cons.mpr ⟨lw_p51, List.forall_mem_cons.mpr ⟨lw_p52, List.forall_mem_cons.mpr ⟨lw_p53, List.forall_mem_cons.mpr ⟨lw_p54, List.forall_mem_cons.mpr ⟨lw_p55, List.forall_mem_cons.mpr ⟨lw_p56, List.forall_mem_cons.mpr ⟨lw_p57, List.forall_mem_cons.mpr ⟨lw_p58, List.forall_mem_cons.mpr ⟨lw_p59, List.forall_mem_cons.mpr ⟨lw_p60, List.forall_mem_cons.mpr ⟨lw_p61, List.forall_mem_cons.mpr ⟨lw_p62, List.forall_mem_cons.mpr ⟨lw_p63, fun _ h => absurd h List.not_mem_nil⟩⟩⟩⟩⟩⟩⟩⟩⟩⟩⟩⟩⟩⟩⟩⟩
theorem lw_p64 : lw_okq (⟨"FourTongues$Machine", "enter", "(IIII)V"⟩, 17) := ⟨⟨by decide +kernel, by decide +kernel⟩, List.mem_of_getElem? (i := 292) (by decide +kernel), List.mem_of_getElem? (i := 1036) (by decide +kernel), List.mem_of_getElem? (i := 1037) (by decide +kernel)⟩
theorem lw_p65 : lw_okq (⟨"FourTongues$Machine", "carryOn", "()V"⟩, 17) := ⟨⟨by decide +kernel, by decide +kernel⟩, List.mem_of_getElem? (i := 292) (by decide +kernel), List.mem_of_getElem? (i := 1068) (by decide +kernel), List.mem_of_getElem? (i := 1069) (by decide +kernel)⟩
theorem lw_p66 : lw_okq (⟨"FourTongues$Machine", "isHeld", "(I)Z"⟩, 17) := ⟨⟨by decide +kernel, by decide +kernel⟩, List.mem_of_getElem? (i := 292) (by decide +kernel), List.mem_of_getElem? (i := 1072) (by decide +kernel), List.mem_of_getElem? (i := 1073) (by decide +kernel)⟩
theorem lw_p67 : lw_okq (⟨"FourTongues$Frames", "of", "([I)I"⟩, 8) := ⟨⟨by decide +kernel, by decide +kernel⟩, List.mem_of_getElem? (i := 324) (by decide +kernel), List.mem_of_getElem? (i := 1080) (by decide +kernel), List.mem_of_getElem? (i := 1081) (by decide +kernel)⟩
theorem lw_p68 : lw_okq (⟨"FourTongues$Guards", "of", "([I)I"⟩, 7) := ⟨⟨by decide +kernel, by decide +kernel⟩, List.mem_of_getElem? (i := 355) (by decide +kernel), List.mem_of_getElem? (i := 1088) (by decide +kernel), List.mem_of_getElem? (i := 1089) (by decide +kernel)⟩
theorem lw_p69 : lw_okq (⟨"FourTongues$Machine", "targetFor", "(II)I"⟩, 17) := ⟨⟨by decide +kernel, by decide +kernel⟩, List.mem_of_getElem? (i := 292) (by decide +kernel), List.mem_of_getElem? (i := 1134) (by decide +kernel), List.mem_of_getElem? (i := 1135) (by decide +kernel)⟩
theorem lw_p70 : lw_okq (⟨"FourTongues$Machine", "catchFor", "(II)I"⟩, 17) := ⟨⟨by decide +kernel, by decide +kernel⟩, List.mem_of_getElem? (i := 292) (by decide +kernel), List.mem_of_getElem? (i := 1138) (by decide +kernel), List.mem_of_getElem? (i := 1139) (by decide +kernel)⟩
theorem lw_p71 : lw_okq (⟨"FourTongues$Machine", "outOfFunction", "(I)V"⟩, 17) := ⟨⟨by decide +kernel, by decide +kernel⟩, List.mem_of_getElem? (i := 292) (by decide +kernel), List.mem_of_getElem? (i := 1171) (by decide +kernel), List.mem_of_getElem? (i := 1172) (by decide +kernel)⟩
theorem lw_p72 : lw_okq (⟨"FourTongues$Machine", "end", "(I)V"⟩, 17) := ⟨⟨by decide +kernel, by decide +kernel⟩, List.mem_of_getElem? (i := 292) (by decide +kernel), List.mem_of_getElem? (i := 1175) (by decide +kernel), List.mem_of_getElem? (i := 1176) (by decide +kernel)⟩
theorem lw_p73 : lw_okq (⟨"FourTongues$Machine", "backToCaller", "()V"⟩, 17) := ⟨⟨by decide +kernel, by decide +kernel⟩, List.mem_of_getElem? (i := 292) (by decide +kernel), List.mem_of_getElem? (i := 1187) (by decide +kernel), List.mem_of_getElem? (i := 1188) (by decide +kernel)⟩
theorem lw_p74 : lw_okq (⟨"FourTongues$Machine", "turnFailure", "(I)V"⟩, 17) := ⟨⟨by decide +kernel, by decide +kernel⟩, List.mem_of_getElem? (i := 292) (by decide +kernel), List.mem_of_getElem? (i := 1199) (by decide +kernel), List.mem_of_getElem? (i := 1200) (by decide +kernel)⟩
theorem lw_p75 : lw_okq (⟨"FourTongues$Machine", "step", "()Z"⟩, 17) := ⟨⟨by decide +kernel, by decide +kernel⟩, List.mem_of_getElem? (i := 292) (by decide +kernel), List.mem_of_getElem? (i := 1203) (by decide +kernel), List.mem_of_getElem? (i := 1204) (by decide +kernel)⟩
theorem lw_p76 : lw_okq (⟨"FourTongues$Borders", "setTurned", "(LFourTongues$Row;IIIJ)V"⟩, 6) := ⟨⟨by decide +kernel, by decide +kernel⟩, List.mem_of_getElem? (i := 107) (by decide +kernel), List.mem_of_getElem? (i := 1244) (by decide +kernel), List.mem_of_getElem? (i := 1245) (by decide +kernel)⟩
theorem lw_p77 : lw_okq (⟨"FourTongues$Machine", "give", "(I)V"⟩, 17) := ⟨⟨by decide +kernel, by decide +kernel⟩, List.mem_of_getElem? (i := 292) (by decide +kernel), List.mem_of_getElem? (i := 1262) (by decide +kernel), List.mem_of_getElem? (i := 1263) (by decide +kernel)⟩
theorem lw_p78 : lw_okq (⟨"FourTongues$Machine", "goOnBehindCall", "()V"⟩, 17) := ⟨⟨by decide +kernel, by decide +kernel⟩, List.mem_of_getElem? (i := 292) (by decide +kernel), List.mem_of_getElem? (i := 1266) (by decide +kernel), List.mem_of_getElem? (i := 1267) (by decide +kernel)⟩
theorem lw_p79 : lw_okq (⟨"FourTongues$Machine", "leaveFunction", "()V"⟩, 17) := ⟨⟨by decide +kernel, by decide +kernel⟩, List.mem_of_getElem? (i := 292) (by decide +kernel), List.mem_of_getElem? (i := 1270) (by decide +kernel), List.mem_of_getElem? (i := 1271) (by decide +kernel)⟩
def lw_privs_5 : List (MethodName × Nat) := [(⟨"FourTongues$Machine", "enter", "(IIII)V"⟩, 17), (⟨"FourTongues$Machine", "carryOn", "()V"⟩, 17), (⟨"FourTongues$Machine", "isHeld", "(I)Z"⟩, 17), (⟨"FourTongues$Frames", "of", "([I)I"⟩, 8), (⟨"FourTongues$Guards", "of", "([I)I"⟩, 7), (⟨"FourTongues$Machine", "targetFor", "(II)I"⟩, 17), (⟨"FourTongues$Machine", "catchFor", "(II)I"⟩, 17), (⟨"FourTongues$Machine", "outOfFunction", "(I)V"⟩, 17), (⟨"FourTongues$Machine", "end", "(I)V"⟩, 17), (⟨"FourTongues$Machine", "backToCaller", "()V"⟩, 17), (⟨"FourTongues$Machine", "turnFailure", "(I)V"⟩, 17), (⟨"FourTongues$Machine", "step", "()Z"⟩, 17), (⟨"FourTongues$Borders", "setTurned", "(LFourTongues$Row;IIIJ)V"⟩, 6), (⟨"FourTongues$Machine", "give", "(I)V"⟩, 17), (⟨"FourTongues$Machine", "goOnBehindCall", "()V"⟩, 17), (⟨"FourTongues$Machine", "leaveFunction", "()V"⟩, 17)]
theorem lw_r5 : ∀ q ∈ lw_privs_5, lw_okq q := List.forall_mem_cons.mpr ⟨lw_p64, List.forall_mem_cons.mpr ⟨lw_p65, List.forall_mem_cons.mpr ⟨lw_p66, List.forall_mem_cons.mpr ⟨lw_p67, List.forall_mem_cons.mpr ⟨lw_p68, List.forall_mem_cons.mpr ⟨lw_p69, List.forall_mem_cons.mpr ⟨lw_p70, List.forall_mem_cons.mpr ⟨lw_p71, List.forall_mem_cons.mpr ⟨lw_p72, List.forall_mem_cons.mpr ⟨lw_p73, List.forall_mem_cons.mpr ⟨lw_p74, List.forall_mem_cons.mpr ⟨lw_p75, List.forall_mem_cons.mpr ⟨lw_p76, List.forall_mem_cons.mpr ⟨lw_p77, List.forall_mem_cons.mpr ⟨lw_p78, List.forall_mem_cons.mpr ⟨lw_p79, fun _ h => absurd h List.not_mem_nil⟩⟩⟩⟩⟩⟩⟩⟩⟩⟩⟩⟩⟩⟩⟩⟩
theorem lw_p80 : lw_okq (⟨"FourTongues$Machine", "top", "()I"⟩, 17) := ⟨⟨by decide +kernel, by decide +kernel⟩, List.mem_of_getElem? (i := 292) (by decide +kernel), List.mem_of_getElem? (i := 1274) (by decide +kernel), List.mem_of_getElem? (i := 1275) (by decide +kernel)⟩
theorem lw_p81 : lw_okq (⟨"FourTongues$Machine", "giveAnswer", "()V"⟩, 17) := ⟨⟨by decide +kernel, by decide +kernel⟩, List.mem_of_getElem? (i := 292) (by decide +kernel), List.mem_of_getElem? (i := 1286) (by decide +kernel), List.mem_of_getElem? (i := 1287) (by decide +kernel)⟩
theorem lw_p82 : lw_okq (⟨"FourTongues$Machine", "fails", "(II)V"⟩, 17) := ⟨⟨by decide +kernel, by decide +kernel⟩, List.mem_of_getElem? (i := 292) (by decide +kernel), List.mem_of_getElem? (i := 1294) (by decide +kernel), List.mem_of_getElem? (i := 1295) (by decide +kernel)⟩
theorem lw_p83 : lw_okq (⟨"FourTongues$Machine", "endWithAnswer", "()V"⟩, 17) := ⟨⟨by decide +kernel, by decide +kernel⟩, List.mem_of_getElem? (i := 292) (by decide +kernel), List.mem_of_getElem? (i := 1298) (by decide +kernel), List.mem_of_getElem? (i := 1299) (by decide +kernel)⟩
theorem lw_p84 : lw_okq (⟨"FourTongues$Machine", "lengthAt", "(J)I"⟩, 17) := ⟨⟨by decide +kernel, by decide +kernel⟩, List.mem_of_getElem? (i := 292) (by decide +kernel), List.mem_of_getElem? (i := 1302) (by decide +kernel), List.mem_of_getElem? (i := 1303) (by decide +kernel)⟩
theorem lw_p85 : lw_okq (⟨"FourTongues$Machine", "workOut", "()V"⟩, 17) := ⟨⟨by decide +kernel, by decide +kernel⟩, List.mem_of_getElem? (i := 292) (by decide +kernel), List.mem_of_getElem? (i := 1319) (by decide +kernel), List.mem_of_getElem? (i := 1320) (by decide +kernel)⟩
theorem lw_p86 : lw_okq (⟨"FourTongues$Machine", "store", "(I)V"⟩, 17) := ⟨⟨by decide +kernel, by decide +kernel⟩, List.mem_of_getElem? (i := 292) (by decide +kernel), List.mem_of_getElem? (i := 1331) (by decide +kernel), List.mem_of_getElem? (i := 1332) (by decide +kernel)⟩
theorem lw_p87 : lw_okq (⟨"FourTongues$Machine", "dropValue", "()V"⟩, 17) := ⟨⟨by decide +kernel, by decide +kernel⟩, List.mem_of_getElem? (i := 292) (by decide +kernel), List.mem_of_getElem? (i := 1335) (by decide +kernel), List.mem_of_getElem? (i := 1336) (by decide +kernel)⟩
theorem lw_p88 : lw_okq (⟨"FourTongues$Machine", "sign", "(I)V"⟩, 17) := ⟨⟨by decide +kernel, by decide +kernel⟩, List.mem_of_getElem? (i := 292) (by decide +kernel), List.mem_of_getElem? (i := 1339) (by decide +kernel), List.mem_of_getElem? (i := 1340) (by decide +kernel)⟩
theorem lw_p89 : lw_okq (⟨"FourTongues$Machine", "areSame", "(II)Z"⟩, 17) := ⟨⟨by decide +kernel, by decide +kernel⟩, List.mem_of_getElem? (i := 292) (by decide +kernel), List.mem_of_getElem? (i := 1343) (by decide +kernel), List.mem_of_getElem? (i := 1344) (by decide +kernel)⟩
theorem lw_p90 : lw_okq (⟨"FourTongues$Machine", "replaceParts", "(II)V"⟩, 17) := ⟨⟨by decide +kernel, by decide +kernel⟩, List.mem_of_getElem? (i := 292) (by decide +kernel), List.mem_of_getElem? (i := 1348) (by decide +kernel), List.mem_of_getElem? (i := 1349) (by decide +kernel)⟩
theorem lw_p91 : lw_okq (⟨"FourTongues$Machine", "isTrue", "(II)Z"⟩, 17) := ⟨⟨by decide +kernel, by decide +kernel⟩, List.mem_of_getElem? (i := 292) (by decide +kernel), List.mem_of_getElem? (i := 1352) (by decide +kernel), List.mem_of_getElem? (i := 1353) (by decide +kernel)⟩
theorem lw_p92 : lw_okq (⟨"FourTongues$Machine", "reckonReals", "(II)I"⟩, 17) := ⟨⟨by decide +kernel, by decide +kernel⟩, List.mem_of_getElem? (i := 292) (by decide +kernel), List.mem_of_getElem? (i := 1362) (by decide +kernel), List.mem_of_getElem? (i := 1363) (by decide +kernel)⟩
theorem lw_p93 : lw_okq (⟨"FourTongues$Machine", "reckonWholes", "(II)I"⟩, 17) := ⟨⟨by decide +kernel, by decide +kernel⟩, List.mem_of_getElem? (i := 292) (by decide +kernel), List.mem_of_getElem? (i := 1379) (by decide +kernel), List.mem_of_getElem? (i := 1380) (by decide +kernel)⟩
theorem lw_p94 : lw_okq (⟨"FourTongues$Machine", "negate", "()V"⟩, 17) := ⟨⟨by decide +kernel, by decide +kernel⟩, List.mem_of_getElem? (i := 292) (by decide +kernel), List.mem_of_getElem? (i := 1393) (by decide +kernel), List.mem_of_getElem? (i := 1394) (by decide +kernel)⟩
theorem lw_p95 : lw_okq (⟨"FourTongues$Machine", "newArray", "()V"⟩, 17) := ⟨⟨by decide +kernel, by decide +kernel⟩, List.mem_of_getElem? (i := 292) (by decide +kernel), List.mem_of_getElem? (i := 1397) (by decide +kernel), List.mem_of_getElem? (i := 1398) (by decide +kernel)⟩
def lw_privs_6 : List (MethodName × Nat) := [(⟨"FourTongues$Machine", "top", "()I"⟩, 17), (⟨"FourTongues$Machine", "giveAnswer", "()V"⟩, 17), (⟨"FourTongues$Machine", "fails", "(II)V"⟩, 17), (⟨"FourTongues$Machine", "endWithAnswer", "()V"⟩, 17), (⟨"FourTongues$Machine", "lengthAt", "(J)I"⟩, 17), (⟨"FourTongues$Machine", "workOut", "()V"⟩, 17), (⟨"FourTongues$Machine", "store", "(I)V"⟩, 17), (⟨"FourTongues$Machine", "dropValue", "()V"⟩, 17), (⟨"FourTongues$Machine", "sign", "(I)V"⟩, 17), (⟨"FourTongues$Machine", "areSame", "(II)Z"⟩, 17), (⟨"FourTongues$Machine", "replaceParts", "(II)V"⟩, 17), (⟨"FourTongues$Machine", "isTrue", "(II)Z"⟩, 17), (⟨"FourTongues$Machine", "reckonReals", "(II)I"⟩, 17), (⟨"FourTongues$Machine", "reckonWholes", "(II)I"⟩, 17), (⟨"FourTongues$Machine", "negate", "()V"⟩, 17), (⟨"FourTongues$Machine", "newArray", "()V"⟩, 17)]
theorem lw_r6 : ∀ q ∈ lw_privs_6, lw_okq q := List.forall_mem_cons.mpr ⟨lw_p80, List.forall_mem_cons.mpr ⟨lw_p81, List.forall_mem_cons.mpr ⟨lw_p82, List.forall_mem_cons.mpr ⟨lw_p83, List.forall_mem_cons.mpr ⟨lw_p84, List.forall_mem_cons.mpr ⟨lw_p85, List.forall_mem_cons.mpr ⟨lw_p86, List.forall_mem_cons.mpr ⟨lw_p87, List.forall_mem_cons.mpr ⟨lw_p88, List.forall_mem_cons.mpr ⟨lw_p89, List.forall_mem_cons.mpr ⟨lw_p90, List.forall_mem_cons.mpr ⟨lw_p91, List.forall_mem_cons.mpr ⟨lw_p92, List.forall_mem_cons.mpr ⟨lw_p93, List.forall_mem_cons.mpr ⟨lw_p94, List.forall_mem_cons.mpr ⟨lw_p95, fun _ h => absurd h List.not_mem_nil⟩⟩⟩⟩⟩⟩⟩⟩⟩⟩⟩⟩⟩⟩⟩⟩
theorem lw_p96 : lw_okq (⟨"FourTongues$Machine", "smallWhole", "(I)I"⟩, 17) := ⟨⟨by decide +kernel, by decide +kernel⟩, List.mem_of_getElem? (i := 292) (by decide +kernel), List.mem_of_getElem? (i := 1401) (by decide +kernel), List.mem_of_getElem? (i := 1402) (by decide +kernel)⟩
theorem lw_p97 : lw_okq (⟨"FourTongues$Machine", "lengthOfArray", "()V"⟩, 17) := ⟨⟨by decide +kernel, by decide +kernel⟩, List.mem_of_getElem? (i := 292) (by decide +kernel), List.mem_of_getElem? (i := 1407) (by decide +kernel), List.mem_of_getElem? (i := 1408) (by decide +kernel)⟩
theorem lw_p98 : lw_okq (⟨"FourTongues$Machine", "cellOfArray", "()V"⟩, 17) := ⟨⟨by decide +kernel, by decide +kernel⟩, List.mem_of_getElem? (i := 292) (by decide +kernel), List.mem_of_getElem? (i := 1411) (by decide +kernel), List.mem_of_getElem? (i := 1412) (by decide +kernel)⟩
theorem lw_p99 : lw_okq (⟨"FourTongues$Machine", "whatFailsAsArray", "(I)I"⟩, 17) := ⟨⟨by decide +kernel, by decide +kernel⟩, List.mem_of_getElem? (i := 292) (by decide +kernel), List.mem_of_getElem? (i := 1415) (by decide +kernel), List.mem_of_getElem? (i := 1416) (by decide +kernel)⟩
theorem lw_p100 : lw_okq (⟨"FourTongues$Machine", "whatFailsAsIndex", "(II)I"⟩, 17) := ⟨⟨by decide +kernel, by decide +kernel⟩, List.mem_of_getElem? (i := 292) (by decide +kernel), List.mem_of_getElem? (i := 1419) (by decide +kernel), List.mem_of_getElem? (i := 1420) (by decide +kernel)⟩
theorem lw_p101 : lw_okq (⟨"FourTongues$Machine", "tongueOfArray", "(I)I"⟩, 17) := ⟨⟨by decide +kernel, by decide +kernel⟩, List.mem_of_getElem? (i := 292) (by decide +kernel), List.mem_of_getElem? (i := 1423) (by decide +kernel), List.mem_of_getElem? (i := 1424) (by decide +kernel)⟩
theorem lw_p102 : lw_okq (⟨"FourTongues$Machine", "cellAt", "(II)I"⟩, 17) := ⟨⟨by decide +kernel, by decide +kernel⟩, List.mem_of_getElem? (i := 292) (by decide +kernel), List.mem_of_getElem? (i := 1427) (by decide +kernel), List.mem_of_getElem? (i := 1428) (by decide +kernel)⟩
theorem lw_p103 : lw_okq (⟨"FourTongues$Machine", "putIntoArray", "()V"⟩, 17) := ⟨⟨by decide +kernel, by decide +kernel⟩, List.mem_of_getElem? (i := 292) (by decide +kernel), List.mem_of_getElem? (i := 1431) (by decide +kernel), List.mem_of_getElem? (i := 1432) (by decide +kernel)⟩
theorem lw_p104 : lw_okq (⟨"FourTongues$Machine", "leaveIfGoing", "()V"⟩, 17) := ⟨⟨by decide +kernel, by decide +kernel⟩, List.mem_of_getElem? (i := 292) (by decide +kernel), List.mem_of_getElem? (i := 1435) (by decide +kernel), List.mem_of_getElem? (i := 1436) (by decide +kernel)⟩
theorem lw_p105 : lw_okq (⟨"FourTongues$Machine", "callNamed", "(II)V"⟩, 17) := ⟨⟨by decide +kernel, by decide +kernel⟩, List.mem_of_getElem? (i := 292) (by decide +kernel), List.mem_of_getElem? (i := 1439) (by decide +kernel), List.mem_of_getElem? (i := 1440) (by decide +kernel)⟩
theorem lw_p106 : lw_okq (⟨"FourTongues$Machine", "whatFailsGoing", "(II)I"⟩, 17) := ⟨⟨by decide +kernel, by decide +kernel⟩, List.mem_of_getElem? (i := 292) (by decide +kernel), List.mem_of_getElem? (i := 1444) (by decide +kernel), List.mem_of_getElem? (i := 1445) (by decide +kernel)⟩
theorem lw_p107 : lw_okq (⟨"FourTongues$Machine", "callHeld", "(I)V"⟩, 17) := ⟨⟨by decide +kernel, by decide +kernel⟩, List.mem_of_getElem? (i := 292) (by decide +kernel), List.mem_of_getElem? (i := 1452) (by decide +kernel), List.mem_of_getElem? (i := 1453) (by decide +kernel)⟩
theorem lw_p108 : lw_okq (⟨"FourTongues$Machine", "functionItself", "(II)V"⟩, 17) := ⟨⟨by decide +kernel, by decide +kernel⟩, List.mem_of_getElem? (i := 292) (by decide +kernel), List.mem_of_getElem? (i := 1457) (by decide +kernel), List.mem_of_getElem? (i := 1458) (by decide +kernel)⟩
theorem lw_p109 : lw_okq (⟨"FourTongues$Machine", "tagOfTop", "()V"⟩, 17) := ⟨⟨by decide +kernel, by decide +kernel⟩, List.mem_of_getElem? (i := 292) (by decide +kernel), List.mem_of_getElem? (i := 1461) (by decide +kernel), List.mem_of_getElem? (i := 1462) (by decide +kernel)⟩
theorem lw_p110 : lw_okq (⟨"FourTongues$Machine", "failsWithTop", "(I)V"⟩, 17) := ⟨⟨by decide +kernel, by decide +kernel⟩, List.mem_of_getElem? (i := 292) (by decide +kernel), List.mem_of_getElem? (i := 1465) (by decide +kernel), List.mem_of_getElem? (i := 1466) (by decide +kernel)⟩
theorem lw_p111 : lw_okq (⟨"FourTongues$Machine", "goElsewhere", "()V"⟩, 17) := ⟨⟨by decide +kernel, by decide +kernel⟩, List.mem_of_getElem? (i := 292) (by decide +kernel), List.mem_of_getElem? (i := 1469) (by decide +kernel), List.mem_of_getElem? (i := 1470) (by decide +kernel)⟩
def lw_privs_7 : List (MethodName × Nat) := [(⟨"FourTongues$Machine", "smallWhole", "(I)I"⟩, 17), (⟨"FourTongues$Machine", "lengthOfArray", "()V"⟩, 17), (⟨"FourTongues$Machine", "cellOfArray", "()V"⟩, 17), (⟨"FourTongues$Machine", "whatFailsAsArray", "(I)I"⟩, 17), (⟨"FourTongues$Machine", "whatFailsAsIndex", "(II)I"⟩, 17), (⟨"FourTongues$Machine", "tongueOfArray", "(I)I"⟩, 17), (⟨"FourTongues$Machine", "cellAt", "(II)I"⟩, 17), (⟨"FourTongues$Machine", "putIntoArray", "()V"⟩, 17), (⟨"FourTongues$Machine", "leaveIfGoing", "()V"⟩, 17), (⟨"FourTongues$Machine", "callNamed", "(II)V"⟩, 17), (⟨"FourTongues$Machine", "whatFailsGoing", "(II)I"⟩, 17), (⟨"FourTongues$Machine", "callHeld", "(I)V"⟩, 17), (⟨"FourTongues$Machine", "functionItself", "(II)V"⟩, 17), (⟨"FourTongues$Machine", "tagOfTop", "()V"⟩, 17), (⟨"FourTongues$Machine", "failsWithTop", "(I)V"⟩, 17), (⟨"FourTongues$Machine", "goElsewhere", "()V"⟩, 17)]
theorem lw_r7 : ∀ q ∈ lw_privs_7, lw_okq q := List.forall_mem_cons.mpr ⟨lw_p96, List.forall_mem_cons.mpr ⟨lw_p97, List.forall_mem_cons.mpr ⟨lw_p98, List.forall_mem_cons.mpr ⟨lw_p99, List.forall_mem_cons.mpr ⟨lw_p100, List.forall_mem_cons.mpr ⟨lw_p101, List.forall_mem_cons.mpr ⟨lw_p102, List.forall_mem_cons.mpr ⟨lw_p103, List.forall_mem_cons.mpr ⟨lw_p104, List.forall_mem_cons.mpr ⟨lw_p105, List.forall_mem_cons.mpr ⟨lw_p106, List.forall_mem_cons.mpr ⟨lw_p107, List.forall_mem_cons.mpr ⟨lw_p108, List.forall_mem_cons.mpr ⟨lw_p109, List.forall_mem_cons.mpr ⟨lw_p110, List.forall_mem_cons.mpr ⟨lw_p111, fun _ h => absurd h List.not_mem_nil⟩⟩⟩⟩⟩⟩⟩⟩⟩⟩⟩⟩⟩⟩⟩⟩
theorem lw_p112 : lw_okq (⟨"FourTongues$Machine", "question", "(I)V"⟩, 17) := ⟨⟨by decide +kernel, by decide +kernel⟩, List.mem_of_getElem? (i := 292) (by decide +kernel), List.mem_of_getElem? (i := 1473) (by decide +kernel), List.mem_of_getElem? (i := 1474) (by decide +kernel)⟩
theorem lw_p113 : lw_okq (⟨"FourTongues$Machine", "keepMark", "()V"⟩, 17) := ⟨⟨by decide +kernel, by decide +kernel⟩, List.mem_of_getElem? (i := 292) (by decide +kernel), List.mem_of_getElem? (i := 1477) (by decide +kernel), List.mem_of_getElem? (i := 1478) (by decide +kernel)⟩
theorem lw_p114 : lw_okq (⟨"FourTongues$Machine", "failWithCode", "()V"⟩, 17) := ⟨⟨by decide +kernel, by decide +kernel⟩, List.mem_of_getElem? (i := 292) (by decide +kernel), List.mem_of_getElem? (i := 1481) (by decide +kernel), List.mem_of_getElem? (i := 1482) (by decide +kernel)⟩
theorem lw_p115 : lw_okq (⟨"FourTongues$Machine", "exitTo", "(I)V"⟩, 17) := ⟨⟨by decide +kernel, by decide +kernel⟩, List.mem_of_getElem? (i := 292) (by decide +kernel), List.mem_of_getElem? (i := 1485) (by decide +kernel), List.mem_of_getElem? (i := 1486) (by decide +kernel)⟩
theorem lw_p116 : lw_okq (⟨"FourTongues$Machine", "jumpIfFails", "(II)V"⟩, 17) := ⟨⟨by decide +kernel, by decide +kernel⟩, List.mem_of_getElem? (i := 292) (by decide +kernel), List.mem_of_getElem? (i := 1498) (by decide +kernel), List.mem_of_getElem? (i := 1499) (by decide +kernel)⟩
theorem lw_p117 : lw_okq (⟨"FourTongues$Machine", "jumpIfWell", "(I)V"⟩, 17) := ⟨⟨by decide +kernel, by decide +kernel⟩, List.mem_of_getElem? (i := 292) (by decide +kernel), List.mem_of_getElem? (i := 1502) (by decide +kernel), List.mem_of_getElem? (i := 1503) (by decide +kernel)⟩
theorem lw_p118 : lw_okq (⟨"FourTongues$Machine", "finished", "(I)V"⟩, 17) := ⟨⟨by decide +kernel, by decide +kernel⟩, List.mem_of_getElem? (i := 292) (by decide +kernel), List.mem_of_getElem? (i := 1510) (by decide +kernel), List.mem_of_getElem? (i := 1511) (by decide +kernel)⟩
theorem lw_p119 : lw_okq (⟨"FourTonguesModel", "next", "()V"⟩, 106) := ⟨⟨by decide +kernel, by decide +kernel⟩, List.mem_of_getElem? (i := 1576) (by decide +kernel), List.mem_of_getElem? (i := 1921) (by decide +kernel), List.mem_of_getElem? (i := 1922) (by decide +kernel)⟩
theorem lw_p120 : lw_okq (⟨"FourTonguesModel", "isWrong", "()Z"⟩, 106) := ⟨⟨by decide +kernel, by decide +kernel⟩, List.mem_of_getElem? (i := 1576) (by decide +kernel), List.mem_of_getElem? (i := 1925) (by decide +kernel), List.mem_of_getElem? (i := 1926) (by decide +kernel)⟩
theorem lw_p121 : lw_okq (⟨"FourTonguesModel", "here", "()I"⟩, 106) := ⟨⟨by decide +kernel, by decide +kernel⟩, List.mem_of_getElem? (i := 1576) (by decide +kernel), List.mem_of_getElem? (i := 1929) (by decide +kernel), List.mem_of_getElem? (i := 1930) (by decide +kernel)⟩
theorem lw_p122 : lw_okq (⟨"FourTonguesModel", "spells", "()V"⟩, 106) := ⟨⟨by decide +kernel, by decide +kernel⟩, List.mem_of_getElem? (i := 1576) (by decide +kernel), List.mem_of_getElem? (i := 1936) (by decide +kernel), List.mem_of_getElem? (i := 1937) (by decide +kernel)⟩
theorem lw_p123 : lw_okq (⟨"FourTonguesModel", "wrong", "(I)V"⟩, 106) := ⟨⟨by decide +kernel, by decide +kernel⟩, List.mem_of_getElem? (i := 1576) (by decide +kernel), List.mem_of_getElem? (i := 1943) (by decide +kernel), List.mem_of_getElem? (i := 1944) (by decide +kernel)⟩
theorem lw_p124 : lw_okq (⟨"FourTonguesModel", "counts", "()V"⟩, 106) := ⟨⟨by decide +kernel, by decide +kernel⟩, List.mem_of_getElem? (i := 1576) (by decide +kernel), List.mem_of_getElem? (i := 1951) (by decide +kernel), List.mem_of_getElem? (i := 1952) (by decide +kernel)⟩
theorem lw_p125 : lw_okq (⟨"FourTonguesModel", "whole", "(J)Z"⟩, 106) := ⟨⟨by decide +kernel, by decide +kernel⟩, List.mem_of_getElem? (i := 1576) (by decide +kernel), List.mem_of_getElem? (i := 1958) (by decide +kernel), List.mem_of_getElem? (i := 1959) (by decide +kernel)⟩
theorem lw_p126 : lw_okq (⟨"FourTonguesModel", "signs", "(I)V"⟩, 106) := ⟨⟨by decide +kernel, by decide +kernel⟩, List.mem_of_getElem? (i := 1576) (by decide +kernel), List.mem_of_getElem? (i := 1975) (by decide +kernel), List.mem_of_getElem? (i := 1976) (by decide +kernel)⟩
theorem lw_p127 : lw_okq (⟨"FourTonguesModel", "text", "()V"⟩, 106) := ⟨⟨by decide +kernel, by decide +kernel⟩, List.mem_of_getElem? (i := 1576) (by decide +kernel), List.mem_of_getElem? (i := 1979) (by decide +kernel), List.mem_of_getElem? (i := 1980) (by decide +kernel)⟩
def lw_privs_8 : List (MethodName × Nat) := [(⟨"FourTongues$Machine", "question", "(I)V"⟩, 17), (⟨"FourTongues$Machine", "keepMark", "()V"⟩, 17), (⟨"FourTongues$Machine", "failWithCode", "()V"⟩, 17), (⟨"FourTongues$Machine", "exitTo", "(I)V"⟩, 17), (⟨"FourTongues$Machine", "jumpIfFails", "(II)V"⟩, 17), (⟨"FourTongues$Machine", "jumpIfWell", "(I)V"⟩, 17), (⟨"FourTongues$Machine", "finished", "(I)V"⟩, 17), (⟨"FourTonguesModel", "next", "()V"⟩, 106), (⟨"FourTonguesModel", "isWrong", "()Z"⟩, 106), (⟨"FourTonguesModel", "here", "()I"⟩, 106), (⟨"FourTonguesModel", "spells", "()V"⟩, 106), (⟨"FourTonguesModel", "wrong", "(I)V"⟩, 106), (⟨"FourTonguesModel", "counts", "()V"⟩, 106), (⟨"FourTonguesModel", "whole", "(J)Z"⟩, 106), (⟨"FourTonguesModel", "signs", "(I)V"⟩, 106), (⟨"FourTonguesModel", "text", "()V"⟩, 106)]
theorem lw_r8 : ∀ q ∈ lw_privs_8, lw_okq q := List.forall_mem_cons.mpr ⟨lw_p112, List.forall_mem_cons.mpr ⟨lw_p113, List.forall_mem_cons.mpr ⟨lw_p114, List.forall_mem_cons.mpr ⟨lw_p115, List.forall_mem_cons.mpr ⟨lw_p116, List.forall_mem_cons.mpr ⟨lw_p117, List.forall_mem_cons.mpr ⟨lw_p118, List.forall_mem_cons.mpr ⟨lw_p119, List.forall_mem_cons.mpr ⟨lw_p120, List.forall_mem_cons.mpr ⟨lw_p121, List.forall_mem_cons.mpr ⟨lw_p122, List.forall_mem_cons.mpr ⟨lw_p123, List.forall_mem_cons.mpr ⟨lw_p124, List.forall_mem_cons.mpr ⟨lw_p125, List.forall_mem_cons.mpr ⟨lw_p126, List.forall_mem_cons.mpr ⟨lw_p127, fun _ h => absurd h List.not_mem_nil⟩⟩⟩⟩⟩⟩⟩⟩⟩⟩⟩⟩⟩⟩⟩⟩
theorem lw_p128 : lw_okq (⟨"FourTonguesModel", "isWord", "(I)Z"⟩, 106) := ⟨⟨by decide +kernel, by decide +kernel⟩, List.mem_of_getElem? (i := 1576) (by decide +kernel), List.mem_of_getElem? (i := 1983) (by decide +kernel), List.mem_of_getElem? (i := 1984) (by decide +kernel)⟩
theorem lw_p129 : lw_okq (⟨"FourTonguesModel", "function", "()V"⟩, 106) := ⟨⟨by decide +kernel, by decide +kernel⟩, List.mem_of_getElem? (i := 1576) (by decide +kernel), List.mem_of_getElem? (i := 1987) (by decide +kernel), List.mem_of_getElem? (i := 1988) (by decide +kernel)⟩
theorem lw_p130 : lw_okq (⟨"FourTonguesModel", "takesName", "()J"⟩, 106) := ⟨⟨by decide +kernel, by decide +kernel⟩, List.mem_of_getElem? (i := 1576) (by decide +kernel), List.mem_of_getElem? (i := 1991) (by decide +kernel), List.mem_of_getElem? (i := 1992) (by decide +kernel)⟩
theorem lw_p131 : lw_okq (⟨"FourTonguesModel", "wrong3", "(I)V"⟩, 106) := ⟨⟨by decide +kernel, by decide +kernel⟩, List.mem_of_getElem? (i := 1576) (by decide +kernel), List.mem_of_getElem? (i := 1995) (by decide +kernel), List.mem_of_getElem? (i := 1996) (by decide +kernel)⟩
theorem lw_p132 : lw_okq (⟨"FourTonguesModel", "wrong2", "(I)V"⟩, 106) := ⟨⟨by decide +kernel, by decide +kernel⟩, List.mem_of_getElem? (i := 1576) (by decide +kernel), List.mem_of_getElem? (i := 1999) (by decide +kernel), List.mem_of_getElem? (i := 2000) (by decide +kernel)⟩
theorem lw_p133 : lw_okq (⟨"FourTonguesModel", "params", "()V"⟩, 106) := ⟨⟨by decide +kernel, by decide +kernel⟩, List.mem_of_getElem? (i := 1576) (by decide +kernel), List.mem_of_getElem? (i := 2003) (by decide +kernel), List.mem_of_getElem? (i := 2004) (by decide +kernel)⟩
theorem lw_p134 : lw_okq (⟨"FourTonguesModel", "opensWith", "(I)V"⟩, 106) := ⟨⟨by decide +kernel, by decide +kernel⟩, List.mem_of_getElem? (i := 1576) (by decide +kernel), List.mem_of_getElem? (i := 2007) (by decide +kernel), List.mem_of_getElem? (i := 2008) (by decide +kernel)⟩
theorem lw_p135 : lw_okq (⟨"FourTonguesModel", "isSign", "(I)Z"⟩, 106) := ⟨⟨by decide +kernel, by decide +kernel⟩, List.mem_of_getElem? (i := 1576) (by decide +kernel), List.mem_of_getElem? (i := 2011) (by decide +kernel), List.mem_of_getElem? (i := 2012) (by decide +kernel)⟩
theorem lw_p136 : lw_okq (⟨"FourTonguesModel", "opens", "()V"⟩, 106) := ⟨⟨by decide +kernel, by decide +kernel⟩, List.mem_of_getElem? (i := 1576) (by decide +kernel), List.mem_of_getElem? (i := 2015) (by decide +kernel), List.mem_of_getElem? (i := 2016) (by decide +kernel)⟩
theorem lw_p137 : lw_okq (⟨"FourTonguesModel", "slotOf", "(J)I"⟩, 106) := ⟨⟨by decide +kernel, by decide +kernel⟩, List.mem_of_getElem? (i := 1576) (by decide +kernel), List.mem_of_getElem? (i := 2019) (by decide +kernel), List.mem_of_getElem? (i := 2020) (by decide +kernel)⟩
theorem lw_p138 : lw_okq (⟨"FourTonguesModel", "newSlot", "(J)I"⟩, 106) := ⟨⟨by decide +kernel, by decide +kernel⟩, List.mem_of_getElem? (i := 1576) (by decide +kernel), List.mem_of_getElem? (i := 2023) (by decide +kernel), List.mem_of_getElem? (i := 2024) (by decide +kernel)⟩
theorem lw_p139 : lw_okq (⟨"FourTonguesModel", "takesSign", "(I)Z"⟩, 106) := ⟨⟨by decide +kernel, by decide +kernel⟩, List.mem_of_getElem? (i := 1576) (by decide +kernel), List.mem_of_getElem? (i := 2027) (by decide +kernel), List.mem_of_getElem? (i := 2028) (by decide +kernel)⟩
theorem lw_p140 : lw_okq (⟨"FourTonguesModel", "closesWith", "(I)V"⟩, 106) := ⟨⟨by decide +kernel, by decide +kernel⟩, List.mem_of_getElem? (i := 1576) (by decide +kernel), List.mem_of_getElem? (i := 2031) (by decide +kernel), List.mem_of_getElem? (i := 2032) (by decide +kernel)⟩
theorem lw_p141 : lw_okq (⟨"FourTonguesModel", "wantsSign", "(I)V"⟩, 106) := ⟨⟨by decide +kernel, by decide +kernel⟩, List.mem_of_getElem? (i := 1576) (by decide +kernel), List.mem_of_getElem? (i := 2035) (by decide +kernel), List.mem_of_getElem? (i := 2036) (by decide +kernel)⟩
theorem lw_p142 : lw_okq (⟨"FourTonguesModel", "block", "()V"⟩, 106) := ⟨⟨by decide +kernel, by decide +kernel⟩, List.mem_of_getElem? (i := 1576) (by decide +kernel), List.mem_of_getElem? (i := 2039) (by decide +kernel), List.mem_of_getElem? (i := 2040) (by decide +kernel)⟩
theorem lw_p143 : lw_okq (⟨"FourTonguesModel", "statement", "()V"⟩, 106) := ⟨⟨by decide +kernel, by decide +kernel⟩, List.mem_of_getElem? (i := 1576) (by decide +kernel), List.mem_of_getElem? (i := 2043) (by decide +kernel), List.mem_of_getElem? (i := 2044) (by decide +kernel)⟩
def lw_privs_9 : List (MethodName × Nat) := [(⟨"FourTonguesModel", "isWord", "(I)Z"⟩, 106), (⟨"FourTonguesModel", "function", "()V"⟩, 106), (⟨"FourTonguesModel", "takesName", "()J"⟩, 106), (⟨"FourTonguesModel", "wrong3", "(I)V"⟩, 106), (⟨"FourTonguesModel", "wrong2", "(I)V"⟩, 106), (⟨"FourTonguesModel", "params", "()V"⟩, 106), (⟨"FourTonguesModel", "opensWith", "(I)V"⟩, 106), (⟨"FourTonguesModel", "isSign", "(I)Z"⟩, 106), (⟨"FourTonguesModel", "opens", "()V"⟩, 106), (⟨"FourTonguesModel", "slotOf", "(J)I"⟩, 106), (⟨"FourTonguesModel", "newSlot", "(J)I"⟩, 106), (⟨"FourTonguesModel", "takesSign", "(I)Z"⟩, 106), (⟨"FourTonguesModel", "closesWith", "(I)V"⟩, 106), (⟨"FourTonguesModel", "wantsSign", "(I)V"⟩, 106), (⟨"FourTonguesModel", "block", "()V"⟩, 106), (⟨"FourTonguesModel", "statement", "()V"⟩, 106)]
theorem lw_r9 : ∀ q ∈ lw_privs_9, lw_okq q := List.forall_mem_cons.mpr ⟨lw_p128, List.forall_mem_cons.mpr ⟨lw_p129, List.forall_mem_cons.mpr ⟨lw_p130, List.forall_mem_cons.mpr ⟨lw_p131, List.forall_mem_cons.mpr ⟨lw_p132, List.forall_mem_cons.mpr ⟨lw_p133, List.forall_mem_cons.mpr ⟨lw_p134, List.forall_mem_cons.mpr ⟨lw_p135, List.forall_mem_cons.mpr ⟨lw_p136, List.forall_mem_cons.mpr ⟨lw_p137, List.forall_mem_cons.mpr ⟨lw_p138, List.forall_mem_cons.mpr ⟨lw_p139, List.forall_mem_cons.mpr ⟨lw_p140, List.forall_mem_cons.mpr ⟨lw_p141, List.forall_mem_cons.mpr ⟨lw_p142, List.forall_mem_cons.mpr ⟨lw_p143, fun _ h => absurd h List.not_mem_nil⟩⟩⟩⟩⟩⟩⟩⟩⟩⟩⟩⟩⟩⟩⟩⟩
theorem lw_p144 : lw_okq (⟨"FourTonguesModel", "emit", "(IJI)I"⟩, 106) := ⟨⟨by decide +kernel, by decide +kernel⟩, List.mem_of_getElem? (i := 1576) (by decide +kernel), List.mem_of_getElem? (i := 2047) (by decide +kernel), List.mem_of_getElem? (i := 2048) (by decide +kernel)⟩
theorem lw_p145 : lw_okq (⟨"FourTonguesModel", "lets", "()V"⟩, 106) := ⟨⟨by decide +kernel, by decide +kernel⟩, List.mem_of_getElem? (i := 1576) (by decide +kernel), List.mem_of_getElem? (i := 2052) (by decide +kernel), List.mem_of_getElem? (i := 2053) (by decide +kernel)⟩
theorem lw_p146 : lw_okq (⟨"FourTonguesModel", "anySlot", "(J)I"⟩, 106) := ⟨⟨by decide +kernel, by decide +kernel⟩, List.mem_of_getElem? (i := 1576) (by decide +kernel), List.mem_of_getElem? (i := 2056) (by decide +kernel), List.mem_of_getElem? (i := 2057) (by decide +kernel)⟩
theorem lw_p147 : lw_okq (⟨"FourTonguesModel", "expr", "()V"⟩, 106) := ⟨⟨by decide +kernel, by decide +kernel⟩, List.mem_of_getElem? (i := 1576) (by decide +kernel), List.mem_of_getElem? (i := 2060) (by decide +kernel), List.mem_of_getElem? (i := 2061) (by decide +kernel)⟩
theorem lw_p148 : lw_okq (⟨"FourTonguesModel", "question", "()V"⟩, 106) := ⟨⟨by decide +kernel, by decide +kernel⟩, List.mem_of_getElem? (i := 1576) (by decide +kernel), List.mem_of_getElem? (i := 2064) (by decide +kernel), List.mem_of_getElem? (i := 2065) (by decide +kernel)⟩
theorem lw_p149 : lw_okq (⟨"FourTonguesModel", "sum", "()V"⟩, 106) := ⟨⟨by decide +kernel, by decide +kernel⟩, List.mem_of_getElem? (i := 1576) (by decide +kernel), List.mem_of_getElem? (i := 2068) (by decide +kernel), List.mem_of_getElem? (i := 2069) (by decide +kernel)⟩
theorem lw_p150 : lw_okq (⟨"FourTonguesModel", "product", "()V"⟩, 106) := ⟨⟨by decide +kernel, by decide +kernel⟩, List.mem_of_getElem? (i := 1576) (by decide +kernel), List.mem_of_getElem? (i := 2072) (by decide +kernel), List.mem_of_getElem? (i := 2073) (by decide +kernel)⟩
theorem lw_p151 : lw_okq (⟨"FourTonguesModel", "unary", "()V"⟩, 106) := ⟨⟨by decide +kernel, by decide +kernel⟩, List.mem_of_getElem? (i := 1576) (by decide +kernel), List.mem_of_getElem? (i := 2076) (by decide +kernel), List.mem_of_getElem? (i := 2077) (by decide +kernel)⟩
theorem lw_p152 : lw_okq (⟨"FourTonguesModel", "skips", "(I)I"⟩, 106) := ⟨⟨by decide +kernel, by decide +kernel⟩, List.mem_of_getElem? (i := 1576) (by decide +kernel), List.mem_of_getElem? (i := 2080) (by decide +kernel), List.mem_of_getElem? (i := 2081) (by decide +kernel)⟩
theorem lw_p153 : lw_okq (⟨"FourTonguesModel", "landsSkip", "(I)V"⟩, 106) := ⟨⟨by decide +kernel, by decide +kernel⟩, List.mem_of_getElem? (i := 1576) (by decide +kernel), List.mem_of_getElem? (i := 2084) (by decide +kernel), List.mem_of_getElem? (i := 2085) (by decide +kernel)⟩
theorem lw_p154 : lw_okq (⟨"FourTonguesModel", "lands", "(I)V"⟩, 106) := ⟨⟨by decide +kernel, by decide +kernel⟩, List.mem_of_getElem? (i := 1576) (by decide +kernel), List.mem_of_getElem? (i := 2088) (by decide +kernel), List.mem_of_getElem? (i := 2089) (by decide +kernel)⟩
theorem lw_p155 : lw_okq (⟨"FourTonguesModel", "slot", "(IJ)I"⟩, 106) := ⟨⟨by decide +kernel, by decide +kernel⟩, List.mem_of_getElem? (i := 1576) (by decide +kernel), List.mem_of_getElem? (i := 2092) (by decide +kernel), List.mem_of_getElem? (i := 2093) (by decide +kernel)⟩
theorem lw_p156 : lw_okq (⟨"FourTonguesModel", "primary", "(IJ)V"⟩, 106) := ⟨⟨by decide +kernel, by decide +kernel⟩, List.mem_of_getElem? (i := 1576) (by decide +kernel), List.mem_of_getElem? (i := 2096) (by decide +kernel), List.mem_of_getElem? (i := 2097) (by decide +kernel)⟩
theorem lw_p157 : lw_okq (⟨"FourTonguesModel", "call", "(IJ)V"⟩, 106) := ⟨⟨by decide +kernel, by decide +kernel⟩, List.mem_of_getElem? (i := 1576) (by decide +kernel), List.mem_of_getElem? (i := 2100) (by decide +kernel), List.mem_of_getElem? (i := 2101) (by decide +kernel)⟩
theorem lw_p158 : lw_okq (⟨"FourTonguesModel", "arguments", "(I)I"⟩, 106) := ⟨⟨by decide +kernel, by decide +kernel⟩, List.mem_of_getElem? (i := 1576) (by decide +kernel), List.mem_of_getElem? (i := 2104) (by decide +kernel), List.mem_of_getElem? (i := 2105) (by decide +kernel)⟩
theorem lw_p159 : lw_okq (⟨"FourTonguesModel", "landsFrom", "(I)V"⟩, 106) := ⟨⟨by decide +kernel, by decide +kernel⟩, List.mem_of_getElem? (i := 1576) (by decide +kernel), List.mem_of_getElem? (i := 2108) (by decide +kernel), List.mem_of_getElem? (i := 2109) (by decide +kernel)⟩
def lw_privs_10 : List (MethodName × Nat) := [(⟨"FourTonguesModel", "emit", "(IJI)I"⟩, 106), (⟨"FourTonguesModel", "lets", "()V"⟩, 106), (⟨"FourTonguesModel", "anySlot", "(J)I"⟩, 106), (⟨"FourTonguesModel", "expr", "()V"⟩, 106), (⟨"FourTonguesModel", "question", "()V"⟩, 106), (⟨"FourTonguesModel", "sum", "()V"⟩, 106), (⟨"FourTonguesModel", "product", "()V"⟩, 106), (⟨"FourTonguesModel", "unary", "()V"⟩, 106), (⟨"FourTonguesModel", "skips", "(I)I"⟩, 106), (⟨"FourTonguesModel", "landsSkip", "(I)V"⟩, 106), (⟨"FourTonguesModel", "lands", "(I)V"⟩, 106), (⟨"FourTonguesModel", "slot", "(IJ)I"⟩, 106), (⟨"FourTonguesModel", "primary", "(IJ)V"⟩, 106), (⟨"FourTonguesModel", "call", "(IJ)V"⟩, 106), (⟨"FourTonguesModel", "arguments", "(I)I"⟩, 106), (⟨"FourTonguesModel", "landsFrom", "(I)V"⟩, 106)]
theorem lw_r10 : ∀ q ∈ lw_privs_10, lw_okq q := List.forall_mem_cons.mpr ⟨lw_p144, List.forall_mem_cons.mpr ⟨lw_p145, List.forall_mem_cons.mpr ⟨lw_p146, List.forall_mem_cons.mpr ⟨lw_p147, List.forall_mem_cons.mpr ⟨lw_p148, List.forall_mem_cons.mpr ⟨lw_p149, List.forall_mem_cons.mpr ⟨lw_p150, List.forall_mem_cons.mpr ⟨lw_p151, List.forall_mem_cons.mpr ⟨lw_p152, List.forall_mem_cons.mpr ⟨lw_p153, List.forall_mem_cons.mpr ⟨lw_p154, List.forall_mem_cons.mpr ⟨lw_p155, List.forall_mem_cons.mpr ⟨lw_p156, List.forall_mem_cons.mpr ⟨lw_p157, List.forall_mem_cons.mpr ⟨lw_p158, List.forall_mem_cons.mpr ⟨lw_p159, fun _ h => absurd h List.not_mem_nil⟩⟩⟩⟩⟩⟩⟩⟩⟩⟩⟩⟩⟩⟩⟩⟩
theorem lw_p160 : lw_okq (⟨"FourTonguesModel", "bang", "()V"⟩, 106) := ⟨⟨by decide +kernel, by decide +kernel⟩, List.mem_of_getElem? (i := 1576) (by decide +kernel), List.mem_of_getElem? (i := 2112) (by decide +kernel), List.mem_of_getElem? (i := 2113) (by decide +kernel)⟩
theorem lw_p161 : lw_okq (⟨"FourTonguesModel", "worded", "()V"⟩, 106) := ⟨⟨by decide +kernel, by decide +kernel⟩, List.mem_of_getElem? (i := 1576) (by decide +kernel), List.mem_of_getElem? (i := 2116) (by decide +kernel), List.mem_of_getElem? (i := 2117) (by decide +kernel)⟩
theorem lw_p162 : lw_okq (⟨"FourTonguesModel", "ofPart", "(IIII)V"⟩, 106) := ⟨⟨by decide +kernel, by decide +kernel⟩, List.mem_of_getElem? (i := 1576) (by decide +kernel), List.mem_of_getElem? (i := 2120) (by decide +kernel), List.mem_of_getElem? (i := 2121) (by decide +kernel)⟩
theorem lw_p163 : lw_okq (⟨"FourTonguesModel", "takesKind", "()I"⟩, 106) := ⟨⟨by decide +kernel, by decide +kernel⟩, List.mem_of_getElem? (i := 1576) (by decide +kernel), List.mem_of_getElem? (i := 2124) (by decide +kernel), List.mem_of_getElem? (i := 2125) (by decide +kernel)⟩
theorem lw_p164 : lw_okq (⟨"FourTonguesModel", "name", "(IJ)I"⟩, 106) := ⟨⟨by decide +kernel, by decide +kernel⟩, List.mem_of_getElem? (i := 1576) (by decide +kernel), List.mem_of_getElem? (i := 2128) (by decide +kernel), List.mem_of_getElem? (i := 2129) (by decide +kernel)⟩
theorem lw_p165 : lw_okq (⟨"FourTonguesModel", "nameOf", "(J)I"⟩, 106) := ⟨⟨by decide +kernel, by decide +kernel⟩, List.mem_of_getElem? (i := 1576) (by decide +kernel), List.mem_of_getElem? (i := 2132) (by decide +kernel), List.mem_of_getElem? (i := 2133) (by decide +kernel)⟩
theorem lw_p166 : lw_okq (⟨"FourTonguesModel", "signed", "()V"⟩, 106) := ⟨⟨by decide +kernel, by decide +kernel⟩, List.mem_of_getElem? (i := 1576) (by decide +kernel), List.mem_of_getElem? (i := 2136) (by decide +kernel), List.mem_of_getElem? (i := 2137) (by decide +kernel)⟩
theorem lw_p167 : lw_okq (⟨"FourTonguesModel", "products", "()V"⟩, 106) := ⟨⟨by decide +kernel, by decide +kernel⟩, List.mem_of_getElem? (i := 1576) (by decide +kernel), List.mem_of_getElem? (i := 2140) (by decide +kernel), List.mem_of_getElem? (i := 2141) (by decide +kernel)⟩
theorem lw_p168 : lw_okq (⟨"FourTonguesModel", "two", "(II)V"⟩, 106) := ⟨⟨by decide +kernel, by decide +kernel⟩, List.mem_of_getElem? (i := 1576) (by decide +kernel), List.mem_of_getElem? (i := 2144) (by decide +kernel), List.mem_of_getElem? (i := 2145) (by decide +kernel)⟩
theorem lw_p169 : lw_okq (⟨"FourTonguesModel", "sums", "()V"⟩, 106) := ⟨⟨by decide +kernel, by decide +kernel⟩, List.mem_of_getElem? (i := 1576) (by decide +kernel), List.mem_of_getElem? (i := 2148) (by decide +kernel), List.mem_of_getElem? (i := 2149) (by decide +kernel)⟩
theorem lw_p170 : lw_okq (⟨"FourTonguesModel", "compares", "()V"⟩, 106) := ⟨⟨by decide +kernel, by decide +kernel⟩, List.mem_of_getElem? (i := 1576) (by decide +kernel), List.mem_of_getElem? (i := 2152) (by decide +kernel), List.mem_of_getElem? (i := 2153) (by decide +kernel)⟩
theorem lw_p171 : lw_okq (⟨"FourTonguesModel", "elses", "()V"⟩, 106) := ⟨⟨by decide +kernel, by decide +kernel⟩, List.mem_of_getElem? (i := 1576) (by decide +kernel), List.mem_of_getElem? (i := 2159) (by decide +kernel), List.mem_of_getElem? (i := 2160) (by decide +kernel)⟩
theorem lw_p172 : lw_okq (⟨"FourTonguesModel", "ifs", "()V"⟩, 106) := ⟨⟨by decide +kernel, by decide +kernel⟩, List.mem_of_getElem? (i := 1576) (by decide +kernel), List.mem_of_getElem? (i := 2163) (by decide +kernel), List.mem_of_getElem? (i := 2164) (by decide +kernel)⟩
theorem lw_p173 : lw_okq (⟨"FourTonguesModel", "whiles", "(I)V"⟩, 106) := ⟨⟨by decide +kernel, by decide +kernel⟩, List.mem_of_getElem? (i := 1576) (by decide +kernel), List.mem_of_getElem? (i := 2167) (by decide +kernel), List.mem_of_getElem? (i := 2168) (by decide +kernel)⟩
theorem lw_p174 : lw_okq (⟨"FourTonguesModel", "own", "()Z"⟩, 106) := ⟨⟨by decide +kernel, by decide +kernel⟩, List.mem_of_getElem? (i := 1576) (by decide +kernel), List.mem_of_getElem? (i := 2171) (by decide +kernel), List.mem_of_getElem? (i := 2172) (by decide +kernel)⟩
theorem lw_p175 : lw_okq (⟨"FourTonguesModel", "tries", "()V"⟩, 106) := ⟨⟨by decide +kernel, by decide +kernel⟩, List.mem_of_getElem? (i := 1576) (by decide +kernel), List.mem_of_getElem? (i := 2175) (by decide +kernel), List.mem_of_getElem? (i := 2176) (by decide +kernel)⟩
def lw_privs_11 : List (MethodName × Nat) := [(⟨"FourTonguesModel", "bang", "()V"⟩, 106), (⟨"FourTonguesModel", "worded", "()V"⟩, 106), (⟨"FourTonguesModel", "ofPart", "(IIII)V"⟩, 106), (⟨"FourTonguesModel", "takesKind", "()I"⟩, 106), (⟨"FourTonguesModel", "name", "(IJ)I"⟩, 106), (⟨"FourTonguesModel", "nameOf", "(J)I"⟩, 106), (⟨"FourTonguesModel", "signed", "()V"⟩, 106), (⟨"FourTonguesModel", "products", "()V"⟩, 106), (⟨"FourTonguesModel", "two", "(II)V"⟩, 106), (⟨"FourTonguesModel", "sums", "()V"⟩, 106), (⟨"FourTonguesModel", "compares", "()V"⟩, 106), (⟨"FourTonguesModel", "elses", "()V"⟩, 106), (⟨"FourTonguesModel", "ifs", "()V"⟩, 106), (⟨"FourTonguesModel", "whiles", "(I)V"⟩, 106), (⟨"FourTonguesModel", "own", "()Z"⟩, 106), (⟨"FourTonguesModel", "tries", "()V"⟩, 106)]
theorem lw_r11 : ∀ q ∈ lw_privs_11, lw_okq q := List.forall_mem_cons.mpr ⟨lw_p160, List.forall_mem_cons.mpr ⟨lw_p161, List.forall_mem_cons.mpr ⟨lw_p162, List.forall_mem_cons.mpr ⟨lw_p163, List.forall_mem_cons.mpr ⟨lw_p164, List.forall_mem_cons.mpr ⟨lw_p165, List.forall_mem_cons.mpr ⟨lw_p166, List.forall_mem_cons.mpr ⟨lw_p167, List.forall_mem_cons.mpr ⟨lw_p168, List.forall_mem_cons.mpr ⟨lw_p169, List.forall_mem_cons.mpr ⟨lw_p170, List.forall_mem_cons.mpr ⟨lw_p171, List.forall_mem_cons.mpr ⟨lw_p172, List.forall_mem_cons.mpr ⟨lw_p173, List.forall_mem_cons.mpr ⟨lw_p174, List.forall_mem_cons.mpr ⟨lw_p175, fun _ h => absurd h List.not_mem_nil⟩⟩⟩⟩⟩⟩⟩⟩⟩⟩⟩⟩⟩⟩⟩⟩
theorem lw_p176 : lw_okq (⟨"FourTonguesModel", "takesWord", "(I)Z"⟩, 106) := ⟨⟨by decide +kernel, by decide +kernel⟩, List.mem_of_getElem? (i := 1576) (by decide +kernel), List.mem_of_getElem? (i := 2179) (by decide +kernel), List.mem_of_getElem? (i := 2180) (by decide +kernel)⟩
theorem lw_p177 : lw_okq (⟨"FourTonguesModel", "door", "(II)V"⟩, 106) := ⟨⟨by decide +kernel, by decide +kernel⟩, List.mem_of_getElem? (i := 1576) (by decide +kernel), List.mem_of_getElem? (i := 2184) (by decide +kernel), List.mem_of_getElem? (i := 2185) (by decide +kernel)⟩
theorem lw_p178 : lw_okq (⟨"FourTonguesModel", "wantsWord", "(I)V"⟩, 106) := ⟨⟨by decide +kernel, by decide +kernel⟩, List.mem_of_getElem? (i := 1576) (by decide +kernel), List.mem_of_getElem? (i := 2188) (by decide +kernel), List.mem_of_getElem? (i := 2189) (by decide +kernel)⟩
theorem lw_p179 : lw_okq (⟨"FourTonguesModel", "cleans", "()V"⟩, 106) := ⟨⟨by decide +kernel, by decide +kernel⟩, List.mem_of_getElem? (i := 1576) (by decide +kernel), List.mem_of_getElem? (i := 2192) (by decide +kernel), List.mem_of_getElem? (i := 2193) (by decide +kernel)⟩
theorem lw_p180 : lw_okq (⟨"FourTonguesModel", "plain", "()V"⟩, 106) := ⟨⟨by decide +kernel, by decide +kernel⟩, List.mem_of_getElem? (i := 1576) (by decide +kernel), List.mem_of_getElem? (i := 2196) (by decide +kernel), List.mem_of_getElem? (i := 2197) (by decide +kernel)⟩
theorem lw_p181 : lw_okq (⟨"FourTonguesModel", "named", "()V"⟩, 106) := ⟨⟨by decide +kernel, by decide +kernel⟩, List.mem_of_getElem? (i := 1576) (by decide +kernel), List.mem_of_getElem? (i := 2200) (by decide +kernel), List.mem_of_getElem? (i := 2201) (by decide +kernel)⟩
theorem lw_p182 : lw_okq (⟨"FourTonguesModel", "keeps", "()V"⟩, 106) := ⟨⟨by decide +kernel, by decide +kernel⟩, List.mem_of_getElem? (i := 1576) (by decide +kernel), List.mem_of_getElem? (i := 2204) (by decide +kernel), List.mem_of_getElem? (i := 2205) (by decide +kernel)⟩
theorem lw_p183 : lw_okq (⟨"FourTonguesModel", "goesBack", "()V"⟩, 106) := ⟨⟨by decide +kernel, by decide +kernel⟩, List.mem_of_getElem? (i := 1576) (by decide +kernel), List.mem_of_getElem? (i := 2208) (by decide +kernel), List.mem_of_getElem? (i := 2209) (by decide +kernel)⟩
theorem lw_p184 : lw_okq (⟨"FourTonguesModel", "kind", "()V"⟩, 106) := ⟨⟨by decide +kernel, by decide +kernel⟩, List.mem_of_getElem? (i := 1576) (by decide +kernel), List.mem_of_getElem? (i := 2212) (by decide +kernel), List.mem_of_getElem? (i := 2213) (by decide +kernel)⟩
theorem lw_p185 : lw_okq (⟨"FourTonguesModel", "isUnderNew", "(II)Z"⟩, 106) := ⟨⟨by decide +kernel, by decide +kernel⟩, List.mem_of_getElem? (i := 1576) (by decide +kernel), List.mem_of_getElem? (i := 2216) (by decide +kernel), List.mem_of_getElem? (i := 2217) (by decide +kernel)⟩
theorem lw_p186 : lw_okq (⟨"FourTonguesModel", "canFail", "(II)Z"⟩, 106) := ⟨⟨by decide +kernel, by decide +kernel⟩, List.mem_of_getElem? (i := 1576) (by decide +kernel), List.mem_of_getElem? (i := 2232) (by decide +kernel), List.mem_of_getElem? (i := 2233) (by decide +kernel)⟩
theorem lw_p187 : lw_okq (⟨"FourTonguesModel", "entryOf", "(II)I"⟩, 106) := ⟨⟨by decide +kernel, by decide +kernel⟩, List.mem_of_getElem? (i := 1576) (by decide +kernel), List.mem_of_getElem? (i := 2236) (by decide +kernel), List.mem_of_getElem? (i := 2237) (by decide +kernel)⟩
theorem lw_p188 : lw_okq (⟨"FourTonguesModel", "turns", "(IIIJ)V"⟩, 106) := ⟨⟨by decide +kernel, by decide +kernel⟩, List.mem_of_getElem? (i := 1576) (by decide +kernel), List.mem_of_getElem? (i := 2244) (by decide +kernel), List.mem_of_getElem? (i := 2245) (by decide +kernel)⟩
theorem lw_p189 : lw_okq (⟨"FourTonguesModel", "turnsTo", "(ZJ)V"⟩, 106) := ⟨⟨by decide +kernel, by decide +kernel⟩, List.mem_of_getElem? (i := 1576) (by decide +kernel), List.mem_of_getElem? (i := 2248) (by decide +kernel), List.mem_of_getElem? (i := 2249) (by decide +kernel)⟩
theorem lw_p190 : lw_okq (⟨"FourTonguesModel", "enters", "(II)V"⟩, 106) := ⟨⟨by decide +kernel, by decide +kernel⟩, List.mem_of_getElem? (i := 1576) (by decide +kernel), List.mem_of_getElem? (i := 2266) (by decide +kernel), List.mem_of_getElem? (i := 2267) (by decide +kernel)⟩
theorem lw_p191 : lw_okq (⟨"FourTonguesModel", "puts", "(IIJ)V"⟩, 106) := ⟨⟨by decide +kernel, by decide +kernel⟩, List.mem_of_getElem? (i := 1576) (by decide +kernel), List.mem_of_getElem? (i := 2271) (by decide +kernel), List.mem_of_getElem? (i := 2272) (by decide +kernel)⟩
def lw_privs_12 : List (MethodName × Nat) := [(⟨"FourTonguesModel", "takesWord", "(I)Z"⟩, 106), (⟨"FourTonguesModel", "door", "(II)V"⟩, 106), (⟨"FourTonguesModel", "wantsWord", "(I)V"⟩, 106), (⟨"FourTonguesModel", "cleans", "()V"⟩, 106), (⟨"FourTonguesModel", "plain", "()V"⟩, 106), (⟨"FourTonguesModel", "named", "()V"⟩, 106), (⟨"FourTonguesModel", "keeps", "()V"⟩, 106), (⟨"FourTonguesModel", "goesBack", "()V"⟩, 106), (⟨"FourTonguesModel", "kind", "()V"⟩, 106), (⟨"FourTonguesModel", "isUnderNew", "(II)Z"⟩, 106), (⟨"FourTonguesModel", "canFail", "(II)Z"⟩, 106), (⟨"FourTonguesModel", "entryOf", "(II)I"⟩, 106), (⟨"FourTonguesModel", "turns", "(IIIJ)V"⟩, 106), (⟨"FourTonguesModel", "turnsTo", "(ZJ)V"⟩, 106), (⟨"FourTonguesModel", "enters", "(II)V"⟩, 106), (⟨"FourTonguesModel", "puts", "(IIJ)V"⟩, 106)]
theorem lw_r12 : ∀ q ∈ lw_privs_12, lw_okq q := List.forall_mem_cons.mpr ⟨lw_p176, List.forall_mem_cons.mpr ⟨lw_p177, List.forall_mem_cons.mpr ⟨lw_p178, List.forall_mem_cons.mpr ⟨lw_p179, List.forall_mem_cons.mpr ⟨lw_p180, List.forall_mem_cons.mpr ⟨lw_p181, List.forall_mem_cons.mpr ⟨lw_p182, List.forall_mem_cons.mpr ⟨lw_p183, List.forall_mem_cons.mpr ⟨lw_p184, List.forall_mem_cons.mpr ⟨lw_p185, List.forall_mem_cons.mpr ⟨lw_p186, List.forall_mem_cons.mpr ⟨lw_p187, List.forall_mem_cons.mpr ⟨lw_p188, List.forall_mem_cons.mpr ⟨lw_p189, List.forall_mem_cons.mpr ⟨lw_p190, List.forall_mem_cons.mpr ⟨lw_p191, fun _ h => absurd h List.not_mem_nil⟩⟩⟩⟩⟩⟩⟩⟩⟩⟩⟩⟩⟩⟩⟩⟩
theorem lw_p192 : lw_okq (⟨"FourTonguesModel", "runs", "()V"⟩, 106) := ⟨⟨by decide +kernel, by decide +kernel⟩, List.mem_of_getElem? (i := 1576) (by decide +kernel), List.mem_of_getElem? (i := 2275) (by decide +kernel), List.mem_of_getElem? (i := 2276) (by decide +kernel)⟩
theorem lw_p193 : lw_okq (⟨"FourTonguesModel", "acts", "(II)V"⟩, 106) := ⟨⟨by decide +kernel, by decide +kernel⟩, List.mem_of_getElem? (i := 1576) (by decide +kernel), List.mem_of_getElem? (i := 2279) (by decide +kernel), List.mem_of_getElem? (i := 2280) (by decide +kernel)⟩
theorem lw_p194 : lw_okq (⟨"FourTonguesModel", "step", "()Z"⟩, 106) := ⟨⟨by decide +kernel, by decide +kernel⟩, List.mem_of_getElem? (i := 1576) (by decide +kernel), List.mem_of_getElem? (i := 2283) (by decide +kernel), List.mem_of_getElem? (i := 2284) (by decide +kernel)⟩
theorem lw_p195 : lw_okq (⟨"FourTonguesModel", "push", "(IJ)V"⟩, 106) := ⟨⟨by decide +kernel, by decide +kernel⟩, List.mem_of_getElem? (i := 1576) (by decide +kernel), List.mem_of_getElem? (i := 2288) (by decide +kernel), List.mem_of_getElem? (i := 2289) (by decide +kernel)⟩
theorem lw_p196 : lw_okq (⟨"FourTonguesModel", "setsCell", "(I)V"⟩, 106) := ⟨⟨by decide +kernel, by decide +kernel⟩, List.mem_of_getElem? (i := 1576) (by decide +kernel), List.mem_of_getElem? (i := 2292) (by decide +kernel), List.mem_of_getElem? (i := 2293) (by decide +kernel)⟩
theorem lw_p197 : lw_okq (⟨"FourTonguesModel", "unwinds", "(IIJ)V"⟩, 106) := ⟨⟨by decide +kernel, by decide +kernel⟩, List.mem_of_getElem? (i := 1576) (by decide +kernel), List.mem_of_getElem? (i := 2296) (by decide +kernel), List.mem_of_getElem? (i := 2297) (by decide +kernel)⟩
theorem lw_p198 : lw_okq (⟨"FourTonguesModel", "block", "(III)V"⟩, 106) := ⟨⟨by decide +kernel, by decide +kernel⟩, List.mem_of_getElem? (i := 1576) (by decide +kernel), List.mem_of_getElem? (i := 2300) (by decide +kernel), List.mem_of_getElem? (i := 2301) (by decide +kernel)⟩
theorem lw_p199 : lw_okq (⟨"FourTonguesModel", "lies", "(IIJI)V"⟩, 106) := ⟨⟨by decide +kernel, by decide +kernel⟩, List.mem_of_getElem? (i := 1576) (by decide +kernel), List.mem_of_getElem? (i := 2304) (by decide +kernel), List.mem_of_getElem? (i := 2305) (by decide +kernel)⟩
theorem lw_p200 : lw_okq (⟨"FourTonguesModel", "catches", "(II)Z"⟩, 106) := ⟨⟨by decide +kernel, by decide +kernel⟩, List.mem_of_getElem? (i := 1576) (by decide +kernel), List.mem_of_getElem? (i := 2308) (by decide +kernel), List.mem_of_getElem? (i := 2309) (by decide +kernel)⟩
theorem lw_p201 : lw_okq (⟨"FourTonguesModel", "isUnder", "(II)Z"⟩, 106) := ⟨⟨by decide +kernel, by decide +kernel⟩, List.mem_of_getElem? (i := 1576) (by decide +kernel), List.mem_of_getElem? (i := 2312) (by decide +kernel), List.mem_of_getElem? (i := 2313) (by decide +kernel)⟩
theorem lw_p202 : lw_okq (⟨"FourTonguesModel", "opensTo", "(II)Z"⟩, 106) := ⟨⟨by decide +kernel, by decide +kernel⟩, List.mem_of_getElem? (i := 1576) (by decide +kernel), List.mem_of_getElem? (i := 2316) (by decide +kernel), List.mem_of_getElem? (i := 2317) (by decide +kernel)⟩
theorem lw_p203 : lw_okq (⟨"FourTonguesModel", "answers", "(IJ)V"⟩, 106) := ⟨⟨by decide +kernel, by decide +kernel⟩, List.mem_of_getElem? (i := 1576) (by decide +kernel), List.mem_of_getElem? (i := 2320) (by decide +kernel), List.mem_of_getElem? (i := 2321) (by decide +kernel)⟩
theorem lw_p204 : lw_okq (⟨"FourTonguesModel", "now", "()I"⟩, 106) := ⟨⟨by decide +kernel, by decide +kernel⟩, List.mem_of_getElem? (i := 1576) (by decide +kernel), List.mem_of_getElem? (i := 2324) (by decide +kernel), List.mem_of_getElem? (i := 2325) (by decide +kernel)⟩
theorem lw_p205 : lw_okq (⟨"FourTonguesModel", "leavesFrame", "()V"⟩, 106) := ⟨⟨by decide +kernel, by decide +kernel⟩, List.mem_of_getElem? (i := 1576) (by decide +kernel), List.mem_of_getElem? (i := 2328) (by decide +kernel), List.mem_of_getElem? (i := 2329) (by decide +kernel)⟩
theorem lw_p206 : lw_okq (⟨"FourTonguesModel", "ends", "(IIJ)V"⟩, 106) := ⟨⟨by decide +kernel, by decide +kernel⟩, List.mem_of_getElem? (i := 1576) (by decide +kernel), List.mem_of_getElem? (i := 2332) (by decide +kernel), List.mem_of_getElem? (i := 2333) (by decide +kernel)⟩
theorem lw_p207 : lw_okq (⟨"FourTonguesModel", "turnsFailure", "(I)V"⟩, 106) := ⟨⟨by decide +kernel, by decide +kernel⟩, List.mem_of_getElem? (i := 1576) (by decide +kernel), List.mem_of_getElem? (i := 2336) (by decide +kernel), List.mem_of_getElem? (i := 2337) (by decide +kernel)⟩
def lw_privs_13 : List (MethodName × Nat) := [(⟨"FourTonguesModel", "runs", "()V"⟩, 106), (⟨"FourTonguesModel", "acts", "(II)V"⟩, 106), (⟨"FourTonguesModel", "step", "()Z"⟩, 106), (⟨"FourTonguesModel", "push", "(IJ)V"⟩, 106), (⟨"FourTonguesModel", "setsCell", "(I)V"⟩, 106), (⟨"FourTonguesModel", "unwinds", "(IIJ)V"⟩, 106), (⟨"FourTonguesModel", "block", "(III)V"⟩, 106), (⟨"FourTonguesModel", "lies", "(IIJI)V"⟩, 106), (⟨"FourTonguesModel", "catches", "(II)Z"⟩, 106), (⟨"FourTonguesModel", "isUnder", "(II)Z"⟩, 106), (⟨"FourTonguesModel", "opensTo", "(II)Z"⟩, 106), (⟨"FourTonguesModel", "answers", "(IJ)V"⟩, 106), (⟨"FourTonguesModel", "now", "()I"⟩, 106), (⟨"FourTonguesModel", "leavesFrame", "()V"⟩, 106), (⟨"FourTonguesModel", "ends", "(IIJ)V"⟩, 106), (⟨"FourTonguesModel", "turnsFailure", "(I)V"⟩, 106)]
theorem lw_r13 : ∀ q ∈ lw_privs_13, lw_okq q := List.forall_mem_cons.mpr ⟨lw_p192, List.forall_mem_cons.mpr ⟨lw_p193, List.forall_mem_cons.mpr ⟨lw_p194, List.forall_mem_cons.mpr ⟨lw_p195, List.forall_mem_cons.mpr ⟨lw_p196, List.forall_mem_cons.mpr ⟨lw_p197, List.forall_mem_cons.mpr ⟨lw_p198, List.forall_mem_cons.mpr ⟨lw_p199, List.forall_mem_cons.mpr ⟨lw_p200, List.forall_mem_cons.mpr ⟨lw_p201, List.forall_mem_cons.mpr ⟨lw_p202, List.forall_mem_cons.mpr ⟨lw_p203, List.forall_mem_cons.mpr ⟨lw_p204, List.forall_mem_cons.mpr ⟨lw_p205, List.forall_mem_cons.mpr ⟨lw_p206, List.forall_mem_cons.mpr ⟨lw_p207, fun _ h => absurd h List.not_mem_nil⟩⟩⟩⟩⟩⟩⟩⟩⟩⟩⟩⟩⟩⟩⟩⟩
theorem lw_p208 : lw_okq (⟨"FourTonguesModel", "turnsValue", "(IIIJ)V"⟩, 106) := ⟨⟨by decide +kernel, by decide +kernel⟩, List.mem_of_getElem? (i := 1576) (by decide +kernel), List.mem_of_getElem? (i := 2340) (by decide +kernel), List.mem_of_getElem? (i := 2341) (by decide +kernel)⟩
theorem lw_p209 : lw_okq (⟨"FourTonguesModel", "newFailure", "(IIIJ)I"⟩, 106) := ⟨⟨by decide +kernel, by decide +kernel⟩, List.mem_of_getElem? (i := 1576) (by decide +kernel), List.mem_of_getElem? (i := 2344) (by decide +kernel), List.mem_of_getElem? (i := 2345) (by decide +kernel)⟩
theorem lw_p210 : lw_okq (⟨"FourTonguesModel", "goesOut", "(IZ)V"⟩, 106) := ⟨⟨by decide +kernel, by decide +kernel⟩, List.mem_of_getElem? (i := 1576) (by decide +kernel), List.mem_of_getElem? (i := 2348) (by decide +kernel), List.mem_of_getElem? (i := 2349) (by decide +kernel)⟩
theorem lw_p211 : lw_okq (⟨"FourTonguesModel", "codeGoes", "(IZ)V"⟩, 106) := ⟨⟨by decide +kernel, by decide +kernel⟩, List.mem_of_getElem? (i := 1576) (by decide +kernel), List.mem_of_getElem? (i := 2352) (by decide +kernel), List.mem_of_getElem? (i := 2353) (by decide +kernel)⟩
theorem lw_p212 : lw_okq (⟨"FourTonguesModel", "failsOut", "(I)V"⟩, 106) := ⟨⟨by decide +kernel, by decide +kernel⟩, List.mem_of_getElem? (i := 1576) (by decide +kernel), List.mem_of_getElem? (i := 2356) (by decide +kernel), List.mem_of_getElem? (i := 2357) (by decide +kernel)⟩
theorem lw_p213 : lw_okq (⟨"FourTonguesModel", "arises", "(I)V"⟩, 106) := ⟨⟨by decide +kernel, by decide +kernel⟩, List.mem_of_getElem? (i := 1576) (by decide +kernel), List.mem_of_getElem? (i := 2360) (by decide +kernel), List.mem_of_getElem? (i := 2361) (by decide +kernel)⟩
theorem lw_p214 : lw_okq (⟨"FourTonguesModel", "arisesWith", "(IIJ)V"⟩, 106) := ⟨⟨by decide +kernel, by decide +kernel⟩, List.mem_of_getElem? (i := 1576) (by decide +kernel), List.mem_of_getElem? (i := 2364) (by decide +kernel), List.mem_of_getElem? (i := 2365) (by decide +kernel)⟩
theorem lw_p215 : lw_okq (⟨"FourTonguesModel", "arisesHere", "(I)V"⟩, 106) := ⟨⟨by decide +kernel, by decide +kernel⟩, List.mem_of_getElem? (i := 1576) (by decide +kernel), List.mem_of_getElem? (i := 2368) (by decide +kernel), List.mem_of_getElem? (i := 2369) (by decide +kernel)⟩
theorem lw_p216 : lw_okq (⟨"FourTonguesModel", "indexOf", "(IJI)I"⟩, 106) := ⟨⟨by decide +kernel, by decide +kernel⟩, List.mem_of_getElem? (i := 1576) (by decide +kernel), List.mem_of_getElem? (i := 2372) (by decide +kernel), List.mem_of_getElem? (i := 2373) (by decide +kernel)⟩
theorem lw_p217 : lw_okq (⟨"FourTonguesModel", "asksNumber", "()Z"⟩, 106) := ⟨⟨by decide +kernel, by decide +kernel⟩, List.mem_of_getElem? (i := 1576) (by decide +kernel), List.mem_of_getElem? (i := 2376) (by decide +kernel), List.mem_of_getElem? (i := 2377) (by decide +kernel)⟩
theorem lw_p218 : lw_okq (⟨"FourTonguesModel", "top", "()I"⟩, 106) := ⟨⟨by decide +kernel, by decide +kernel⟩, List.mem_of_getElem? (i := 1576) (by decide +kernel), List.mem_of_getElem? (i := 2380) (by decide +kernel), List.mem_of_getElem? (i := 2381) (by decide +kernel)⟩
theorem lw_p219 : lw_okq (⟨"FourTonguesModel", "isZero", "(IJ)Z"⟩, 106) := ⟨⟨by decide +kernel, by decide +kernel⟩, List.mem_of_getElem? (i := 1576) (by decide +kernel), List.mem_of_getElem? (i := 2384) (by decide +kernel), List.mem_of_getElem? (i := 2385) (by decide +kernel)⟩
theorem lw_p220 : lw_okq (⟨"FourTonguesModel", "failsBy", "()V"⟩, 106) := ⟨⟨by decide +kernel, by decide +kernel⟩, List.mem_of_getElem? (i := 1576) (by decide +kernel), List.mem_of_getElem? (i := 2388) (by decide +kernel), List.mem_of_getElem? (i := 2389) (by decide +kernel)⟩
theorem lw_p221 : lw_okq (⟨"FourTonguesModel", "exits", "(IIJ)V"⟩, 106) := ⟨⟨by decide +kernel, by decide +kernel⟩, List.mem_of_getElem? (i := 1576) (by decide +kernel), List.mem_of_getElem? (i := 2392) (by decide +kernel), List.mem_of_getElem? (i := 2393) (by decide +kernel)⟩
theorem lw_p222 : lw_okq (⟨"FourTonguesModel", "isOpen", "(I)Z"⟩, 106) := ⟨⟨by decide +kernel, by decide +kernel⟩, List.mem_of_getElem? (i := 1576) (by decide +kernel), List.mem_of_getElem? (i := 2396) (by decide +kernel), List.mem_of_getElem? (i := 2397) (by decide +kernel)⟩
theorem lw_p223 : lw_okq (⟨"FourTonguesModel", "works", "(II)V"⟩, 106) := ⟨⟨by decide +kernel, by decide +kernel⟩, List.mem_of_getElem? (i := 1576) (by decide +kernel), List.mem_of_getElem? (i := 2400) (by decide +kernel), List.mem_of_getElem? (i := 2401) (by decide +kernel)⟩
def lw_privs_14 : List (MethodName × Nat) := [(⟨"FourTonguesModel", "turnsValue", "(IIIJ)V"⟩, 106), (⟨"FourTonguesModel", "newFailure", "(IIIJ)I"⟩, 106), (⟨"FourTonguesModel", "goesOut", "(IZ)V"⟩, 106), (⟨"FourTonguesModel", "codeGoes", "(IZ)V"⟩, 106), (⟨"FourTonguesModel", "failsOut", "(I)V"⟩, 106), (⟨"FourTonguesModel", "arises", "(I)V"⟩, 106), (⟨"FourTonguesModel", "arisesWith", "(IIJ)V"⟩, 106), (⟨"FourTonguesModel", "arisesHere", "(I)V"⟩, 106), (⟨"FourTonguesModel", "indexOf", "(IJI)I"⟩, 106), (⟨"FourTonguesModel", "asksNumber", "()Z"⟩, 106), (⟨"FourTonguesModel", "top", "()I"⟩, 106), (⟨"FourTonguesModel", "isZero", "(IJ)Z"⟩, 106), (⟨"FourTonguesModel", "failsBy", "()V"⟩, 106), (⟨"FourTonguesModel", "exits", "(IIJ)V"⟩, 106), (⟨"FourTonguesModel", "isOpen", "(I)Z"⟩, 106), (⟨"FourTonguesModel", "works", "(II)V"⟩, 106)]
theorem lw_r14 : ∀ q ∈ lw_privs_14, lw_okq q := List.forall_mem_cons.mpr ⟨lw_p208, List.forall_mem_cons.mpr ⟨lw_p209, List.forall_mem_cons.mpr ⟨lw_p210, List.forall_mem_cons.mpr ⟨lw_p211, List.forall_mem_cons.mpr ⟨lw_p212, List.forall_mem_cons.mpr ⟨lw_p213, List.forall_mem_cons.mpr ⟨lw_p214, List.forall_mem_cons.mpr ⟨lw_p215, List.forall_mem_cons.mpr ⟨lw_p216, List.forall_mem_cons.mpr ⟨lw_p217, List.forall_mem_cons.mpr ⟨lw_p218, List.forall_mem_cons.mpr ⟨lw_p219, List.forall_mem_cons.mpr ⟨lw_p220, List.forall_mem_cons.mpr ⟨lw_p221, List.forall_mem_cons.mpr ⟨lw_p222, List.forall_mem_cons.mpr ⟨lw_p223, fun _ h => absurd h List.not_mem_nil⟩⟩⟩⟩⟩⟩⟩⟩⟩⟩⟩⟩⟩⟩⟩⟩
theorem lw_p224 : lw_okq (⟨"FourTonguesModel", "makes", "(I)V"⟩, 106) := ⟨⟨by decide +kernel, by decide +kernel⟩, List.mem_of_getElem? (i := 1576) (by decide +kernel), List.mem_of_getElem? (i := 2404) (by decide +kernel), List.mem_of_getElem? (i := 2405) (by decide +kernel)⟩
theorem lw_p225 : lw_okq (⟨"FourTonguesModel", "pushNumber", "(IJ)V"⟩, 106) := ⟨⟨by decide +kernel, by decide +kernel⟩, List.mem_of_getElem? (i := 1576) (by decide +kernel), List.mem_of_getElem? (i := 2408) (by decide +kernel), List.mem_of_getElem? (i := 2409) (by decide +kernel)⟩
theorem lw_p226 : lw_okq (⟨"FourTonguesModel", "getsCell", "(I)V"⟩, 106) := ⟨⟨by decide +kernel, by decide +kernel⟩, List.mem_of_getElem? (i := 1576) (by decide +kernel), List.mem_of_getElem? (i := 2412) (by decide +kernel), List.mem_of_getElem? (i := 2413) (by decide +kernel)⟩
theorem lw_p227 : lw_okq (⟨"FourTonguesModel", "functionOf", "(IJ)I"⟩, 106) := ⟨⟨by decide +kernel, by decide +kernel⟩, List.mem_of_getElem? (i := 1576) (by decide +kernel), List.mem_of_getElem? (i := 2416) (by decide +kernel), List.mem_of_getElem? (i := 2417) (by decide +kernel)⟩
theorem lw_p228 : lw_okq (⟨"FourTonguesModel", "calls", "(III)V"⟩, 106) := ⟨⟨by decide +kernel, by decide +kernel⟩, List.mem_of_getElem? (i := 1576) (by decide +kernel), List.mem_of_getElem? (i := 2420) (by decide +kernel), List.mem_of_getElem? (i := 2421) (by decide +kernel)⟩
theorem lw_p229 : lw_okq (⟨"FourTonguesModel", "callsBy", "(I)V"⟩, 106) := ⟨⟨by decide +kernel, by decide +kernel⟩, List.mem_of_getElem? (i := 1576) (by decide +kernel), List.mem_of_getElem? (i := 2424) (by decide +kernel), List.mem_of_getElem? (i := 2425) (by decide +kernel)⟩
theorem lw_p230 : lw_okq (⟨"FourTonguesModel", "signs", "(II)V"⟩, 106) := ⟨⟨by decide +kernel, by decide +kernel⟩, List.mem_of_getElem? (i := 1576) (by decide +kernel), List.mem_of_getElem? (i := 2429) (by decide +kernel), List.mem_of_getElem? (i := 2430) (by decide +kernel)⟩
theorem lw_p231 : lw_okq (⟨"FourTonguesModel", "reals", "(IDD)V"⟩, 106) := ⟨⟨by decide +kernel, by decide +kernel⟩, List.mem_of_getElem? (i := 1576) (by decide +kernel), List.mem_of_getElem? (i := 2436) (by decide +kernel), List.mem_of_getElem? (i := 2437) (by decide +kernel)⟩
theorem lw_p232 : lw_okq (⟨"FourTonguesModel", "wholes", "(IIJJ)V"⟩, 106) := ⟨⟨by decide +kernel, by decide +kernel⟩, List.mem_of_getElem? (i := 1576) (by decide +kernel), List.mem_of_getElem? (i := 2445) (by decide +kernel), List.mem_of_getElem? (i := 2446) (by decide +kernel)⟩
theorem lw_p233 : lw_okq (⟨"FourTonguesModel", "minus", "(I)V"⟩, 106) := ⟨⟨by decide +kernel, by decide +kernel⟩, List.mem_of_getElem? (i := 1576) (by decide +kernel), List.mem_of_getElem? (i := 2449) (by decide +kernel), List.mem_of_getElem? (i := 2450) (by decide +kernel)⟩
theorem lw_p234 : lw_okq (⟨"FourTonguesModel", "failureAt", "(I)I"⟩, 106) := ⟨⟨by decide +kernel, by decide +kernel⟩, List.mem_of_getElem? (i := 1576) (by decide +kernel), List.mem_of_getElem? (i := 2473) (by decide +kernel), List.mem_of_getElem? (i := 2474) (by decide +kernel)⟩
theorem lw_p235 : lw_okq (⟨"FourTonguesModel", "told", "(II)I"⟩, 106) := ⟨⟨by decide +kernel, by decide +kernel⟩, List.mem_of_getElem? (i := 1576) (by decide +kernel), List.mem_of_getElem? (i := 2477) (by decide +kernel), List.mem_of_getElem? (i := 2478) (by decide +kernel)⟩
theorem lw_p236 : lw_okq (⟨"FourTonguesModel", "underMany", "(I)I"⟩, 106) := ⟨⟨by decide +kernel, by decide +kernel⟩, List.mem_of_getElem? (i := 1576) (by decide +kernel), List.mem_of_getElem? (i := 2481) (by decide +kernel), List.mem_of_getElem? (i := 2482) (by decide +kernel)⟩
def lw_privs_15 : List (MethodName × Nat) := [(⟨"FourTonguesModel", "makes", "(I)V"⟩, 106), (⟨"FourTonguesModel", "pushNumber", "(IJ)V"⟩, 106), (⟨"FourTonguesModel", "getsCell", "(I)V"⟩, 106), (⟨"FourTonguesModel", "functionOf", "(IJ)I"⟩, 106), (⟨"FourTonguesModel", "calls", "(III)V"⟩, 106), (⟨"FourTonguesModel", "callsBy", "(I)V"⟩, 106), (⟨"FourTonguesModel", "signs", "(II)V"⟩, 106), (⟨"FourTonguesModel", "reals", "(IDD)V"⟩, 106), (⟨"FourTonguesModel", "wholes", "(IIJJ)V"⟩, 106), (⟨"FourTonguesModel", "minus", "(I)V"⟩, 106), (⟨"FourTonguesModel", "failureAt", "(I)I"⟩, 106), (⟨"FourTonguesModel", "told", "(II)I"⟩, 106), (⟨"FourTonguesModel", "underMany", "(I)I"⟩, 106)]
theorem lw_r15 : ∀ q ∈ lw_privs_15, lw_okq q := List.forall_mem_cons.mpr ⟨lw_p224, List.forall_mem_cons.mpr ⟨lw_p225, List.forall_mem_cons.mpr ⟨lw_p226, List.forall_mem_cons.mpr ⟨lw_p227, List.forall_mem_cons.mpr ⟨lw_p228, List.forall_mem_cons.mpr ⟨lw_p229, List.forall_mem_cons.mpr ⟨lw_p230, List.forall_mem_cons.mpr ⟨lw_p231, List.forall_mem_cons.mpr ⟨lw_p232, List.forall_mem_cons.mpr ⟨lw_p233, List.forall_mem_cons.mpr ⟨lw_p234, List.forall_mem_cons.mpr ⟨lw_p235, List.forall_mem_cons.mpr ⟨lw_p236, fun _ h => absurd h List.not_mem_nil⟩⟩⟩⟩⟩⟩⟩⟩⟩⟩⟩⟩⟩
def lw_privs : List (MethodName × Nat) := lw_privs_1 ++ (lw_privs_2 ++ (lw_privs_3 ++ (lw_privs_4 ++ (lw_privs_5 ++ (lw_privs_6 ++ (lw_privs_7 ++ (lw_privs_8 ++ (lw_privs_9 ++ (lw_privs_10 ++ (lw_privs_11 ++ (lw_privs_12 ++ (lw_privs_13 ++ (lw_privs_14 ++ (lw_privs_15))))))))))))))
def lw_tbl : List Cond := k2_sels lw_privs ++ tables_1
theorem lw_privs_ok : ∀ q ∈ lw_privs, lw_okq q := by
  show ∀ q ∈ lw_privs_1 ++ (lw_privs_2 ++ (lw_privs_3 ++ (lw_privs_4 ++ (lw_privs_5 ++ (lw_privs_6 ++ (lw_privs_7 ++ (lw_privs_8 ++ (lw_privs_9 ++ (lw_privs_10 ++ (lw_privs_11 ++ (lw_privs_12 ++ (lw_privs_13 ++ (lw_privs_14 ++ (lw_privs_15)))))))))))))), lw_okq q
  exact List.forall_mem_append.mpr ⟨lw_r1, List.forall_mem_append.mpr ⟨lw_r2, List.forall_mem_append.mpr ⟨lw_r3, List.forall_mem_append.mpr ⟨lw_r4, List.forall_mem_append.mpr ⟨lw_r5, List.forall_mem_append.mpr ⟨lw_r6, List.forall_mem_append.mpr ⟨lw_r7, List.forall_mem_append.mpr ⟨lw_r8, List.forall_mem_append.mpr ⟨lw_r9, List.forall_mem_append.mpr ⟨lw_r10, List.forall_mem_append.mpr ⟨lw_r11, List.forall_mem_append.mpr ⟨lw_r12, List.forall_mem_append.mpr ⟨lw_r13, List.forall_mem_append.mpr ⟨lw_r14, lw_r15⟩⟩⟩⟩⟩⟩⟩⟩⟩⟩⟩⟩⟩⟩
/-- the streams that the claim lets the run draw from -/
abbrev lw_cs : List Choice := [Jvm.Choice.named "NaN.bits", Jvm.Choice.named "NaN.copy"]
theorem lw_bits : nanBits ∈ lw_cs := by first | decide | exact List.mem_cons_self | simp [lw_cs, nanBits]
-- ===== end of PART A; then your names; then what follows =====
end
section
theorem goodIn_r {big : List Cond} (ws : List Cond) (ps : List Nat) (hp : ws = ps.filterMap (fun i => big[i]?)) (h : ws.all goodWord = true) : GoodIn big ws := by
  intro w hw
  have h1 := List.all_eq_true.mp h w hw
  rw [hp] at hw
  obtain ⟨i, -, hi⟩ := List.mem_filterMap.mp hw
  have hm : w ∈ big := by first | exact List.mem_of_getElem? hi | exact List.getElem?_mem hi
  exact ⟨hm, good_of_word h1⟩
theorem goodIn_app {big a b : List Cond} (ha : GoodIn big a) (hb : GoodIn big b) : GoodIn big (a ++ b) := fun w h => (List.mem_append.mp h).elim (ha w) (hb w)
def RX0 : String := "FourTongues$Borders"
def TX0 : u_T := fun k => match k with
  | 0 => ("FourTongues$Borders", "rules", "[I", true)
  | 1 => ("FourTongues$Borders", "defaults", "[I", true)
  | 2 => ("FourTongues$Borders", "entryBorders", "[I", true)
  | 3 => ("FourTongues$Borders", "entryWhats", "[I", true)
  | 4 => ("FourTongues$Borders", "entryAs", "[I", true)
  | _ => ("FourTongues$Borders", "entries", "I", false)
def tyX0 : Nat → FieldType := fun k => match k with
  | 0 => .array .int
  | 1 => .array .int
  | 2 => .array .int
  | 3 => .array .int
  | 4 => .array .int
  | _ => .int
abbrev wsX00 : List Cond := u_ws RX0 TX0 6
theorem nmX0 : ∀ a, a < 6 → ∀ b, b < 6 → a ≠ b → (TX0 a).2.1 ≠ (TX0 b).2.1 := by decide +kernel
theorem tyX0_ok : ∀ k, k < 6 → parseFieldDescriptor (TX0 k).2.2.1 = some (tyX0 k) := by decide +kernel
abbrev cX0_init : ByteArray := prog_2_method_1_code
def yX0_init : MethodName := ⟨RX0, "<init>", "()V"⟩
def RX1 : String := "FourTongues$Failures"
def TX1 : u_T := fun k => match k with
  | 0 => ("FourTongues$Failures", "facts", "[I", false)
  | 1 => ("FourTongues$Failures", "count", "I", false)
  | 2 => ("FourTongues$Failures", "values", "LFourTongues$Row;", true)
  | 3 => ("FourTongues$Failures", "lying", "[I", false)
  | _ => ("FourTongues$Failures", "lyingCount", "I", false)
def tyX1 : Nat → FieldType := fun k => match k with
  | 0 => .array .int
  | 1 => .int
  | 2 => .object "FourTongues$Row"
  | 3 => .array .int
  | _ => .int
abbrev wsX10 : List Cond := u_ws RX1 TX1 5
theorem nmX1 : ∀ a, a < 5 → ∀ b, b < 5 → a ≠ b → (TX1 a).2.1 ≠ (TX1 b).2.1 := by decide +kernel
theorem tyX1_ok : ∀ k, k < 5 → parseFieldDescriptor (TX1 k).2.2.1 = some (tyX1 k) := by decide +kernel
abbrev cX1_init : ByteArray := prog_3_method_1_code
def yX1_init : MethodName := ⟨RX1, "<init>", "()V"⟩
abbrev cX1_fact : ByteArray := prog_3_method_4_code
def yX1_fact : MethodName := ⟨RX1, "fact", "(II)I"⟩
abbrev cX1_source : ByteArray := prog_3_method_7_code
def yX1_source : MethodName := ⟨RX1, "source", "(II)I"⟩
abbrev cX1_lower : ByteArray := prog_3_method_8_code
def yX1_lower : MethodName := ⟨RX1, "lower", "(II)I"⟩
def RX2 : String := "FourTongues$Frames"
def TX2 : u_T := fun k => match k with
  | 0 => ("FourTongues$Frames", "tongues", "[I", true)
  | 1 => ("FourTongues$Frames", "functions", "[I", true)
  | 2 => ("FourTongues$Frames", "bases", "[I", true)
  | 3 => ("FourTongues$Frames", "floors", "[I", true)
  | 4 => ("FourTongues$Frames", "tops", "[I", true)
  | 5 => ("FourTongues$Frames", "calledAt", "[I", true)
  | 6 => ("FourTongues$Frames", "guardBases", "[I", true)
  | _ => ("FourTongues$Frames", "count", "I", false)
def tyX2 : Nat → FieldType := fun k => match k with
  | 0 => .array .int
  | 1 => .array .int
  | 2 => .array .int
  | 3 => .array .int
  | 4 => .array .int
  | 5 => .array .int
  | 6 => .array .int
  | _ => .int
abbrev wsX20 : List Cond := u_ws RX2 TX2 8
theorem nmX2 : ∀ a, a < 8 → ∀ b, b < 8 → a ≠ b → (TX2 a).2.1 ≠ (TX2 b).2.1 := by decide +kernel
theorem tyX2_ok : ∀ k, k < 8 → parseFieldDescriptor (TX2 k).2.2.1 = some (tyX2 k) := by decide +kernel
abbrev cX2_init : ByteArray := prog_4_method_1_code
def yX2_init : MethodName := ⟨RX2, "<init>", "()V"⟩
def RX3 : String := "FourTongues$Guards"
def TX3 : u_T := fun k => match k with
  | 0 => ("FourTongues$Guards", "kinds", "[I", true)
  | 1 => ("FourTongues$Guards", "targets", "[I", true)
  | 2 => ("FourTongues$Guards", "names", "[I", true)
  | 3 => ("FourTongues$Guards", "underWay", "[I", true)
  | 4 => ("FourTongues$Guards", "failures", "[I", true)
  | 5 => ("FourTongues$Guards", "answers", "LFourTongues$Row;", true)
  | _ => ("FourTongues$Guards", "count", "I", false)
def tyX3 : Nat → FieldType := fun k => match k with
  | 0 => .array .int
  | 1 => .array .int
  | 2 => .array .int
  | 3 => .array .int
  | 4 => .array .int
  | 5 => .object "FourTongues$Row"
  | _ => .int
abbrev wsX30 : List Cond := u_ws RX3 TX3 7
theorem nmX3 : ∀ a, a < 7 → ∀ b, b < 7 → a ≠ b → (TX3 a).2.1 ≠ (TX3 b).2.1 := by decide +kernel
theorem tyX3_ok : ∀ k, k < 7 → parseFieldDescriptor (TX3 k).2.2.1 = some (tyX3 k) := by decide +kernel
abbrev cX3_init : ByteArray := prog_5_method_1_code
def yX3_init : MethodName := ⟨RX3, "<init>", "()V"⟩
def RX4 : String := "FourTongues$Machine"
def TX4 : u_T := fun k => match k with
  | 0 => ("FourTongues$Machine", "programs", "[LFourTongues$Program;", true)
  | 1 => ("FourTongues$Machine", "names", "LFourTongues$Names;", true)
  | 2 => ("FourTongues$Machine", "borders", "LFourTongues$Borders;", true)
  | 3 => ("FourTongues$Machine", "stack", "LFourTongues$Row;", true)
  | 4 => ("FourTongues$Machine", "heap", "LFourTongues$Row;", true)
  | 5 => ("FourTongues$Machine", "marks", "LFourTongues$Row;", true)
  | 6 => ("FourTongues$Machine", "failures", "LFourTongues$Failures;", true)
  | 7 => ("FourTongues$Machine", "frames", "LFourTongues$Frames;", true)
  | 8 => ("FourTongues$Machine", "guards", "LFourTongues$Guards;", true)
  | 9 => ("FourTongues$Machine", "tally", "[I", true)
  | 10 => ("FourTongues$Machine", "program", "LFourTongues$Program;", false)
  | 11 => ("FourTongues$Machine", "at", "I", false)
  | 12 => ("FourTongues$Machine", "pc", "I", false)
  | 13 => ("FourTongues$Machine", "state", "I", false)
  | 14 => ("FourTongues$Machine", "carried", "I", false)
  | 15 => ("FourTongues$Machine", "cameOut", "I", false)
  | _ => ("FourTongues$Machine", "answer", "J", false)
def tyX4 : Nat → FieldType := fun k => match k with
  | 0 => .array (.object "FourTongues$Program")
  | 1 => .object "FourTongues$Names"
  | 2 => .object "FourTongues$Borders"
  | 3 => .object "FourTongues$Row"
  | 4 => .object "FourTongues$Row"
  | 5 => .object "FourTongues$Row"
  | 6 => .object "FourTongues$Failures"
  | 7 => .object "FourTongues$Frames"
  | 8 => .object "FourTongues$Guards"
  | 9 => .array .int
  | 10 => .object "FourTongues$Program"
  | 11 => .int
  | 12 => .int
  | 13 => .int
  | 14 => .int
  | 15 => .int
  | _ => .long
abbrev wsX40 : List Cond := u_ws RX4 TX4 17
theorem nmX4 : ∀ a, a < 17 → ∀ b, b < 17 → a ≠ b → (TX4 a).2.1 ≠ (TX4 b).2.1 := by decide +kernel
theorem tyX4_ok : ∀ k, k < 17 → parseFieldDescriptor (TX4 k).2.2.1 = some (tyX4 k) := by decide +kernel
abbrev cX4_init : ByteArray := prog_6_method_1_code
def yX4_init : MethodName := ⟨RX4, "<init>", "([LFourTongues$Program;LFourTongues$Names;LFourTongues$Borders;LFourTongues$Program;)V"⟩
abbrev cX4_told : ByteArray := prog_6_method_2_code
def yX4_told : MethodName := ⟨RX4, "told", "(I)I"⟩
abbrev cX4_answered : ByteArray := prog_6_method_3_code
def yX4_answered : MethodName := ⟨RX4, "answered", "()J"⟩
abbrev cX4_markOf : ByteArray := prog_6_method_4_code
def yX4_markOf : MethodName := ⟨RX4, "markOf", "(I)J"⟩
abbrev cX4_tongueOfMark : ByteArray := prog_6_method_5_code
def yX4_tongueOfMark : MethodName := ⟨RX4, "tongueOfMark", "(I)I"⟩
abbrev cX4_factOf : ByteArray := prog_6_method_6_code
def yX4_factOf : MethodName := ⟨RX4, "factOf", "(II)I"⟩
abbrev cX4_factUnder : ByteArray := prog_6_method_7_code
def yX4_factUnder : MethodName := ⟨RX4, "factUnder", "(III)I"⟩
def RX5 : String := "FourTongues$Names"
def TX5 : u_T := fun k => match k with
  | 0 => ("FourTongues$Names", "packed", "[J", true)
  | 1 => ("FourTongues$Names", "above", "[I", true)
  | 2 => ("FourTongues$Names", "keptAbove", "[I", true)
  | 3 => ("FourTongues$Names", "count", "I", false)
  | _ => ("FourTongues$Names", "keptCount", "I", false)
def tyX5 : Nat → FieldType := fun k => match k with
  | 0 => .array .long
  | 1 => .array .int
  | 2 => .array .int
  | 3 => .int
  | _ => .int
abbrev wsX50 : List Cond := u_ws RX5 TX5 5
theorem nmX5 : ∀ a, a < 5 → ∀ b, b < 5 → a ≠ b → (TX5 a).2.1 ≠ (TX5 b).2.1 := by decide +kernel
theorem tyX5_ok : ∀ k, k < 5 → parseFieldDescriptor (TX5 k).2.2.1 = some (tyX5 k) := by decide +kernel
abbrev cX5_init : ByteArray := prog_7_method_1_code
def yX5_init : MethodName := ⟨RX5, "<init>", "()V"⟩
abbrev cX5_inAll : ByteArray := prog_7_method_2_code
def yX5_inAll : MethodName := ⟨RX5, "inAll", "()I"⟩
def RX6 : String := "FourTongues$Numbers"
abbrev cX6_bits : ByteArray := prog_8_method_15_code
def yX6_bits : MethodName := ⟨RX6, "bits", "(D)J"⟩
def RX7 : String := "FourTongues$Parser"
def TX7 : u_T := fun k => match k with
  | 0 => ("FourTongues$Parser", "tokens", "LFourTongues$Tokens;", true)
  | 1 => ("FourTongues$Parser", "names", "LFourTongues$Names;", true)
  | 2 => ("FourTongues$Parser", "program", "LFourTongues$Program;", false)
  | 3 => ("FourTongues$Parser", "faults", "[I", true)
  | 4 => ("FourTongues$Parser", "variables", "[J", true)
  | 5 => ("FourTongues$Parser", "variableCount", "I", false)
  | 6 => ("FourTongues$Parser", "counted", "I", false)
  | 7 => ("FourTongues$Parser", "told", "I", false)
  | 8 => ("FourTongues$Parser", "tongue", "I", false)
  | 9 => ("FourTongues$Parser", "depth", "I", false)
  | _ => ("FourTongues$Parser", "place", "I", false)
def tyX7 : Nat → FieldType := fun k => match k with
  | 0 => .object "FourTongues$Tokens"
  | 1 => .object "FourTongues$Names"
  | 2 => .object "FourTongues$Program"
  | 3 => .array .int
  | 4 => .array .long
  | 5 => .int
  | 6 => .int
  | 7 => .int
  | 8 => .int
  | 9 => .int
  | _ => .int
abbrev wsX70 : List Cond := u_ws RX7 TX7 11
theorem nmX7 : ∀ a, a < 11 → ∀ b, b < 11 → a ≠ b → (TX7 a).2.1 ≠ (TX7 b).2.1 := by decide +kernel
theorem tyX7_ok : ∀ k, k < 11 → parseFieldDescriptor (TX7 k).2.2.1 = some (tyX7 k) := by decide +kernel
abbrev cX7_init : ByteArray := prog_9_method_1_code
def yX7_init : MethodName := ⟨RX7, "<init>", "([BLFourTongues$Names;LFourTongues$Program;)V"⟩
def RX8 : String := "FourTongues$Program"
def TX8 : u_T := fun k => match k with
  | 0 => ("FourTongues$Program", "code", "[I", false)
  | 1 => ("FourTongues$Program", "length", "I", false)
  | 2 => ("FourTongues$Program", "constants", "LFourTongues$Row;", true)
  | 3 => ("FourTongues$Program", "names", "[J", true)
  | 4 => ("FourTongues$Program", "starts", "[I", true)
  | 5 => ("FourTongues$Program", "parameters", "[I", true)
  | 6 => ("FourTongues$Program", "variables", "[I", true)
  | _ => ("FourTongues$Program", "functions", "I", false)
def tyX8 : Nat → FieldType := fun k => match k with
  | 0 => .array .int
  | 1 => .int
  | 2 => .object "FourTongues$Row"
  | 3 => .array .long
  | 4 => .array .int
  | 5 => .array .int
  | 6 => .array .int
  | _ => .int
abbrev wsX80 : List Cond := u_ws RX8 TX8 8
theorem nmX8 : ∀ a, a < 8 → ∀ b, b < 8 → a ≠ b → (TX8 a).2.1 ≠ (TX8 b).2.1 := by decide +kernel
theorem tyX8_ok : ∀ k, k < 8 → parseFieldDescriptor (TX8 k).2.2.1 = some (tyX8 k) := by decide +kernel
abbrev cX8_init : ByteArray := prog_10_method_1_code
def yX8_init : MethodName := ⟨RX8, "<init>", "()V"⟩
def RX9 : String := "FourTongues$Row"
def TX9 : u_T := fun k => match k with
  | 0 => ("FourTongues$Row", "kinds", "[I", false)
  | 1 => ("FourTongues$Row", "wholes", "[J", false)
  | 2 => ("FourTongues$Row", "reals", "[D", false)
  | _ => ("FourTongues$Row", "count", "I", false)
def tyX9 : Nat → FieldType := fun k => match k with
  | 0 => .array .int
  | 1 => .array .long
  | 2 => .array .double
  | _ => .int
abbrev wsX90 : List Cond := u_ws RX9 TX9 4
theorem nmX9 : ∀ a, a < 4 → ∀ b, b < 4 → a ≠ b → (TX9 a).2.1 ≠ (TX9 b).2.1 := by decide +kernel
theorem tyX9_ok : ∀ k, k < 4 → parseFieldDescriptor (TX9 k).2.2.1 = some (tyX9 k) := by decide +kernel
abbrev cX9_init : ByteArray := prog_11_method_1_code
def yX9_init : MethodName := ⟨RX9, "<init>", "(I)V"⟩
abbrev cX9_count : ByteArray := prog_11_method_2_code
def yX9_count : MethodName := ⟨RX9, "count", "()I"⟩
abbrev cX9_kind : ByteArray := prog_11_method_3_code
def yX9_kind : MethodName := ⟨RX9, "kind", "(I)I"⟩
abbrev cX9_whole : ByteArray := prog_11_method_4_code
def yX9_whole : MethodName := ⟨RX9, "whole", "(I)J"⟩
abbrev cX9_real : ByteArray := prog_11_method_5_code
def yX9_real : MethodName := ⟨RX9, "real", "(I)D"⟩
def RX10 : String := "FourTongues$Tokens"
def TX10 : u_T := fun k => match k with
  | 0 => ("FourTongues$Tokens", "text", "[B", true)
  | 1 => ("FourTongues$Tokens", "words", "[J", true)
  | 2 => ("FourTongues$Tokens", "kinds", "[I", true)
  | 3 => ("FourTongues$Tokens", "places", "[I", true)
  | 4 => ("FourTongues$Tokens", "wholes", "[J", true)
  | 5 => ("FourTongues$Tokens", "reals", "[D", true)
  | 6 => ("FourTongues$Tokens", "count", "I", false)
  | 7 => ("FourTongues$Tokens", "length", "I", false)
  | 8 => ("FourTongues$Tokens", "tongue", "I", false)
  | 9 => ("FourTongues$Tokens", "at", "I", false)
  | 10 => ("FourTongues$Tokens", "now", "I", false)
  | 11 => ("FourTongues$Tokens", "stopped", "Z", false)
  | 12 => ("FourTongues$Tokens", "kind", "I", false)
  | 13 => ("FourTongues$Tokens", "place", "I", false)
  | 14 => ("FourTongues$Tokens", "whole", "J", false)
  | _ => ("FourTongues$Tokens", "real", "D", false)
def tyX10 : Nat → FieldType := fun k => match k with
  | 0 => .array .byte
  | 1 => .array .long
  | 2 => .array .int
  | 3 => .array .int
  | 4 => .array .long
  | 5 => .array .double
  | 6 => .int
  | 7 => .int
  | 8 => .int
  | 9 => .int
  | 10 => .int
  | 11 => .boolean
  | 12 => .int
  | 13 => .int
  | 14 => .long
  | _ => .double
abbrev wsX100 : List Cond := u_ws RX10 TX10 16
theorem nmX10 : ∀ a, a < 16 → ∀ b, b < 16 → a ≠ b → (TX10 a).2.1 ≠ (TX10 b).2.1 := by decide +kernel
theorem tyX10_ok : ∀ k, k < 16 → parseFieldDescriptor (TX10 k).2.2.1 = some (tyX10 k) := by decide +kernel
abbrev cX10_init : ByteArray := prog_12_method_1_code
def yX10_init : MethodName := ⟨RX10, "<init>", "([B)V"⟩
def RX11 : String := "FourTongues"
def TX11 : u_T := fun k => match k with
  | 0 => ("FourTongues", "tape", "[B", true)
  | 1 => ("FourTongues", "taped", "I", false)
  | 2 => ("FourTongues", "faultKind", "I", false)
  | 3 => ("FourTongues", "names", "LFourTongues$Names;", true)
  | 4 => ("FourTongues", "borders", "LFourTongues$Borders;", true)
  | 5 => ("FourTongues", "programs", "[LFourTongues$Program;", true)
  | 6 => ("FourTongues", "draft", "LFourTongues$Program;", false)
  | 7 => ("FourTongues", "parser", "LFourTongues$Parser;", true)
  | _ => ("FourTongues", "machine", "LFourTongues$Machine;", true)
def tyX11 : Nat → FieldType := fun k => match k with
  | 0 => .array .byte
  | 1 => .int
  | 2 => .int
  | 3 => .object "FourTongues$Names"
  | 4 => .object "FourTongues$Borders"
  | 5 => .array (.object "FourTongues$Program")
  | 6 => .object "FourTongues$Program"
  | 7 => .object "FourTongues$Parser"
  | _ => .object "FourTongues$Machine"
abbrev wsX110 : List Cond := u_ws RX11 TX11 9
theorem nmX11 : ∀ a, a < 9 → ∀ b, b < 9 → a ≠ b → (TX11 a).2.1 ≠ (TX11 b).2.1 := by decide +kernel
theorem tyX11_ok : ∀ k, k < 9 → parseFieldDescriptor (TX11 k).2.2.1 = some (tyX11 k) := by decide +kernel
abbrev cX11_init : ByteArray := prog_1_method_1_code
def yX11_init : MethodName := ⟨RX11, "<init>", "()V"⟩
abbrev cX11_feed : ByteArray := prog_1_method_2_code
def yX11_feed : MethodName := ⟨RX11, "feed", "(IIIII)I"⟩
abbrev cX11_fault : ByteArray := prog_1_method_4_code
def yX11_fault : MethodName := ⟨RX11, "fault", "()I"⟩
abbrev cX11_look : ByteArray := prog_1_method_9_code
def yX11_look : MethodName := ⟨RX11, "look", "(I)I"⟩
abbrev cX11_answer : ByteArray := prog_1_method_10_code
def yX11_answer : MethodName := ⟨RX11, "answer", "()J"⟩
abbrev cX11_mark : ByteArray := prog_1_method_11_code
def yX11_mark : MethodName := ⟨RX11, "mark", "(I)J"⟩
abbrev cX11_markTongue : ByteArray := prog_1_method_12_code
def yX11_markTongue : MethodName := ⟨RX11, "markTongue", "(I)I"⟩
abbrev cX11_failure : ByteArray := prog_1_method_13_code
def yX11_failure : MethodName := ⟨RX11, "failure", "(II)I"⟩
abbrev cX11_under : ByteArray := prog_1_method_14_code
def yX11_under : MethodName := ⟨RX11, "under", "(III)I"⟩
abbrev cX11_addBytes : ByteArray := prog_1_method_15_code
def yX11_addBytes : MethodName := ⟨RX11, "addBytes", "(I)V"⟩
abbrev cX11_isTongue : ByteArray := prog_1_method_17_code
def yX11_isTongue : MethodName := ⟨RX11, "isTongue", "(I)Z"⟩
def RX12 : String := "FourTonguesModel"
def TX12 : u_T := fun k => match k with
  | 0 => ("FourTonguesModel", "thrown", "I", false)
  | 1 => ("FourTonguesModel", "tape", "[I", true)
  | 2 => ("FourTonguesModel", "taped", "I", false)
  | 3 => ("FourTonguesModel", "names", "[J", true)
  | 4 => ("FourTonguesModel", "namesMany", "I", false)
  | 5 => ("FourTonguesModel", "parents", "[I", true)
  | 6 => ("FourTonguesModel", "at", "I", false)
  | 7 => ("FourTonguesModel", "size", "I", false)
  | 8 => ("FourTonguesModel", "sort", "I", false)
  | 9 => ("FourTonguesModel", "place", "I", false)
  | 10 => ("FourTonguesModel", "word", "J", false)
  | 11 => ("FourTonguesModel", "which", "I", false)
  | 12 => ("FourTonguesModel", "number", "J", false)
  | 13 => ("FourTonguesModel", "sign", "I", false)
  | 14 => ("FourTonguesModel", "tongue", "I", false)
  | 15 => ("FourTonguesModel", "fault1", "I", false)
  | 16 => ("FourTonguesModel", "fault2", "I", false)
  | 17 => ("FourTonguesModel", "fault3", "I", false)
  | 18 => ("FourTonguesModel", "nested", "I", false)
  | 19 => ("FourTonguesModel", "ops", "[I", true)
  | 20 => ("FourTonguesModel", "args", "[J", true)
  | 21 => ("FourTonguesModel", "seconds", "[I", true)
  | 22 => ("FourTonguesModel", "code", "I", false)
  | 23 => ("FourTonguesModel", "functionNames", "[J", true)
  | 24 => ("FourTonguesModel", "functionAt", "[I", true)
  | 25 => ("FourTonguesModel", "functionParams", "[I", true)
  | 26 => ("FourTonguesModel", "functionSlots", "[I", true)
  | 27 => ("FourTonguesModel", "functions", "[I", true)
  | 28 => ("FourTonguesModel", "newParents", "[I", true)
  | 29 => ("FourTonguesModel", "newNames", "I", false)
  | 30 => ("FourTonguesModel", "slots", "[J", true)
  | 31 => ("FourTonguesModel", "slotsMany", "I", false)
  | 32 => ("FourTonguesModel", "variables", "I", false)
  | 33 => ("FourTonguesModel", "overs", "[I", true)
  | 34 => ("FourTonguesModel", "keptAt", "I", false)
  | 35 => ("FourTonguesModel", "keptPlace", "I", false)
  | 36 => ("FourTonguesModel", "keptWord", "J", false)
  | 37 => ("FourTonguesModel", "keptCode", "I", false)
  | 38 => ("FourTonguesModel", "waiting", "[I", true)
  | 39 => ("FourTonguesModel", "waitingMany", "I", false)
  | 40 => ("FourTonguesModel", "latestFault", "I", false)
  | 41 => ("FourTonguesModel", "fTongue", "[I", true)
  | 42 => ("FourTonguesModel", "fFunction", "[I", true)
  | 43 => ("FourTonguesModel", "fPc", "[I", true)
  | 44 => ("FourTonguesModel", "fPlace", "[I", true)
  | 45 => ("FourTonguesModel", "fStack", "[I", true)
  | 46 => ("FourTonguesModel", "fBlocks", "[I", true)
  | 47 => ("FourTonguesModel", "frames", "I", false)
  | 48 => ("FourTonguesModel", "framesMost", "I", false)
  | 49 => ("FourTonguesModel", "varKinds", "[B", true)
  | 50 => ("FourTonguesModel", "varBits", "[J", true)
  | 51 => ("FourTonguesModel", "kinds", "[B", true)
  | 52 => ("FourTonguesModel", "bits", "[J", true)
  | 53 => ("FourTonguesModel", "many", "I", false)
  | 54 => ("FourTonguesModel", "bKind", "[I", true)
  | 55 => ("FourTonguesModel", "bTo", "[I", true)
  | 56 => ("FourTonguesModel", "bWhat", "[I", true)
  | 57 => ("FourTonguesModel", "bMany", "[I", true)
  | 58 => ("FourTonguesModel", "bPending", "[I", true)
  | 59 => ("FourTonguesModel", "bPendingKind", "[I", true)
  | 60 => ("FourTonguesModel", "bPendingBits", "[J", true)
  | 61 => ("FourTonguesModel", "blocks", "I", false)
  | 62 => ("FourTonguesModel", "arrayFrom", "[I", true)
  | 63 => ("FourTonguesModel", "arraySize", "[I", true)
  | 64 => ("FourTonguesModel", "arrayTongue", "[I", true)
  | 65 => ("FourTonguesModel", "arrays", "I", false)
  | 66 => ("FourTonguesModel", "cellKinds", "[B", true)
  | 67 => ("FourTonguesModel", "cellBits", "[J", true)
  | 68 => ("FourTonguesModel", "cells", "I", false)
  | 69 => ("FourTonguesModel", "cellsCounted", "I", false)
  | 70 => ("FourTonguesModel", "gTongue", "[I", true)
  | 71 => ("FourTonguesModel", "gWhat", "[I", true)
  | 72 => ("FourTonguesModel", "gKind", "[B", true)
  | 73 => ("FourTonguesModel", "gBits", "[J", true)
  | 74 => ("FourTonguesModel", "gPlace", "[I", true)
  | 75 => ("FourTonguesModel", "gFunction", "[I", true)
  | 76 => ("FourTonguesModel", "gHow", "[I", true)
  | 77 => ("FourTonguesModel", "gFrom", "[I", true)
  | 78 => ("FourTonguesModel", "gUnder", "[I", true)
  | 79 => ("FourTonguesModel", "lyingOnes", "[I", true)
  | 80 => ("FourTonguesModel", "lyingNext", "[I", true)
  | 81 => ("FourTonguesModel", "lyingMany", "I", false)
  | 82 => ("FourTonguesModel", "failures", "I", false)
  | 83 => ("FourTonguesModel", "steps", "I", false)
  | 84 => ("FourTonguesModel", "stepsEver", "I", false)
  | 85 => ("FourTonguesModel", "marks", "I", false)
  | 86 => ("FourTonguesModel", "markBits", "[J", true)
  | 87 => ("FourTonguesModel", "markTongues", "[I", true)
  | 88 => ("FourTonguesModel", "dropped", "I", false)
  | 89 => ("FourTonguesModel", "borders", "I", false)
  | 90 => ("FourTonguesModel", "turnedFailures", "I", false)
  | 91 => ("FourTonguesModel", "theCell", "I", false)
  | 92 => ("FourTonguesModel", "hasRun", "Z", false)
  | 93 => ("FourTonguesModel", "outcome", "I", false)
  | 94 => ("FourTonguesModel", "isOver", "Z", false)
  | 95 => ("FourTonguesModel", "answerKind", "I", false)
  | 96 => ("FourTonguesModel", "answerBits", "J", false)
  | 97 => ("FourTonguesModel", "failed", "I", false)
  | 98 => ("FourTonguesModel", "isTurned", "Z", false)
  | 99 => ("FourTonguesModel", "turned", "J", false)
  | 100 => ("FourTonguesModel", "rules", "[I", true)
  | 101 => ("FourTonguesModel", "entryBorder", "[I", true)
  | 102 => ("FourTonguesModel", "entryWhat", "[I", true)
  | 103 => ("FourTonguesModel", "entryAs", "[I", true)
  | 104 => ("FourTonguesModel", "entries", "I", false)
  | _ => ("FourTonguesModel", "defaults", "[I", true)
def RJ0 : String := "java/lang/String"
abbrev cJ0_length_8abf5 : ByteArray := prog_20_method_54_code
def yJ0_length_8abf5 : MethodName := ⟨RJ0, "length", "()I"⟩
abbrev cJ0_charAt_5068e : ByteArray := prog_20_method_56_code
def yJ0_charAt_5068e : MethodName := ⟨RJ0, "charAt", "(I)C"⟩
abbrev cJ0_coder_7d493 : ByteArray := prog_20_method_152_code
def yJ0_coder_7d493 : MethodName := ⟨RJ0, "coder", "()B"⟩
abbrev cJ0_isLatin1_aae02 : ByteArray := prog_20_method_154_code
def yJ0_isLatin1_aae02 : MethodName := ⟨RJ0, "isLatin1", "()Z"⟩
abbrev cJ0_checkIndex_df160 : ByteArray := prog_20_method_155_code
def yJ0_checkIndex_df160 : MethodName := ⟨RJ0, "checkIndex", "(II)V"⟩
def RJ1 : String := "java/lang/StringLatin1"
abbrev cJ1_charAt_3b067 : ByteArray := prog_21_method_2_code
def yJ1_charAt_3b067 : MethodName := ⟨RJ1, "charAt", "([BI)C"⟩
def RJ2 : String := "java/lang/StringUTF16"
abbrev cJ2_getChar_3b067 : ByteArray := prog_22_method_5_code
def yJ2_getChar_3b067 : MethodName := ⟨RJ2, "getChar", "([BI)C"⟩
abbrev cJ2_length_9d52b : ByteArray := prog_22_method_6_code
def yJ2_length_9d52b : MethodName := ⟨RJ2, "length", "([B)I"⟩
abbrev cJ2_charAt_3b067 : ByteArray := prog_22_method_83_code
def yJ2_charAt_3b067 : MethodName := ⟨RJ2, "charAt", "([BI)C"⟩
abbrev cJ2_checkIndex_2214a : ByteArray := prog_22_method_91_code
def yJ2_checkIndex_2214a : MethodName := ⟨RJ2, "checkIndex", "(I[B)V"⟩
def RJ7 : String := "java/util/Arrays"
abbrev cJ7_fill_53178 : ByteArray := prog_24_method_103_code
def yJ7_fill_53178 : MethodName := ⟨RJ7, "fill", "([II)V"⟩
def RJ3 : String := "jdk/internal/util/Preconditions"
abbrev cJ3_checkIndex_8e157 : ByteArray := prog_25_method_11_code
def yJ3_checkIndex_8e157 : MethodName := ⟨RJ3, "checkIndex", "(IILjava/util/function/BiFunction;)I"⟩
def wsJ7_fill_53178 : List Cond := .code yJ7_fill_53178 cJ7_fill_53178 4 none :: ([])
def wsX0_init : List Cond := .code yX0_init cX0_init 1 none :: ([.methodLink RX0 3 objectInit, .instanceMethod objectInit, .code objectInit ⟨#[0xb1]⟩ 1 none, .arrayClass .int, .fieldLink RX0 9 "FourTongues$Borders" "rules" "[I", .fieldLink RX0 15 "FourTongues$Borders" "defaults" "[I", .fieldLink RX0 18 "FourTongues$Borders" "entryBorders" "[I", .fieldLink RX0 21 "FourTongues$Borders" "entryWhats" "[I", .fieldLink RX0 24 "FourTongues$Borders" "entryAs" "[I", .fieldLink RX0 27 "FourTongues$Borders" "entries" "I", .methodLink RX0 31 yJ7_fill_53178, .static yJ7_fill_53178, .initialized RJ7, .code yJ7_fill_53178 cJ7_fill_53178 4 none] ++ wsX00)
def wsX9_kind : List Cond := .code yX9_kind cX9_kind 2 (some .int) :: ([.fieldLink RX9 7 "FourTongues$Row" "count" "I", .fieldLink RX9 19 "FourTongues$Row" "kinds" "[I"] ++ wsX90)
def wsX9_whole : List Cond := .code yX9_whole cX9_whole 2 (some .long) :: ([.fieldLink RX9 7 "FourTongues$Row" "count" "I", .fieldLink RX9 23 "FourTongues$Row" "wholes" "[J"] ++ wsX90)
def wsX9_init : List Cond := .code yX9_init cX9_init 3 none :: ([.methodLink RX9 1 objectInit, .instanceMethod objectInit, .code objectInit ⟨#[0xb1]⟩ 1 none, .fieldLink RX9 7 "FourTongues$Row" "count" "I", .methodLink RX9 13 Lib.Math.max.name, .static Lib.Math.max.name, .initialized "java/lang/Math", .code Lib.Math.max.name Lib.Math.max.code 2 (some .int), .arrayClass .int, .fieldLink RX9 19 "FourTongues$Row" "kinds" "[I", .arrayClass .long, .fieldLink RX9 23 "FourTongues$Row" "wholes" "[J", .arrayClass .double, .fieldLink RX9 27 "FourTongues$Row" "reals" "[D"] ++ wsX90)
def wsX1_init_r1 : List Cond := [Cond.methodLink RX1 3 objectInit, Cond.instanceMethod objectInit, Cond.code objectInit ⟨#[0xb1]⟩ 1 none, Cond.arrayClass .int, Cond.fieldLink RX1 11 "FourTongues$Failures" "facts" "[I", Cond.fieldLink RX1 15 "FourTongues$Failures" "count" "I", Cond.classLink RX1 19 RX9, Cond.instantiable RX9 4, Cond.initialized RX9, Cond.fieldLink RX1 24 "FourTongues$Failures" "values" "LFourTongues$Row;", Cond.fieldLink RX1 28 "FourTongues$Failures" "lying" "[I", Cond.fieldLink RX1 31 "FourTongues$Failures" "lyingCount" "I", Cond.methodLink RX1 21 yX9_init, Cond.instanceMethod yX9_init, Cond.code yX9_init cX9_init 3 none, Cond.methodLink RX9 1 objectInit, Cond.fieldLink RX9 7 "FourTongues$Row" "count" "I", Cond.methodLink RX9 13 Lib.Math.max.name, Cond.static Lib.Math.max.name, Cond.initialized "java/lang/Math", Cond.code Lib.Math.max.name Lib.Math.max.code 2 (some .int), Cond.fieldLink RX9 19 "FourTongues$Row" "kinds" "[I", Cond.arrayClass .long, Cond.fieldLink RX9 23 "FourTongues$Row" "wholes" "[J"]
def wsX1_init_r2 : List Cond := [Cond.arrayClass .double, Cond.fieldLink RX9 27 "FourTongues$Row" "reals" "[D"]
def wsX1_init : List Cond := .code yX1_init cX1_init 1 none :: ((wsX1_init_r1 ++ wsX1_init_r2) ++ wsX10 ++ wsX90)
def wsX1_fact : List Cond := .code yX1_fact cX1_fact 3 (some .int) :: ([.fieldLink RX1 15 "FourTongues$Failures" "count" "I", .fieldLink RX1 24 "FourTongues$Failures" "values" "LFourTongues$Row;", .fieldLink RX1 11 "FourTongues$Failures" "facts" "[I", .methodLink RX1 43 yX9_kind, .instanceMethod yX9_kind, .selects RX9 yX9_kind yX9_kind, .initialized RX9, .code yX9_kind cX9_kind 2 (some .int), .fieldLink RX9 7 "FourTongues$Row" "count" "I", .fieldLink RX9 19 "FourTongues$Row" "kinds" "[I"] ++ wsX10 ++ wsX90)
def wsX1_source : List Cond := .code yX1_source cX1_source 5 (some .int) :: ([.methodLink RX1 47 yX1_fact, .instanceMethod yX1_fact, .selects RX1 yX1_fact yX1_fact, .initialized RX1, .code yX1_fact cX1_fact 3 (some .int), .fieldLink RX1 15 "FourTongues$Failures" "count" "I", .fieldLink RX1 24 "FourTongues$Failures" "values" "LFourTongues$Row;", .fieldLink RX1 11 "FourTongues$Failures" "facts" "[I", .methodLink RX1 43 yX9_kind, .instanceMethod yX9_kind, .selects RX9 yX9_kind yX9_kind, .initialized RX9, .code yX9_kind cX9_kind 2 (some .int), .fieldLink RX9 7 "FourTongues$Row" "count" "I", .fieldLink RX9 19 "FourTongues$Row" "kinds" "[I"] ++ wsX10 ++ wsX90)
def wsX1_lower : List Cond := .code yX1_lower cX1_lower 5 (some .int) :: ([.fieldLink RX1 31 "FourTongues$Failures" "lyingCount" "I", .fieldLink RX1 28 "FourTongues$Failures" "lying" "[I", .methodLink RX1 47 yX1_fact, .instanceMethod yX1_fact, .selects RX1 yX1_fact yX1_fact, .initialized RX1, .code yX1_fact cX1_fact 3 (some .int), .fieldLink RX1 15 "FourTongues$Failures" "count" "I", .fieldLink RX1 24 "FourTongues$Failures" "values" "LFourTongues$Row;", .fieldLink RX1 11 "FourTongues$Failures" "facts" "[I", .methodLink RX1 43 yX9_kind, .instanceMethod yX9_kind, .selects RX9 yX9_kind yX9_kind, .initialized RX9, .code yX9_kind cX9_kind 2 (some .int), .fieldLink RX9 7 "FourTongues$Row" "count" "I", .fieldLink RX9 19 "FourTongues$Row" "kinds" "[I"] ++ wsX10 ++ wsX90)
def wsX2_init : List Cond := .code yX2_init cX2_init 1 none :: ([.methodLink RX2 1 objectInit, .instanceMethod objectInit, .code objectInit ⟨#[0xb1]⟩ 1 none, .arrayClass .int, .fieldLink RX2 9 "FourTongues$Frames" "tongues" "[I", .fieldLink RX2 13 "FourTongues$Frames" "functions" "[I", .fieldLink RX2 16 "FourTongues$Frames" "bases" "[I", .fieldLink RX2 19 "FourTongues$Frames" "floors" "[I", .fieldLink RX2 22 "FourTongues$Frames" "tops" "[I", .fieldLink RX2 25 "FourTongues$Frames" "calledAt" "[I", .fieldLink RX2 28 "FourTongues$Frames" "guardBases" "[I", .fieldLink RX2 31 "FourTongues$Frames" "count" "I"] ++ wsX20)
def wsX3_init_r1 : List Cond := [Cond.methodLink RX3 1 objectInit, Cond.instanceMethod objectInit, Cond.code objectInit ⟨#[0xb1]⟩ 1 none, Cond.arrayClass .int, Cond.fieldLink RX3 9 "FourTongues$Guards" "kinds" "[I", Cond.fieldLink RX3 13 "FourTongues$Guards" "targets" "[I", Cond.fieldLink RX3 16 "FourTongues$Guards" "names" "[I", Cond.fieldLink RX3 19 "FourTongues$Guards" "underWay" "[I", Cond.fieldLink RX3 22 "FourTongues$Guards" "failures" "[I", Cond.classLink RX3 25 RX9, Cond.instantiable RX9 4, Cond.initialized RX9, Cond.fieldLink RX3 30 "FourTongues$Guards" "answers" "LFourTongues$Row;", Cond.fieldLink RX3 34 "FourTongues$Guards" "count" "I", Cond.methodLink RX3 27 yX9_init, Cond.instanceMethod yX9_init, Cond.code yX9_init cX9_init 3 none, Cond.methodLink RX9 1 objectInit, Cond.fieldLink RX9 7 "FourTongues$Row" "count" "I", Cond.methodLink RX9 13 Lib.Math.max.name, Cond.static Lib.Math.max.name, Cond.initialized "java/lang/Math", Cond.code Lib.Math.max.name Lib.Math.max.code 2 (some .int), Cond.fieldLink RX9 19 "FourTongues$Row" "kinds" "[I"]
def wsX3_init_r2 : List Cond := [Cond.arrayClass .long, Cond.fieldLink RX9 23 "FourTongues$Row" "wholes" "[J", Cond.arrayClass .double, Cond.fieldLink RX9 27 "FourTongues$Row" "reals" "[D"]
def wsX3_init : List Cond := .code yX3_init cX3_init 1 none :: ((wsX3_init_r1 ++ wsX3_init_r2) ++ wsX30 ++ wsX90)
def wsX4_init_r1 : List Cond := [Cond.methodLink RX4 3 objectInit, Cond.instanceMethod objectInit, Cond.code objectInit ⟨#[0xb1]⟩ 1 none, Cond.classLink RX4 9 RX9, Cond.instantiable RX9 4, Cond.initialized RX9, Cond.fieldLink RX4 14 "FourTongues$Machine" "stack" "LFourTongues$Row;", Cond.fieldLink RX4 20 "FourTongues$Machine" "heap" "LFourTongues$Row;", Cond.fieldLink RX4 23 "FourTongues$Machine" "marks" "LFourTongues$Row;", Cond.classLink RX4 26 RX1, Cond.instantiable RX1 5, Cond.initialized RX1, Cond.fieldLink RX4 29 "FourTongues$Machine" "failures" "LFourTongues$Failures;", Cond.classLink RX4 33 RX2, Cond.instantiable RX2 8, Cond.initialized RX2, Cond.fieldLink RX4 36 "FourTongues$Machine" "frames" "LFourTongues$Frames;", Cond.classLink RX4 40 RX3, Cond.instantiable RX3 7, Cond.initialized RX3, Cond.fieldLink RX4 43 "FourTongues$Machine" "guards" "LFourTongues$Guards;", Cond.arrayClass .int, Cond.fieldLink RX4 47 "FourTongues$Machine" "tally" "[I", Cond.fieldLink RX4 51 "FourTongues$Machine" "at" "I"]
def wsX4_init_r2 : List Cond := [Cond.fieldLink RX4 55 "FourTongues$Machine" "pc" "I", Cond.fieldLink RX4 58 "FourTongues$Machine" "state" "I", Cond.fieldLink RX4 61 "FourTongues$Machine" "carried" "I", Cond.fieldLink RX4 64 "FourTongues$Machine" "cameOut" "I", Cond.fieldLink RX4 67 "FourTongues$Machine" "answer" "J", Cond.fieldLink RX4 71 "FourTongues$Machine" "programs" "[LFourTongues$Program;", Cond.fieldLink RX4 75 "FourTongues$Machine" "names" "LFourTongues$Names;", Cond.fieldLink RX4 79 "FourTongues$Machine" "borders" "LFourTongues$Borders;", Cond.fieldLink RX4 83 "FourTongues$Machine" "program" "LFourTongues$Program;", Cond.methodLink RX4 11 yX9_init, Cond.instanceMethod yX9_init, Cond.code yX9_init cX9_init 3 none, Cond.methodLink RX9 1 objectInit, Cond.fieldLink RX9 7 "FourTongues$Row" "count" "I", Cond.methodLink RX9 13 Lib.Math.max.name, Cond.static Lib.Math.max.name, Cond.initialized "java/lang/Math", Cond.code Lib.Math.max.name Lib.Math.max.code 2 (some .int), Cond.fieldLink RX9 19 "FourTongues$Row" "kinds" "[I", Cond.arrayClass .long, Cond.fieldLink RX9 23 "FourTongues$Row" "wholes" "[J", Cond.arrayClass .double, Cond.fieldLink RX9 27 "FourTongues$Row" "reals" "[D", Cond.instanceMethod yX1_init]
def wsX4_init_r3 : List Cond := [Cond.code yX1_init cX1_init 1 none, Cond.methodLink RX1 3 objectInit, Cond.fieldLink RX1 11 "FourTongues$Failures" "facts" "[I", Cond.fieldLink RX1 15 "FourTongues$Failures" "count" "I", Cond.classLink RX1 19 RX9, Cond.fieldLink RX1 24 "FourTongues$Failures" "values" "LFourTongues$Row;", Cond.fieldLink RX1 28 "FourTongues$Failures" "lying" "[I", Cond.fieldLink RX1 31 "FourTongues$Failures" "lyingCount" "I", Cond.methodLink RX1 21 yX9_init, Cond.instanceMethod yX2_init, Cond.code yX2_init cX2_init 1 none, Cond.methodLink RX2 1 objectInit, Cond.fieldLink RX2 9 "FourTongues$Frames" "tongues" "[I", Cond.fieldLink RX2 13 "FourTongues$Frames" "functions" "[I", Cond.fieldLink RX2 16 "FourTongues$Frames" "bases" "[I", Cond.fieldLink RX2 19 "FourTongues$Frames" "floors" "[I", Cond.fieldLink RX2 22 "FourTongues$Frames" "tops" "[I", Cond.fieldLink RX2 25 "FourTongues$Frames" "calledAt" "[I", Cond.fieldLink RX2 28 "FourTongues$Frames" "guardBases" "[I", Cond.fieldLink RX2 31 "FourTongues$Frames" "count" "I", Cond.instanceMethod yX3_init, Cond.code yX3_init cX3_init 1 none, Cond.methodLink RX3 1 objectInit, Cond.fieldLink RX3 9 "FourTongues$Guards" "kinds" "[I"]
def wsX4_init_r4 : List Cond := [Cond.fieldLink RX3 13 "FourTongues$Guards" "targets" "[I", Cond.fieldLink RX3 16 "FourTongues$Guards" "names" "[I", Cond.fieldLink RX3 19 "FourTongues$Guards" "underWay" "[I", Cond.fieldLink RX3 22 "FourTongues$Guards" "failures" "[I", Cond.classLink RX3 25 RX9, Cond.fieldLink RX3 30 "FourTongues$Guards" "answers" "LFourTongues$Row;", Cond.fieldLink RX3 34 "FourTongues$Guards" "count" "I", Cond.methodLink RX3 27 yX9_init]
def wsX4_init : List Cond := .code yX4_init cX4_init 5 none :: ((wsX4_init_r1 ++ (wsX4_init_r2 ++ (wsX4_init_r3 ++ wsX4_init_r4))) ++ wsX90 ++ wsX40 ++ wsX10 ++ wsX20 ++ wsX30)
def wsX4_told : List Cond := .code yX4_told cX4_told 2 (some .int) :: ([.fieldLink RX4 47 "FourTongues$Machine" "tally" "[I"] ++ wsX40)
def wsX4_answered : List Cond := .code yX4_answered cX4_answered 1 (some .long) :: ([.fieldLink RX4 67 "FourTongues$Machine" "answer" "J"] ++ wsX40)
def wsX4_markOf_r1 : List Cond := [Cond.fieldLink RX4 23 "FourTongues$Machine" "marks" "LFourTongues$Row;", Cond.methodLink RX4 87 yX9_kind, Cond.instanceMethod yX9_kind, Cond.selects RX9 yX9_kind yX9_kind, Cond.initialized RX9, Cond.code yX9_kind cX9_kind 2 (some .int), Cond.fieldLink RX9 7 "FourTongues$Row" "count" "I", Cond.fieldLink RX9 19 "FourTongues$Row" "kinds" "[I", Cond.methodLink RX4 91 yX9_real, Cond.instanceMethod yX9_real, Cond.selects RX9 yX9_real yX9_real, Cond.code yX9_real cX9_real 2 (some .double), Cond.fieldLink RX9 27 "FourTongues$Row" "reals" "[D", Cond.methodLink RX4 95 yX6_bits, Cond.static yX6_bits, Cond.initialized RX6, Cond.code yX6_bits cX6_bits 9 (some .long), Cond.constantLong RX6 15 (-9223372036854775808), Cond.constantDouble RX6 55 (4611686018427387904), Cond.constantDouble RX6 57 (4602678819172646912), Cond.constantDouble RX6 59 (4841369599423283200), Cond.constantLong RX6 61 (4503599627370496), Cond.methodLink RX4 101 yX9_whole, Cond.instanceMethod yX9_whole]
def wsX4_markOf_r2 : List Cond := [Cond.selects RX9 yX9_whole yX9_whole, Cond.code yX9_whole cX9_whole 2 (some .long), Cond.fieldLink RX9 23 "FourTongues$Row" "wholes" "[J"]
def wsX4_markOf : List Cond := .code yX4_markOf cX4_markOf 2 (some .long) :: ((wsX4_markOf_r1 ++ wsX4_markOf_r2) ++ wsX40 ++ wsX90)
def wsX9_count : List Cond := .code yX9_count cX9_count 1 (some .int) :: ([.fieldLink RX9 7 "FourTongues$Row" "count" "I"] ++ wsX90)
def wsX4_tongueOfMark : List Cond := .code yX4_tongueOfMark cX4_tongueOfMark 2 (some .int) :: ([.fieldLink RX4 23 "FourTongues$Machine" "marks" "LFourTongues$Row;", .methodLink RX4 105 yX9_count, .instanceMethod yX9_count, .selects RX9 yX9_count yX9_count, .initialized RX9, .code yX9_count cX9_count 1 (some .int), .fieldLink RX9 7 "FourTongues$Row" "count" "I", .methodLink RX4 87 yX9_kind, .instanceMethod yX9_kind, .selects RX9 yX9_kind yX9_kind, .code yX9_kind cX9_kind 2 (some .int), .fieldLink RX9 19 "FourTongues$Row" "kinds" "[I"] ++ wsX40 ++ wsX90)
def wsX4_factOf : List Cond := .code yX4_factOf cX4_factOf 3 (some .int) :: ([.fieldLink RX4 29 "FourTongues$Machine" "failures" "LFourTongues$Failures;", .fieldLink RX4 64 "FourTongues$Machine" "cameOut" "I", .methodLink RX4 109 yX1_source, .instanceMethod yX1_source, .selects RX1 yX1_source yX1_source, .initialized RX1, .code yX1_source cX1_source 5 (some .int), .methodLink RX1 47 yX1_fact, .instanceMethod yX1_fact, .selects RX1 yX1_fact yX1_fact, .code yX1_fact cX1_fact 3 (some .int), .fieldLink RX1 15 "FourTongues$Failures" "count" "I", .fieldLink RX1 24 "FourTongues$Failures" "values" "LFourTongues$Row;", .fieldLink RX1 11 "FourTongues$Failures" "facts" "[I", .methodLink RX1 43 yX9_kind, .instanceMethod yX9_kind, .selects RX9 yX9_kind yX9_kind, .initialized RX9, .code yX9_kind cX9_kind 2 (some .int), .fieldLink RX9 7 "FourTongues$Row" "count" "I", .fieldLink RX9 19 "FourTongues$Row" "kinds" "[I", .methodLink RX4 113 yX1_fact] ++ wsX40 ++ wsX10 ++ wsX90)
def wsX4_factUnder_r1 : List Cond := [Cond.fieldLink RX4 29 "FourTongues$Machine" "failures" "LFourTongues$Failures;", Cond.fieldLink RX4 64 "FourTongues$Machine" "cameOut" "I", Cond.methodLink RX4 109 yX1_source, Cond.instanceMethod yX1_source, Cond.selects RX1 yX1_source yX1_source, Cond.initialized RX1, Cond.code yX1_source cX1_source 5 (some .int), Cond.methodLink RX1 47 yX1_fact, Cond.instanceMethod yX1_fact, Cond.selects RX1 yX1_fact yX1_fact, Cond.code yX1_fact cX1_fact 3 (some .int), Cond.fieldLink RX1 15 "FourTongues$Failures" "count" "I", Cond.fieldLink RX1 24 "FourTongues$Failures" "values" "LFourTongues$Row;", Cond.fieldLink RX1 11 "FourTongues$Failures" "facts" "[I", Cond.methodLink RX1 43 yX9_kind, Cond.instanceMethod yX9_kind, Cond.selects RX9 yX9_kind yX9_kind, Cond.initialized RX9, Cond.code yX9_kind cX9_kind 2 (some .int), Cond.fieldLink RX9 7 "FourTongues$Row" "count" "I", Cond.fieldLink RX9 19 "FourTongues$Row" "kinds" "[I", Cond.methodLink RX4 116 yX1_lower, Cond.instanceMethod yX1_lower, Cond.selects RX1 yX1_lower yX1_lower]
def wsX4_factUnder_r2 : List Cond := [Cond.code yX1_lower cX1_lower 5 (some .int), Cond.fieldLink RX1 31 "FourTongues$Failures" "lyingCount" "I", Cond.fieldLink RX1 28 "FourTongues$Failures" "lying" "[I", Cond.methodLink RX4 113 yX1_fact]
def wsX4_factUnder : List Cond := .code yX4_factUnder cX4_factUnder 5 (some .int) :: ((wsX4_factUnder_r1 ++ wsX4_factUnder_r2) ++ wsX40 ++ wsX10 ++ wsX90)
def wsJ0_coder_7d493 : List Cond := .code yJ0_coder_7d493 cJ0_coder_7d493 1 (some .byte) :: ([.fieldLink RJ0 38 "java/lang/String" "COMPACT_STRINGS" "Z", .fieldLink RJ0 15 "java/lang/String" "coder" "B"])
def wsJ0_length_8abf5 : List Cond := .code yJ0_length_8abf5 cJ0_length_8abf5 1 (some .int) :: ([.fieldLink RJ0 9 "java/lang/String" "value" "[B", .methodLink RJ0 335 yJ0_coder_7d493, .instanceMethod yJ0_coder_7d493, .selects RJ0 yJ0_coder_7d493 yJ0_coder_7d493, .initialized RJ0, .code yJ0_coder_7d493 cJ0_coder_7d493 1 (some .byte), .fieldLink RJ0 38 "java/lang/String" "COMPACT_STRINGS" "Z", .fieldLink RJ0 15 "java/lang/String" "coder" "B"])
def wsJ0_isLatin1_aae02 : List Cond := .code yJ0_isLatin1_aae02 cJ0_isLatin1_aae02 1 (some .boolean) :: ([.fieldLink RJ0 38 "java/lang/String" "COMPACT_STRINGS" "Z", .fieldLink RJ0 15 "java/lang/String" "coder" "B"])
def wsJ3_checkIndex_8e157 : List Cond := .code yJ3_checkIndex_8e157 cJ3_checkIndex_8e157 3 (some .int) :: ([])
def wsJ0_checkIndex_df160 : List Cond := .code yJ0_checkIndex_df160 cJ0_checkIndex_df160 2 none :: ([.fieldLink RJ0 1053 "jdk/internal/util/Preconditions" "SIOOBE_FORMATTER" "Ljava/util/function/BiFunction;", .methodLink RJ0 1059 yJ3_checkIndex_8e157, .static yJ3_checkIndex_8e157, .initialized RJ3, .code yJ3_checkIndex_8e157 cJ3_checkIndex_8e157 3 (some .int)])
def wsJ1_charAt_3b067 : List Cond := .code yJ1_charAt_3b067 cJ1_charAt_3b067 2 (some .char) :: ([.methodLink RJ1 9 yJ0_checkIndex_df160, .static yJ0_checkIndex_df160, .initialized RJ0, .code yJ0_checkIndex_df160 cJ0_checkIndex_df160 2 none, .fieldLink RJ0 1053 "jdk/internal/util/Preconditions" "SIOOBE_FORMATTER" "Ljava/util/function/BiFunction;", .methodLink RJ0 1059 yJ3_checkIndex_8e157, .static yJ3_checkIndex_8e157, .initialized RJ3, .code yJ3_checkIndex_8e157 cJ3_checkIndex_8e157 3 (some .int)])
def wsJ0_charAt_5068e_r1 : List Cond := [Cond.fieldLink RJ0 9 "java/lang/String" "value" "[B", Cond.methodLink RJ0 492 yJ0_isLatin1_aae02, Cond.instanceMethod yJ0_isLatin1_aae02, Cond.selects RJ0 yJ0_isLatin1_aae02 yJ0_isLatin1_aae02, Cond.initialized RJ0, Cond.code yJ0_isLatin1_aae02 cJ0_isLatin1_aae02 1 (some .boolean), Cond.fieldLink RJ0 38 "java/lang/String" "COMPACT_STRINGS" "Z", Cond.fieldLink RJ0 15 "java/lang/String" "coder" "B", Cond.methodLink RJ0 495 yJ1_charAt_3b067, Cond.static yJ1_charAt_3b067, Cond.initialized RJ1, Cond.code yJ1_charAt_3b067 cJ1_charAt_3b067 2 (some .char), Cond.methodLink RJ1 9 yJ0_checkIndex_df160, Cond.static yJ0_checkIndex_df160, Cond.code yJ0_checkIndex_df160 cJ0_checkIndex_df160 2 none, Cond.fieldLink RJ0 1053 "jdk/internal/util/Preconditions" "SIOOBE_FORMATTER" "Ljava/util/function/BiFunction;", Cond.methodLink RJ0 1059 yJ3_checkIndex_8e157, Cond.static yJ3_checkIndex_8e157, Cond.initialized RJ3, Cond.code yJ3_checkIndex_8e157 cJ3_checkIndex_8e157 3 (some .int), Cond.methodLink RJ0 498 yJ2_charAt_3b067, Cond.static yJ2_charAt_3b067, Cond.initialized RJ2, Cond.code yJ2_charAt_3b067 cJ2_charAt_3b067 2 (some .char)]
def wsJ0_charAt_5068e_r2 : List Cond := [Cond.methodLink RJ2 67 yJ2_checkIndex_2214a, Cond.static yJ2_checkIndex_2214a, Cond.code yJ2_checkIndex_2214a cJ2_checkIndex_2214a 2 none, Cond.methodLink RJ2 48 yJ2_length_9d52b, Cond.static yJ2_length_9d52b, Cond.code yJ2_length_9d52b cJ2_length_9d52b 1 (some .int), Cond.methodLink RJ2 414 yJ0_checkIndex_df160, Cond.methodLink RJ2 71 yJ2_getChar_3b067, Cond.static yJ2_getChar_3b067, Cond.code yJ2_getChar_3b067 cJ2_getChar_3b067 2 (some .char), Cond.fieldLink RJ2 44 "java/lang/StringUTF16" "$assertionsDisabled" "Z", Cond.fieldLink RJ2 59 "java/lang/StringUTF16" "HI_BYTE_SHIFT" "I", Cond.fieldLink RJ2 63 "java/lang/StringUTF16" "LO_BYTE_SHIFT" "I"]
def wsJ0_charAt_5068e : List Cond := .code yJ0_charAt_5068e cJ0_charAt_5068e 2 (some .char) :: ((wsJ0_charAt_5068e_r1 ++ wsJ0_charAt_5068e_r2))
def wsX5_init_r1 : List Cond := [Cond.methodLink RX5 3 objectInit, Cond.instanceMethod objectInit, Cond.code objectInit ⟨#[0xb1]⟩ 1 none, Cond.arrayClass .long, Cond.fieldLink RX5 11 "FourTongues$Names" "packed" "[J", Cond.arrayClass .int, Cond.fieldLink RX5 15 "FourTongues$Names" "above" "[I", Cond.fieldLink RX5 19 "FourTongues$Names" "keptAbove" "[I", Cond.fieldLink RX5 22 "FourTongues$Names" "count" "I", Cond.fieldLink RX5 26 "FourTongues$Names" "keptCount" "I", Cond.methodLink RX5 31 yJ0_length_8abf5, Cond.instanceMethod yJ0_length_8abf5, Cond.selects RJ0 yJ0_length_8abf5 yJ0_length_8abf5, Cond.initialized RJ0, Cond.code yJ0_length_8abf5 cJ0_length_8abf5 1 (some .int), Cond.fieldLink RJ0 9 "java/lang/String" "value" "[B", Cond.methodLink RJ0 335 yJ0_coder_7d493, Cond.instanceMethod yJ0_coder_7d493, Cond.selects RJ0 yJ0_coder_7d493 yJ0_coder_7d493, Cond.code yJ0_coder_7d493 cJ0_coder_7d493 1 (some .byte), Cond.fieldLink RJ0 38 "java/lang/String" "COMPACT_STRINGS" "Z", Cond.fieldLink RJ0 15 "java/lang/String" "coder" "B", Cond.methodLink RX5 37 yJ0_charAt_5068e, Cond.instanceMethod yJ0_charAt_5068e]
def wsX5_init_r2 : List Cond := [Cond.selects RJ0 yJ0_charAt_5068e yJ0_charAt_5068e, Cond.code yJ0_charAt_5068e cJ0_charAt_5068e 2 (some .char), Cond.methodLink RJ0 492 yJ0_isLatin1_aae02, Cond.instanceMethod yJ0_isLatin1_aae02, Cond.selects RJ0 yJ0_isLatin1_aae02 yJ0_isLatin1_aae02, Cond.code yJ0_isLatin1_aae02 cJ0_isLatin1_aae02 1 (some .boolean), Cond.methodLink RJ0 495 yJ1_charAt_3b067, Cond.static yJ1_charAt_3b067, Cond.initialized RJ1, Cond.code yJ1_charAt_3b067 cJ1_charAt_3b067 2 (some .char), Cond.methodLink RJ1 9 yJ0_checkIndex_df160, Cond.static yJ0_checkIndex_df160, Cond.code yJ0_checkIndex_df160 cJ0_checkIndex_df160 2 none, Cond.fieldLink RJ0 1053 "jdk/internal/util/Preconditions" "SIOOBE_FORMATTER" "Ljava/util/function/BiFunction;", Cond.methodLink RJ0 1059 yJ3_checkIndex_8e157, Cond.static yJ3_checkIndex_8e157, Cond.initialized RJ3, Cond.code yJ3_checkIndex_8e157 cJ3_checkIndex_8e157 3 (some .int), Cond.methodLink RJ0 498 yJ2_charAt_3b067, Cond.static yJ2_charAt_3b067, Cond.initialized RJ2, Cond.code yJ2_charAt_3b067 cJ2_charAt_3b067 2 (some .char), Cond.methodLink RJ2 67 yJ2_checkIndex_2214a, Cond.static yJ2_checkIndex_2214a]
def wsX5_init_r3 : List Cond := [Cond.code yJ2_checkIndex_2214a cJ2_checkIndex_2214a 2 none, Cond.methodLink RJ2 48 yJ2_length_9d52b, Cond.static yJ2_length_9d52b, Cond.code yJ2_length_9d52b cJ2_length_9d52b 1 (some .int), Cond.methodLink RJ2 414 yJ0_checkIndex_df160, Cond.methodLink RJ2 71 yJ2_getChar_3b067, Cond.static yJ2_getChar_3b067, Cond.code yJ2_getChar_3b067 cJ2_getChar_3b067 2 (some .char), Cond.fieldLink RJ2 44 "java/lang/StringUTF16" "$assertionsDisabled" "Z", Cond.fieldLink RJ2 59 "java/lang/StringUTF16" "HI_BYTE_SHIFT" "I", Cond.fieldLink RJ2 63 "java/lang/StringUTF16" "LO_BYTE_SHIFT" "I"]
def wsX5_init : List Cond := .code yX5_init cX5_init 5 none :: ((wsX5_init_r1 ++ (wsX5_init_r2 ++ wsX5_init_r3)) ++ wsX50)
def wsX5_inAll : List Cond := .code yX5_inAll cX5_inAll 1 (some .int) :: ([.fieldLink RX5 22 "FourTongues$Names" "count" "I"] ++ wsX50)
def wsX10_init_r1 : List Cond := [Cond.methodLink RX10 3 objectInit, Cond.instanceMethod objectInit, Cond.code objectInit ⟨#[0xb1]⟩ 1 none, Cond.arrayClass .long, Cond.fieldLink RX10 11 "FourTongues$Tokens" "words" "[J", Cond.arrayClass .int, Cond.fieldLink RX10 15 "FourTongues$Tokens" "kinds" "[I", Cond.fieldLink RX10 19 "FourTongues$Tokens" "places" "[I", Cond.fieldLink RX10 22 "FourTongues$Tokens" "wholes" "[J", Cond.arrayClass .double, Cond.fieldLink RX10 25 "FourTongues$Tokens" "reals" "[D", Cond.fieldLink RX10 29 "FourTongues$Tokens" "count" "I", Cond.fieldLink RX10 33 "FourTongues$Tokens" "length" "I", Cond.fieldLink RX10 36 "FourTongues$Tokens" "tongue" "I", Cond.fieldLink RX10 39 "FourTongues$Tokens" "at" "I", Cond.fieldLink RX10 42 "FourTongues$Tokens" "now" "I", Cond.fieldLink RX10 45 "FourTongues$Tokens" "stopped" "Z", Cond.fieldLink RX10 49 "FourTongues$Tokens" "kind" "I", Cond.fieldLink RX10 52 "FourTongues$Tokens" "place" "I", Cond.fieldLink RX10 55 "FourTongues$Tokens" "whole" "J", Cond.fieldLink RX10 59 "FourTongues$Tokens" "real" "D", Cond.fieldLink RX10 63 "FourTongues$Tokens" "text" "[B", Cond.methodLink RX10 69 yJ0_length_8abf5, Cond.instanceMethod yJ0_length_8abf5]
def wsX10_init_r2 : List Cond := [Cond.selects RJ0 yJ0_length_8abf5 yJ0_length_8abf5, Cond.initialized RJ0, Cond.code yJ0_length_8abf5 cJ0_length_8abf5 1 (some .int), Cond.fieldLink RJ0 9 "java/lang/String" "value" "[B", Cond.methodLink RJ0 335 yJ0_coder_7d493, Cond.instanceMethod yJ0_coder_7d493, Cond.selects RJ0 yJ0_coder_7d493 yJ0_coder_7d493, Cond.code yJ0_coder_7d493 cJ0_coder_7d493 1 (some .byte), Cond.fieldLink RJ0 38 "java/lang/String" "COMPACT_STRINGS" "Z", Cond.fieldLink RJ0 15 "java/lang/String" "coder" "B", Cond.methodLink RX10 74 yJ0_charAt_5068e, Cond.instanceMethod yJ0_charAt_5068e, Cond.selects RJ0 yJ0_charAt_5068e yJ0_charAt_5068e, Cond.code yJ0_charAt_5068e cJ0_charAt_5068e 2 (some .char), Cond.methodLink RJ0 492 yJ0_isLatin1_aae02, Cond.instanceMethod yJ0_isLatin1_aae02, Cond.selects RJ0 yJ0_isLatin1_aae02 yJ0_isLatin1_aae02, Cond.code yJ0_isLatin1_aae02 cJ0_isLatin1_aae02 1 (some .boolean), Cond.methodLink RJ0 495 yJ1_charAt_3b067, Cond.static yJ1_charAt_3b067, Cond.initialized RJ1, Cond.code yJ1_charAt_3b067 cJ1_charAt_3b067 2 (some .char), Cond.methodLink RJ1 9 yJ0_checkIndex_df160, Cond.static yJ0_checkIndex_df160]
def wsX10_init_r3 : List Cond := [Cond.code yJ0_checkIndex_df160 cJ0_checkIndex_df160 2 none, Cond.fieldLink RJ0 1053 "jdk/internal/util/Preconditions" "SIOOBE_FORMATTER" "Ljava/util/function/BiFunction;", Cond.methodLink RJ0 1059 yJ3_checkIndex_8e157, Cond.static yJ3_checkIndex_8e157, Cond.initialized RJ3, Cond.code yJ3_checkIndex_8e157 cJ3_checkIndex_8e157 3 (some .int), Cond.methodLink RJ0 498 yJ2_charAt_3b067, Cond.static yJ2_charAt_3b067, Cond.initialized RJ2, Cond.code yJ2_charAt_3b067 cJ2_charAt_3b067 2 (some .char), Cond.methodLink RJ2 67 yJ2_checkIndex_2214a, Cond.static yJ2_checkIndex_2214a, Cond.code yJ2_checkIndex_2214a cJ2_checkIndex_2214a 2 none, Cond.methodLink RJ2 48 yJ2_length_9d52b, Cond.static yJ2_length_9d52b, Cond.code yJ2_length_9d52b cJ2_length_9d52b 1 (some .int), Cond.methodLink RJ2 414 yJ0_checkIndex_df160, Cond.methodLink RJ2 71 yJ2_getChar_3b067, Cond.static yJ2_getChar_3b067, Cond.code yJ2_getChar_3b067 cJ2_getChar_3b067 2 (some .char), Cond.fieldLink RJ2 44 "java/lang/StringUTF16" "$assertionsDisabled" "Z", Cond.fieldLink RJ2 59 "java/lang/StringUTF16" "HI_BYTE_SHIFT" "I", Cond.fieldLink RJ2 63 "java/lang/StringUTF16" "LO_BYTE_SHIFT" "I"]
def wsX10_init : List Cond := .code yX10_init cX10_init 7 none :: ((wsX10_init_r1 ++ (wsX10_init_r2 ++ wsX10_init_r3)) ++ wsX100)
def wsX7_init_r1 : List Cond := [Cond.methodLink RX7 3 objectInit, Cond.instanceMethod objectInit, Cond.code objectInit ⟨#[0xb1]⟩ 1 none, Cond.arrayClass .int, Cond.fieldLink RX7 9 "FourTongues$Parser" "faults" "[I", Cond.arrayClass .long, Cond.fieldLink RX7 15 "FourTongues$Parser" "variables" "[J", Cond.fieldLink RX7 19 "FourTongues$Parser" "variableCount" "I", Cond.fieldLink RX7 23 "FourTongues$Parser" "counted" "I", Cond.fieldLink RX7 26 "FourTongues$Parser" "told" "I", Cond.fieldLink RX7 29 "FourTongues$Parser" "tongue" "I", Cond.fieldLink RX7 32 "FourTongues$Parser" "depth" "I", Cond.fieldLink RX7 35 "FourTongues$Parser" "place" "I", Cond.classLink RX7 38 RX10, Cond.instantiable RX10 16, Cond.initialized RX10, Cond.fieldLink RX7 43 "FourTongues$Parser" "tokens" "LFourTongues$Tokens;", Cond.fieldLink RX7 47 "FourTongues$Parser" "names" "LFourTongues$Names;", Cond.fieldLink RX7 51 "FourTongues$Parser" "program" "LFourTongues$Program;", Cond.methodLink RX7 40 yX10_init, Cond.instanceMethod yX10_init, Cond.code yX10_init cX10_init 7 none, Cond.methodLink RX10 3 objectInit, Cond.fieldLink RX10 11 "FourTongues$Tokens" "words" "[J"]
def wsX7_init_r2 : List Cond := [Cond.fieldLink RX10 15 "FourTongues$Tokens" "kinds" "[I", Cond.fieldLink RX10 19 "FourTongues$Tokens" "places" "[I", Cond.fieldLink RX10 22 "FourTongues$Tokens" "wholes" "[J", Cond.arrayClass .double, Cond.fieldLink RX10 25 "FourTongues$Tokens" "reals" "[D", Cond.fieldLink RX10 29 "FourTongues$Tokens" "count" "I", Cond.fieldLink RX10 33 "FourTongues$Tokens" "length" "I", Cond.fieldLink RX10 36 "FourTongues$Tokens" "tongue" "I", Cond.fieldLink RX10 39 "FourTongues$Tokens" "at" "I", Cond.fieldLink RX10 42 "FourTongues$Tokens" "now" "I", Cond.fieldLink RX10 45 "FourTongues$Tokens" "stopped" "Z", Cond.fieldLink RX10 49 "FourTongues$Tokens" "kind" "I", Cond.fieldLink RX10 52 "FourTongues$Tokens" "place" "I", Cond.fieldLink RX10 55 "FourTongues$Tokens" "whole" "J", Cond.fieldLink RX10 59 "FourTongues$Tokens" "real" "D", Cond.fieldLink RX10 63 "FourTongues$Tokens" "text" "[B", Cond.methodLink RX10 69 yJ0_length_8abf5, Cond.instanceMethod yJ0_length_8abf5, Cond.selects RJ0 yJ0_length_8abf5 yJ0_length_8abf5, Cond.initialized RJ0, Cond.code yJ0_length_8abf5 cJ0_length_8abf5 1 (some .int), Cond.fieldLink RJ0 9 "java/lang/String" "value" "[B", Cond.methodLink RJ0 335 yJ0_coder_7d493, Cond.instanceMethod yJ0_coder_7d493]
def wsX7_init_r3 : List Cond := [Cond.selects RJ0 yJ0_coder_7d493 yJ0_coder_7d493, Cond.code yJ0_coder_7d493 cJ0_coder_7d493 1 (some .byte), Cond.fieldLink RJ0 38 "java/lang/String" "COMPACT_STRINGS" "Z", Cond.fieldLink RJ0 15 "java/lang/String" "coder" "B", Cond.methodLink RX10 74 yJ0_charAt_5068e, Cond.instanceMethod yJ0_charAt_5068e, Cond.selects RJ0 yJ0_charAt_5068e yJ0_charAt_5068e, Cond.code yJ0_charAt_5068e cJ0_charAt_5068e 2 (some .char), Cond.methodLink RJ0 492 yJ0_isLatin1_aae02, Cond.instanceMethod yJ0_isLatin1_aae02, Cond.selects RJ0 yJ0_isLatin1_aae02 yJ0_isLatin1_aae02, Cond.code yJ0_isLatin1_aae02 cJ0_isLatin1_aae02 1 (some .boolean), Cond.methodLink RJ0 495 yJ1_charAt_3b067, Cond.static yJ1_charAt_3b067, Cond.initialized RJ1, Cond.code yJ1_charAt_3b067 cJ1_charAt_3b067 2 (some .char), Cond.methodLink RJ1 9 yJ0_checkIndex_df160, Cond.static yJ0_checkIndex_df160, Cond.code yJ0_checkIndex_df160 cJ0_checkIndex_df160 2 none, Cond.fieldLink RJ0 1053 "jdk/internal/util/Preconditions" "SIOOBE_FORMATTER" "Ljava/util/function/BiFunction;", Cond.methodLink RJ0 1059 yJ3_checkIndex_8e157, Cond.static yJ3_checkIndex_8e157, Cond.initialized RJ3, Cond.code yJ3_checkIndex_8e157 cJ3_checkIndex_8e157 3 (some .int)]
def wsX7_init_r4 : List Cond := [Cond.methodLink RJ0 498 yJ2_charAt_3b067, Cond.static yJ2_charAt_3b067, Cond.initialized RJ2, Cond.code yJ2_charAt_3b067 cJ2_charAt_3b067 2 (some .char), Cond.methodLink RJ2 67 yJ2_checkIndex_2214a, Cond.static yJ2_checkIndex_2214a, Cond.code yJ2_checkIndex_2214a cJ2_checkIndex_2214a 2 none, Cond.methodLink RJ2 48 yJ2_length_9d52b, Cond.static yJ2_length_9d52b, Cond.code yJ2_length_9d52b cJ2_length_9d52b 1 (some .int), Cond.methodLink RJ2 414 yJ0_checkIndex_df160, Cond.methodLink RJ2 71 yJ2_getChar_3b067, Cond.static yJ2_getChar_3b067, Cond.code yJ2_getChar_3b067 cJ2_getChar_3b067 2 (some .char), Cond.fieldLink RJ2 44 "java/lang/StringUTF16" "$assertionsDisabled" "Z", Cond.fieldLink RJ2 59 "java/lang/StringUTF16" "HI_BYTE_SHIFT" "I", Cond.fieldLink RJ2 63 "java/lang/StringUTF16" "LO_BYTE_SHIFT" "I"]
def wsX7_init : List Cond := .code yX7_init cX7_init 4 none :: ((wsX7_init_r1 ++ (wsX7_init_r2 ++ (wsX7_init_r3 ++ wsX7_init_r4))) ++ wsX70 ++ wsX100)
def wsX8_init_r1 : List Cond := [Cond.methodLink RX8 1 objectInit, Cond.instanceMethod objectInit, Cond.code objectInit ⟨#[0xb1]⟩ 1 none, Cond.arrayClass .int, Cond.fieldLink RX8 7 "FourTongues$Program" "code" "[I", Cond.fieldLink RX8 13 "FourTongues$Program" "length" "I", Cond.classLink RX8 17 RX9, Cond.instantiable RX9 4, Cond.initialized RX9, Cond.fieldLink RX8 22 "FourTongues$Program" "constants" "LFourTongues$Row;", Cond.arrayClass .long, Cond.fieldLink RX8 26 "FourTongues$Program" "names" "[J", Cond.fieldLink RX8 30 "FourTongues$Program" "starts" "[I", Cond.fieldLink RX8 33 "FourTongues$Program" "parameters" "[I", Cond.fieldLink RX8 36 "FourTongues$Program" "variables" "[I", Cond.fieldLink RX8 39 "FourTongues$Program" "functions" "I", Cond.methodLink RX8 19 yX9_init, Cond.instanceMethod yX9_init, Cond.code yX9_init cX9_init 3 none, Cond.methodLink RX9 1 objectInit, Cond.fieldLink RX9 7 "FourTongues$Row" "count" "I", Cond.methodLink RX9 13 Lib.Math.max.name, Cond.static Lib.Math.max.name, Cond.initialized "java/lang/Math"]
def wsX8_init_r2 : List Cond := [Cond.code Lib.Math.max.name Lib.Math.max.code 2 (some .int), Cond.fieldLink RX9 19 "FourTongues$Row" "kinds" "[I", Cond.fieldLink RX9 23 "FourTongues$Row" "wholes" "[J", Cond.arrayClass .double, Cond.fieldLink RX9 27 "FourTongues$Row" "reals" "[D"]
def wsX8_init : List Cond := .code yX8_init cX8_init 1 none :: ((wsX8_init_r1 ++ wsX8_init_r2) ++ wsX80 ++ wsX90)
def wsX11_init_r1 : List Cond := [Cond.methodLink RX11 1 objectInit, Cond.instanceMethod objectInit, Cond.code objectInit ⟨#[0xb1]⟩ 1 none, Cond.arrayClass .byte, Cond.fieldLink RX11 9 "FourTongues" "tape" "[B", Cond.fieldLink RX11 13 "FourTongues" "taped" "I", Cond.fieldLink RX11 17 "FourTongues" "faultKind" "I", Cond.classLink RX11 20 RX5, Cond.instantiable RX5 5, Cond.initialized RX5, Cond.fieldLink RX11 23 "FourTongues" "names" "LFourTongues$Names;", Cond.classLink RX11 27 RX0, Cond.instantiable RX0 6, Cond.initialized RX0, Cond.fieldLink RX11 30 "FourTongues" "borders" "LFourTongues$Borders;", Cond.classLink RX11 34 RX8, Cond.fieldLink RX11 36 "FourTongues" "programs" "[LFourTongues$Program;", Cond.instantiable RX8 8, Cond.initialized RX8, Cond.fieldLink RX11 41 "FourTongues" "draft" "LFourTongues$Program;", Cond.classLink RX11 45 RX7, Cond.instantiable RX7 11, Cond.initialized RX7, Cond.fieldLink RX11 50 "FourTongues" "parser" "LFourTongues$Parser;"]
def wsX11_init_r2 : List Cond := [Cond.classLink RX11 54 RX4, Cond.instantiable RX4 17, Cond.initialized RX4, Cond.fieldLink RX11 59 "FourTongues" "machine" "LFourTongues$Machine;", Cond.methodLink RX11 22 yX5_init, Cond.instanceMethod yX5_init, Cond.code yX5_init cX5_init 5 none, Cond.methodLink RX5 3 objectInit, Cond.arrayClass .long, Cond.fieldLink RX5 11 "FourTongues$Names" "packed" "[J", Cond.arrayClass .int, Cond.fieldLink RX5 15 "FourTongues$Names" "above" "[I", Cond.fieldLink RX5 19 "FourTongues$Names" "keptAbove" "[I", Cond.fieldLink RX5 22 "FourTongues$Names" "count" "I", Cond.fieldLink RX5 26 "FourTongues$Names" "keptCount" "I", Cond.methodLink RX5 31 yJ0_length_8abf5, Cond.instanceMethod yJ0_length_8abf5, Cond.selects RJ0 yJ0_length_8abf5 yJ0_length_8abf5, Cond.initialized RJ0, Cond.code yJ0_length_8abf5 cJ0_length_8abf5 1 (some .int), Cond.fieldLink RJ0 9 "java/lang/String" "value" "[B", Cond.methodLink RJ0 335 yJ0_coder_7d493, Cond.instanceMethod yJ0_coder_7d493, Cond.selects RJ0 yJ0_coder_7d493 yJ0_coder_7d493]
def wsX11_init_r3 : List Cond := [Cond.code yJ0_coder_7d493 cJ0_coder_7d493 1 (some .byte), Cond.fieldLink RJ0 38 "java/lang/String" "COMPACT_STRINGS" "Z", Cond.fieldLink RJ0 15 "java/lang/String" "coder" "B", Cond.methodLink RX5 37 yJ0_charAt_5068e, Cond.instanceMethod yJ0_charAt_5068e, Cond.selects RJ0 yJ0_charAt_5068e yJ0_charAt_5068e, Cond.code yJ0_charAt_5068e cJ0_charAt_5068e 2 (some .char), Cond.methodLink RJ0 492 yJ0_isLatin1_aae02, Cond.instanceMethod yJ0_isLatin1_aae02, Cond.selects RJ0 yJ0_isLatin1_aae02 yJ0_isLatin1_aae02, Cond.code yJ0_isLatin1_aae02 cJ0_isLatin1_aae02 1 (some .boolean), Cond.methodLink RJ0 495 yJ1_charAt_3b067, Cond.static yJ1_charAt_3b067, Cond.initialized RJ1, Cond.code yJ1_charAt_3b067 cJ1_charAt_3b067 2 (some .char), Cond.methodLink RJ1 9 yJ0_checkIndex_df160, Cond.static yJ0_checkIndex_df160, Cond.code yJ0_checkIndex_df160 cJ0_checkIndex_df160 2 none, Cond.fieldLink RJ0 1053 "jdk/internal/util/Preconditions" "SIOOBE_FORMATTER" "Ljava/util/function/BiFunction;", Cond.methodLink RJ0 1059 yJ3_checkIndex_8e157, Cond.static yJ3_checkIndex_8e157, Cond.initialized RJ3, Cond.code yJ3_checkIndex_8e157 cJ3_checkIndex_8e157 3 (some .int), Cond.methodLink RJ0 498 yJ2_charAt_3b067]
def wsX11_init_r4 : List Cond := [Cond.static yJ2_charAt_3b067, Cond.initialized RJ2, Cond.code yJ2_charAt_3b067 cJ2_charAt_3b067 2 (some .char), Cond.methodLink RJ2 67 yJ2_checkIndex_2214a, Cond.static yJ2_checkIndex_2214a, Cond.code yJ2_checkIndex_2214a cJ2_checkIndex_2214a 2 none, Cond.methodLink RJ2 48 yJ2_length_9d52b, Cond.static yJ2_length_9d52b, Cond.code yJ2_length_9d52b cJ2_length_9d52b 1 (some .int), Cond.methodLink RJ2 414 yJ0_checkIndex_df160, Cond.methodLink RJ2 71 yJ2_getChar_3b067, Cond.static yJ2_getChar_3b067, Cond.code yJ2_getChar_3b067 cJ2_getChar_3b067 2 (some .char), Cond.fieldLink RJ2 44 "java/lang/StringUTF16" "$assertionsDisabled" "Z", Cond.fieldLink RJ2 59 "java/lang/StringUTF16" "HI_BYTE_SHIFT" "I", Cond.fieldLink RJ2 63 "java/lang/StringUTF16" "LO_BYTE_SHIFT" "I", Cond.methodLink RX11 29 yX0_init, Cond.instanceMethod yX0_init, Cond.code yX0_init cX0_init 1 none, Cond.methodLink RX0 3 objectInit, Cond.fieldLink RX0 9 "FourTongues$Borders" "rules" "[I", Cond.fieldLink RX0 15 "FourTongues$Borders" "defaults" "[I", Cond.fieldLink RX0 18 "FourTongues$Borders" "entryBorders" "[I", Cond.fieldLink RX0 21 "FourTongues$Borders" "entryWhats" "[I"]
def wsX11_init_r5 : List Cond := [Cond.fieldLink RX0 24 "FourTongues$Borders" "entryAs" "[I", Cond.fieldLink RX0 27 "FourTongues$Borders" "entries" "I", Cond.methodLink RX0 31 yJ7_fill_53178, Cond.static yJ7_fill_53178, Cond.initialized RJ7, Cond.code yJ7_fill_53178 cJ7_fill_53178 4 none, Cond.instanceMethod yX8_init, Cond.code yX8_init cX8_init 1 none, Cond.methodLink RX8 1 objectInit, Cond.fieldLink RX8 7 "FourTongues$Program" "code" "[I", Cond.fieldLink RX8 13 "FourTongues$Program" "length" "I", Cond.classLink RX8 17 RX9, Cond.instantiable RX9 4, Cond.initialized RX9, Cond.fieldLink RX8 22 "FourTongues$Program" "constants" "LFourTongues$Row;", Cond.fieldLink RX8 26 "FourTongues$Program" "names" "[J", Cond.fieldLink RX8 30 "FourTongues$Program" "starts" "[I", Cond.fieldLink RX8 33 "FourTongues$Program" "parameters" "[I", Cond.fieldLink RX8 36 "FourTongues$Program" "variables" "[I", Cond.fieldLink RX8 39 "FourTongues$Program" "functions" "I", Cond.methodLink RX8 19 yX9_init, Cond.instanceMethod yX9_init, Cond.code yX9_init cX9_init 3 none, Cond.methodLink RX9 1 objectInit]
def wsX11_init_r6 : List Cond := [Cond.fieldLink RX9 7 "FourTongues$Row" "count" "I", Cond.methodLink RX9 13 Lib.Math.max.name, Cond.static Lib.Math.max.name, Cond.initialized "java/lang/Math", Cond.code Lib.Math.max.name Lib.Math.max.code 2 (some .int), Cond.fieldLink RX9 19 "FourTongues$Row" "kinds" "[I", Cond.fieldLink RX9 23 "FourTongues$Row" "wholes" "[J", Cond.arrayClass .double, Cond.fieldLink RX9 27 "FourTongues$Row" "reals" "[D", Cond.methodLink RX11 47 yX7_init, Cond.instanceMethod yX7_init, Cond.code yX7_init cX7_init 4 none, Cond.methodLink RX7 3 objectInit, Cond.fieldLink RX7 9 "FourTongues$Parser" "faults" "[I", Cond.fieldLink RX7 15 "FourTongues$Parser" "variables" "[J", Cond.fieldLink RX7 19 "FourTongues$Parser" "variableCount" "I", Cond.fieldLink RX7 23 "FourTongues$Parser" "counted" "I", Cond.fieldLink RX7 26 "FourTongues$Parser" "told" "I", Cond.fieldLink RX7 29 "FourTongues$Parser" "tongue" "I", Cond.fieldLink RX7 32 "FourTongues$Parser" "depth" "I", Cond.fieldLink RX7 35 "FourTongues$Parser" "place" "I", Cond.classLink RX7 38 RX10, Cond.instantiable RX10 16, Cond.initialized RX10]
def wsX11_init_r7 : List Cond := [Cond.fieldLink RX7 43 "FourTongues$Parser" "tokens" "LFourTongues$Tokens;", Cond.fieldLink RX7 47 "FourTongues$Parser" "names" "LFourTongues$Names;", Cond.fieldLink RX7 51 "FourTongues$Parser" "program" "LFourTongues$Program;", Cond.methodLink RX7 40 yX10_init, Cond.instanceMethod yX10_init, Cond.code yX10_init cX10_init 7 none, Cond.methodLink RX10 3 objectInit, Cond.fieldLink RX10 11 "FourTongues$Tokens" "words" "[J", Cond.fieldLink RX10 15 "FourTongues$Tokens" "kinds" "[I", Cond.fieldLink RX10 19 "FourTongues$Tokens" "places" "[I", Cond.fieldLink RX10 22 "FourTongues$Tokens" "wholes" "[J", Cond.fieldLink RX10 25 "FourTongues$Tokens" "reals" "[D", Cond.fieldLink RX10 29 "FourTongues$Tokens" "count" "I", Cond.fieldLink RX10 33 "FourTongues$Tokens" "length" "I", Cond.fieldLink RX10 36 "FourTongues$Tokens" "tongue" "I", Cond.fieldLink RX10 39 "FourTongues$Tokens" "at" "I", Cond.fieldLink RX10 42 "FourTongues$Tokens" "now" "I", Cond.fieldLink RX10 45 "FourTongues$Tokens" "stopped" "Z", Cond.fieldLink RX10 49 "FourTongues$Tokens" "kind" "I", Cond.fieldLink RX10 52 "FourTongues$Tokens" "place" "I", Cond.fieldLink RX10 55 "FourTongues$Tokens" "whole" "J", Cond.fieldLink RX10 59 "FourTongues$Tokens" "real" "D", Cond.fieldLink RX10 63 "FourTongues$Tokens" "text" "[B", Cond.methodLink RX10 69 yJ0_length_8abf5]
def wsX11_init_r8 : List Cond := [Cond.methodLink RX10 74 yJ0_charAt_5068e, Cond.methodLink RX11 56 yX4_init, Cond.instanceMethod yX4_init, Cond.code yX4_init cX4_init 5 none, Cond.methodLink RX4 3 objectInit, Cond.classLink RX4 9 RX9, Cond.fieldLink RX4 14 "FourTongues$Machine" "stack" "LFourTongues$Row;", Cond.fieldLink RX4 20 "FourTongues$Machine" "heap" "LFourTongues$Row;", Cond.fieldLink RX4 23 "FourTongues$Machine" "marks" "LFourTongues$Row;", Cond.classLink RX4 26 RX1, Cond.instantiable RX1 5, Cond.initialized RX1, Cond.fieldLink RX4 29 "FourTongues$Machine" "failures" "LFourTongues$Failures;", Cond.classLink RX4 33 RX2, Cond.instantiable RX2 8, Cond.initialized RX2, Cond.fieldLink RX4 36 "FourTongues$Machine" "frames" "LFourTongues$Frames;", Cond.classLink RX4 40 RX3, Cond.instantiable RX3 7, Cond.initialized RX3, Cond.fieldLink RX4 43 "FourTongues$Machine" "guards" "LFourTongues$Guards;", Cond.fieldLink RX4 47 "FourTongues$Machine" "tally" "[I", Cond.fieldLink RX4 51 "FourTongues$Machine" "at" "I", Cond.fieldLink RX4 55 "FourTongues$Machine" "pc" "I"]
def wsX11_init_r9 : List Cond := [Cond.fieldLink RX4 58 "FourTongues$Machine" "state" "I", Cond.fieldLink RX4 61 "FourTongues$Machine" "carried" "I", Cond.fieldLink RX4 64 "FourTongues$Machine" "cameOut" "I", Cond.fieldLink RX4 67 "FourTongues$Machine" "answer" "J", Cond.fieldLink RX4 71 "FourTongues$Machine" "programs" "[LFourTongues$Program;", Cond.fieldLink RX4 75 "FourTongues$Machine" "names" "LFourTongues$Names;", Cond.fieldLink RX4 79 "FourTongues$Machine" "borders" "LFourTongues$Borders;", Cond.fieldLink RX4 83 "FourTongues$Machine" "program" "LFourTongues$Program;", Cond.methodLink RX4 11 yX9_init, Cond.instanceMethod yX1_init, Cond.code yX1_init cX1_init 1 none, Cond.methodLink RX1 3 objectInit, Cond.fieldLink RX1 11 "FourTongues$Failures" "facts" "[I", Cond.fieldLink RX1 15 "FourTongues$Failures" "count" "I", Cond.classLink RX1 19 RX9, Cond.fieldLink RX1 24 "FourTongues$Failures" "values" "LFourTongues$Row;", Cond.fieldLink RX1 28 "FourTongues$Failures" "lying" "[I", Cond.fieldLink RX1 31 "FourTongues$Failures" "lyingCount" "I", Cond.methodLink RX1 21 yX9_init, Cond.instanceMethod yX2_init, Cond.code yX2_init cX2_init 1 none, Cond.methodLink RX2 1 objectInit, Cond.fieldLink RX2 9 "FourTongues$Frames" "tongues" "[I", Cond.fieldLink RX2 13 "FourTongues$Frames" "functions" "[I"]
def wsX11_init_r10 : List Cond := [Cond.fieldLink RX2 16 "FourTongues$Frames" "bases" "[I", Cond.fieldLink RX2 19 "FourTongues$Frames" "floors" "[I", Cond.fieldLink RX2 22 "FourTongues$Frames" "tops" "[I", Cond.fieldLink RX2 25 "FourTongues$Frames" "calledAt" "[I", Cond.fieldLink RX2 28 "FourTongues$Frames" "guardBases" "[I", Cond.fieldLink RX2 31 "FourTongues$Frames" "count" "I", Cond.instanceMethod yX3_init, Cond.code yX3_init cX3_init 1 none, Cond.methodLink RX3 1 objectInit, Cond.fieldLink RX3 9 "FourTongues$Guards" "kinds" "[I", Cond.fieldLink RX3 13 "FourTongues$Guards" "targets" "[I", Cond.fieldLink RX3 16 "FourTongues$Guards" "names" "[I", Cond.fieldLink RX3 19 "FourTongues$Guards" "underWay" "[I", Cond.fieldLink RX3 22 "FourTongues$Guards" "failures" "[I", Cond.classLink RX3 25 RX9, Cond.fieldLink RX3 30 "FourTongues$Guards" "answers" "LFourTongues$Row;", Cond.fieldLink RX3 34 "FourTongues$Guards" "count" "I", Cond.methodLink RX3 27 yX9_init]
def wsX11_init : List Cond := .code yX11_init cX11_init 2 none :: ((wsX11_init_r1 ++ (wsX11_init_r2 ++ (wsX11_init_r3 ++ (wsX11_init_r4 ++ (wsX11_init_r5 ++ (wsX11_init_r6 ++ (wsX11_init_r7 ++ (wsX11_init_r8 ++ (wsX11_init_r9 ++ wsX11_init_r10))))))))) ++ wsX110 ++ wsX50 ++ wsX00 ++ wsX80 ++ wsX70 ++ wsX40 ++ wsX90 ++ wsX100 ++ wsX10 ++ wsX20 ++ wsX30)
def wsX11_addBytes : List Cond := .code yX11_addBytes cX11_addBytes 3 none :: ([.fieldLink RX11 13 "FourTongues" "taped" "I", .fieldLink RX11 9 "FourTongues" "tape" "[B"] ++ wsX110)
def wsX11_feed : List Cond := .code yX11_feed cX11_feed 6 (some .int) :: ([.fieldLink RX11 13 "FourTongues" "taped" "I", .methodLink RX11 63 yX11_addBytes, .instanceMethod yX11_addBytes, .selects RX11 yX11_addBytes yX11_addBytes, .initialized RX11, .code yX11_addBytes cX11_addBytes 3 none, .fieldLink RX11 9 "FourTongues" "tape" "[B"] ++ wsX110)
def wsX11_isTongue : List Cond := .code yX11_isTongue cX11_isTongue 1 (some .boolean) :: ([])
def wsX11_fault : List Cond := .code yX11_fault cX11_fault 1 (some .int) :: ([.fieldLink RX11 17 "FourTongues" "faultKind" "I"] ++ wsX110)
def wsX11_look : List Cond := .code yX11_look cX11_look 2 (some .int) :: ([.fieldLink RX11 23 "FourTongues" "names" "LFourTongues$Names;", .fieldLink RX11 59 "FourTongues" "machine" "LFourTongues$Machine;", .methodLink RX11 119 yX5_inAll, .instanceMethod yX5_inAll, .selects RX5 yX5_inAll yX5_inAll, .initialized RX5, .code yX5_inAll cX5_inAll 1 (some .int), .fieldLink RX5 22 "FourTongues$Names" "count" "I", .methodLink RX11 122 yX4_told, .instanceMethod yX4_told, .selects RX4 yX4_told yX4_told, .initialized RX4, .code yX4_told cX4_told 2 (some .int), .fieldLink RX4 47 "FourTongues$Machine" "tally" "[I"] ++ wsX110 ++ wsX50 ++ wsX40)
def wsX11_answer : List Cond := .code yX11_answer cX11_answer 1 (some .long) :: ([.fieldLink RX11 59 "FourTongues" "machine" "LFourTongues$Machine;", .methodLink RX11 126 yX4_answered, .instanceMethod yX4_answered, .selects RX4 yX4_answered yX4_answered, .initialized RX4, .code yX4_answered cX4_answered 1 (some .long), .fieldLink RX4 67 "FourTongues$Machine" "answer" "J"] ++ wsX110 ++ wsX40)
def wsX11_mark_r1 : List Cond := [Cond.fieldLink RX11 59 "FourTongues" "machine" "LFourTongues$Machine;", Cond.methodLink RX11 130 yX4_markOf, Cond.instanceMethod yX4_markOf, Cond.selects RX4 yX4_markOf yX4_markOf, Cond.initialized RX4, Cond.code yX4_markOf cX4_markOf 2 (some .long), Cond.fieldLink RX4 23 "FourTongues$Machine" "marks" "LFourTongues$Row;", Cond.methodLink RX4 87 yX9_kind, Cond.instanceMethod yX9_kind, Cond.selects RX9 yX9_kind yX9_kind, Cond.initialized RX9, Cond.code yX9_kind cX9_kind 2 (some .int), Cond.fieldLink RX9 7 "FourTongues$Row" "count" "I", Cond.fieldLink RX9 19 "FourTongues$Row" "kinds" "[I", Cond.methodLink RX4 91 yX9_real, Cond.instanceMethod yX9_real, Cond.selects RX9 yX9_real yX9_real, Cond.code yX9_real cX9_real 2 (some .double), Cond.fieldLink RX9 27 "FourTongues$Row" "reals" "[D", Cond.methodLink RX4 95 yX6_bits, Cond.static yX6_bits, Cond.initialized RX6, Cond.code yX6_bits cX6_bits 9 (some .long), Cond.constantLong RX6 15 (-9223372036854775808)]
def wsX11_mark_r2 : List Cond := [Cond.constantDouble RX6 55 (4611686018427387904), Cond.constantDouble RX6 57 (4602678819172646912), Cond.constantDouble RX6 59 (4841369599423283200), Cond.constantLong RX6 61 (4503599627370496), Cond.methodLink RX4 101 yX9_whole, Cond.instanceMethod yX9_whole, Cond.selects RX9 yX9_whole yX9_whole, Cond.code yX9_whole cX9_whole 2 (some .long), Cond.fieldLink RX9 23 "FourTongues$Row" "wholes" "[J"]
def wsX11_mark : List Cond := .code yX11_mark cX11_mark 2 (some .long) :: ((wsX11_mark_r1 ++ wsX11_mark_r2) ++ wsX110 ++ wsX40 ++ wsX90)
def wsX11_markTongue : List Cond := .code yX11_markTongue cX11_markTongue 2 (some .int) :: ([.fieldLink RX11 59 "FourTongues" "machine" "LFourTongues$Machine;", .methodLink RX11 134 yX4_tongueOfMark, .instanceMethod yX4_tongueOfMark, .selects RX4 yX4_tongueOfMark yX4_tongueOfMark, .initialized RX4, .code yX4_tongueOfMark cX4_tongueOfMark 2 (some .int), .fieldLink RX4 23 "FourTongues$Machine" "marks" "LFourTongues$Row;", .methodLink RX4 105 yX9_count, .instanceMethod yX9_count, .selects RX9 yX9_count yX9_count, .initialized RX9, .code yX9_count cX9_count 1 (some .int), .fieldLink RX9 7 "FourTongues$Row" "count" "I", .methodLink RX4 87 yX9_kind, .instanceMethod yX9_kind, .selects RX9 yX9_kind yX9_kind, .code yX9_kind cX9_kind 2 (some .int), .fieldLink RX9 19 "FourTongues$Row" "kinds" "[I"] ++ wsX110 ++ wsX40 ++ wsX90)
def wsX11_failure_r1 : List Cond := [Cond.fieldLink RX11 59 "FourTongues" "machine" "LFourTongues$Machine;", Cond.methodLink RX11 137 yX4_factOf, Cond.instanceMethod yX4_factOf, Cond.selects RX4 yX4_factOf yX4_factOf, Cond.initialized RX4, Cond.code yX4_factOf cX4_factOf 3 (some .int), Cond.fieldLink RX4 29 "FourTongues$Machine" "failures" "LFourTongues$Failures;", Cond.fieldLink RX4 64 "FourTongues$Machine" "cameOut" "I", Cond.methodLink RX4 109 yX1_source, Cond.instanceMethod yX1_source, Cond.selects RX1 yX1_source yX1_source, Cond.initialized RX1, Cond.code yX1_source cX1_source 5 (some .int), Cond.methodLink RX1 47 yX1_fact, Cond.instanceMethod yX1_fact, Cond.selects RX1 yX1_fact yX1_fact, Cond.code yX1_fact cX1_fact 3 (some .int), Cond.fieldLink RX1 15 "FourTongues$Failures" "count" "I", Cond.fieldLink RX1 24 "FourTongues$Failures" "values" "LFourTongues$Row;", Cond.fieldLink RX1 11 "FourTongues$Failures" "facts" "[I", Cond.methodLink RX1 43 yX9_kind, Cond.instanceMethod yX9_kind, Cond.selects RX9 yX9_kind yX9_kind, Cond.initialized RX9]
def wsX11_failure_r2 : List Cond := [Cond.code yX9_kind cX9_kind 2 (some .int), Cond.fieldLink RX9 7 "FourTongues$Row" "count" "I", Cond.fieldLink RX9 19 "FourTongues$Row" "kinds" "[I", Cond.methodLink RX4 113 yX1_fact]
def wsX11_failure : List Cond := .code yX11_failure cX11_failure 3 (some .int) :: ((wsX11_failure_r1 ++ wsX11_failure_r2) ++ wsX110 ++ wsX40 ++ wsX10 ++ wsX90)
def wsX11_under_r1 : List Cond := [Cond.fieldLink RX11 59 "FourTongues" "machine" "LFourTongues$Machine;", Cond.methodLink RX11 140 yX4_factUnder, Cond.instanceMethod yX4_factUnder, Cond.selects RX4 yX4_factUnder yX4_factUnder, Cond.initialized RX4, Cond.code yX4_factUnder cX4_factUnder 5 (some .int), Cond.fieldLink RX4 29 "FourTongues$Machine" "failures" "LFourTongues$Failures;", Cond.fieldLink RX4 64 "FourTongues$Machine" "cameOut" "I", Cond.methodLink RX4 109 yX1_source, Cond.instanceMethod yX1_source, Cond.selects RX1 yX1_source yX1_source, Cond.initialized RX1, Cond.code yX1_source cX1_source 5 (some .int), Cond.methodLink RX1 47 yX1_fact, Cond.instanceMethod yX1_fact, Cond.selects RX1 yX1_fact yX1_fact, Cond.code yX1_fact cX1_fact 3 (some .int), Cond.fieldLink RX1 15 "FourTongues$Failures" "count" "I", Cond.fieldLink RX1 24 "FourTongues$Failures" "values" "LFourTongues$Row;", Cond.fieldLink RX1 11 "FourTongues$Failures" "facts" "[I", Cond.methodLink RX1 43 yX9_kind, Cond.instanceMethod yX9_kind, Cond.selects RX9 yX9_kind yX9_kind, Cond.initialized RX9]
def wsX11_under_r2 : List Cond := [Cond.code yX9_kind cX9_kind 2 (some .int), Cond.fieldLink RX9 7 "FourTongues$Row" "count" "I", Cond.fieldLink RX9 19 "FourTongues$Row" "kinds" "[I", Cond.methodLink RX4 116 yX1_lower, Cond.instanceMethod yX1_lower, Cond.selects RX1 yX1_lower yX1_lower, Cond.code yX1_lower cX1_lower 5 (some .int), Cond.fieldLink RX1 31 "FourTongues$Failures" "lyingCount" "I", Cond.fieldLink RX1 28 "FourTongues$Failures" "lying" "[I", Cond.methodLink RX4 113 yX1_fact]
def wsX11_under : List Cond := .code yX11_under cX11_under 4 (some .int) :: ((wsX11_under_r1 ++ wsX11_under_r2) ++ wsX110 ++ wsX40 ++ wsX10 ++ wsX90)
set_option maxRecDepth 20000 in
theorem ggX0_init_J7_fill_53178 : GoodIn wsX0_init wsJ7_fill_53178 := goodIn_r _ [14] (by decide +kernel) (by decide +kernel)
set_option maxRecDepth 20000 in
theorem gX0_init_J7_fill_53178 : GoodIn wsX0_init (va_wsS RX0 31 yJ7_fill_53178 wsJ7_fill_53178) := goodIn_app (goodIn_of _ (by decide +kernel)) ggX0_init_J7_fill_53178
theorem dX0_init_0 : decode cX0_init 0 = .ok (.aload_n 0, 1) := by decide +kernel
theorem dX0_init_1 : decode cX0_init 1 = .ok (.invokespecial 3, 3) := by decide +kernel
theorem dX0_init_4 : decode cX0_init 4 = .ok (.aload_n 0, 1) := by decide +kernel
theorem dX0_init_5 : decode cX0_init 5 = .ok (.bipush 16, 2) := by decide +kernel
theorem dX0_init_7 : decode cX0_init 7 = .ok (.newarray .int, 2) := by decide +kernel
theorem dX0_init_9 : decode cX0_init 9 = .ok (.putfield 9, 3) := by decide +kernel
theorem dX0_init_12 : decode cX0_init 12 = .ok (.aload_n 0, 1) := by decide +kernel
theorem dX0_init_13 : decode cX0_init 13 = .ok (.bipush 16, 2) := by decide +kernel
theorem dX0_init_15 : decode cX0_init 15 = .ok (.newarray .int, 2) := by decide +kernel
theorem dX0_init_17 : decode cX0_init 17 = .ok (.putfield 15, 3) := by decide +kernel
theorem dX0_init_20 : decode cX0_init 20 = .ok (.aload_n 0, 1) := by decide +kernel
theorem dX0_init_21 : decode cX0_init 21 = .ok (.bipush 100, 2) := by decide +kernel
theorem dX0_init_23 : decode cX0_init 23 = .ok (.newarray .int, 2) := by decide +kernel
theorem dX0_init_25 : decode cX0_init 25 = .ok (.putfield 18, 3) := by decide +kernel
theorem dX0_init_28 : decode cX0_init 28 = .ok (.aload_n 0, 1) := by decide +kernel
theorem dX0_init_29 : decode cX0_init 29 = .ok (.bipush 100, 2) := by decide +kernel
theorem dX0_init_31 : decode cX0_init 31 = .ok (.newarray .int, 2) := by decide +kernel
theorem dX0_init_33 : decode cX0_init 33 = .ok (.putfield 21, 3) := by decide +kernel
theorem dX0_init_36 : decode cX0_init 36 = .ok (.aload_n 0, 1) := by decide +kernel
theorem dX0_init_37 : decode cX0_init 37 = .ok (.bipush 100, 2) := by decide +kernel
theorem dX0_init_39 : decode cX0_init 39 = .ok (.newarray .int, 2) := by decide +kernel
theorem dX0_init_41 : decode cX0_init 41 = .ok (.putfield 24, 3) := by decide +kernel
theorem dX0_init_44 : decode cX0_init 44 = .ok (.aload_n 0, 1) := by decide +kernel
theorem dX0_init_45 : decode cX0_init 45 = .ok (.iconst 0, 1) := by decide +kernel
theorem dX0_init_46 : decode cX0_init 46 = .ok (.putfield 27, 3) := by decide +kernel
theorem dX0_init_49 : decode cX0_init 49 = .ok (.aload_n 0, 1) := by decide +kernel
theorem dX0_init_50 : decode cX0_init 50 = .ok (.getfield 15, 3) := by decide +kernel
theorem dX0_init_53 : decode cX0_init 53 = .ok (.bipush 9, 2) := by decide +kernel
theorem dX0_init_55 : decode cX0_init 55 = .ok (.invokestatic 31, 3) := by decide +kernel
theorem dX0_init_58 : decode cX0_init 58 = .ok (.return_, 1) := by decide +kernel
set_option maxRecDepth 20000 in
theorem ggX1_init_X9_init : GoodIn wsX1_init wsX9_init := goodIn_r _ [15, 16, 2, 3, 17, 18, 19, 20, 21, 4, 22, 23, 24, 25, 26, 32, 33, 34, 35] (by decide +kernel) (by decide +kernel)
set_option maxRecDepth 20000 in
theorem gX1_init_X9_init : GoodIn wsX1_init (wsX9_init) := ggX1_init_X9_init
theorem dX1_init_0 : decode cX1_init 0 = .ok (.aload_n 0, 1) := by decide +kernel
theorem dX1_init_1 : decode cX1_init 1 = .ok (.invokespecial 3, 3) := by decide +kernel
theorem dX1_init_4 : decode cX1_init 4 = .ok (.aload_n 0, 1) := by decide +kernel
theorem dX1_init_5 : decode cX1_init 5 = .ok (.sipush 288, 3) := by decide +kernel
theorem dX1_init_8 : decode cX1_init 8 = .ok (.newarray .int, 2) := by decide +kernel
theorem dX1_init_10 : decode cX1_init 10 = .ok (.putfield 11, 3) := by decide +kernel
theorem dX1_init_13 : decode cX1_init 13 = .ok (.aload_n 0, 1) := by decide +kernel
theorem dX1_init_14 : decode cX1_init 14 = .ok (.iconst 0, 1) := by decide +kernel
theorem dX1_init_15 : decode cX1_init 15 = .ok (.putfield 15, 3) := by decide +kernel
theorem dX1_init_18 : decode cX1_init 18 = .ok (.aload_n 0, 1) := by decide +kernel
theorem dX1_init_19 : decode cX1_init 19 = .ok (.new 19, 3) := by decide +kernel
theorem dX1_init_22 : decode cX1_init 22 = .ok (.dup, 1) := by decide +kernel
theorem dX1_init_23 : decode cX1_init 23 = .ok (.bipush 32, 2) := by decide +kernel
theorem dX1_init_25 : decode cX1_init 25 = .ok (.invokespecial 21, 3) := by decide +kernel
theorem dX1_init_28 : decode cX1_init 28 = .ok (.putfield 24, 3) := by decide +kernel
theorem dX1_init_31 : decode cX1_init 31 = .ok (.aload_n 0, 1) := by decide +kernel
theorem dX1_init_32 : decode cX1_init 32 = .ok (.bipush 64, 2) := by decide +kernel
theorem dX1_init_34 : decode cX1_init 34 = .ok (.newarray .int, 2) := by decide +kernel
theorem dX1_init_36 : decode cX1_init 36 = .ok (.putfield 28, 3) := by decide +kernel
theorem dX1_init_39 : decode cX1_init 39 = .ok (.aload_n 0, 1) := by decide +kernel
theorem dX1_init_40 : decode cX1_init 40 = .ok (.iconst 0, 1) := by decide +kernel
theorem dX1_init_41 : decode cX1_init 41 = .ok (.putfield 31, 3) := by decide +kernel
theorem dX1_init_44 : decode cX1_init 44 = .ok (.return_, 1) := by decide +kernel
theorem dX1_fact_0 : decode cX1_fact 0 = .ok (.iload_n 1, 1) := by decide +kernel
theorem dX1_fact_1 : decode cX1_fact 1 = .ok (.ifCond .lt 21, 3) := by decide +kernel
theorem dX1_fact_22 : decode cX1_fact 22 = .ok (.iconst (-1), 1) := by decide +kernel
theorem dX1_fact_23 : decode cX1_fact 23 = .ok (.ireturn, 1) := by decide +kernel
theorem dX1_source_0 : decode cX1_source 0 = .ok (.iload_n 2, 1) := by decide +kernel
theorem dX1_source_1 : decode cX1_source 1 = .ok (.ifCond .ge 7, 3) := by decide +kernel
theorem dX1_source_4 : decode cX1_source 4 = .ok (.iconst (-1), 1) := by decide +kernel
theorem dX1_source_5 : decode cX1_source 5 = .ok (.goto 4, 3) := by decide +kernel
theorem dX1_source_8 : decode cX1_source 8 = .ok (.iload_n 1, 1) := by decide +kernel
theorem dX1_source_9 : decode cX1_source 9 = .ok (.istore_n 3, 1) := by decide +kernel
theorem dX1_source_10 : decode cX1_source 10 = .ok (.iconst 0, 1) := by decide +kernel
theorem dX1_source_11 : decode cX1_source 11 = .ok (.istore 4, 2) := by decide +kernel
theorem dX1_source_13 : decode cX1_source 13 = .ok (.iload 4, 2) := by decide +kernel
theorem dX1_source_15 : decode cX1_source 15 = .ok (.iload_n 2, 1) := by decide +kernel
theorem dX1_source_16 : decode cX1_source 16 = .ok (.if_icmp .ge 21, 3) := by decide +kernel
theorem dX1_source_19 : decode cX1_source 19 = .ok (.iload_n 3, 1) := by decide +kernel
theorem dX1_source_20 : decode cX1_source 20 = .ok (.ifCond .lt 17, 3) := by decide +kernel
theorem dX1_source_37 : decode cX1_source 37 = .ok (.iload_n 3, 1) := by decide +kernel
theorem dX1_source_38 : decode cX1_source 38 = .ok (.ireturn, 1) := by decide +kernel
set_option maxRecDepth 20000 in
theorem ggX1_lower_X1_fact : GoodIn wsX1_lower wsX1_fact := goodIn_r _ [7, 8, 9, 10, 11, 12, 13, 14, 15, 16, 17, 18, 19, 20, 21, 22, 23, 24, 25, 26] (by decide +kernel) (by decide +kernel)
set_option maxRecDepth 20000 in
theorem gX1_lower_X1_fact : GoodIn wsX1_lower (wsV RX1 47 RX1 yX1_fact wsX1_fact) := goodIn_app (goodIn_of _ (by decide +kernel)) ggX1_lower_X1_fact
theorem dX1_lower_0 : decode cX1_lower 0 = .ok (.iload_n 2, 1) := by decide +kernel
theorem dX1_lower_1 : decode cX1_lower 1 = .ok (.ifCond .ge 7, 3) := by decide +kernel
theorem dX1_lower_4 : decode cX1_lower 4 = .ok (.iconst (-1), 1) := by decide +kernel
theorem dX1_lower_5 : decode cX1_lower 5 = .ok (.goto 10, 3) := by decide +kernel
theorem dX1_lower_8 : decode cX1_lower 8 = .ok (.aload_n 0, 1) := by decide +kernel
theorem dX1_lower_9 : decode cX1_lower 9 = .ok (.iload_n 1, 1) := by decide +kernel
theorem dX1_lower_10 : decode cX1_lower 10 = .ok (.bipush 8, 2) := by decide +kernel
theorem dX1_lower_12 : decode cX1_lower 12 = .ok (.invokevirtual 47, 3) := by decide +kernel
theorem dX1_lower_15 : decode cX1_lower 15 = .ok (.istore_n 3, 1) := by decide +kernel
theorem dX1_lower_16 : decode cX1_lower 16 = .ok (.iconst 0, 1) := by decide +kernel
theorem dX1_lower_17 : decode cX1_lower 17 = .ok (.istore 4, 2) := by decide +kernel
theorem dX1_lower_19 : decode cX1_lower 19 = .ok (.iload 4, 2) := by decide +kernel
theorem dX1_lower_21 : decode cX1_lower 21 = .ok (.iload_n 2, 1) := by decide +kernel
theorem dX1_lower_22 : decode cX1_lower 22 = .ok (.if_icmp .ge 32, 3) := by decide +kernel
theorem dX1_lower_25 : decode cX1_lower 25 = .ok (.iload_n 3, 1) := by decide +kernel
theorem dX1_lower_26 : decode cX1_lower 26 = .ok (.ifCond .lt 28, 3) := by decide +kernel
theorem dX1_lower_54 : decode cX1_lower 54 = .ok (.iload_n 3, 1) := by decide +kernel
theorem dX1_lower_55 : decode cX1_lower 55 = .ok (.ifCond .lt 22, 3) := by decide +kernel
theorem dX1_lower_77 : decode cX1_lower 77 = .ok (.iconst (-1), 1) := by decide +kernel
theorem dX1_lower_78 : decode cX1_lower 78 = .ok (.ireturn, 1) := by decide +kernel
theorem dX2_init_0 : decode cX2_init 0 = .ok (.aload_n 0, 1) := by decide +kernel
theorem dX2_init_1 : decode cX2_init 1 = .ok (.invokespecial 1, 3) := by decide +kernel
theorem dX2_init_4 : decode cX2_init 4 = .ok (.aload_n 0, 1) := by decide +kernel
theorem dX2_init_5 : decode cX2_init 5 = .ok (.bipush 24, 2) := by decide +kernel
theorem dX2_init_7 : decode cX2_init 7 = .ok (.newarray .int, 2) := by decide +kernel
theorem dX2_init_9 : decode cX2_init 9 = .ok (.putfield 9, 3) := by decide +kernel
theorem dX2_init_12 : decode cX2_init 12 = .ok (.aload_n 0, 1) := by decide +kernel
theorem dX2_init_13 : decode cX2_init 13 = .ok (.bipush 24, 2) := by decide +kernel
theorem dX2_init_15 : decode cX2_init 15 = .ok (.newarray .int, 2) := by decide +kernel
theorem dX2_init_17 : decode cX2_init 17 = .ok (.putfield 13, 3) := by decide +kernel
theorem dX2_init_20 : decode cX2_init 20 = .ok (.aload_n 0, 1) := by decide +kernel
theorem dX2_init_21 : decode cX2_init 21 = .ok (.bipush 24, 2) := by decide +kernel
theorem dX2_init_23 : decode cX2_init 23 = .ok (.newarray .int, 2) := by decide +kernel
theorem dX2_init_25 : decode cX2_init 25 = .ok (.putfield 16, 3) := by decide +kernel
theorem dX2_init_28 : decode cX2_init 28 = .ok (.aload_n 0, 1) := by decide +kernel
theorem dX2_init_29 : decode cX2_init 29 = .ok (.bipush 24, 2) := by decide +kernel
theorem dX2_init_31 : decode cX2_init 31 = .ok (.newarray .int, 2) := by decide +kernel
theorem dX2_init_33 : decode cX2_init 33 = .ok (.putfield 19, 3) := by decide +kernel
theorem dX2_init_36 : decode cX2_init 36 = .ok (.aload_n 0, 1) := by decide +kernel
theorem dX2_init_37 : decode cX2_init 37 = .ok (.bipush 24, 2) := by decide +kernel
theorem dX2_init_39 : decode cX2_init 39 = .ok (.newarray .int, 2) := by decide +kernel
theorem dX2_init_41 : decode cX2_init 41 = .ok (.putfield 22, 3) := by decide +kernel
theorem dX2_init_44 : decode cX2_init 44 = .ok (.aload_n 0, 1) := by decide +kernel
theorem dX2_init_45 : decode cX2_init 45 = .ok (.bipush 24, 2) := by decide +kernel
theorem dX2_init_47 : decode cX2_init 47 = .ok (.newarray .int, 2) := by decide +kernel
theorem dX2_init_49 : decode cX2_init 49 = .ok (.putfield 25, 3) := by decide +kernel
theorem dX2_init_52 : decode cX2_init 52 = .ok (.aload_n 0, 1) := by decide +kernel
theorem dX2_init_53 : decode cX2_init 53 = .ok (.bipush 24, 2) := by decide +kernel
theorem dX2_init_55 : decode cX2_init 55 = .ok (.newarray .int, 2) := by decide +kernel
theorem dX2_init_57 : decode cX2_init 57 = .ok (.putfield 28, 3) := by decide +kernel
theorem dX2_init_60 : decode cX2_init 60 = .ok (.aload_n 0, 1) := by decide +kernel
theorem dX2_init_61 : decode cX2_init 61 = .ok (.iconst 0, 1) := by decide +kernel
theorem dX2_init_62 : decode cX2_init 62 = .ok (.putfield 31, 3) := by decide +kernel
theorem dX2_init_65 : decode cX2_init 65 = .ok (.return_, 1) := by decide +kernel
set_option maxRecDepth 20000 in
theorem ggX3_init_X9_init : GoodIn wsX3_init wsX9_init := goodIn_r _ [17, 18, 2, 3, 19, 20, 21, 22, 23, 4, 24, 25, 26, 27, 28, 36, 37, 38, 39] (by decide +kernel) (by decide +kernel)
set_option maxRecDepth 20000 in
theorem gX3_init_X9_init : GoodIn wsX3_init (wsX9_init) := ggX3_init_X9_init
theorem dX3_init_0 : decode cX3_init 0 = .ok (.aload_n 0, 1) := by decide +kernel
theorem dX3_init_1 : decode cX3_init 1 = .ok (.invokespecial 1, 3) := by decide +kernel
theorem dX3_init_4 : decode cX3_init 4 = .ok (.aload_n 0, 1) := by decide +kernel
theorem dX3_init_5 : decode cX3_init 5 = .ok (.sipush 400, 3) := by decide +kernel
theorem dX3_init_8 : decode cX3_init 8 = .ok (.newarray .int, 2) := by decide +kernel
theorem dX3_init_10 : decode cX3_init 10 = .ok (.putfield 9, 3) := by decide +kernel
theorem dX3_init_13 : decode cX3_init 13 = .ok (.aload_n 0, 1) := by decide +kernel
theorem dX3_init_14 : decode cX3_init 14 = .ok (.sipush 400, 3) := by decide +kernel
theorem dX3_init_17 : decode cX3_init 17 = .ok (.newarray .int, 2) := by decide +kernel
theorem dX3_init_19 : decode cX3_init 19 = .ok (.putfield 13, 3) := by decide +kernel
theorem dX3_init_22 : decode cX3_init 22 = .ok (.aload_n 0, 1) := by decide +kernel
theorem dX3_init_23 : decode cX3_init 23 = .ok (.sipush 400, 3) := by decide +kernel
theorem dX3_init_26 : decode cX3_init 26 = .ok (.newarray .int, 2) := by decide +kernel
theorem dX3_init_28 : decode cX3_init 28 = .ok (.putfield 16, 3) := by decide +kernel
theorem dX3_init_31 : decode cX3_init 31 = .ok (.aload_n 0, 1) := by decide +kernel
theorem dX3_init_32 : decode cX3_init 32 = .ok (.sipush 400, 3) := by decide +kernel
theorem dX3_init_35 : decode cX3_init 35 = .ok (.newarray .int, 2) := by decide +kernel
theorem dX3_init_37 : decode cX3_init 37 = .ok (.putfield 19, 3) := by decide +kernel
theorem dX3_init_40 : decode cX3_init 40 = .ok (.aload_n 0, 1) := by decide +kernel
theorem dX3_init_41 : decode cX3_init 41 = .ok (.sipush 400, 3) := by decide +kernel
theorem dX3_init_44 : decode cX3_init 44 = .ok (.newarray .int, 2) := by decide +kernel
theorem dX3_init_46 : decode cX3_init 46 = .ok (.putfield 22, 3) := by decide +kernel
theorem dX3_init_49 : decode cX3_init 49 = .ok (.aload_n 0, 1) := by decide +kernel
theorem dX3_init_50 : decode cX3_init 50 = .ok (.new 25, 3) := by decide +kernel
theorem dX3_init_53 : decode cX3_init 53 = .ok (.dup, 1) := by decide +kernel
theorem dX3_init_54 : decode cX3_init 54 = .ok (.bipush 16, 2) := by decide +kernel
theorem dX3_init_56 : decode cX3_init 56 = .ok (.invokespecial 27, 3) := by decide +kernel
theorem dX3_init_59 : decode cX3_init 59 = .ok (.putfield 30, 3) := by decide +kernel
theorem dX3_init_62 : decode cX3_init 62 = .ok (.aload_n 0, 1) := by decide +kernel
theorem dX3_init_63 : decode cX3_init 63 = .ok (.iconst 0, 1) := by decide +kernel
theorem dX3_init_64 : decode cX3_init 64 = .ok (.putfield 34, 3) := by decide +kernel
theorem dX3_init_67 : decode cX3_init 67 = .ok (.return_, 1) := by decide +kernel
set_option maxRecDepth 20000 in
theorem ggX4_init_X9_init : GoodIn wsX4_init wsX9_init := goodIn_r _ [36, 37, 2, 3, 38, 39, 40, 41, 42, 22, 43, 44, 45, 46, 47, 81, 82, 83, 84] (by decide +kernel) (by decide +kernel)
set_option maxRecDepth 20000 in
theorem gX4_init_X9_init : GoodIn wsX4_init (wsX9_init) := ggX4_init_X9_init
set_option maxRecDepth 20000 in
theorem ggX4_init_X1_init : GoodIn wsX4_init wsX1_init := goodIn_r _ [49, 50, 2, 3, 22, 51, 52, 53, 5, 6, 54, 55, 56, 57, 35, 36, 37, 38, 39, 40, 41, 42, 43, 44, 45, 46, 47, 102, 103, 104, 105, 106, 81, 82, 83, 84] (by decide +kernel) (by decide +kernel)
set_option maxRecDepth 20000 in
theorem gX4_init_X1_init_n28 : GoodIn wsX4_init (wsX1_init) := ggX4_init_X1_init
set_option maxRecDepth 20000 in
theorem ggX4_init_X2_init : GoodIn wsX4_init wsX2_init := goodIn_r _ [59, 60, 2, 3, 22, 61, 62, 63, 64, 65, 66, 67, 68, 107, 108, 109, 110, 111, 112, 113, 114] (by decide +kernel) (by decide +kernel)
set_option maxRecDepth 20000 in
theorem gX4_init_X2_init_n35 : GoodIn wsX4_init (wsX2_init) := ggX4_init_X2_init
set_option maxRecDepth 20000 in
theorem ggX4_init_X3_init : GoodIn wsX4_init wsX3_init := goodIn_r _ [70, 71, 2, 3, 22, 72, 73, 74, 75, 76, 77, 5, 6, 78, 79, 80, 35, 36, 37, 38, 39, 40, 41, 42, 43, 44, 45, 46, 47, 115, 116, 117, 118, 119, 120, 121, 81, 82, 83, 84] (by decide +kernel) (by decide +kernel)
set_option maxRecDepth 20000 in
theorem gX4_init_X3_init_n42 : GoodIn wsX4_init (wsX3_init) := ggX4_init_X3_init
theorem dX4_init_0 : decode cX4_init 0 = .ok (.aload_n 0, 1) := by decide +kernel
theorem dX4_init_1 : decode cX4_init 1 = .ok (.invokespecial 3, 3) := by decide +kernel
theorem dX4_init_4 : decode cX4_init 4 = .ok (.aload_n 0, 1) := by decide +kernel
theorem dX4_init_5 : decode cX4_init 5 = .ok (.new 9, 3) := by decide +kernel
theorem dX4_init_8 : decode cX4_init 8 = .ok (.dup, 1) := by decide +kernel
theorem dX4_init_9 : decode cX4_init 9 = .ok (.bipush 64, 2) := by decide +kernel
theorem dX4_init_11 : decode cX4_init 11 = .ok (.invokespecial 11, 3) := by decide +kernel
theorem dX4_init_14 : decode cX4_init 14 = .ok (.putfield 14, 3) := by decide +kernel
theorem dX4_init_17 : decode cX4_init 17 = .ok (.aload_n 0, 1) := by decide +kernel
theorem dX4_init_18 : decode cX4_init 18 = .ok (.new 9, 3) := by decide +kernel
theorem dX4_init_21 : decode cX4_init 21 = .ok (.dup, 1) := by decide +kernel
theorem dX4_init_22 : decode cX4_init 22 = .ok (.bipush 64, 2) := by decide +kernel
theorem dX4_init_24 : decode cX4_init 24 = .ok (.invokespecial 11, 3) := by decide +kernel
theorem dX4_init_27 : decode cX4_init 27 = .ok (.putfield 20, 3) := by decide +kernel
theorem dX4_init_30 : decode cX4_init 30 = .ok (.aload_n 0, 1) := by decide +kernel
theorem dX4_init_31 : decode cX4_init 31 = .ok (.new 9, 3) := by decide +kernel
theorem dX4_init_34 : decode cX4_init 34 = .ok (.dup, 1) := by decide +kernel
theorem dX4_init_35 : decode cX4_init 35 = .ok (.bipush 16, 2) := by decide +kernel
theorem dX4_init_37 : decode cX4_init 37 = .ok (.invokespecial 11, 3) := by decide +kernel
theorem dX4_init_40 : decode cX4_init 40 = .ok (.putfield 23, 3) := by decide +kernel
theorem dX4_init_43 : decode cX4_init 43 = .ok (.aload_n 0, 1) := by decide +kernel
theorem dX4_init_44 : decode cX4_init 44 = .ok (.new 26, 3) := by decide +kernel
theorem dX4_init_47 : decode cX4_init 47 = .ok (.dup, 1) := by decide +kernel
theorem dX4_init_48 : decode cX4_init 48 = .ok (.invokespecial 28, 3) := by decide +kernel
theorem dX4_init_51 : decode cX4_init 51 = .ok (.putfield 29, 3) := by decide +kernel
theorem dX4_init_54 : decode cX4_init 54 = .ok (.aload_n 0, 1) := by decide +kernel
theorem dX4_init_55 : decode cX4_init 55 = .ok (.new 33, 3) := by decide +kernel
theorem dX4_init_58 : decode cX4_init 58 = .ok (.dup, 1) := by decide +kernel
theorem dX4_init_59 : decode cX4_init 59 = .ok (.invokespecial 35, 3) := by decide +kernel
theorem dX4_init_62 : decode cX4_init 62 = .ok (.putfield 36, 3) := by decide +kernel
theorem dX4_init_65 : decode cX4_init 65 = .ok (.aload_n 0, 1) := by decide +kernel
theorem dX4_init_66 : decode cX4_init 66 = .ok (.new 40, 3) := by decide +kernel
theorem dX4_init_69 : decode cX4_init 69 = .ok (.dup, 1) := by decide +kernel
theorem dX4_init_70 : decode cX4_init 70 = .ok (.invokespecial 42, 3) := by decide +kernel
theorem dX4_init_73 : decode cX4_init 73 = .ok (.putfield 43, 3) := by decide +kernel
theorem dX4_init_76 : decode cX4_init 76 = .ok (.aload_n 0, 1) := by decide +kernel
theorem dX4_init_77 : decode cX4_init 77 = .ok (.bipush 10, 2) := by decide +kernel
theorem dX4_init_79 : decode cX4_init 79 = .ok (.newarray .int, 2) := by decide +kernel
theorem dX4_init_81 : decode cX4_init 81 = .ok (.putfield 47, 3) := by decide +kernel
theorem dX4_init_84 : decode cX4_init 84 = .ok (.aload_n 0, 1) := by decide +kernel
theorem dX4_init_85 : decode cX4_init 85 = .ok (.iconst 0, 1) := by decide +kernel
theorem dX4_init_86 : decode cX4_init 86 = .ok (.putfield 51, 3) := by decide +kernel
theorem dX4_init_89 : decode cX4_init 89 = .ok (.aload_n 0, 1) := by decide +kernel
theorem dX4_init_90 : decode cX4_init 90 = .ok (.iconst 0, 1) := by decide +kernel
theorem dX4_init_91 : decode cX4_init 91 = .ok (.putfield 55, 3) := by decide +kernel
theorem dX4_init_94 : decode cX4_init 94 = .ok (.aload_n 0, 1) := by decide +kernel
theorem dX4_init_95 : decode cX4_init 95 = .ok (.iconst 4, 1) := by decide +kernel
theorem dX4_init_96 : decode cX4_init 96 = .ok (.putfield 58, 3) := by decide +kernel
theorem dX4_init_99 : decode cX4_init 99 = .ok (.aload_n 0, 1) := by decide +kernel
theorem dX4_init_100 : decode cX4_init 100 = .ok (.iconst (-1), 1) := by decide +kernel
theorem dX4_init_101 : decode cX4_init 101 = .ok (.putfield 61, 3) := by decide +kernel
theorem dX4_init_104 : decode cX4_init 104 = .ok (.aload_n 0, 1) := by decide +kernel
theorem dX4_init_105 : decode cX4_init 105 = .ok (.iconst (-1), 1) := by decide +kernel
theorem dX4_init_106 : decode cX4_init 106 = .ok (.putfield 64, 3) := by decide +kernel
theorem dX4_init_109 : decode cX4_init 109 = .ok (.aload_n 0, 1) := by decide +kernel
theorem dX4_init_110 : decode cX4_init 110 = .ok (.lconst 0, 1) := by decide +kernel
theorem dX4_init_111 : decode cX4_init 111 = .ok (.putfield 67, 3) := by decide +kernel
theorem dX4_init_114 : decode cX4_init 114 = .ok (.aload_n 0, 1) := by decide +kernel
theorem dX4_init_115 : decode cX4_init 115 = .ok (.aload_n 1, 1) := by decide +kernel
theorem dX4_init_116 : decode cX4_init 116 = .ok (.putfield 71, 3) := by decide +kernel
theorem dX4_init_119 : decode cX4_init 119 = .ok (.aload_n 0, 1) := by decide +kernel
theorem dX4_init_120 : decode cX4_init 120 = .ok (.aload_n 2, 1) := by decide +kernel
theorem dX4_init_121 : decode cX4_init 121 = .ok (.putfield 75, 3) := by decide +kernel
theorem dX4_init_124 : decode cX4_init 124 = .ok (.aload_n 0, 1) := by decide +kernel
theorem dX4_init_125 : decode cX4_init 125 = .ok (.aload_n 3, 1) := by decide +kernel
theorem dX4_init_126 : decode cX4_init 126 = .ok (.putfield 79, 3) := by decide +kernel
theorem dX4_init_129 : decode cX4_init 129 = .ok (.aload_n 0, 1) := by decide +kernel
theorem dX4_init_130 : decode cX4_init 130 = .ok (.aload 4, 2) := by decide +kernel
theorem dX4_init_132 : decode cX4_init 132 = .ok (.putfield 83, 3) := by decide +kernel
theorem dX4_init_135 : decode cX4_init 135 = .ok (.return_, 1) := by decide +kernel
theorem dX4_told_0 : decode cX4_told 0 = .ok (.iload_n 1, 1) := by decide +kernel
theorem dX4_told_1 : decode cX4_told 1 = .ok (.ifCond .lt 18, 3) := by decide +kernel
theorem dX4_told_4 : decode cX4_told 4 = .ok (.iload_n 1, 1) := by decide +kernel
theorem dX4_told_5 : decode cX4_told 5 = .ok (.bipush 10, 2) := by decide +kernel
theorem dX4_told_7 : decode cX4_told 7 = .ok (.if_icmp .ge 12, 3) := by decide +kernel
theorem dX4_told_10 : decode cX4_told 10 = .ok (.aload_n 0, 1) := by decide +kernel
theorem dX4_told_11 : decode cX4_told 11 = .ok (.getfield 47, 3) := by decide +kernel
theorem dX4_told_14 : decode cX4_told 14 = .ok (.iload_n 1, 1) := by decide +kernel
theorem dX4_told_15 : decode cX4_told 15 = .ok (.iaload, 1) := by decide +kernel
theorem dX4_told_16 : decode cX4_told 16 = .ok (.goto 4, 3) := by decide +kernel
theorem dX4_told_19 : decode cX4_told 19 = .ok (.iconst (-1), 1) := by decide +kernel
theorem dX4_told_20 : decode cX4_told 20 = .ok (.ireturn, 1) := by decide +kernel
theorem dX4_answered_0 : decode cX4_answered 0 = .ok (.aload_n 0, 1) := by decide +kernel
theorem dX4_answered_1 : decode cX4_answered 1 = .ok (.getfield 67, 3) := by decide +kernel
theorem dX4_answered_4 : decode cX4_answered 4 = .ok (.lreturn, 1) := by decide +kernel
set_option maxRecDepth 20000 in
theorem ggX4_markOf_X9_kind : GoodIn wsX4_markOf wsX9_kind := goodIn_r _ [6, 7, 8, 45, 46, 47, 48] (by decide +kernel) (by decide +kernel)
set_option maxRecDepth 20000 in
theorem gX4_markOf_X9_kind : GoodIn wsX4_markOf (wsV RX4 87 RX9 yX9_kind wsX9_kind) := goodIn_app (goodIn_of _ (by decide +kernel)) ggX4_markOf_X9_kind
set_option maxRecDepth 20000 in
theorem ggX4_markOf_X9_whole : GoodIn wsX4_markOf wsX9_whole := goodIn_r _ [26, 7, 27, 45, 46, 47, 48] (by decide +kernel) (by decide +kernel)
set_option maxRecDepth 20000 in
theorem gX4_markOf_X9_whole : GoodIn wsX4_markOf (wsV RX4 101 RX9 yX9_whole wsX9_whole) := goodIn_app (goodIn_of _ (by decide +kernel)) ggX4_markOf_X9_whole
theorem dX4_markOf_0 : decode cX4_markOf 0 = .ok (.aload_n 0, 1) := by decide +kernel
theorem dX4_markOf_1 : decode cX4_markOf 1 = .ok (.getfield 23, 3) := by decide +kernel
theorem dX4_markOf_4 : decode cX4_markOf 4 = .ok (.iload_n 1, 1) := by decide +kernel
theorem dX4_markOf_5 : decode cX4_markOf 5 = .ok (.invokevirtual 87, 3) := by decide +kernel
theorem dX4_markOf_8 : decode cX4_markOf 8 = .ok (.iconst 3, 1) := by decide +kernel
theorem dX4_markOf_9 : decode cX4_markOf 9 = .ok (.if_icmp .ne 17, 3) := by decide +kernel
theorem dX4_markOf_26 : decode cX4_markOf 26 = .ok (.aload_n 0, 1) := by decide +kernel
theorem dX4_markOf_27 : decode cX4_markOf 27 = .ok (.getfield 23, 3) := by decide +kernel
theorem dX4_markOf_30 : decode cX4_markOf 30 = .ok (.iload_n 1, 1) := by decide +kernel
theorem dX4_markOf_31 : decode cX4_markOf 31 = .ok (.invokevirtual 101, 3) := by decide +kernel
theorem dX4_markOf_34 : decode cX4_markOf 34 = .ok (.lreturn, 1) := by decide +kernel
set_option maxRecDepth 20000 in
theorem ggX4_tongueOfMark_X9_count : GoodIn wsX4_tongueOfMark wsX9_count := goodIn_r _ [6, 7, 30, 31, 32, 33] (by decide +kernel) (by decide +kernel)
set_option maxRecDepth 20000 in
theorem gX4_tongueOfMark_X9_count : GoodIn wsX4_tongueOfMark (wsV RX4 105 RX9 yX9_count wsX9_count) := goodIn_app (goodIn_of _ (by decide +kernel)) ggX4_tongueOfMark_X9_count
theorem dX4_tongueOfMark_0 : decode cX4_tongueOfMark 0 = .ok (.iload_n 1, 1) := by decide +kernel
theorem dX4_tongueOfMark_1 : decode cX4_tongueOfMark 1 = .ok (.ifCond .lt 25, 3) := by decide +kernel
theorem dX4_tongueOfMark_4 : decode cX4_tongueOfMark 4 = .ok (.iload_n 1, 1) := by decide +kernel
theorem dX4_tongueOfMark_5 : decode cX4_tongueOfMark 5 = .ok (.aload_n 0, 1) := by decide +kernel
theorem dX4_tongueOfMark_6 : decode cX4_tongueOfMark 6 = .ok (.getfield 23, 3) := by decide +kernel
theorem dX4_tongueOfMark_9 : decode cX4_tongueOfMark 9 = .ok (.invokevirtual 105, 3) := by decide +kernel
theorem dX4_tongueOfMark_12 : decode cX4_tongueOfMark 12 = .ok (.if_icmp .ge 14, 3) := by decide +kernel
theorem dX4_tongueOfMark_26 : decode cX4_tongueOfMark 26 = .ok (.iconst (-1), 1) := by decide +kernel
theorem dX4_tongueOfMark_27 : decode cX4_tongueOfMark 27 = .ok (.ireturn, 1) := by decide +kernel
set_option maxRecDepth 20000 in
theorem ggX4_factOf_X1_source : GoodIn wsX4_factOf wsX1_source := goodIn_r _ [7, 8, 9, 10, 6, 11, 12, 13, 14, 15, 16, 17, 18, 19, 20, 21, 40, 41, 42, 43, 44, 45, 46, 47, 48] (by decide +kernel) (by decide +kernel)
set_option maxRecDepth 20000 in
theorem gX4_factOf_X1_source : GoodIn wsX4_factOf (wsV RX4 109 RX1 yX1_source wsX1_source) := goodIn_app (goodIn_of _ (by decide +kernel)) ggX4_factOf_X1_source
set_option maxRecDepth 20000 in
theorem ggX4_factOf_X1_fact : GoodIn wsX4_factOf wsX1_fact := goodIn_r _ [11, 12, 13, 14, 15, 16, 17, 18, 19, 20, 21, 40, 41, 42, 43, 44, 45, 46, 47, 48] (by decide +kernel) (by decide +kernel)
set_option maxRecDepth 20000 in
theorem gX4_factOf_X1_fact : GoodIn wsX4_factOf (wsV RX4 113 RX1 yX1_fact wsX1_fact) := goodIn_app (goodIn_of _ (by decide +kernel)) ggX4_factOf_X1_fact
theorem dX4_factOf_0 : decode cX4_factOf 0 = .ok (.iload_n 2, 1) := by decide +kernel
theorem dX4_factOf_1 : decode cX4_factOf 1 = .ok (.bipush 6, 2) := by decide +kernel
theorem dX4_factOf_3 : decode cX4_factOf 3 = .ok (.if_icmp .le 7, 3) := by decide +kernel
theorem dX4_factOf_6 : decode cX4_factOf 6 = .ok (.iconst (-1), 1) := by decide +kernel
theorem dX4_factOf_7 : decode cX4_factOf 7 = .ok (.goto 23, 3) := by decide +kernel
theorem dX4_factOf_10 : decode cX4_factOf 10 = .ok (.aload_n 0, 1) := by decide +kernel
theorem dX4_factOf_11 : decode cX4_factOf 11 = .ok (.getfield 29, 3) := by decide +kernel
theorem dX4_factOf_14 : decode cX4_factOf 14 = .ok (.aload_n 0, 1) := by decide +kernel
theorem dX4_factOf_15 : decode cX4_factOf 15 = .ok (.getfield 29, 3) := by decide +kernel
theorem dX4_factOf_18 : decode cX4_factOf 18 = .ok (.aload_n 0, 1) := by decide +kernel
theorem dX4_factOf_19 : decode cX4_factOf 19 = .ok (.getfield 64, 3) := by decide +kernel
theorem dX4_factOf_22 : decode cX4_factOf 22 = .ok (.iload_n 1, 1) := by decide +kernel
theorem dX4_factOf_23 : decode cX4_factOf 23 = .ok (.invokevirtual 109, 3) := by decide +kernel
theorem dX4_factOf_26 : decode cX4_factOf 26 = .ok (.iload_n 2, 1) := by decide +kernel
theorem dX4_factOf_27 : decode cX4_factOf 27 = .ok (.invokevirtual 113, 3) := by decide +kernel
theorem dX4_factOf_30 : decode cX4_factOf 30 = .ok (.ireturn, 1) := by decide +kernel
set_option maxRecDepth 20000 in
theorem ggX4_factUnder_X1_source : GoodIn wsX4_factUnder wsX1_source := goodIn_r _ [7, 8, 9, 10, 6, 11, 12, 13, 14, 15, 16, 17, 18, 19, 20, 21, 46, 47, 48, 49, 50, 51, 52, 53, 54] (by decide +kernel) (by decide +kernel)
set_option maxRecDepth 20000 in
theorem gX4_factUnder_X1_source : GoodIn wsX4_factUnder (wsV RX4 109 RX1 yX1_source wsX1_source) := goodIn_app (goodIn_of _ (by decide +kernel)) ggX4_factUnder_X1_source
set_option maxRecDepth 20000 in
theorem ggX4_factUnder_X1_lower : GoodIn wsX4_factUnder wsX1_lower := goodIn_r _ [25, 26, 27, 8, 9, 10, 6, 11, 12, 13, 14, 15, 16, 17, 18, 19, 20, 21, 46, 47, 48, 49, 50, 51, 52, 53, 54] (by decide +kernel) (by decide +kernel)
set_option maxRecDepth 20000 in
theorem gX4_factUnder_X1_lower : GoodIn wsX4_factUnder (wsV RX4 116 RX1 yX1_lower wsX1_lower) := goodIn_app (goodIn_of _ (by decide +kernel)) ggX4_factUnder_X1_lower
set_option maxRecDepth 20000 in
theorem ggX4_factUnder_X1_fact : GoodIn wsX4_factUnder wsX1_fact := goodIn_r _ [11, 12, 13, 14, 15, 16, 17, 18, 19, 20, 21, 46, 47, 48, 49, 50, 51, 52, 53, 54] (by decide +kernel) (by decide +kernel)
set_option maxRecDepth 20000 in
theorem gX4_factUnder_X1_fact : GoodIn wsX4_factUnder (wsV RX4 113 RX1 yX1_fact wsX1_fact) := goodIn_app (goodIn_of _ (by decide +kernel)) ggX4_factUnder_X1_fact
theorem dX4_factUnder_0 : decode cX4_factUnder 0 = .ok (.aload_n 0, 1) := by decide +kernel
theorem dX4_factUnder_1 : decode cX4_factUnder 1 = .ok (.getfield 29, 3) := by decide +kernel
theorem dX4_factUnder_4 : decode cX4_factUnder 4 = .ok (.aload_n 0, 1) := by decide +kernel
theorem dX4_factUnder_5 : decode cX4_factUnder 5 = .ok (.getfield 29, 3) := by decide +kernel
theorem dX4_factUnder_8 : decode cX4_factUnder 8 = .ok (.aload_n 0, 1) := by decide +kernel
theorem dX4_factUnder_9 : decode cX4_factUnder 9 = .ok (.getfield 64, 3) := by decide +kernel
theorem dX4_factUnder_12 : decode cX4_factUnder 12 = .ok (.iload_n 1, 1) := by decide +kernel
theorem dX4_factUnder_13 : decode cX4_factUnder 13 = .ok (.invokevirtual 109, 3) := by decide +kernel
theorem dX4_factUnder_16 : decode cX4_factUnder 16 = .ok (.iload_n 2, 1) := by decide +kernel
theorem dX4_factUnder_17 : decode cX4_factUnder 17 = .ok (.invokevirtual 116, 3) := by decide +kernel
theorem dX4_factUnder_20 : decode cX4_factUnder 20 = .ok (.istore 4, 2) := by decide +kernel
theorem dX4_factUnder_22 : decode cX4_factUnder 22 = .ok (.iload_n 3, 1) := by decide +kernel
theorem dX4_factUnder_23 : decode cX4_factUnder 23 = .ok (.bipush 6, 2) := by decide +kernel
theorem dX4_factUnder_25 : decode cX4_factUnder 25 = .ok (.if_icmp .le 7, 3) := by decide +kernel
theorem dX4_factUnder_28 : decode cX4_factUnder 28 = .ok (.iconst (-1), 1) := by decide +kernel
theorem dX4_factUnder_29 : decode cX4_factUnder 29 = .ok (.goto 13, 3) := by decide +kernel
theorem dX4_factUnder_32 : decode cX4_factUnder 32 = .ok (.aload_n 0, 1) := by decide +kernel
theorem dX4_factUnder_33 : decode cX4_factUnder 33 = .ok (.getfield 29, 3) := by decide +kernel
theorem dX4_factUnder_36 : decode cX4_factUnder 36 = .ok (.iload 4, 2) := by decide +kernel
theorem dX4_factUnder_38 : decode cX4_factUnder 38 = .ok (.iload_n 3, 1) := by decide +kernel
theorem dX4_factUnder_39 : decode cX4_factUnder 39 = .ok (.invokevirtual 113, 3) := by decide +kernel
theorem dX4_factUnder_42 : decode cX4_factUnder 42 = .ok (.ireturn, 1) := by decide +kernel
set_option maxRecDepth 20000 in
theorem ggX5_init_J0_length_8abf5 : GoodIn wsX5_init wsJ0_length_8abf5 := goodIn_r _ [15, 16, 17, 18, 19, 14, 20, 21, 22] (by decide +kernel) (by decide +kernel)
set_option maxRecDepth 20000 in
theorem gX5_init_J0_length_8abf5 : GoodIn wsX5_init (wsV RX5 31 RJ0 yJ0_length_8abf5 wsJ0_length_8abf5) := goodIn_app (goodIn_of _ (by decide +kernel)) ggX5_init_J0_length_8abf5
set_option maxRecDepth 20000 in
theorem ggX5_init_J0_charAt_5068e : GoodIn wsX5_init wsJ0_charAt_5068e := goodIn_r _ [26, 16, 27, 28, 29, 14, 30, 21, 22, 31, 32, 33, 34, 35, 36, 37, 38, 39, 40, 41, 42, 43, 44, 45, 46, 47, 48, 49, 50, 51, 52, 53, 54, 55, 56, 57, 58, 59] (by decide +kernel) (by decide +kernel)
set_option maxRecDepth 20000 in
theorem gX5_init_J0_charAt_5068e : GoodIn wsX5_init (wsV RX5 37 RJ0 yJ0_charAt_5068e wsJ0_charAt_5068e) := goodIn_app (goodIn_of _ (by decide +kernel)) ggX5_init_J0_charAt_5068e
theorem dX5_init_0 : decode cX5_init 0 = .ok (.aload_n 0, 1) := by decide +kernel
theorem dX5_init_1 : decode cX5_init 1 = .ok (.invokespecial 3, 3) := by decide +kernel
theorem dX5_init_4 : decode cX5_init 4 = .ok (.aload_n 0, 1) := by decide +kernel
theorem dX5_init_5 : decode cX5_init 5 = .ok (.bipush 52, 2) := by decide +kernel
theorem dX5_init_7 : decode cX5_init 7 = .ok (.newarray .long, 2) := by decide +kernel
theorem dX5_init_9 : decode cX5_init 9 = .ok (.putfield 11, 3) := by decide +kernel
theorem dX5_init_12 : decode cX5_init 12 = .ok (.aload_n 0, 1) := by decide +kernel
theorem dX5_init_13 : decode cX5_init 13 = .ok (.bipush 52, 2) := by decide +kernel
theorem dX5_init_15 : decode cX5_init 15 = .ok (.newarray .int, 2) := by decide +kernel
theorem dX5_init_17 : decode cX5_init 17 = .ok (.putfield 15, 3) := by decide +kernel
theorem dX5_init_20 : decode cX5_init 20 = .ok (.aload_n 0, 1) := by decide +kernel
theorem dX5_init_21 : decode cX5_init 21 = .ok (.bipush 52, 2) := by decide +kernel
theorem dX5_init_23 : decode cX5_init 23 = .ok (.newarray .int, 2) := by decide +kernel
theorem dX5_init_25 : decode cX5_init 25 = .ok (.putfield 19, 3) := by decide +kernel
theorem dX5_init_28 : decode cX5_init 28 = .ok (.aload_n 0, 1) := by decide +kernel
theorem dX5_init_29 : decode cX5_init 29 = .ok (.iconst 0, 1) := by decide +kernel
theorem dX5_init_30 : decode cX5_init 30 = .ok (.putfield 22, 3) := by decide +kernel
theorem dX5_init_33 : decode cX5_init 33 = .ok (.aload_n 0, 1) := by decide +kernel
theorem dX5_init_34 : decode cX5_init 34 = .ok (.iconst 0, 1) := by decide +kernel
theorem dX5_init_35 : decode cX5_init 35 = .ok (.putfield 26, 3) := by decide +kernel
theorem dX5_init_38 : decode cX5_init 38 = .ok (.lconst 0, 1) := by decide +kernel
theorem dX5_init_39 : decode cX5_init 39 = .ok (.lstore_n 1, 1) := by decide +kernel
theorem dX5_init_40 : decode cX5_init 40 = .ok (.iconst 0, 1) := by decide +kernel
theorem dX5_init_41 : decode cX5_init 41 = .ok (.istore_n 3, 1) := by decide +kernel
theorem dX5_init_42 : decode cX5_init 42 = .ok (.iload_n 3, 1) := by decide +kernel
theorem dX5_init_43 : decode cX5_init 43 = .ok (.ldc 29, 2) := by decide +kernel
theorem dX5_init_45 : decode cX5_init 45 = .ok (.invokevirtual 31, 3) := by decide +kernel
theorem dX5_init_48 : decode cX5_init 48 = .ok (.if_icmp .ge 92, 3) := by decide +kernel
theorem dX5_init_51 : decode cX5_init 51 = .ok (.ldc 29, 2) := by decide +kernel
theorem dX5_init_53 : decode cX5_init 53 = .ok (.iload_n 3, 1) := by decide +kernel
theorem dX5_init_54 : decode cX5_init 54 = .ok (.invokevirtual 37, 3) := by decide +kernel
theorem dX5_init_57 : decode cX5_init 57 = .ok (.istore 4, 2) := by decide +kernel
theorem dX5_init_59 : decode cX5_init 59 = .ok (.iload 4, 2) := by decide +kernel
theorem dX5_init_61 : decode cX5_init 61 = .ok (.bipush 32, 2) := by decide +kernel
theorem dX5_init_63 : decode cX5_init 63 = .ok (.if_icmp .ne 62, 3) := by decide +kernel
theorem dX5_init_66 : decode cX5_init 66 = .ok (.aload_n 0, 1) := by decide +kernel
theorem dX5_init_67 : decode cX5_init 67 = .ok (.getfield 22, 3) := by decide +kernel
theorem dX5_init_70 : decode cX5_init 70 = .ok (.bipush 51, 2) := by decide +kernel
theorem dX5_init_72 : decode cX5_init 72 = .ok (.if_icmp .ge 53, 3) := by decide +kernel
theorem dX5_init_75 : decode cX5_init 75 = .ok (.aload_n 0, 1) := by decide +kernel
theorem dX5_init_76 : decode cX5_init 76 = .ok (.dup, 1) := by decide +kernel
theorem dX5_init_77 : decode cX5_init 77 = .ok (.getfield 22, 3) := by decide +kernel
theorem dX5_init_80 : decode cX5_init 80 = .ok (.iconst 1, 1) := by decide +kernel
theorem dX5_init_81 : decode cX5_init 81 = .ok (.iadd, 1) := by decide +kernel
theorem dX5_init_82 : decode cX5_init 82 = .ok (.putfield 22, 3) := by decide +kernel
theorem dX5_init_85 : decode cX5_init 85 = .ok (.aload_n 0, 1) := by decide +kernel
theorem dX5_init_86 : decode cX5_init 86 = .ok (.getfield 11, 3) := by decide +kernel
theorem dX5_init_89 : decode cX5_init 89 = .ok (.aload_n 0, 1) := by decide +kernel
theorem dX5_init_90 : decode cX5_init 90 = .ok (.getfield 22, 3) := by decide +kernel
theorem dX5_init_93 : decode cX5_init 93 = .ok (.lload_n 1, 1) := by decide +kernel
theorem dX5_init_94 : decode cX5_init 94 = .ok (.lastore, 1) := by decide +kernel
theorem dX5_init_95 : decode cX5_init 95 = .ok (.aload_n 0, 1) := by decide +kernel
theorem dX5_init_96 : decode cX5_init 96 = .ok (.getfield 15, 3) := by decide +kernel
theorem dX5_init_99 : decode cX5_init 99 = .ok (.aload_n 0, 1) := by decide +kernel
theorem dX5_init_100 : decode cX5_init 100 = .ok (.getfield 22, 3) := by decide +kernel
theorem dX5_init_103 : decode cX5_init 103 = .ok (.aload_n 0, 1) := by decide +kernel
theorem dX5_init_104 : decode cX5_init 104 = .ok (.getfield 22, 3) := by decide +kernel
theorem dX5_init_107 : decode cX5_init 107 = .ok (.bipush 7, 2) := by decide +kernel
theorem dX5_init_109 : decode cX5_init 109 = .ok (.if_icmp .gt 8, 3) := by decide +kernel
theorem dX5_init_112 : decode cX5_init 112 = .ok (.bipush 11, 2) := by decide +kernel
theorem dX5_init_114 : decode cX5_init 114 = .ok (.goto 5, 3) := by decide +kernel
theorem dX5_init_117 : decode cX5_init 117 = .ok (.bipush 10, 2) := by decide +kernel
theorem dX5_init_119 : decode cX5_init 119 = .ok (.iastore, 1) := by decide +kernel
theorem dX5_init_120 : decode cX5_init 120 = .ok (.lconst 0, 1) := by decide +kernel
theorem dX5_init_121 : decode cX5_init 121 = .ok (.lstore_n 1, 1) := by decide +kernel
theorem dX5_init_122 : decode cX5_init 122 = .ok (.goto 12, 3) := by decide +kernel
theorem dX5_init_125 : decode cX5_init 125 = .ok (.lload_n 1, 1) := by decide +kernel
theorem dX5_init_126 : decode cX5_init 126 = .ok (.bipush 8, 2) := by decide +kernel
theorem dX5_init_128 : decode cX5_init 128 = .ok (.lshl, 1) := by decide +kernel
theorem dX5_init_129 : decode cX5_init 129 = .ok (.iload 4, 2) := by decide +kernel
theorem dX5_init_131 : decode cX5_init 131 = .ok (.i2l, 1) := by decide +kernel
theorem dX5_init_132 : decode cX5_init 132 = .ok (.lor, 1) := by decide +kernel
theorem dX5_init_133 : decode cX5_init 133 = .ok (.lstore_n 1, 1) := by decide +kernel
theorem dX5_init_134 : decode cX5_init 134 = .ok (.iinc 3 1, 3) := by decide +kernel
theorem dX5_init_137 : decode cX5_init 137 = .ok (.goto (-95), 3) := by decide +kernel
theorem dX5_init_140 : decode cX5_init 140 = .ok (.aload_n 0, 1) := by decide +kernel
theorem dX5_init_141 : decode cX5_init 141 = .ok (.getfield 15, 3) := by decide +kernel
theorem dX5_init_144 : decode cX5_init 144 = .ok (.bipush 10, 2) := by decide +kernel
theorem dX5_init_146 : decode cX5_init 146 = .ok (.iconst 0, 1) := by decide +kernel
theorem dX5_init_147 : decode cX5_init 147 = .ok (.iastore, 1) := by decide +kernel
theorem dX5_init_148 : decode cX5_init 148 = .ok (.return_, 1) := by decide +kernel
theorem dX5_inAll_0 : decode cX5_inAll 0 = .ok (.aload_n 0, 1) := by decide +kernel
theorem dX5_inAll_1 : decode cX5_inAll 1 = .ok (.getfield 22, 3) := by decide +kernel
theorem dX5_inAll_4 : decode cX5_inAll 4 = .ok (.ireturn, 1) := by decide +kernel
set_option maxRecDepth 20000 in
theorem ggX7_init_X10_init : GoodIn wsX7_init wsX10_init := goodIn_r _ [22, 23, 2, 3, 6, 24, 4, 25, 26, 27, 28, 29, 30, 31, 32, 33, 34, 35, 36, 37, 38, 39, 40, 41, 42, 43, 44, 45, 46, 47, 48, 49, 50, 51, 52, 53, 54, 55, 56, 57, 58, 59, 60, 61, 62, 63, 64, 65, 66, 67, 68, 69, 70, 71, 72, 73, 74, 75, 76, 77, 78, 79, 80, 81, 82, 83, 84, 85, 86, 87, 88, 89, 101, 102, 103, 104, 105, 106, 107, 108, 109, 110, 111, 112, 113, 114, 115, 116] (by decide +kernel) (by decide +kernel)
set_option maxRecDepth 20000 in
theorem gX7_init_X10_init : GoodIn wsX7_init (wsX10_init) := ggX7_init_X10_init
theorem dX7_init_0 : decode cX7_init 0 = .ok (.aload_n 0, 1) := by decide +kernel
theorem dX7_init_1 : decode cX7_init 1 = .ok (.invokespecial 3, 3) := by decide +kernel
theorem dX7_init_4 : decode cX7_init 4 = .ok (.aload_n 0, 1) := by decide +kernel
theorem dX7_init_5 : decode cX7_init 5 = .ok (.iconst 4, 1) := by decide +kernel
theorem dX7_init_6 : decode cX7_init 6 = .ok (.newarray .int, 2) := by decide +kernel
theorem dX7_init_8 : decode cX7_init 8 = .ok (.putfield 9, 3) := by decide +kernel
theorem dX7_init_11 : decode cX7_init 11 = .ok (.aload_n 0, 1) := by decide +kernel
theorem dX7_init_12 : decode cX7_init 12 = .ok (.sipush 1000, 3) := by decide +kernel
theorem dX7_init_15 : decode cX7_init 15 = .ok (.newarray .long, 2) := by decide +kernel
theorem dX7_init_17 : decode cX7_init 17 = .ok (.putfield 15, 3) := by decide +kernel
theorem dX7_init_20 : decode cX7_init 20 = .ok (.aload_n 0, 1) := by decide +kernel
theorem dX7_init_21 : decode cX7_init 21 = .ok (.iconst 0, 1) := by decide +kernel
theorem dX7_init_22 : decode cX7_init 22 = .ok (.putfield 19, 3) := by decide +kernel
theorem dX7_init_25 : decode cX7_init 25 = .ok (.aload_n 0, 1) := by decide +kernel
theorem dX7_init_26 : decode cX7_init 26 = .ok (.iconst 0, 1) := by decide +kernel
theorem dX7_init_27 : decode cX7_init 27 = .ok (.putfield 23, 3) := by decide +kernel
theorem dX7_init_30 : decode cX7_init 30 = .ok (.aload_n 0, 1) := by decide +kernel
theorem dX7_init_31 : decode cX7_init 31 = .ok (.iconst 0, 1) := by decide +kernel
theorem dX7_init_32 : decode cX7_init 32 = .ok (.putfield 26, 3) := by decide +kernel
theorem dX7_init_35 : decode cX7_init 35 = .ok (.aload_n 0, 1) := by decide +kernel
theorem dX7_init_36 : decode cX7_init 36 = .ok (.iconst 0, 1) := by decide +kernel
theorem dX7_init_37 : decode cX7_init 37 = .ok (.putfield 29, 3) := by decide +kernel
theorem dX7_init_40 : decode cX7_init 40 = .ok (.aload_n 0, 1) := by decide +kernel
theorem dX7_init_41 : decode cX7_init 41 = .ok (.iconst 0, 1) := by decide +kernel
theorem dX7_init_42 : decode cX7_init 42 = .ok (.putfield 32, 3) := by decide +kernel
theorem dX7_init_45 : decode cX7_init 45 = .ok (.aload_n 0, 1) := by decide +kernel
theorem dX7_init_46 : decode cX7_init 46 = .ok (.iconst 0, 1) := by decide +kernel
theorem dX7_init_47 : decode cX7_init 47 = .ok (.putfield 35, 3) := by decide +kernel
theorem dX7_init_50 : decode cX7_init 50 = .ok (.aload_n 0, 1) := by decide +kernel
theorem dX7_init_51 : decode cX7_init 51 = .ok (.new 38, 3) := by decide +kernel
theorem dX7_init_54 : decode cX7_init 54 = .ok (.dup, 1) := by decide +kernel
theorem dX7_init_55 : decode cX7_init 55 = .ok (.aload_n 1, 1) := by decide +kernel
theorem dX7_init_56 : decode cX7_init 56 = .ok (.invokespecial 40, 3) := by decide +kernel
theorem dX7_init_59 : decode cX7_init 59 = .ok (.putfield 43, 3) := by decide +kernel
theorem dX7_init_62 : decode cX7_init 62 = .ok (.aload_n 0, 1) := by decide +kernel
theorem dX7_init_63 : decode cX7_init 63 = .ok (.aload_n 2, 1) := by decide +kernel
theorem dX7_init_64 : decode cX7_init 64 = .ok (.putfield 47, 3) := by decide +kernel
theorem dX7_init_67 : decode cX7_init 67 = .ok (.aload_n 0, 1) := by decide +kernel
theorem dX7_init_68 : decode cX7_init 68 = .ok (.aload_n 3, 1) := by decide +kernel
theorem dX7_init_69 : decode cX7_init 69 = .ok (.putfield 51, 3) := by decide +kernel
theorem dX7_init_72 : decode cX7_init 72 = .ok (.return_, 1) := by decide +kernel
set_option maxRecDepth 20000 in
theorem ggX8_init_X9_init : GoodIn wsX8_init wsX9_init := goodIn_r _ [19, 20, 2, 3, 21, 22, 23, 24, 25, 4, 26, 11, 27, 28, 29, 38, 39, 40, 41] (by decide +kernel) (by decide +kernel)
set_option maxRecDepth 20000 in
theorem gX8_init_X9_init : GoodIn wsX8_init (wsX9_init) := ggX8_init_X9_init
theorem dX8_init_0 : decode cX8_init 0 = .ok (.aload_n 0, 1) := by decide +kernel
theorem dX8_init_1 : decode cX8_init 1 = .ok (.invokespecial 1, 3) := by decide +kernel
theorem dX8_init_4 : decode cX8_init 4 = .ok (.aload_n 0, 1) := by decide +kernel
theorem dX8_init_5 : decode cX8_init 5 = .ok (.sipush 1024, 3) := by decide +kernel
theorem dX8_init_8 : decode cX8_init 8 = .ok (.newarray .int, 2) := by decide +kernel
theorem dX8_init_10 : decode cX8_init 10 = .ok (.putfield 7, 3) := by decide +kernel
theorem dX8_init_13 : decode cX8_init 13 = .ok (.aload_n 0, 1) := by decide +kernel
theorem dX8_init_14 : decode cX8_init 14 = .ok (.iconst 0, 1) := by decide +kernel
theorem dX8_init_15 : decode cX8_init 15 = .ok (.putfield 13, 3) := by decide +kernel
theorem dX8_init_18 : decode cX8_init 18 = .ok (.aload_n 0, 1) := by decide +kernel
theorem dX8_init_19 : decode cX8_init 19 = .ok (.new 17, 3) := by decide +kernel
theorem dX8_init_22 : decode cX8_init 22 = .ok (.dup, 1) := by decide +kernel
theorem dX8_init_23 : decode cX8_init 23 = .ok (.bipush 32, 2) := by decide +kernel
theorem dX8_init_25 : decode cX8_init 25 = .ok (.invokespecial 19, 3) := by decide +kernel
theorem dX8_init_28 : decode cX8_init 28 = .ok (.putfield 22, 3) := by decide +kernel
theorem dX8_init_31 : decode cX8_init 31 = .ok (.aload_n 0, 1) := by decide +kernel
theorem dX8_init_32 : decode cX8_init 32 = .ok (.bipush 40, 2) := by decide +kernel
theorem dX8_init_34 : decode cX8_init 34 = .ok (.newarray .long, 2) := by decide +kernel
theorem dX8_init_36 : decode cX8_init 36 = .ok (.putfield 26, 3) := by decide +kernel
theorem dX8_init_39 : decode cX8_init 39 = .ok (.aload_n 0, 1) := by decide +kernel
theorem dX8_init_40 : decode cX8_init 40 = .ok (.bipush 40, 2) := by decide +kernel
theorem dX8_init_42 : decode cX8_init 42 = .ok (.newarray .int, 2) := by decide +kernel
theorem dX8_init_44 : decode cX8_init 44 = .ok (.putfield 30, 3) := by decide +kernel
theorem dX8_init_47 : decode cX8_init 47 = .ok (.aload_n 0, 1) := by decide +kernel
theorem dX8_init_48 : decode cX8_init 48 = .ok (.bipush 40, 2) := by decide +kernel
theorem dX8_init_50 : decode cX8_init 50 = .ok (.newarray .int, 2) := by decide +kernel
theorem dX8_init_52 : decode cX8_init 52 = .ok (.putfield 33, 3) := by decide +kernel
theorem dX8_init_55 : decode cX8_init 55 = .ok (.aload_n 0, 1) := by decide +kernel
theorem dX8_init_56 : decode cX8_init 56 = .ok (.bipush 40, 2) := by decide +kernel
theorem dX8_init_58 : decode cX8_init 58 = .ok (.newarray .int, 2) := by decide +kernel
theorem dX8_init_60 : decode cX8_init 60 = .ok (.putfield 36, 3) := by decide +kernel
theorem dX8_init_63 : decode cX8_init 63 = .ok (.aload_n 0, 1) := by decide +kernel
theorem dX8_init_64 : decode cX8_init 64 = .ok (.iconst 0, 1) := by decide +kernel
theorem dX8_init_65 : decode cX8_init 65 = .ok (.putfield 39, 3) := by decide +kernel
theorem dX8_init_68 : decode cX8_init 68 = .ok (.return_, 1) := by decide +kernel
theorem dX9_init_0 : decode cX9_init 0 = .ok (.aload_n 0, 1) := by decide +kernel
theorem dX9_init_1 : decode cX9_init 1 = .ok (.invokespecial 1, 3) := by decide +kernel
theorem dX9_init_4 : decode cX9_init 4 = .ok (.aload_n 0, 1) := by decide +kernel
theorem dX9_init_5 : decode cX9_init 5 = .ok (.iconst 0, 1) := by decide +kernel
theorem dX9_init_6 : decode cX9_init 6 = .ok (.putfield 7, 3) := by decide +kernel
theorem dX9_init_9 : decode cX9_init 9 = .ok (.iload_n 1, 1) := by decide +kernel
theorem dX9_init_10 : decode cX9_init 10 = .ok (.iconst 1, 1) := by decide +kernel
theorem dX9_init_11 : decode cX9_init 11 = .ok (.invokestatic 13, 3) := by decide +kernel
theorem dX9_init_14 : decode cX9_init 14 = .ok (.istore_n 2, 1) := by decide +kernel
theorem dX9_init_15 : decode cX9_init 15 = .ok (.aload_n 0, 1) := by decide +kernel
theorem dX9_init_16 : decode cX9_init 16 = .ok (.iload_n 2, 1) := by decide +kernel
theorem dX9_init_17 : decode cX9_init 17 = .ok (.newarray .int, 2) := by decide +kernel
theorem dX9_init_19 : decode cX9_init 19 = .ok (.putfield 19, 3) := by decide +kernel
theorem dX9_init_22 : decode cX9_init 22 = .ok (.aload_n 0, 1) := by decide +kernel
theorem dX9_init_23 : decode cX9_init 23 = .ok (.iload_n 2, 1) := by decide +kernel
theorem dX9_init_24 : decode cX9_init 24 = .ok (.newarray .long, 2) := by decide +kernel
theorem dX9_init_26 : decode cX9_init 26 = .ok (.putfield 23, 3) := by decide +kernel
theorem dX9_init_29 : decode cX9_init 29 = .ok (.aload_n 0, 1) := by decide +kernel
theorem dX9_init_30 : decode cX9_init 30 = .ok (.iload_n 2, 1) := by decide +kernel
theorem dX9_init_31 : decode cX9_init 31 = .ok (.newarray .double, 2) := by decide +kernel
theorem dX9_init_33 : decode cX9_init 33 = .ok (.putfield 27, 3) := by decide +kernel
theorem dX9_init_36 : decode cX9_init 36 = .ok (.return_, 1) := by decide +kernel
theorem dX9_count_0 : decode cX9_count 0 = .ok (.aload_n 0, 1) := by decide +kernel
theorem dX9_count_1 : decode cX9_count 1 = .ok (.getfield 7, 3) := by decide +kernel
theorem dX9_count_4 : decode cX9_count 4 = .ok (.ireturn, 1) := by decide +kernel
theorem dX9_kind_0 : decode cX9_kind 0 = .ok (.iload_n 1, 1) := by decide +kernel
theorem dX9_kind_1 : decode cX9_kind 1 = .ok (.ifCond .lt 20, 3) := by decide +kernel
theorem dX9_kind_4 : decode cX9_kind 4 = .ok (.iload_n 1, 1) := by decide +kernel
theorem dX9_kind_5 : decode cX9_kind 5 = .ok (.aload_n 0, 1) := by decide +kernel
theorem dX9_kind_6 : decode cX9_kind 6 = .ok (.getfield 7, 3) := by decide +kernel
theorem dX9_kind_9 : decode cX9_kind 9 = .ok (.if_icmp .ge 12, 3) := by decide +kernel
theorem dX9_kind_21 : decode cX9_kind 21 = .ok (.iconst 0, 1) := by decide +kernel
theorem dX9_kind_22 : decode cX9_kind 22 = .ok (.ireturn, 1) := by decide +kernel
theorem dX9_whole_0 : decode cX9_whole 0 = .ok (.iload_n 1, 1) := by decide +kernel
theorem dX9_whole_1 : decode cX9_whole 1 = .ok (.ifCond .lt 20, 3) := by decide +kernel
theorem dX9_whole_4 : decode cX9_whole 4 = .ok (.iload_n 1, 1) := by decide +kernel
theorem dX9_whole_5 : decode cX9_whole 5 = .ok (.aload_n 0, 1) := by decide +kernel
theorem dX9_whole_6 : decode cX9_whole 6 = .ok (.getfield 7, 3) := by decide +kernel
theorem dX9_whole_9 : decode cX9_whole 9 = .ok (.if_icmp .ge 12, 3) := by decide +kernel
theorem dX9_whole_21 : decode cX9_whole 21 = .ok (.lconst 0, 1) := by decide +kernel
theorem dX9_whole_22 : decode cX9_whole 22 = .ok (.lreturn, 1) := by decide +kernel
set_option maxRecDepth 20000 in
theorem ggX10_init_J0_length_8abf5 : GoodIn wsX10_init wsJ0_length_8abf5 := goodIn_r _ [27, 28, 29, 30, 31, 26, 32, 33, 34] (by decide +kernel) (by decide +kernel)
set_option maxRecDepth 20000 in
theorem gX10_init_J0_length_8abf5 : GoodIn wsX10_init (wsV RX10 69 RJ0 yJ0_length_8abf5 wsJ0_length_8abf5) := goodIn_app (goodIn_of _ (by decide +kernel)) ggX10_init_J0_length_8abf5
set_option maxRecDepth 20000 in
theorem ggX10_init_J0_charAt_5068e : GoodIn wsX10_init wsJ0_charAt_5068e := goodIn_r _ [38, 28, 39, 40, 41, 26, 42, 33, 34, 43, 44, 45, 46, 47, 48, 49, 50, 51, 52, 53, 54, 55, 56, 57, 58, 59, 60, 61, 62, 63, 64, 65, 66, 67, 68, 69, 70, 71] (by decide +kernel) (by decide +kernel)
set_option maxRecDepth 20000 in
theorem gX10_init_J0_charAt_5068e : GoodIn wsX10_init (wsV RX10 74 RJ0 yJ0_charAt_5068e wsJ0_charAt_5068e) := goodIn_app (goodIn_of _ (by decide +kernel)) ggX10_init_J0_charAt_5068e
theorem dX10_init_0 : decode cX10_init 0 = .ok (.aload_n 0, 1) := by decide +kernel
theorem dX10_init_1 : decode cX10_init 1 = .ok (.invokespecial 3, 3) := by decide +kernel
theorem dX10_init_4 : decode cX10_init 4 = .ok (.aload_n 0, 1) := by decide +kernel
theorem dX10_init_5 : decode cX10_init 5 = .ok (.bipush 33, 2) := by decide +kernel
theorem dX10_init_7 : decode cX10_init 7 = .ok (.newarray .long, 2) := by decide +kernel
theorem dX10_init_9 : decode cX10_init 9 = .ok (.putfield 11, 3) := by decide +kernel
theorem dX10_init_12 : decode cX10_init 12 = .ok (.aload_n 0, 1) := by decide +kernel
theorem dX10_init_13 : decode cX10_init 13 = .ok (.sipush 3001, 3) := by decide +kernel
theorem dX10_init_16 : decode cX10_init 16 = .ok (.newarray .int, 2) := by decide +kernel
theorem dX10_init_18 : decode cX10_init 18 = .ok (.putfield 15, 3) := by decide +kernel
theorem dX10_init_21 : decode cX10_init 21 = .ok (.aload_n 0, 1) := by decide +kernel
theorem dX10_init_22 : decode cX10_init 22 = .ok (.sipush 3001, 3) := by decide +kernel
theorem dX10_init_25 : decode cX10_init 25 = .ok (.newarray .int, 2) := by decide +kernel
theorem dX10_init_27 : decode cX10_init 27 = .ok (.putfield 19, 3) := by decide +kernel
theorem dX10_init_30 : decode cX10_init 30 = .ok (.aload_n 0, 1) := by decide +kernel
theorem dX10_init_31 : decode cX10_init 31 = .ok (.sipush 3001, 3) := by decide +kernel
theorem dX10_init_34 : decode cX10_init 34 = .ok (.newarray .long, 2) := by decide +kernel
theorem dX10_init_36 : decode cX10_init 36 = .ok (.putfield 22, 3) := by decide +kernel
theorem dX10_init_39 : decode cX10_init 39 = .ok (.aload_n 0, 1) := by decide +kernel
theorem dX10_init_40 : decode cX10_init 40 = .ok (.sipush 3001, 3) := by decide +kernel
theorem dX10_init_43 : decode cX10_init 43 = .ok (.newarray .double, 2) := by decide +kernel
theorem dX10_init_45 : decode cX10_init 45 = .ok (.putfield 25, 3) := by decide +kernel
theorem dX10_init_48 : decode cX10_init 48 = .ok (.aload_n 0, 1) := by decide +kernel
theorem dX10_init_49 : decode cX10_init 49 = .ok (.iconst 0, 1) := by decide +kernel
theorem dX10_init_50 : decode cX10_init 50 = .ok (.putfield 29, 3) := by decide +kernel
theorem dX10_init_53 : decode cX10_init 53 = .ok (.aload_n 0, 1) := by decide +kernel
theorem dX10_init_54 : decode cX10_init 54 = .ok (.iconst 0, 1) := by decide +kernel
theorem dX10_init_55 : decode cX10_init 55 = .ok (.putfield 33, 3) := by decide +kernel
theorem dX10_init_58 : decode cX10_init 58 = .ok (.aload_n 0, 1) := by decide +kernel
theorem dX10_init_59 : decode cX10_init 59 = .ok (.iconst 0, 1) := by decide +kernel
theorem dX10_init_60 : decode cX10_init 60 = .ok (.putfield 36, 3) := by decide +kernel
theorem dX10_init_63 : decode cX10_init 63 = .ok (.aload_n 0, 1) := by decide +kernel
theorem dX10_init_64 : decode cX10_init 64 = .ok (.iconst 0, 1) := by decide +kernel
theorem dX10_init_65 : decode cX10_init 65 = .ok (.putfield 39, 3) := by decide +kernel
theorem dX10_init_68 : decode cX10_init 68 = .ok (.aload_n 0, 1) := by decide +kernel
theorem dX10_init_69 : decode cX10_init 69 = .ok (.iconst 0, 1) := by decide +kernel
theorem dX10_init_70 : decode cX10_init 70 = .ok (.putfield 42, 3) := by decide +kernel
theorem dX10_init_73 : decode cX10_init 73 = .ok (.aload_n 0, 1) := by decide +kernel
theorem dX10_init_74 : decode cX10_init 74 = .ok (.iconst 0, 1) := by decide +kernel
theorem dX10_init_75 : decode cX10_init 75 = .ok (.putfield 45, 3) := by decide +kernel
theorem dX10_init_78 : decode cX10_init 78 = .ok (.aload_n 0, 1) := by decide +kernel
theorem dX10_init_79 : decode cX10_init 79 = .ok (.iconst 0, 1) := by decide +kernel
theorem dX10_init_80 : decode cX10_init 80 = .ok (.putfield 49, 3) := by decide +kernel
theorem dX10_init_83 : decode cX10_init 83 = .ok (.aload_n 0, 1) := by decide +kernel
theorem dX10_init_84 : decode cX10_init 84 = .ok (.iconst 0, 1) := by decide +kernel
theorem dX10_init_85 : decode cX10_init 85 = .ok (.putfield 52, 3) := by decide +kernel
theorem dX10_init_88 : decode cX10_init 88 = .ok (.aload_n 0, 1) := by decide +kernel
theorem dX10_init_89 : decode cX10_init 89 = .ok (.lconst 0, 1) := by decide +kernel
theorem dX10_init_90 : decode cX10_init 90 = .ok (.putfield 55, 3) := by decide +kernel
theorem dX10_init_93 : decode cX10_init 93 = .ok (.aload_n 0, 1) := by decide +kernel
theorem dX10_init_94 : decode cX10_init 94 = .ok (.dconst 0, 1) := by decide +kernel
theorem dX10_init_95 : decode cX10_init 95 = .ok (.putfield 59, 3) := by decide +kernel
theorem dX10_init_98 : decode cX10_init 98 = .ok (.aload_n 0, 1) := by decide +kernel
theorem dX10_init_99 : decode cX10_init 99 = .ok (.aload_n 1, 1) := by decide +kernel
theorem dX10_init_100 : decode cX10_init 100 = .ok (.putfield 63, 3) := by decide +kernel
theorem dX10_init_103 : decode cX10_init 103 = .ok (.lconst 0, 1) := by decide +kernel
theorem dX10_init_104 : decode cX10_init 104 = .ok (.lstore_n 2, 1) := by decide +kernel
theorem dX10_init_105 : decode cX10_init 105 = .ok (.iconst 0, 1) := by decide +kernel
theorem dX10_init_106 : decode cX10_init 106 = .ok (.istore 4, 2) := by decide +kernel
theorem dX10_init_108 : decode cX10_init 108 = .ok (.iconst 0, 1) := by decide +kernel
theorem dX10_init_109 : decode cX10_init 109 = .ok (.istore 5, 2) := by decide +kernel
theorem dX10_init_111 : decode cX10_init 111 = .ok (.iload 5, 2) := by decide +kernel
theorem dX10_init_113 : decode cX10_init 113 = .ok (.ldc 67, 2) := by decide +kernel
theorem dX10_init_115 : decode cX10_init 115 = .ok (.invokevirtual 69, 3) := by decide +kernel
theorem dX10_init_118 : decode cX10_init 118 = .ok (.if_icmp .ge 57, 3) := by decide +kernel
theorem dX10_init_121 : decode cX10_init 121 = .ok (.ldc 67, 2) := by decide +kernel
theorem dX10_init_123 : decode cX10_init 123 = .ok (.iload 5, 2) := by decide +kernel
theorem dX10_init_125 : decode cX10_init 125 = .ok (.invokevirtual 74, 3) := by decide +kernel
theorem dX10_init_128 : decode cX10_init 128 = .ok (.istore 6, 2) := by decide +kernel
theorem dX10_init_130 : decode cX10_init 130 = .ok (.iload 6, 2) := by decide +kernel
theorem dX10_init_132 : decode cX10_init 132 = .ok (.bipush 32, 2) := by decide +kernel
theorem dX10_init_134 : decode cX10_init 134 = .ok (.if_icmp .ne 26, 3) := by decide +kernel
theorem dX10_init_137 : decode cX10_init 137 = .ok (.iload 4, 2) := by decide +kernel
theorem dX10_init_139 : decode cX10_init 139 = .ok (.bipush 33, 2) := by decide +kernel
theorem dX10_init_141 : decode cX10_init 141 = .ok (.if_icmp .ge 19, 3) := by decide +kernel
theorem dX10_init_144 : decode cX10_init 144 = .ok (.aload_n 0, 1) := by decide +kernel
theorem dX10_init_145 : decode cX10_init 145 = .ok (.getfield 11, 3) := by decide +kernel
theorem dX10_init_148 : decode cX10_init 148 = .ok (.iload 4, 2) := by decide +kernel
theorem dX10_init_150 : decode cX10_init 150 = .ok (.lload_n 2, 1) := by decide +kernel
theorem dX10_init_151 : decode cX10_init 151 = .ok (.lastore, 1) := by decide +kernel
theorem dX10_init_152 : decode cX10_init 152 = .ok (.iinc 4 1, 3) := by decide +kernel
theorem dX10_init_155 : decode cX10_init 155 = .ok (.lconst 0, 1) := by decide +kernel
theorem dX10_init_156 : decode cX10_init 156 = .ok (.lstore_n 2, 1) := by decide +kernel
theorem dX10_init_157 : decode cX10_init 157 = .ok (.goto 12, 3) := by decide +kernel
theorem dX10_init_160 : decode cX10_init 160 = .ok (.lload_n 2, 1) := by decide +kernel
theorem dX10_init_161 : decode cX10_init 161 = .ok (.bipush 8, 2) := by decide +kernel
theorem dX10_init_163 : decode cX10_init 163 = .ok (.lshl, 1) := by decide +kernel
theorem dX10_init_164 : decode cX10_init 164 = .ok (.iload 6, 2) := by decide +kernel
theorem dX10_init_166 : decode cX10_init 166 = .ok (.i2l, 1) := by decide +kernel
theorem dX10_init_167 : decode cX10_init 167 = .ok (.lor, 1) := by decide +kernel
theorem dX10_init_168 : decode cX10_init 168 = .ok (.lstore_n 2, 1) := by decide +kernel
theorem dX10_init_169 : decode cX10_init 169 = .ok (.iinc 5 1, 3) := by decide +kernel
theorem dX10_init_172 : decode cX10_init 172 = .ok (.goto (-61), 3) := by decide +kernel
theorem dX10_init_175 : decode cX10_init 175 = .ok (.return_, 1) := by decide +kernel
set_option maxRecDepth 20000 in
theorem ggX11_init_X5_init : GoodIn wsX11_init wsX5_init := goodIn_r _ [31, 32, 2, 3, 33, 34, 35, 36, 37, 38, 39, 40, 41, 42, 43, 44, 45, 46, 47, 48, 49, 50, 51, 52, 53, 54, 55, 56, 57, 58, 59, 60, 61, 62, 63, 64, 65, 66, 67, 68, 69, 70, 71, 72, 73, 74, 75, 76, 77, 78, 79, 80, 81, 82, 83, 84, 85, 86, 87, 88, 244, 245, 246, 247, 248] (by decide +kernel) (by decide +kernel)
set_option maxRecDepth 20000 in
theorem gX11_init_X5_init : GoodIn wsX11_init (wsX5_init) := ggX11_init_X5_init
set_option maxRecDepth 20000 in
theorem ggX11_init_X0_init : GoodIn wsX11_init wsX0_init := goodIn_r _ [91, 92, 2, 3, 35, 93, 94, 95, 96, 97, 98, 99, 100, 101, 102, 249, 250, 251, 252, 253, 254] (by decide +kernel) (by decide +kernel)
set_option maxRecDepth 20000 in
theorem gX11_init_X0_init : GoodIn wsX11_init (wsX0_init) := ggX11_init_X0_init
set_option maxRecDepth 20000 in
theorem ggX11_init_X8_init : GoodIn wsX11_init wsX8_init := goodIn_r _ [104, 105, 2, 3, 35, 106, 107, 108, 109, 110, 111, 33, 112, 113, 114, 115, 116, 117, 118, 119, 120, 121, 122, 123, 124, 125, 126, 127, 128, 129, 255, 256, 257, 258, 259, 260, 261, 262, 291, 292, 293, 294] (by decide +kernel) (by decide +kernel)
set_option maxRecDepth 20000 in
theorem gX11_init_X8_init_n40 : GoodIn wsX11_init (wsX8_init) := ggX11_init_X8_init
set_option maxRecDepth 20000 in
theorem ggX11_init_X7_init : GoodIn wsX11_init wsX7_init := goodIn_r _ [132, 133, 2, 3, 35, 134, 33, 135, 136, 137, 138, 139, 140, 141, 142, 143, 144, 145, 146, 147, 148, 149, 150, 151, 152, 153, 154, 155, 128, 156, 157, 158, 159, 160, 161, 162, 163, 164, 165, 166, 167, 168, 41, 42, 43, 44, 45, 46, 47, 48, 49, 50, 51, 169, 53, 54, 55, 56, 57, 58, 59, 60, 61, 62, 63, 64, 65, 66, 67, 68, 69, 70, 71, 72, 73, 74, 75, 76, 77, 78, 79, 80, 81, 82, 83, 84, 85, 86, 87, 88, 263, 264, 265, 266, 267, 268, 269, 270, 271, 272, 273, 295, 296, 297, 298, 299, 300, 301, 302, 303, 304, 305, 306, 307, 308, 309, 310] (by decide +kernel) (by decide +kernel)
set_option maxRecDepth 20000 in
theorem gX11_init_X7_init : GoodIn wsX11_init (wsX7_init) := ggX11_init_X7_init
set_option maxRecDepth 20000 in
theorem ggX11_init_X4_init : GoodIn wsX11_init wsX4_init := goodIn_r _ [172, 173, 2, 3, 174, 109, 110, 175, 176, 177, 178, 179, 180, 181, 182, 183, 184, 185, 186, 187, 188, 189, 35, 190, 191, 192, 193, 194, 195, 196, 197, 198, 199, 200, 201, 118, 119, 120, 121, 122, 123, 124, 125, 126, 33, 127, 128, 129, 202, 203, 204, 205, 206, 207, 208, 209, 210, 211, 212, 213, 214, 215, 216, 217, 218, 219, 220, 221, 222, 223, 224, 225, 226, 227, 228, 229, 230, 231, 232, 233, 234, 291, 292, 293, 294, 274, 275, 276, 277, 278, 279, 280, 281, 282, 283, 284, 285, 286, 287, 288, 289, 290, 311, 312, 313, 314, 315, 316, 317, 318, 319, 320, 321, 322, 323, 324, 325, 326, 327, 328, 329, 330] (by decide +kernel) (by decide +kernel)
set_option maxRecDepth 20000 in
theorem gX11_init_X4_init : GoodIn wsX11_init (wsX4_init) := ggX11_init_X4_init
theorem dX11_init_0 : decode cX11_init 0 = .ok (.aload_n 0, 1) := by decide +kernel
theorem dX11_init_1 : decode cX11_init 1 = .ok (.invokespecial 1, 3) := by decide +kernel
theorem dX11_init_4 : decode cX11_init 4 = .ok (.aload_n 0, 1) := by decide +kernel
theorem dX11_init_5 : decode cX11_init 5 = .ok (.sipush 3000, 3) := by decide +kernel
theorem dX11_init_8 : decode cX11_init 8 = .ok (.newarray .byte, 2) := by decide +kernel
theorem dX11_init_10 : decode cX11_init 10 = .ok (.putfield 9, 3) := by decide +kernel
theorem dX11_init_13 : decode cX11_init 13 = .ok (.aload_n 0, 1) := by decide +kernel
theorem dX11_init_14 : decode cX11_init 14 = .ok (.iconst 0, 1) := by decide +kernel
theorem dX11_init_15 : decode cX11_init 15 = .ok (.putfield 13, 3) := by decide +kernel
theorem dX11_init_18 : decode cX11_init 18 = .ok (.aload_n 0, 1) := by decide +kernel
theorem dX11_init_19 : decode cX11_init 19 = .ok (.iconst 0, 1) := by decide +kernel
theorem dX11_init_20 : decode cX11_init 20 = .ok (.putfield 17, 3) := by decide +kernel
theorem dX11_init_23 : decode cX11_init 23 = .ok (.aload_n 0, 1) := by decide +kernel
theorem dX11_init_24 : decode cX11_init 24 = .ok (.new 20, 3) := by decide +kernel
theorem dX11_init_27 : decode cX11_init 27 = .ok (.dup, 1) := by decide +kernel
theorem dX11_init_28 : decode cX11_init 28 = .ok (.invokespecial 22, 3) := by decide +kernel
theorem dX11_init_31 : decode cX11_init 31 = .ok (.putfield 23, 3) := by decide +kernel
theorem dX11_init_34 : decode cX11_init 34 = .ok (.aload_n 0, 1) := by decide +kernel
theorem dX11_init_35 : decode cX11_init 35 = .ok (.new 27, 3) := by decide +kernel
theorem dX11_init_38 : decode cX11_init 38 = .ok (.dup, 1) := by decide +kernel
theorem dX11_init_39 : decode cX11_init 39 = .ok (.invokespecial 29, 3) := by decide +kernel
theorem dX11_init_42 : decode cX11_init 42 = .ok (.putfield 30, 3) := by decide +kernel
theorem dX11_init_45 : decode cX11_init 45 = .ok (.aload_n 0, 1) := by decide +kernel
theorem dX11_init_46 : decode cX11_init 46 = .ok (.iconst 4, 1) := by decide +kernel
theorem dX11_init_47 : decode cX11_init 47 = .ok (.anewarray 34, 3) := by decide +kernel
theorem dX11_init_50 : decode cX11_init 50 = .ok (.putfield 36, 3) := by decide +kernel
theorem dX11_init_53 : decode cX11_init 53 = .ok (.aload_n 0, 1) := by decide +kernel
theorem dX11_init_54 : decode cX11_init 54 = .ok (.new 34, 3) := by decide +kernel
theorem dX11_init_57 : decode cX11_init 57 = .ok (.dup, 1) := by decide +kernel
theorem dX11_init_58 : decode cX11_init 58 = .ok (.invokespecial 40, 3) := by decide +kernel
theorem dX11_init_61 : decode cX11_init 61 = .ok (.putfield 41, 3) := by decide +kernel
theorem dX11_init_64 : decode cX11_init 64 = .ok (.aload_n 0, 1) := by decide +kernel
theorem dX11_init_65 : decode cX11_init 65 = .ok (.new 45, 3) := by decide +kernel
theorem dX11_init_68 : decode cX11_init 68 = .ok (.dup, 1) := by decide +kernel
theorem dX11_init_69 : decode cX11_init 69 = .ok (.aload_n 0, 1) := by decide +kernel
theorem dX11_init_70 : decode cX11_init 70 = .ok (.getfield 9, 3) := by decide +kernel
theorem dX11_init_73 : decode cX11_init 73 = .ok (.aload_n 0, 1) := by decide +kernel
theorem dX11_init_74 : decode cX11_init 74 = .ok (.getfield 23, 3) := by decide +kernel
theorem dX11_init_77 : decode cX11_init 77 = .ok (.aload_n 0, 1) := by decide +kernel
theorem dX11_init_78 : decode cX11_init 78 = .ok (.getfield 41, 3) := by decide +kernel
theorem dX11_init_81 : decode cX11_init 81 = .ok (.invokespecial 47, 3) := by decide +kernel
theorem dX11_init_84 : decode cX11_init 84 = .ok (.putfield 50, 3) := by decide +kernel
theorem dX11_init_87 : decode cX11_init 87 = .ok (.aload_n 0, 1) := by decide +kernel
theorem dX11_init_88 : decode cX11_init 88 = .ok (.new 54, 3) := by decide +kernel
theorem dX11_init_91 : decode cX11_init 91 = .ok (.dup, 1) := by decide +kernel
theorem dX11_init_92 : decode cX11_init 92 = .ok (.aload_n 0, 1) := by decide +kernel
theorem dX11_init_93 : decode cX11_init 93 = .ok (.getfield 36, 3) := by decide +kernel
theorem dX11_init_96 : decode cX11_init 96 = .ok (.aload_n 0, 1) := by decide +kernel
theorem dX11_init_97 : decode cX11_init 97 = .ok (.getfield 23, 3) := by decide +kernel
theorem dX11_init_100 : decode cX11_init 100 = .ok (.aload_n 0, 1) := by decide +kernel
theorem dX11_init_101 : decode cX11_init 101 = .ok (.getfield 30, 3) := by decide +kernel
theorem dX11_init_104 : decode cX11_init 104 = .ok (.aload_n 0, 1) := by decide +kernel
theorem dX11_init_105 : decode cX11_init 105 = .ok (.getfield 41, 3) := by decide +kernel
theorem dX11_init_108 : decode cX11_init 108 = .ok (.invokespecial 56, 3) := by decide +kernel
theorem dX11_init_111 : decode cX11_init 111 = .ok (.putfield 59, 3) := by decide +kernel
theorem dX11_init_114 : decode cX11_init 114 = .ok (.iconst 0, 1) := by decide +kernel
theorem dX11_init_115 : decode cX11_init 115 = .ok (.istore_n 1, 1) := by decide +kernel
theorem dX11_init_116 : decode cX11_init 116 = .ok (.iload_n 1, 1) := by decide +kernel
theorem dX11_init_117 : decode cX11_init 117 = .ok (.iconst 4, 1) := by decide +kernel
theorem dX11_init_118 : decode cX11_init 118 = .ok (.if_icmp .ge 22, 3) := by decide +kernel
theorem dX11_init_121 : decode cX11_init 121 = .ok (.aload_n 0, 1) := by decide +kernel
theorem dX11_init_122 : decode cX11_init 122 = .ok (.getfield 36, 3) := by decide +kernel
theorem dX11_init_125 : decode cX11_init 125 = .ok (.iload_n 1, 1) := by decide +kernel
theorem dX11_init_126 : decode cX11_init 126 = .ok (.new 34, 3) := by decide +kernel
theorem dX11_init_129 : decode cX11_init 129 = .ok (.dup, 1) := by decide +kernel
theorem dX11_init_130 : decode cX11_init 130 = .ok (.invokespecial 40, 3) := by decide +kernel
theorem dX11_init_133 : decode cX11_init 133 = .ok (.aastore, 1) := by decide +kernel
theorem dX11_init_134 : decode cX11_init 134 = .ok (.iinc 1 1, 3) := by decide +kernel
theorem dX11_init_137 : decode cX11_init 137 = .ok (.goto (-21), 3) := by decide +kernel
theorem dX11_init_140 : decode cX11_init 140 = .ok (.return_, 1) := by decide +kernel
set_option maxRecDepth 20000 in
theorem ggX11_feed_X11_addBytes : GoodIn wsX11_feed wsX11_addBytes := goodIn_r _ [6, 1, 7, 8, 9, 10, 11, 12, 13, 14, 15, 16] (by decide +kernel) (by decide +kernel)
set_option maxRecDepth 20000 in
theorem gX11_feed_X11_addBytes : GoodIn wsX11_feed (wsV RX11 63 RX11 yX11_addBytes wsX11_addBytes) := goodIn_app (goodIn_of _ (by decide +kernel)) ggX11_feed_X11_addBytes
theorem dX11_feed_0 : decode cX11_feed 0 = .ok (.aload_n 0, 1) := by decide +kernel
theorem dX11_feed_1 : decode cX11_feed 1 = .ok (.getfield 13, 3) := by decide +kernel
theorem dX11_feed_4 : decode cX11_feed 4 = .ok (.bipush 20, 2) := by decide +kernel
theorem dX11_feed_6 : decode cX11_feed 6 = .ok (.iadd, 1) := by decide +kernel
theorem dX11_feed_7 : decode cX11_feed 7 = .ok (.sipush 3000, 3) := by decide +kernel
theorem dX11_feed_10 : decode cX11_feed 10 = .ok (.if_icmp .le 5, 3) := by decide +kernel
theorem dX11_feed_15 : decode cX11_feed 15 = .ok (.aload_n 0, 1) := by decide +kernel
theorem dX11_feed_16 : decode cX11_feed 16 = .ok (.iload_n 1, 1) := by decide +kernel
theorem dX11_feed_17 : decode cX11_feed 17 = .ok (.invokevirtual 63, 3) := by decide +kernel
theorem dX11_feed_20 : decode cX11_feed 20 = .ok (.aload_n 0, 1) := by decide +kernel
theorem dX11_feed_21 : decode cX11_feed 21 = .ok (.iload_n 2, 1) := by decide +kernel
theorem dX11_feed_22 : decode cX11_feed 22 = .ok (.invokevirtual 63, 3) := by decide +kernel
theorem dX11_feed_25 : decode cX11_feed 25 = .ok (.aload_n 0, 1) := by decide +kernel
theorem dX11_feed_26 : decode cX11_feed 26 = .ok (.iload_n 3, 1) := by decide +kernel
theorem dX11_feed_27 : decode cX11_feed 27 = .ok (.invokevirtual 63, 3) := by decide +kernel
theorem dX11_feed_30 : decode cX11_feed 30 = .ok (.aload_n 0, 1) := by decide +kernel
theorem dX11_feed_31 : decode cX11_feed 31 = .ok (.iload 4, 2) := by decide +kernel
theorem dX11_feed_33 : decode cX11_feed 33 = .ok (.invokevirtual 63, 3) := by decide +kernel
theorem dX11_feed_36 : decode cX11_feed 36 = .ok (.aload_n 0, 1) := by decide +kernel
theorem dX11_feed_37 : decode cX11_feed 37 = .ok (.iload 5, 2) := by decide +kernel
theorem dX11_feed_39 : decode cX11_feed 39 = .ok (.invokevirtual 63, 3) := by decide +kernel
theorem dX11_feed_42 : decode cX11_feed 42 = .ok (.aload_n 0, 1) := by decide +kernel
theorem dX11_feed_43 : decode cX11_feed 43 = .ok (.getfield 13, 3) := by decide +kernel
theorem dX11_feed_46 : decode cX11_feed 46 = .ok (.ireturn, 1) := by decide +kernel
theorem dX11_fault_0 : decode cX11_fault 0 = .ok (.aload_n 0, 1) := by decide +kernel
theorem dX11_fault_1 : decode cX11_fault 1 = .ok (.getfield 17, 3) := by decide +kernel
theorem dX11_fault_4 : decode cX11_fault 4 = .ok (.ireturn, 1) := by decide +kernel
set_option maxRecDepth 20000 in
theorem ggX11_look_X5_inAll : GoodIn wsX11_look wsX5_inAll := goodIn_r _ [7, 8, 24, 25, 26, 27, 28] (by decide +kernel) (by decide +kernel)
set_option maxRecDepth 20000 in
theorem gX11_look_X5_inAll : GoodIn wsX11_look (wsV RX11 119 RX5 yX5_inAll wsX5_inAll) := goodIn_app (goodIn_of _ (by decide +kernel)) ggX11_look_X5_inAll
set_option maxRecDepth 20000 in
theorem ggX11_look_X4_told : GoodIn wsX11_look wsX4_told := goodIn_r _ [13, 14, 29, 30, 31, 32, 33, 34, 35, 36, 37, 38, 39, 40, 41, 42, 43, 44, 45] (by decide +kernel) (by decide +kernel)
set_option maxRecDepth 20000 in
theorem gX11_look_X4_told : GoodIn wsX11_look (wsV RX11 122 RX4 yX4_told wsX4_told) := goodIn_app (goodIn_of _ (by decide +kernel)) ggX11_look_X4_told
theorem dX11_look_0 : decode cX11_look 0 = .ok (.iload_n 1, 1) := by decide +kernel
theorem dX11_look_1 : decode cX11_look 1 = .ok (.bipush 10, 2) := by decide +kernel
theorem dX11_look_3 : decode cX11_look 3 = .ok (.if_icmp .ne 11, 3) := by decide +kernel
theorem dX11_look_6 : decode cX11_look 6 = .ok (.aload_n 0, 1) := by decide +kernel
theorem dX11_look_7 : decode cX11_look 7 = .ok (.getfield 23, 3) := by decide +kernel
theorem dX11_look_10 : decode cX11_look 10 = .ok (.invokevirtual 119, 3) := by decide +kernel
theorem dX11_look_13 : decode cX11_look 13 = .ok (.ireturn, 1) := by decide +kernel
theorem dX11_look_14 : decode cX11_look 14 = .ok (.aload_n 0, 1) := by decide +kernel
theorem dX11_look_15 : decode cX11_look 15 = .ok (.getfield 59, 3) := by decide +kernel
theorem dX11_look_18 : decode cX11_look 18 = .ok (.iload_n 1, 1) := by decide +kernel
theorem dX11_look_19 : decode cX11_look 19 = .ok (.invokevirtual 122, 3) := by decide +kernel
theorem dX11_look_22 : decode cX11_look 22 = .ok (.ireturn, 1) := by decide +kernel
set_option maxRecDepth 20000 in
theorem ggX11_answer_X4_answered : GoodIn wsX11_answer wsX4_answered := goodIn_r _ [6, 7, 17, 18, 19, 20, 21, 22, 23, 24, 25, 26, 27, 28, 29, 30, 31, 32, 33] (by decide +kernel) (by decide +kernel)
set_option maxRecDepth 20000 in
theorem gX11_answer_X4_answered : GoodIn wsX11_answer (wsV RX11 126 RX4 yX4_answered wsX4_answered) := goodIn_app (goodIn_of _ (by decide +kernel)) ggX11_answer_X4_answered
theorem dX11_answer_0 : decode cX11_answer 0 = .ok (.aload_n 0, 1) := by decide +kernel
theorem dX11_answer_1 : decode cX11_answer 1 = .ok (.getfield 59, 3) := by decide +kernel
theorem dX11_answer_4 : decode cX11_answer 4 = .ok (.invokevirtual 126, 3) := by decide +kernel
theorem dX11_answer_7 : decode cX11_answer 7 = .ok (.lreturn, 1) := by decide +kernel
set_option maxRecDepth 20000 in
theorem ggX11_mark_X4_markOf : GoodIn wsX11_mark wsX4_markOf := goodIn_r _ [6, 7, 8, 9, 10, 11, 12, 13, 14, 15, 16, 17, 18, 19, 20, 21, 22, 23, 24, 25, 26, 27, 28, 29, 30, 31, 32, 33, 43, 44, 45, 46, 47, 48, 49, 50, 51, 52, 53, 54, 55, 56, 57, 58, 59, 60, 61, 62, 63] (by decide +kernel) (by decide +kernel)
set_option maxRecDepth 20000 in
theorem gX11_mark_X4_markOf : GoodIn wsX11_mark (wsV RX11 130 RX4 yX4_markOf wsX4_markOf) := goodIn_app (goodIn_of _ (by decide +kernel)) ggX11_mark_X4_markOf
theorem dX11_mark_0 : decode cX11_mark 0 = .ok (.aload_n 0, 1) := by decide +kernel
theorem dX11_mark_1 : decode cX11_mark 1 = .ok (.getfield 59, 3) := by decide +kernel
theorem dX11_mark_4 : decode cX11_mark 4 = .ok (.iload_n 1, 1) := by decide +kernel
theorem dX11_mark_5 : decode cX11_mark 5 = .ok (.invokevirtual 130, 3) := by decide +kernel
theorem dX11_mark_8 : decode cX11_mark 8 = .ok (.lreturn, 1) := by decide +kernel
set_option maxRecDepth 20000 in
theorem ggX11_markTongue_X4_tongueOfMark : GoodIn wsX11_markTongue wsX4_tongueOfMark := goodIn_r _ [6, 7, 8, 9, 10, 11, 12, 13, 14, 15, 16, 17, 18, 28, 29, 30, 31, 32, 33, 34, 35, 36, 37, 38, 39, 40, 41, 42, 43, 44, 45, 46, 47, 48] (by decide +kernel) (by decide +kernel)
set_option maxRecDepth 20000 in
theorem gX11_markTongue_X4_tongueOfMark : GoodIn wsX11_markTongue (wsV RX11 134 RX4 yX4_tongueOfMark wsX4_tongueOfMark) := goodIn_app (goodIn_of _ (by decide +kernel)) ggX11_markTongue_X4_tongueOfMark
theorem dX11_markTongue_0 : decode cX11_markTongue 0 = .ok (.aload_n 0, 1) := by decide +kernel
theorem dX11_markTongue_1 : decode cX11_markTongue 1 = .ok (.getfield 59, 3) := by decide +kernel
theorem dX11_markTongue_4 : decode cX11_markTongue 4 = .ok (.iload_n 1, 1) := by decide +kernel
theorem dX11_markTongue_5 : decode cX11_markTongue 5 = .ok (.invokevirtual 134, 3) := by decide +kernel
theorem dX11_markTongue_8 : decode cX11_markTongue 8 = .ok (.ireturn, 1) := by decide +kernel
set_option maxRecDepth 20000 in
theorem ggX11_failure_X4_factOf : GoodIn wsX11_failure wsX4_factOf := goodIn_r _ [6, 7, 8, 9, 10, 11, 12, 13, 14, 15, 16, 17, 18, 19, 20, 21, 22, 23, 24, 25, 26, 27, 28, 38, 39, 40, 41, 42, 43, 44, 45, 46, 47, 48, 49, 50, 51, 52, 53, 54, 55, 56, 57, 58, 59, 60, 61, 62, 63] (by decide +kernel) (by decide +kernel)
set_option maxRecDepth 20000 in
theorem gX11_failure_X4_factOf : GoodIn wsX11_failure (wsV RX11 137 RX4 yX4_factOf wsX4_factOf) := goodIn_app (goodIn_of _ (by decide +kernel)) ggX11_failure_X4_factOf
theorem dX11_failure_0 : decode cX11_failure 0 = .ok (.aload_n 0, 1) := by decide +kernel
theorem dX11_failure_1 : decode cX11_failure 1 = .ok (.getfield 59, 3) := by decide +kernel
theorem dX11_failure_4 : decode cX11_failure 4 = .ok (.iload_n 1, 1) := by decide +kernel
theorem dX11_failure_5 : decode cX11_failure 5 = .ok (.iload_n 2, 1) := by decide +kernel
theorem dX11_failure_6 : decode cX11_failure 6 = .ok (.invokevirtual 137, 3) := by decide +kernel
theorem dX11_failure_9 : decode cX11_failure 9 = .ok (.ireturn, 1) := by decide +kernel
set_option maxRecDepth 20000 in
theorem ggX11_under_X4_factUnder : GoodIn wsX11_under wsX4_factUnder := goodIn_r _ [6, 7, 8, 9, 10, 11, 12, 13, 14, 15, 16, 17, 18, 19, 20, 21, 22, 23, 24, 25, 26, 27, 28, 29, 30, 31, 32, 33, 34, 44, 45, 46, 47, 48, 49, 50, 51, 52, 53, 54, 55, 56, 57, 58, 59, 60, 61, 62, 63, 64, 65, 66, 67, 68, 69] (by decide +kernel) (by decide +kernel)
set_option maxRecDepth 20000 in
theorem gX11_under_X4_factUnder : GoodIn wsX11_under (wsV RX11 140 RX4 yX4_factUnder wsX4_factUnder) := goodIn_app (goodIn_of _ (by decide +kernel)) ggX11_under_X4_factUnder
theorem dX11_under_0 : decode cX11_under 0 = .ok (.aload_n 0, 1) := by decide +kernel
theorem dX11_under_1 : decode cX11_under 1 = .ok (.getfield 59, 3) := by decide +kernel
theorem dX11_under_4 : decode cX11_under 4 = .ok (.iload_n 1, 1) := by decide +kernel
theorem dX11_under_5 : decode cX11_under 5 = .ok (.iload_n 2, 1) := by decide +kernel
theorem dX11_under_6 : decode cX11_under 6 = .ok (.iload_n 3, 1) := by decide +kernel
theorem dX11_under_7 : decode cX11_under 7 = .ok (.invokevirtual 140, 3) := by decide +kernel
theorem dX11_under_10 : decode cX11_under 10 = .ok (.ireturn, 1) := by decide +kernel
theorem dX11_addBytes_0 : decode cX11_addBytes 0 = .ok (.bipush 24, 2) := by decide +kernel
theorem dX11_addBytes_2 : decode cX11_addBytes 2 = .ok (.istore_n 2, 1) := by decide +kernel
theorem dX11_addBytes_3 : decode cX11_addBytes 3 = .ok (.iload_n 2, 1) := by decide +kernel
theorem dX11_addBytes_4 : decode cX11_addBytes 4 = .ok (.ifCond .lt 42, 3) := by decide +kernel
theorem dX11_addBytes_7 : decode cX11_addBytes 7 = .ok (.aload_n 0, 1) := by decide +kernel
theorem dX11_addBytes_8 : decode cX11_addBytes 8 = .ok (.getfield 13, 3) := by decide +kernel
theorem dX11_addBytes_11 : decode cX11_addBytes 11 = .ok (.sipush 3000, 3) := by decide +kernel
theorem dX11_addBytes_14 : decode cX11_addBytes 14 = .ok (.if_icmp .ge 32, 3) := by decide +kernel
theorem dX11_addBytes_17 : decode cX11_addBytes 17 = .ok (.aload_n 0, 1) := by decide +kernel
theorem dX11_addBytes_18 : decode cX11_addBytes 18 = .ok (.getfield 9, 3) := by decide +kernel
theorem dX11_addBytes_21 : decode cX11_addBytes 21 = .ok (.aload_n 0, 1) := by decide +kernel
theorem dX11_addBytes_22 : decode cX11_addBytes 22 = .ok (.getfield 13, 3) := by decide +kernel
theorem dX11_addBytes_25 : decode cX11_addBytes 25 = .ok (.iload_n 1, 1) := by decide +kernel
theorem dX11_addBytes_26 : decode cX11_addBytes 26 = .ok (.iload_n 2, 1) := by decide +kernel
theorem dX11_addBytes_27 : decode cX11_addBytes 27 = .ok (.ishr, 1) := by decide +kernel
theorem dX11_addBytes_28 : decode cX11_addBytes 28 = .ok (.i2b, 1) := by decide +kernel
theorem dX11_addBytes_29 : decode cX11_addBytes 29 = .ok (.bastore, 1) := by decide +kernel
theorem dX11_addBytes_30 : decode cX11_addBytes 30 = .ok (.aload_n 0, 1) := by decide +kernel
theorem dX11_addBytes_31 : decode cX11_addBytes 31 = .ok (.dup, 1) := by decide +kernel
theorem dX11_addBytes_32 : decode cX11_addBytes 32 = .ok (.getfield 13, 3) := by decide +kernel
theorem dX11_addBytes_35 : decode cX11_addBytes 35 = .ok (.iconst 1, 1) := by decide +kernel
theorem dX11_addBytes_36 : decode cX11_addBytes 36 = .ok (.iadd, 1) := by decide +kernel
theorem dX11_addBytes_37 : decode cX11_addBytes 37 = .ok (.putfield 13, 3) := by decide +kernel
theorem dX11_addBytes_40 : decode cX11_addBytes 40 = .ok (.iinc 2 (-8), 3) := by decide +kernel
theorem dX11_addBytes_43 : decode cX11_addBytes 43 = .ok (.goto (-40), 3) := by decide +kernel
theorem dX11_addBytes_46 : decode cX11_addBytes 46 = .ok (.return_, 1) := by decide +kernel
theorem dX11_isTongue_0 : decode cX11_isTongue 0 = .ok (.iload_n 0, 1) := by decide +kernel
theorem dX11_isTongue_1 : decode cX11_isTongue 1 = .ok (.ifCond .lt 12, 3) := by decide +kernel
theorem dX11_isTongue_4 : decode cX11_isTongue 4 = .ok (.iload_n 0, 1) := by decide +kernel
theorem dX11_isTongue_5 : decode cX11_isTongue 5 = .ok (.iconst 4, 1) := by decide +kernel
theorem dX11_isTongue_6 : decode cX11_isTongue 6 = .ok (.if_icmp .ge 7, 3) := by decide +kernel
theorem dX11_isTongue_9 : decode cX11_isTongue 9 = .ok (.iconst 1, 1) := by decide +kernel
theorem dX11_isTongue_10 : decode cX11_isTongue 10 = .ok (.goto 4, 3) := by decide +kernel
theorem dX11_isTongue_13 : decode cX11_isTongue 13 = .ok (.iconst 0, 1) := by decide +kernel
theorem dX11_isTongue_14 : decode cX11_isTongue 14 = .ok (.ireturn, 1) := by decide +kernel
set_option maxRecDepth 20000 in
theorem ggJ0_length_8abf5_J0_coder_7d493 : GoodIn wsJ0_length_8abf5 wsJ0_coder_7d493 := goodIn_r _ [6, 7, 8] (by decide +kernel) (by decide +kernel)
set_option maxRecDepth 20000 in
theorem gJ0_length_8abf5_J0_coder_7d493 : GoodIn wsJ0_length_8abf5 (wsV RJ0 335 RJ0 yJ0_coder_7d493 wsJ0_coder_7d493) := goodIn_app (goodIn_of _ (by decide +kernel)) ggJ0_length_8abf5_J0_coder_7d493
theorem dJ0_length_8abf5_0 : decode cJ0_length_8abf5 0 = .ok (.aload_n 0, 1) := by decide +kernel
theorem dJ0_length_8abf5_1 : decode cJ0_length_8abf5 1 = .ok (.getfield 9, 3) := by decide +kernel
theorem dJ0_length_8abf5_4 : decode cJ0_length_8abf5 4 = .ok (.arraylength, 1) := by decide +kernel
theorem dJ0_length_8abf5_5 : decode cJ0_length_8abf5 5 = .ok (.aload_n 0, 1) := by decide +kernel
theorem dJ0_length_8abf5_6 : decode cJ0_length_8abf5 6 = .ok (.invokevirtual 335, 3) := by decide +kernel
theorem dJ0_length_8abf5_9 : decode cJ0_length_8abf5 9 = .ok (.ishr, 1) := by decide +kernel
theorem dJ0_length_8abf5_10 : decode cJ0_length_8abf5 10 = .ok (.ireturn, 1) := by decide +kernel
set_option maxRecDepth 20000 in
theorem ggJ0_charAt_5068e_J0_isLatin1_aae02 : GoodIn wsJ0_charAt_5068e wsJ0_isLatin1_aae02 := goodIn_r _ [6, 7, 8] (by decide +kernel) (by decide +kernel)
set_option maxRecDepth 20000 in
theorem gJ0_charAt_5068e_J0_isLatin1_aae02 : GoodIn wsJ0_charAt_5068e (wsV RJ0 492 RJ0 yJ0_isLatin1_aae02 wsJ0_isLatin1_aae02) := goodIn_app (goodIn_of _ (by decide +kernel)) ggJ0_charAt_5068e_J0_isLatin1_aae02
set_option maxRecDepth 20000 in
theorem ggJ0_charAt_5068e_J1_charAt_3b067 : GoodIn wsJ0_charAt_5068e wsJ1_charAt_3b067 := goodIn_r _ [12, 13, 14, 5, 15, 16, 17, 18, 19, 20] (by decide +kernel) (by decide +kernel)
set_option maxRecDepth 20000 in
theorem gJ0_charAt_5068e_J1_charAt_3b067 : GoodIn wsJ0_charAt_5068e (va_wsS RJ0 495 yJ1_charAt_3b067 wsJ1_charAt_3b067) := goodIn_app (goodIn_of _ (by decide +kernel)) ggJ0_charAt_5068e_J1_charAt_3b067
theorem dJ0_charAt_5068e_0 : decode cJ0_charAt_5068e 0 = .ok (.aload_n 0, 1) := by decide +kernel
theorem dJ0_charAt_5068e_1 : decode cJ0_charAt_5068e 1 = .ok (.invokevirtual 492, 3) := by decide +kernel
theorem dJ0_charAt_5068e_4 : decode cJ0_charAt_5068e 4 = .ok (.ifCond .eq 12, 3) := by decide +kernel
theorem dJ0_charAt_5068e_7 : decode cJ0_charAt_5068e 7 = .ok (.aload_n 0, 1) := by decide +kernel
theorem dJ0_charAt_5068e_8 : decode cJ0_charAt_5068e 8 = .ok (.getfield 9, 3) := by decide +kernel
theorem dJ0_charAt_5068e_11 : decode cJ0_charAt_5068e 11 = .ok (.iload_n 1, 1) := by decide +kernel
theorem dJ0_charAt_5068e_12 : decode cJ0_charAt_5068e 12 = .ok (.invokestatic 495, 3) := by decide +kernel
theorem dJ0_charAt_5068e_15 : decode cJ0_charAt_5068e 15 = .ok (.ireturn, 1) := by decide +kernel
theorem dJ0_coder_7d493_0 : decode cJ0_coder_7d493 0 = .ok (.getstatic 38, 3) := by decide +kernel
theorem dJ0_coder_7d493_3 : decode cJ0_coder_7d493 3 = .ok (.ifCond .eq 10, 3) := by decide +kernel
theorem dJ0_coder_7d493_6 : decode cJ0_coder_7d493 6 = .ok (.aload_n 0, 1) := by decide +kernel
theorem dJ0_coder_7d493_7 : decode cJ0_coder_7d493 7 = .ok (.getfield 15, 3) := by decide +kernel
theorem dJ0_coder_7d493_10 : decode cJ0_coder_7d493 10 = .ok (.goto 4, 3) := by decide +kernel
theorem dJ0_coder_7d493_14 : decode cJ0_coder_7d493 14 = .ok (.ireturn, 1) := by decide +kernel
theorem dJ0_isLatin1_aae02_0 : decode cJ0_isLatin1_aae02 0 = .ok (.getstatic 38, 3) := by decide +kernel
theorem dJ0_isLatin1_aae02_3 : decode cJ0_isLatin1_aae02 3 = .ok (.ifCond .eq 14, 3) := by decide +kernel
theorem dJ0_isLatin1_aae02_6 : decode cJ0_isLatin1_aae02 6 = .ok (.aload_n 0, 1) := by decide +kernel
theorem dJ0_isLatin1_aae02_7 : decode cJ0_isLatin1_aae02 7 = .ok (.getfield 15, 3) := by decide +kernel
theorem dJ0_isLatin1_aae02_10 : decode cJ0_isLatin1_aae02 10 = .ok (.ifCond .ne 7, 3) := by decide +kernel
theorem dJ0_isLatin1_aae02_13 : decode cJ0_isLatin1_aae02 13 = .ok (.iconst 1, 1) := by decide +kernel
theorem dJ0_isLatin1_aae02_14 : decode cJ0_isLatin1_aae02 14 = .ok (.goto 4, 3) := by decide +kernel
theorem dJ0_isLatin1_aae02_18 : decode cJ0_isLatin1_aae02 18 = .ok (.ireturn, 1) := by decide +kernel
set_option maxRecDepth 20000 in
theorem ggJ0_checkIndex_df160_J3_checkIndex_8e157 : GoodIn wsJ0_checkIndex_df160 wsJ3_checkIndex_8e157 := goodIn_r _ [5] (by decide +kernel) (by decide +kernel)
set_option maxRecDepth 20000 in
theorem gJ0_checkIndex_df160_J3_checkIndex_8e157 : GoodIn wsJ0_checkIndex_df160 (va_wsS RJ0 1059 yJ3_checkIndex_8e157 wsJ3_checkIndex_8e157) := goodIn_app (goodIn_of _ (by decide +kernel)) ggJ0_checkIndex_df160_J3_checkIndex_8e157
theorem dJ0_checkIndex_df160_0 : decode cJ0_checkIndex_df160 0 = .ok (.iload_n 0, 1) := by decide +kernel
theorem dJ0_checkIndex_df160_1 : decode cJ0_checkIndex_df160 1 = .ok (.iload_n 1, 1) := by decide +kernel
theorem dJ0_checkIndex_df160_2 : decode cJ0_checkIndex_df160 2 = .ok (.getstatic 1053, 3) := by decide +kernel
theorem dJ0_checkIndex_df160_5 : decode cJ0_checkIndex_df160 5 = .ok (.invokestatic 1059, 3) := by decide +kernel
theorem dJ0_checkIndex_df160_8 : decode cJ0_checkIndex_df160 8 = .ok (.pop, 1) := by decide +kernel
theorem dJ0_checkIndex_df160_9 : decode cJ0_checkIndex_df160 9 = .ok (.return_, 1) := by decide +kernel
set_option maxRecDepth 20000 in
theorem ggJ1_charAt_3b067_J0_checkIndex_df160 : GoodIn wsJ1_charAt_3b067 wsJ0_checkIndex_df160 := goodIn_r _ [4, 5, 6, 7, 8, 9] (by decide +kernel) (by decide +kernel)
set_option maxRecDepth 20000 in
theorem gJ1_charAt_3b067_J0_checkIndex_df160 : GoodIn wsJ1_charAt_3b067 (va_wsS RJ1 9 yJ0_checkIndex_df160 wsJ0_checkIndex_df160) := goodIn_app (goodIn_of _ (by decide +kernel)) ggJ1_charAt_3b067_J0_checkIndex_df160
theorem dJ1_charAt_3b067_0 : decode cJ1_charAt_3b067 0 = .ok (.iload_n 1, 1) := by decide +kernel
theorem dJ1_charAt_3b067_1 : decode cJ1_charAt_3b067 1 = .ok (.aload_n 0, 1) := by decide +kernel
theorem dJ1_charAt_3b067_2 : decode cJ1_charAt_3b067 2 = .ok (.arraylength, 1) := by decide +kernel
theorem dJ1_charAt_3b067_3 : decode cJ1_charAt_3b067 3 = .ok (.invokestatic 9, 3) := by decide +kernel
theorem dJ1_charAt_3b067_6 : decode cJ1_charAt_3b067 6 = .ok (.aload_n 0, 1) := by decide +kernel
theorem dJ1_charAt_3b067_7 : decode cJ1_charAt_3b067 7 = .ok (.iload_n 1, 1) := by decide +kernel
theorem dJ1_charAt_3b067_8 : decode cJ1_charAt_3b067 8 = .ok (.baload, 1) := by decide +kernel
theorem dJ1_charAt_3b067_9 : decode cJ1_charAt_3b067 9 = .ok (.sipush 255, 3) := by decide +kernel
theorem dJ1_charAt_3b067_12 : decode cJ1_charAt_3b067 12 = .ok (.iand, 1) := by decide +kernel
theorem dJ1_charAt_3b067_13 : decode cJ1_charAt_3b067 13 = .ok (.i2c, 1) := by decide +kernel
theorem dJ1_charAt_3b067_14 : decode cJ1_charAt_3b067 14 = .ok (.ireturn, 1) := by decide +kernel
theorem dJ7_fill_53178_0 : decode cJ7_fill_53178 0 = .ok (.iconst 0, 1) := by decide +kernel
theorem dJ7_fill_53178_1 : decode cJ7_fill_53178 1 = .ok (.istore_n 2, 1) := by decide +kernel
theorem dJ7_fill_53178_2 : decode cJ7_fill_53178 2 = .ok (.aload_n 0, 1) := by decide +kernel
theorem dJ7_fill_53178_3 : decode cJ7_fill_53178 3 = .ok (.arraylength, 1) := by decide +kernel
theorem dJ7_fill_53178_4 : decode cJ7_fill_53178 4 = .ok (.istore_n 3, 1) := by decide +kernel
theorem dJ7_fill_53178_5 : decode cJ7_fill_53178 5 = .ok (.iload_n 2, 1) := by decide +kernel
theorem dJ7_fill_53178_6 : decode cJ7_fill_53178 6 = .ok (.iload_n 3, 1) := by decide +kernel
theorem dJ7_fill_53178_7 : decode cJ7_fill_53178 7 = .ok (.if_icmp .ge 13, 3) := by decide +kernel
theorem dJ7_fill_53178_10 : decode cJ7_fill_53178 10 = .ok (.aload_n 0, 1) := by decide +kernel
theorem dJ7_fill_53178_11 : decode cJ7_fill_53178 11 = .ok (.iload_n 2, 1) := by decide +kernel
theorem dJ7_fill_53178_12 : decode cJ7_fill_53178 12 = .ok (.iload_n 1, 1) := by decide +kernel
theorem dJ7_fill_53178_13 : decode cJ7_fill_53178 13 = .ok (.iastore, 1) := by decide +kernel
theorem dJ7_fill_53178_14 : decode cJ7_fill_53178 14 = .ok (.iinc 2 1, 3) := by decide +kernel
theorem dJ7_fill_53178_17 : decode cJ7_fill_53178 17 = .ok (.goto (-12), 3) := by decide +kernel
theorem dJ7_fill_53178_20 : decode cJ7_fill_53178 20 = .ok (.return_, 1) := by decide +kernel
theorem dJ3_checkIndex_8e157_0 : decode cJ3_checkIndex_8e157 0 = .ok (.iload_n 0, 1) := by decide +kernel
theorem dJ3_checkIndex_8e157_1 : decode cJ3_checkIndex_8e157 1 = .ok (.ifCond .lt 8, 3) := by decide +kernel
theorem dJ3_checkIndex_8e157_4 : decode cJ3_checkIndex_8e157 4 = .ok (.iload_n 0, 1) := by decide +kernel
theorem dJ3_checkIndex_8e157_5 : decode cJ3_checkIndex_8e157 5 = .ok (.iload_n 1, 1) := by decide +kernel
theorem dJ3_checkIndex_8e157_6 : decode cJ3_checkIndex_8e157 6 = .ok (.if_icmp .lt 10, 3) := by decide +kernel
theorem dJ3_checkIndex_8e157_16 : decode cJ3_checkIndex_8e157 16 = .ok (.iload_n 0, 1) := by decide +kernel
theorem dJ3_checkIndex_8e157_17 : decode cJ3_checkIndex_8e157 17 = .ok (.ireturn, 1) := by decide +kernel
abbrev vwCl : List vw_C := [(RX0, TX0, 6), (RX1, TX1, 5), (RX2, TX2, 8), (RX3, TX3, 7), (RX4, TX4, 17), (RX5, TX5, 5), (RX7, TX7, 11), (RX8, TX8, 8), (RX9, TX9, 4), (RX10, TX10, 16), (RX11, TX11, 9), (RX12, TX12, 106)]
end
section
/-! words of my own over the kit's worlds: what a method that only reads is given (xR), what one that writes is given (xM), what it leaves (xB) -/
section XB
variable {p : Program} {l : Launch} {e : Env} {R : Room} {s : State} {m : MethodId} {args : Array Value} {below : List Frame} {meth : Method} {c : Code} {H : Heap} {locs : List Loc} {cells slots : Nat} {Q : State → Prop}
theorem my_ti {pc : Nat} {ls : Array Slot} {rest : List Value} {x v : Int32} (h : x = v) (k : W p l e R s m args below meth c H locs cells slots Q (F0 m pc ls (.int v :: rest))) : W p l e R s m args below meth c H locs cells slots Q (F0 m pc ls (.int x :: rest)) := by
  subst h; exact k
theorem my_tl {pc : Nat} {ls : Array Slot} {rest : List Value} {x v : Int64} (h : x = v) (k : W p l e R s m args below meth c H locs cells slots Q (F0 m pc ls (.long v :: rest))) : W p l e R s m args below meth c H locs cells slots Q (F0 m pc ls (.long x :: rest)) := by
  subst h; exact k
theorem my_tv {pc : Nat} {ls : Array Slot} {rest : List Value} {x v : Value} (h : x = v) (k : W p l e R s m args below meth c H locs cells slots Q (F0 m pc ls (v :: rest))) : W p l e R s m args below meth c H locs cells slots Q (F0 m pc ls (x :: rest)) := by
  subst h; exact k
end XB
def xR (D : va_G) (ws : va_W) (tys : List (ClassId × FieldType)) (U : State) : Prop := va_P D vwCl ws U.heap ∧ va_K D vwCl tys U
def xM (D : va_G) (sz : Nat) (ws : va_W) (tys : List (ClassId × FieldType)) (U : State) : Prop := U.heap.size = sz ∧ va_P D vwCl ws U.heap ∧ va_K D vwCl tys U ∧ va_D (fun _ => True) ws
def xB (D : va_G) (ws : va_W) (tys : List (ClassId × FieldType)) (A : Nat → Prop) (t : State) : Prop := va_P D vwCl ws t.heap ∧ va_K D vwCl tys t ∧ va_D A ws
theorem xR.at {D : va_G} {ws : va_W} {tys : List (ClassId × FieldType)} {s U : State} {H : Heap} (hP : va_P D vwCl ws H) (hK : va_K D vwCl tys s) (hU : U.heap = H) (hW : s.WarmedH U.vm) : xR D ws tys U := ⟨by rw [hU]; exact hP, va_K.moved hW.alike hK⟩
theorem xM.at {D : va_G} {ws : va_W} {tys : List (ClassId × FieldType)} {s U : State} {H : Heap} {A : Nat → Prop} (hP : va_P D vwCl ws H) (hK : va_K D vwCl tys s) (hD : va_D A ws) (hU : U.heap = H) (hW : s.WarmedH U.vm) : xM D H.size ws tys U := ⟨by rw [hU], by rw [hU]; exact hP, va_K.moved hW.alike hK, hD.weaken (fun _ _ _ _ => trivial)⟩
theorem xR.keep {D : va_G} {ws : va_W} {H H1 : Heap} (hP : va_P D vwCl ws H) (hk : ∀ q : Nat, q < H.size → ¬ (fun _ : Nat => False) q → H1[q]? = H[q]?) : va_P D vwCl ws H1 := fun k q h => (hP k q h).kept (hk q.1 (hP k q h).lt (fun h => h))
theorem xB.nil {D : va_G} {A : Nat → Prop} {tys : List (ClassId × FieldType)} {s t : State} (hvm : s.vm.Alike t.vm) (hK : va_K D vwCl tys s) : xB D [] [] A t := ⟨fun k q h => by simp at h, va_K.moved hvm (hK.sub [] rfl), ⟨fun i j p q h => by simp at h, fun k q h => by simp at h⟩⟩
theorem xB.join {A0 : Nat → Prop} {D : va_G} {ws wc wr w1 : va_W} {tys t1 : List (ClassId × FieldType)} {H H1 : Heap} {s t : State} (hP : va_P D vwCl ws H) (hD : va_D A0 ws) (hK : va_K D vwCl tys s) (isC isR : List Nat) (hC : isC.map (fun i => ws[i]?) = wc.map some) (hR : isR.map (fun i => ws[i]?) = wr.map some) (hn : va_nd isR = true) (hdis : ∀ i ∈ isR, i ∉ isC)
    (hk : ∀ q : Nat, q < H.size → ¬ va_A wc H.size q → H1[q]? = H[q]?) (hF : ∀ q, va_A wc H.size q → A0 q) (hB : xB D w1 t1 (va_A wc H.size) t) (ht : t.heap = H1) (hvm : s.vm.Alike t.vm) : va_P D vwCl (wr ++ w1) H1 ∧ va_D A0 (wr ++ w1) ∧ va_K D vwCl (tys ++ t1) s := by
  obtain ⟨hP1, hK1, hD1⟩ := hB
  rw [ht] at hP1
  obtain ⟨h1, h2⟩ := va_join hP hD isC isR hC hR hn hdis hk hF hP1 hD1
  exact ⟨h1, h2, hK.app (va_K.moved hvm.symm hK1)⟩
theorem cz_int (n : Nat) : ∀ cA : ClassId, vp_cell cA (n, .inl (fun _ => 0)) = arrV cA n (fun _ => defaultValue .int) := fun _ => rfl
theorem cz_byte (n : Nat) : ∀ cA : ClassId, vp_cell cA (n, .inl (fun _ => 0)) = arrV cA n (fun _ => defaultValue .byte) := fun _ => rfl
theorem cz_long (n : Nat) : ∀ cA : ClassId, vp_cell cA (n, .inr (.inl (fun _ => 0))) = arrV cA n (fun _ => defaultValue .long) := fun _ => rfl
theorem cz_double (n : Nat) : ∀ cA : ClassId, vp_cell cA (n, .inr (.inr (.inr (.inl (fun _ => 0))))) = arrV cA n (fun _ => defaultValue .double) := fun _ => rfl
theorem fb_R {av : List Value} {D : va_G} {ws : va_W} {tys : List (ClassId × FieldType)} : FrameBlind (va_Pc av (fun U => xR D ws tys U)) := fun a U g mk q => ⟨q.1, q.2.1, va_K.moved (u := U) (U := U.calling g mk a) (Vm.Alike.refl U.vm) q.2.2⟩
theorem fb_M {av : List Value} {D : va_G} {sz : Nat} {ws : va_W} {tys : List (ClassId × FieldType)} : FrameBlind (va_Pc av (fun U => xM D sz ws tys U)) := fun a U g mk q => ⟨q.1, q.2.1, q.2.2.1, va_K.moved (u := U) (U := U.calling g mk a) (Vm.Alike.refl U.vm) q.2.2.2.1, q.2.2.2.2⟩
theorem fb_RE {av : List Value} {D : va_G} {ws : va_W} {tys : List (ClassId × FieldType)} {E : State → Prop} (hE : ∀ (U : State) (g : JFrame) (mk : MethodId) (a : Array Value), E U → E (U.calling g mk a)) : FrameBlind (va_Pc av (fun U => xR D ws tys U ∧ E U)) := fun a U g mk q => ⟨q.1, ⟨q.2.1.1, va_K.moved (u := U) (U := U.calling g mk a) (Vm.Alike.refl U.vm) q.2.1.2⟩, hE U g mk a q.2.2⟩
theorem fb_ME {av : List Value} {D : va_G} {sz : Nat} {ws : va_W} {tys : List (ClassId × FieldType)} {E : State → Prop} (hE : ∀ (U : State) (g : JFrame) (mk : MethodId) (a : Array Value), E U → E (U.calling g mk a)) : FrameBlind (va_Pc av (fun U => xM D sz ws tys U ∧ E U)) := fun a U g mk q => ⟨q.1, ⟨q.2.1.1, q.2.1.2.1, va_K.moved (u := U) (U := U.calling g mk a) (Vm.Alike.refl U.vm) q.2.1.2.2.1, q.2.1.2.2.2⟩, hE U g mk a q.2.2⟩
/-- a text that the class has as a constant: its String at aK, the bytes at aV; and the two statics that its methods read -/
def sE (kn : Nat) (byt : List Int32) (aK aV : Nat) (A : Nat → Prop) (U : State) (H : Heap) : Prop :=
  va_O "java/lang/String" aK A U H ∧ va_OF "java/lang/String" "coder" "B" (.int 0) aK A U H ∧ va_OF "java/lang/String" "value" "[B" (.ref aV) aK A U H ∧ va_T .byte aV kn (fun j => .int (byt.getD j 0)) A U H ∧ va_Z "java/lang/String" "COMPACT_STRINGS" "Z" (.int 1) A U H ∧ va_Zq "jdk/internal/util/Preconditions" "SIOOBE_FORMATTER" "Ljava/util/function/BiFunction;" A U H
theorem sE.moved {kn : Nat} {byt : List Int32} {aK aV : Nat} {A : Nat → Prop} {u U : State} {H : Heap} (hvm : u.vm.Alike U.vm) (h : sE kn byt aK aV A u H) : sE kn byt aK aV A U H := ⟨h.1.moved hvm, h.2.1.moved hvm, h.2.2.1.moved hvm, h.2.2.2.1.moved hvm, h.2.2.2.2.1.moved hvm, h.2.2.2.2.2.moved hvm⟩
theorem sE.kept {kn : Nat} {byt : List Int32} {aK aV : Nat} {A : Nat → Prop} {U : State} {H H1 : Heap} (h : sE kn byt aK aV A U H) (hq : ∀ a : Nat, a < H.size → ¬ A a → H1[a]? = H[a]?) : sE kn byt aK aV A U H1 := ⟨h.1.kept hq, h.2.1.kept hq, h.2.2.1.kept hq, h.2.2.2.1.kept hq, h.2.2.2.2.1.kept hq, h.2.2.2.2.2.kept hq⟩
theorem sE.narrow {kn : Nat} {byt : List Int32} {aK aV : Nat} {A B : Nat → Prop} {U : State} {H : Heap} (h : sE kn byt aK aV A U H) (hAB : ∀ q, B q → A q) : sE kn byt aK aV B U H := ⟨h.1.narrow hAB, h.2.1.narrow hAB, h.2.2.1.narrow hAB, h.2.2.2.1.narrow hAB, h.2.2.2.2.1.narrow hAB, h.2.2.2.2.2.narrow hAB⟩
theorem sE.at {kn : Nat} {byt : List Int32} {aK aV : Nat} {A B : Nat → Prop} {s U : State} {H : Heap} {locs : List Loc} (hE : sE kn byt aK aV A s s.heap) (hS : va_S A s.heap H locs) (hAB : ∀ q, B q → A q) (hU : U.heap = H) (hW : s.WarmedH U.vm) : sE kn byt aK aV B U U.heap := by
  rw [hU]
  exact ((hE.kept hS.2.1).moved hW.alike).narrow hAB
theorem sE.fb {kn : Nat} {byt : List Int32} {aK aV : Nat} {A : Nat → Prop} : ∀ (U : State) (g : JFrame) (mk : MethodId) (a : Array Value), sE kn byt aK aV A U U.heap → sE kn byt aK aV A (U.calling g mk a) (U.calling g mk a).heap := fun U g mk a h => sE.moved (u := U) (U := U.calling g mk a) (Vm.Alike.refl U.vm) h
theorem sE.recv {kn : Nat} {byt : List Int32} {aK aV : Nat} {A : Nat → Prop} {s : State} {H : Heap} {locs : List Loc} (hE : sE kn byt aK aV A s s.heap) (hS : va_S A s.heap H locs) : ∃ cell : Cell, H[aK]? = some cell ∧ cell.vm.isStatics = false ∧ s.vm.findClass RJ0 = some cell.cls := va_Orecv hE.1 hS
theorem na_char (x : Int32) : narrow .char (.int (x.toUInt32 % 65536).toInt32) = .int (x.toUInt32 % 65536).toInt32 := by
  have h : ∀ y : UInt32, y % 65536 % 65536 = y % 65536 := fun y => UInt32.toNat_inj.mp (by rw [UInt32.toNat_mod, UInt32.toNat_mod, Nat.mod_mod])
  simp [narrow, h]
/-- a loop: what holds at its head, i times round -/
theorem my_for {p : Program} {l : Launch} {e : Env} {R : Room} {s : State} {m : MethodId} {args : Array Value} {below : List Frame} {meth : Method} {c : Code} {cells slots : Nat} {Q : State → Prop} {I : Nat → Heap → List Loc → Array Slot → Prop} {pc : Nat} {st : List Value} (N : Nat)
    (step : ∀ (i : Nat) (H : Heap) (locs : List Loc) (ls : Array Slot), i ≤ N → I i H locs ls → (i < N → ∀ (H' : Heap) (locs' : List Loc) (ls' : Array Slot), I (i + 1) H' locs' ls' → W p l e R s m args below meth c H' locs' cells slots Q (F0 m pc ls' st)) → W p l e R s m args below meth c H locs cells slots Q (F0 m pc ls st)) :
    ∀ (i : Nat) (H : Heap) (locs : List Loc) (ls : Array Slot), i ≤ N → I i H locs ls → W p l e R s m args below meth c H locs cells slots Q (F0 m pc ls st) := by
  suffices h : ∀ (d i : Nat), i + d = N → ∀ (H : Heap) (locs : List Loc) (ls : Array Slot), I i H locs ls → W p l e R s m args below meth c H locs cells slots Q (F0 m pc ls st) from fun i H locs ls hi hI => h (N - i) i (by omega) H locs ls hI
  intro d
  induction d with
  | zero => intro i hi H locs ls hI; exact step i H locs ls (by omega) hI (fun h => absurd h (by omega))
  | succ d ih => intro i hi H locs ls hI; exact step i H locs ls (by omega) hI (fun _ H' locs' ls' h' => ih (i + 1) (by omega) H' locs' ls' h')
/-- a text constant, and the row that loads it -/
def eS (own : String) (ix : Nat) (tx : String) (kn : Nat) (byt : List Int32) (aK aV : Nat) (A : Nat → Prop) (U : State) : Prop := sE kn byt aK aV A U U.heap ∧ vk_R own ix tx aK U
theorem eS.at {own tx : String} {ix kn : Nat} {byt : List Int32} {aK aV : Nat} {A B : Nat → Prop} {s U : State} {H : Heap} {locs : List Loc} (hE : eS own ix tx kn byt aK aV A s) (hS : va_S A s.heap H locs) (hAB : ∀ q, B q → A q) (hU : U.heap = H) (hW : s.WarmedH U.vm) : eS own ix tx kn byt aK aV B U := ⟨hE.1.at hS hAB hU hW, hE.2.warm hW⟩
theorem eS.fb {own tx : String} {ix kn : Nat} {byt : List Int32} {aK aV : Nat} {A : Nat → Prop} : ∀ (U : State) (g : JFrame) (mk : MethodId) (a : Array Value), eS own ix tx kn byt aK aV A U → eS own ix tx kn byt aK aV A (U.calling g mk a) := fun U g mk a h => ⟨sE.fb U g mk a h.1, vk_R.same (u := U) (U := U.calling g mk a) rfl h.2⟩
theorem eN_at {a : String} {i : Nat} {x : MethodName} {h : String} {s U : State} (hZ : va_Nw (.methodLinkNest a i x h) s) (hW : s.WarmedH U.vm) : va_Nw (.methodLinkNest a i x h) U := va_Nw.warmM hW hZ
theorem eN_fb {a : String} {i : Nat} {x : MethodName} {h : String} (U : State) (g : JFrame) (mk : MethodId) (b : Array Value) (hZ : va_Nw (.methodLinkNest a i x h) U) : va_Nw (.methodLinkNest a i x h) (U.calling g mk b) := va_Nw.same (u := U) (U := U.calling g mk b) rfl rfl hZ
theorem df_X0 : ∀ j, j < 6 → defaultValue (tyX0 j) = vp_V [.null, .null, .null, .null, .null, .int 0] j := by
  intro j hj
  match j, hj with
  | 0, _ => rfl
  | 1, _ => rfl
  | 2, _ => rfl
  | 3, _ => rfl
  | 4, _ => rfl
  | 5, _ => rfl
  | (k + 6), h => exact absurd h (by omega)
theorem df_X1 : ∀ j, j < 5 → defaultValue (tyX1 j) = vp_V [.null, .int 0, .null, .null, .int 0] j := by
  intro j hj
  match j, hj with
  | 0, _ => rfl
  | 1, _ => rfl
  | 2, _ => rfl
  | 3, _ => rfl
  | 4, _ => rfl
  | (k + 5), h => exact absurd h (by omega)
theorem df_X10 : ∀ j, j < 16 → defaultValue (tyX10 j) = vp_V [.null, .null, .null, .null, .null, .null, .int 0, .int 0, .int 0, .int 0, .int 0, .int 0, .int 0, .int 0, .long 0, .double 0] j := by
  intro j hj
  match j, hj with
  | 0, _ => rfl
  | 1, _ => rfl
  | 2, _ => rfl
  | 3, _ => rfl
  | 4, _ => rfl
  | 5, _ => rfl
  | 6, _ => rfl
  | 7, _ => rfl
  | 8, _ => rfl
  | 9, _ => rfl
  | 10, _ => rfl
  | 11, _ => rfl
  | 12, _ => rfl
  | 13, _ => rfl
  | 14, _ => rfl
  | 15, _ => rfl
  | (k + 16), h => exact absurd h (by omega)
theorem df_X2 : ∀ j, j < 8 → defaultValue (tyX2 j) = vp_V [.null, .null, .null, .null, .null, .null, .null, .int 0] j := by
  intro j hj
  match j, hj with
  | 0, _ => rfl
  | 1, _ => rfl
  | 2, _ => rfl
  | 3, _ => rfl
  | 4, _ => rfl
  | 5, _ => rfl
  | 6, _ => rfl
  | 7, _ => rfl
  | (k + 8), h => exact absurd h (by omega)
theorem df_X3 : ∀ j, j < 7 → defaultValue (tyX3 j) = vp_V [.null, .null, .null, .null, .null, .null, .int 0] j := by
  intro j hj
  match j, hj with
  | 0, _ => rfl
  | 1, _ => rfl
  | 2, _ => rfl
  | 3, _ => rfl
  | 4, _ => rfl
  | 5, _ => rfl
  | 6, _ => rfl
  | (k + 7), h => exact absurd h (by omega)
theorem df_X4 : ∀ j, j < 17 → defaultValue (tyX4 j) = vp_V [.null, .null, .null, .null, .null, .null, .null, .null, .null, .null, .null, .int 0, .int 0, .int 0, .int 0, .int 0, .long 0] j := by
  intro j hj
  match j, hj with
  | 0, _ => rfl
  | 1, _ => rfl
  | 2, _ => rfl
  | 3, _ => rfl
  | 4, _ => rfl
  | 5, _ => rfl
  | 6, _ => rfl
  | 7, _ => rfl
  | 8, _ => rfl
  | 9, _ => rfl
  | 10, _ => rfl
  | 11, _ => rfl
  | 12, _ => rfl
  | 13, _ => rfl
  | 14, _ => rfl
  | 15, _ => rfl
  | 16, _ => rfl
  | (k + 17), h => exact absurd h (by omega)
theorem df_X5 : ∀ j, j < 5 → defaultValue (tyX5 j) = vp_V [.null, .null, .null, .int 0, .int 0] j := by
  intro j hj
  match j, hj with
  | 0, _ => rfl
  | 1, _ => rfl
  | 2, _ => rfl
  | 3, _ => rfl
  | 4, _ => rfl
  | (k + 5), h => exact absurd h (by omega)
theorem df_X7 : ∀ j, j < 11 → defaultValue (tyX7 j) = vp_V [.null, .null, .null, .null, .null, .int 0, .int 0, .int 0, .int 0, .int 0, .int 0] j := by
  intro j hj
  match j, hj with
  | 0, _ => rfl
  | 1, _ => rfl
  | 2, _ => rfl
  | 3, _ => rfl
  | 4, _ => rfl
  | 5, _ => rfl
  | 6, _ => rfl
  | 7, _ => rfl
  | 8, _ => rfl
  | 9, _ => rfl
  | 10, _ => rfl
  | (k + 11), h => exact absurd h (by omega)
theorem df_X8 : ∀ j, j < 8 → defaultValue (tyX8 j) = vp_V [.null, .int 0, .null, .null, .null, .null, .null, .int 0] j := by
  intro j hj
  match j, hj with
  | 0, _ => rfl
  | 1, _ => rfl
  | 2, _ => rfl
  | 3, _ => rfl
  | 4, _ => rfl
  | 5, _ => rfl
  | 6, _ => rfl
  | 7, _ => rfl
  | (k + 8), h => exact absurd h (by omega)
theorem df_X9 : ∀ j, j < 4 → defaultValue (tyX9 j) = vp_V [.null, .null, .null, .int 0] j := by
  intro j hj
  match j, hj with
  | 0, _ => rfl
  | 1, _ => rfl
  | 2, _ => rfl
  | 3, _ => rfl
  | (k + 4), h => exact absurd h (by omega)
end
section
def chr (x : Int32) : Int32 := ((x &&& 255).toUInt32 % 65536).toInt32
theorem shr_zero (x : Int32) : x >>> ((0 : Int32) &&& 31) = x := by
  have h : ((0 : Int32) &&& 31) = 0 := by decide
  rw [h]
  simp
theorem vp_in_nn {i : Int32} {n : Nat} (h : vp_in i n) : ¬ i < 0 := fun q => h (Or.inl q)
theorem vp_in_lt {i : Int32} {n : Nat} (h : vp_in i n) (hn : n < 2 ^ 31) : i < Int32.ofNat n := by
  obtain ⟨j, hj, rfl⟩ := nI_of (vp_in_nn h)
  have h2 : ¬ n ≤ j := fun q => h (Or.inr (by rw [nI_clamp hj]; exact q))
  exact nI_lt (by omega) hn
set_option maxHeartbeats 4000000 in
set_option maxRecDepth 100000 in
theorem c_J0_isLatin1_aae02 (l : Launch) (dC : Nat → ClassId) (dI : Nat → Nat → Nat) (kn : Nat) (byt : List Int32) (aK : Nat) (aV : Nat) : Met l yJ0_isLatin1_aae02 wsJ0_isLatin1_aae02 ({ frames := 0, cells := 0, slots := 0, locals := 0 }) (va_Pc [.ref aK] (fun U => xR (dC, dI) [] [] U ∧ sE kn byt aK aV (fun _ => False) U U.heap)) (va_Qi (fun (r : Int32) (_ : Unit) => r = 1) (fun (_ : Unit) _ => True) (fun _ => False)) 0 0 (fun _ => False) := by
  refine Met.ofW (cc := cJ0_isLatin1_aae02) (maxL := 1) (ret := (some .boolean)) (by decide) rfl ?_
  intro p e s m args below meth c s₁ B hml hv
  obtain ⟨rfl, ⟨hP, hK⟩, hE⟩ := hv
  have hx := B.exec
  have hb := B.bytes
  have hr := B.returns
  have hts := atoms_spec (ws := wsJ0_isLatin1_aae02) B.pre
  have hown : s.vm.findClass RJ0 = some m.cls := findClass_of_methodNamed B.named
  have hlocks := B.notSynchronized
  have hS : va_S (fun _ => False) s.heap s.heap [] := va_S.rf
  have hl := lv_entry ([.ref aK]) (n := 1) (Nat.le_of_ble_eq_true rfl)
  rw [lg_entry_eq]
  generalize (lg_sl ([.ref aK]) ++ List.replicate (1 - (lg_sl ([.ref aK])).length) Slot.unset).toArray = ls at hl ⊢
  have hl : lv_has ls 1 [(0, .ref aK)] := hl
  refine va_gets (v := .int 1) hx hb hE.2.2.2.2.1 hS hown (hts (.fieldLink RJ0 38 "java/lang/String" "COMPACT_STRINGS" "Z") (by decide +kernel)) (fun _ h9 => h9) dJ0_isLatin1_aae02_0 ?_
  refine lv_if_eq (tgt := 17) hx hb dJ0_isLatin1_aae02_3 (by decide) (fun c_3 => absurd c_3 (by decide)) (fun c_3 => ?_)
  refine lv_aload_n hx hb dJ0_isLatin1_aae02_6 rfl (lv_at hl 0 rfl) ?_
  refine vk_getf hx hb hE.2.1 hS hown (hts (.fieldLink RJ0 15 "java/lang/String" "coder" "B") (by decide +kernel)) (fun _ h9 => h9) dJ0_isLatin1_aae02_7 ?_
  refine lv_if_ne (tgt := 17) hx hb dJ0_isLatin1_aae02_10 (by decide) (fun c_10 => absurd c_10 (by decide)) (fun c_10 => ?_)
  refine lv_iconst (v := 1) hx hb dJ0_isLatin1_aae02_13 (by decide) ?_
  refine lv_goto (tgt := 18) hx hb dJ0_isLatin1_aae02_14 (by decide) ?_
  exact W.zret (v := 1) hx hb hr rfl (fun t ht hW => ⟨⟨1, (), rfl, rfl, trivial⟩, hS.F ht⟩) hS.2.2 dJ0_isLatin1_aae02_18

set_option maxHeartbeats 4000000 in
set_option maxRecDepth 100000 in
theorem c_J0_coder_7d493 (l : Launch) (dC : Nat → ClassId) (dI : Nat → Nat → Nat) (kn : Nat) (byt : List Int32) (aK : Nat) (aV : Nat) : Met l yJ0_coder_7d493 wsJ0_coder_7d493 ({ frames := 0, cells := 0, slots := 0, locals := 0 }) (va_Pc [.ref aK] (fun U => xR (dC, dI) [] [] U ∧ sE kn byt aK aV (fun _ => False) U U.heap)) (va_Qi (fun (r : Int32) (_ : Unit) => r = 0) (fun (_ : Unit) _ => True) (fun _ => False)) 0 0 (fun _ => False) := by
  refine Met.ofW (cc := cJ0_coder_7d493) (maxL := 1) (ret := (some .byte)) (by decide) rfl ?_
  intro p e s m args below meth c s₁ B hml hv
  obtain ⟨rfl, ⟨hP, hK⟩, hE⟩ := hv
  have hx := B.exec
  have hb := B.bytes
  have hr := B.returns
  have hts := atoms_spec (ws := wsJ0_coder_7d493) B.pre
  have hown : s.vm.findClass RJ0 = some m.cls := findClass_of_methodNamed B.named
  have hlocks := B.notSynchronized
  have hS : va_S (fun _ => False) s.heap s.heap [] := va_S.rf
  have hl := lv_entry ([.ref aK]) (n := 1) (Nat.le_of_ble_eq_true rfl)
  rw [lg_entry_eq]
  generalize (lg_sl ([.ref aK]) ++ List.replicate (1 - (lg_sl ([.ref aK])).length) Slot.unset).toArray = ls at hl ⊢
  have hl : lv_has ls 1 [(0, .ref aK)] := hl
  refine va_gets (v := .int 1) hx hb hE.2.2.2.2.1 hS hown (hts (.fieldLink RJ0 38 "java/lang/String" "COMPACT_STRINGS" "Z") (by decide +kernel)) (fun _ h9 => h9) dJ0_coder_7d493_0 ?_
  refine lv_if_eq (tgt := 13) hx hb dJ0_coder_7d493_3 (by decide) (fun c_3 => absurd c_3 (by decide)) (fun c_3 => ?_)
  refine lv_aload_n hx hb dJ0_coder_7d493_6 rfl (lv_at hl 0 rfl) ?_
  refine vk_getf hx hb hE.2.1 hS hown (hts (.fieldLink RJ0 15 "java/lang/String" "coder" "B") (by decide +kernel)) (fun _ h9 => h9) dJ0_coder_7d493_7 ?_
  refine lv_goto (tgt := 14) hx hb dJ0_coder_7d493_10 (by decide) ?_
  exact W.zret (v := 0) hx hb hr rfl (fun t ht hW => ⟨⟨0, (), rfl, rfl, trivial⟩, hS.F ht⟩) hS.2.2 dJ0_coder_7d493_14

set_option maxHeartbeats 4000000 in
set_option maxRecDepth 100000 in
theorem c_J0_length_8abf5 (l : Launch) (dC : Nat → ClassId) (dI : Nat → Nat → Nat) (kn : Nat) (byt : List Int32) (aK : Nat) (aV : Nat) : Met l yJ0_length_8abf5 wsJ0_length_8abf5 ({ frames := 1, cells := 0, slots := 0, locals := 20 }) (va_Pc [.ref aK] (fun U => xR (dC, dI) [] [] U ∧ sE kn byt aK aV (fun _ => False) U U.heap)) (va_Qi (fun (r : Int32) (_ : Unit) => r = Int32.ofNat kn) (fun (_ : Unit) _ => True) (fun _ => False)) 0 0 (fun _ => False) := by
  refine Met.ofW (cc := cJ0_length_8abf5) (maxL := 1) (ret := (some .int)) (by decide) rfl ?_
  intro p e s m args below meth c s₁ B hml hv
  obtain ⟨rfl, ⟨hP, hK⟩, hE⟩ := hv
  have hx := B.exec
  have hb := B.bytes
  have hr := B.returns
  have hts := atoms_spec (ws := wsJ0_length_8abf5) B.pre
  have hown : s.vm.findClass RJ0 = some m.cls := findClass_of_methodNamed B.named
  have hlocks := B.notSynchronized
  have hS : va_S (fun _ => False) s.heap s.heap [] := va_S.rf
  have hl := lv_entry ([.ref aK]) (n := 1) (Nat.le_of_ble_eq_true rfl)
  rw [lg_entry_eq]
  generalize (lg_sl ([.ref aK]) ++ List.replicate (1 - (lg_sl ([.ref aK])).length) Slot.unset).toArray = ls at hl ⊢
  have hl : lv_has ls 1 [(0, .ref aK)] := hl
  refine lv_aload_n hx hb dJ0_length_8abf5_0 rfl (lv_at hl 0 rfl) ?_
  refine vk_getf hx hb hE.2.2.1 hS hown (hts (.fieldLink RJ0 9 "java/lang/String" "value" "[B") (by decide +kernel)) (fun _ h9 => h9) dJ0_length_8abf5_1 ?_
  refine va_tlen (v := Int32.ofNat kn) hx hb hE.2.2.2.1 hS rfl dJ0_length_8abf5_4 ?_
  refine lv_aload_n hx hb dJ0_length_8abf5_5 rfl (lv_at hl 0 rfl) ?_
  refine va_calli (va_runV (As := []) (rest := [.int (Int32.ofNat kn)]) ⟨hx, hb, hml, hown, hts⟩ (c_J0_coder_7d493 l dC dI kn byt aK aV ) (cwV 0 hts gJ0_length_8abf5_J0_coder_7d493 rfl rfl rfl (by decide +kernel) ⟨Nat.le_of_ble_eq_true rfl, Nat.le_of_ble_eq_true rfl⟩) ⟨(fb_RE sE.fb), hE.recv hS, fun U hU hW => ⟨rfl, ⟨xR.at (hP.sub (ws' := []) [] rfl) (hK.sub (tys' := []) [] rfl) hU hW, hE.at hS (fun q h => h.elim) hU hW⟩⟩⟩ rfl rfl hl.1 rfl (lv_room (Nat.le_of_ble_eq_true rfl)) dJ0_length_8abf5_6 ⟨Nat.le_of_ble_eq_true rfl, Nat.le_of_ble_eq_true rfl⟩) hS (fun q _ h => h.elim) (fun q h => h.elim) (fun r_1 u t H locs ht hvm hw hB hz1 hk1 hS => ?_)
  have hw_2 := hw
  have hP : va_P (dC, dI) vwCl [] H := fun k q h => by simp at h
  subst hw_2
  refine lv_ishr hx hb dJ0_length_8abf5_9 ?_
  refine my_ti (v := Int32.ofNat kn) (shr_zero _) ?_
  exact W.iret (v := Int32.ofNat kn) hx hb hr (fun t ht hW => ⟨⟨Int32.ofNat kn, (), rfl, rfl, trivial⟩, hS.F ht⟩) hS.2.2 dJ0_length_8abf5_10

set_option maxHeartbeats 4000000 in
set_option maxRecDepth 100000 in
theorem c_J3_checkIndex_n (l : Launch) (dC : Nat → ClassId) (dI : Nat → Nat → Nat) (x1 : Int32) (x2 : Int32) (h1 : ¬ x1 < 0) (h2 : x1 < x2) : Met l yJ3_checkIndex_8e157 wsJ3_checkIndex_8e157 ({ frames := 0, cells := 0, slots := 0, locals := 0 }) (va_Pc [.int x1, .int x2, .null] (fun U => xR (dC, dI) [] [] U)) (va_Qi (fun (r : Int32) (_ : Unit) => True) (fun (_ : Unit) _ => True) (fun _ => False)) 0 0 (fun _ => False) := by
  refine Met.ofW (cc := cJ3_checkIndex_8e157) (maxL := 3) (ret := (some .int)) (by decide) rfl ?_
  intro p e s m args below meth c s₁ B hml hv
  obtain ⟨rfl, hP, hK⟩ := hv
  have hx := B.exec
  have hb := B.bytes
  have hr := B.returns
  have hts := atoms_spec (ws := wsJ3_checkIndex_8e157) B.pre
  have hown : s.vm.findClass RJ3 = some m.cls := findClass_of_methodNamed B.named
  have hlocks := B.notSynchronized
  have hS : va_S (fun _ => False) s.heap s.heap [] := va_S.rf
  have hl := lv_entry ([.int x1, .int x2, .null]) (n := 3) (Nat.le_of_ble_eq_true rfl)
  rw [lg_entry_eq]
  generalize (lg_sl ([.int x1, .int x2, .null]) ++ List.replicate (3 - (lg_sl ([.int x1, .int x2, .null])).length) Slot.unset).toArray = ls at hl ⊢
  have hl : lv_has ls 3 [(0, .int x1), (1, .int x2), (2, .null)] := hl
  refine lv_iload_n hx hb dJ3_checkIndex_8e157_0 rfl (lv_at hl 0 rfl) ?_
  refine lv_if_lt (tgt := 9) hx hb dJ3_checkIndex_8e157_1 (by decide) (fun c_1 => absurd c_1 (h1)) (fun c_1 => ?_)
  refine lv_iload_n hx hb dJ3_checkIndex_8e157_4 rfl (lv_at hl 0 rfl) ?_
  refine lv_iload_n hx hb dJ3_checkIndex_8e157_5 rfl (lv_at hl 1 rfl) ?_
  refine lv_icmp_lt (tgt := 16) hx hb dJ3_checkIndex_8e157_6 (by decide) (fun c_6 => ?_) (fun c_6 => absurd (h2) c_6)
  refine lv_iload_n hx hb dJ3_checkIndex_8e157_16 rfl (lv_at hl 0 rfl) ?_
  exact W.iret (v := x1) hx hb hr (fun t ht hW => ⟨⟨x1, (), rfl, trivial, trivial⟩, hS.F ht⟩) hS.2.2 dJ3_checkIndex_8e157_17

set_option maxHeartbeats 4000000 in
set_option maxRecDepth 100000 in
theorem c_J3_checkIndex_r (l : Launch) (dC : Nat → ClassId) (dI : Nat → Nat → Nat) (x1 : Int32) (x2 : Int32) (aF : Nat) (h1 : ¬ x1 < 0) (h2 : x1 < x2) : Met l yJ3_checkIndex_8e157 wsJ3_checkIndex_8e157 ({ frames := 0, cells := 0, slots := 0, locals := 0 }) (va_Pc [.int x1, .int x2, .ref aF] (fun U => xR (dC, dI) [] [] U)) (va_Qi (fun (r : Int32) (_ : Unit) => True) (fun (_ : Unit) _ => True) (fun _ => False)) 0 0 (fun _ => False) := by
  refine Met.ofW (cc := cJ3_checkIndex_8e157) (maxL := 3) (ret := (some .int)) (by decide) rfl ?_
  intro p e s m args below meth c s₁ B hml hv
  obtain ⟨rfl, hP, hK⟩ := hv
  have hx := B.exec
  have hb := B.bytes
  have hr := B.returns
  have hts := atoms_spec (ws := wsJ3_checkIndex_8e157) B.pre
  have hown : s.vm.findClass RJ3 = some m.cls := findClass_of_methodNamed B.named
  have hlocks := B.notSynchronized
  have hS : va_S (fun _ => False) s.heap s.heap [] := va_S.rf
  have hl := lv_entry ([.int x1, .int x2, .ref aF]) (n := 3) (Nat.le_of_ble_eq_true rfl)
  rw [lg_entry_eq]
  generalize (lg_sl ([.int x1, .int x2, .ref aF]) ++ List.replicate (3 - (lg_sl ([.int x1, .int x2, .ref aF])).length) Slot.unset).toArray = ls at hl ⊢
  have hl : lv_has ls 3 [(0, .int x1), (1, .int x2), (2, .ref aF)] := hl
  refine lv_iload_n hx hb dJ3_checkIndex_8e157_0 rfl (lv_at hl 0 rfl) ?_
  refine lv_if_lt (tgt := 9) hx hb dJ3_checkIndex_8e157_1 (by decide) (fun c_1 => absurd c_1 (h1)) (fun c_1 => ?_)
  refine lv_iload_n hx hb dJ3_checkIndex_8e157_4 rfl (lv_at hl 0 rfl) ?_
  refine lv_iload_n hx hb dJ3_checkIndex_8e157_5 rfl (lv_at hl 1 rfl) ?_
  refine lv_icmp_lt (tgt := 16) hx hb dJ3_checkIndex_8e157_6 (by decide) (fun c_6 => ?_) (fun c_6 => absurd (h2) c_6)
  refine lv_iload_n hx hb dJ3_checkIndex_8e157_16 rfl (lv_at hl 0 rfl) ?_
  exact W.iret (v := x1) hx hb hr (fun t ht hW => ⟨⟨x1, (), rfl, trivial, trivial⟩, hS.F ht⟩) hS.2.2 dJ3_checkIndex_8e157_17

set_option maxHeartbeats 4000000 in
set_option maxRecDepth 100000 in
theorem c_J0_checkIndex_df160 (l : Launch) (dC : Nat → ClassId) (dI : Nat → Nat → Nat) (kn : Nat) (byt : List Int32) (aK : Nat) (aV : Nat) (x1 : Int32) (x2 : Int32) (h1 : ¬ x1 < 0) (h2 : x1 < x2) : Met l yJ0_checkIndex_df160 wsJ0_checkIndex_df160 ({ frames := 1, cells := 0, slots := 0, locals := 22 }) (va_Pc [.int x1, .int x2] (fun U => xR (dC, dI) [] [] U ∧ sE kn byt aK aV (fun _ => False) U U.heap)) (va_Qv (fun _ : Unit => True) (fun (_ : Unit) _ => True) (fun _ => False)) 0 0 (fun _ => False) := by
  refine Met.ofW (cc := cJ0_checkIndex_df160) (maxL := 2) (ret := none) (by decide) rfl ?_
  intro p e s m args below meth c s₁ B hml hv
  obtain ⟨rfl, ⟨hP, hK⟩, hE⟩ := hv
  have hx := B.exec
  have hb := B.bytes
  have hr := B.returns
  have hts := atoms_spec (ws := wsJ0_checkIndex_df160) B.pre
  have hown : s.vm.findClass RJ0 = some m.cls := findClass_of_methodNamed B.named
  have hlocks := B.notSynchronized
  have hS : va_S (fun _ => False) s.heap s.heap [] := va_S.rf
  have hl := lv_entry ([.int x1, .int x2]) (n := 2) (Nat.le_of_ble_eq_true rfl)
  rw [lg_entry_eq]
  generalize (lg_sl ([.int x1, .int x2]) ++ List.replicate (2 - (lg_sl ([.int x1, .int x2])).length) Slot.unset).toArray = ls at hl ⊢
  have hl : lv_has ls 2 [(0, .int x1), (1, .int x2)] := hl
  refine lv_iload_n hx hb dJ0_checkIndex_df160_0 rfl (lv_at hl 0 rfl) ?_
  refine lv_iload_n hx hb dJ0_checkIndex_df160_1 rfl (lv_at hl 1 rfl) ?_
  rcases hE.2.2.2.2.2 with hZ | ⟨aF, hZ⟩
  · refine va_gets (v := .null) hx hb hZ hS hown (hts (.fieldLink RJ0 1053 "jdk/internal/util/Preconditions" "SIOOBE_FORMATTER" "Ljava/util/function/BiFunction;") (by decide +kernel)) (fun _ h9 => h9) dJ0_checkIndex_df160_2 ?_
    refine va_calli (va_runS (As := [.int x1, .int x2, .null]) (rest := []) ⟨hx, hb, hml, hown, hts⟩ (c_J3_checkIndex_n l dC dI x1 x2 h1 h2) (va_cwS 3 hts gJ0_checkIndex_df160_J3_checkIndex_8e157 rfl rfl rfl (by decide +kernel) ⟨Nat.le_of_ble_eq_true rfl, Nat.le_of_ble_eq_true rfl⟩) ⟨fb_R, fun U hU hW => ⟨rfl, xR.at (hP.sub (ws' := []) [] rfl) (hK.sub (tys' := []) [] rfl) hU hW⟩⟩ rfl rfl hl.1 rfl (lv_room (Nat.le_of_ble_eq_true rfl)) dJ0_checkIndex_df160_5 ⟨Nat.le_of_ble_eq_true rfl, Nat.le_of_ble_eq_true rfl⟩) hS (fun q _ h => h.elim) (fun q h => h.elim) (fun r_1 u t H locs ht hvm hw hB hz1 hk1 hS => ?_)
    have hP : va_P (dC, dI) vwCl [] H := fun k q h => by simp at h
    refine lv_pop hx hb dJ0_checkIndex_df160_8 rfl ?_
    exact W.vret hx hb hr (fun t ht hW => ⟨⟨(), rfl, trivial, trivial⟩, hS.F ht⟩) hS.2.2 dJ0_checkIndex_df160_9
  · refine va_gets (v := .ref aF) hx hb hZ hS hown (hts (.fieldLink RJ0 1053 "jdk/internal/util/Preconditions" "SIOOBE_FORMATTER" "Ljava/util/function/BiFunction;") (by decide +kernel)) (fun _ h9 => h9) dJ0_checkIndex_df160_2 ?_
    refine va_calli (va_runS (As := [.int x1, .int x2, .ref aF]) (rest := []) ⟨hx, hb, hml, hown, hts⟩ (c_J3_checkIndex_r l dC dI x1 x2 aF h1 h2) (va_cwS 3 hts gJ0_checkIndex_df160_J3_checkIndex_8e157 rfl rfl rfl (by decide +kernel) ⟨Nat.le_of_ble_eq_true rfl, Nat.le_of_ble_eq_true rfl⟩) ⟨fb_R, fun U hU hW => ⟨rfl, xR.at (hP.sub (ws' := []) [] rfl) (hK.sub (tys' := []) [] rfl) hU hW⟩⟩ rfl rfl hl.1 rfl (lv_room (Nat.le_of_ble_eq_true rfl)) dJ0_checkIndex_df160_5 ⟨Nat.le_of_ble_eq_true rfl, Nat.le_of_ble_eq_true rfl⟩) hS (fun q _ h => h.elim) (fun q h => h.elim) (fun r_2 u t H locs ht hvm hw hB hz1 hk1 hS => ?_)
    have hP : va_P (dC, dI) vwCl [] H := fun k q h => by simp at h
    refine lv_pop hx hb dJ0_checkIndex_df160_8 rfl ?_
    exact W.vret hx hb hr (fun t ht hW => ⟨⟨(), rfl, trivial, trivial⟩, hS.F ht⟩) hS.2.2 dJ0_checkIndex_df160_9

set_option maxHeartbeats 4000000 in
set_option maxRecDepth 100000 in
theorem c_J1_charAt_3b067 (l : Launch) (dC : Nat → ClassId) (dI : Nat → Nat → Nat) (kn : Nat) (byt : List Int32) (aK : Nat) (aV : Nat) (x1 : Int32) (h1 : vp_in x1 kn) (hk : kn < 2 ^ 31) : Met l yJ1_charAt_3b067 wsJ1_charAt_3b067 ({ frames := 2, cells := 0, slots := 0, locals := 43 }) (va_Pc [.ref aV, .int x1] (fun U => xR (dC, dI) [] [] U ∧ sE kn byt aK aV (fun _ => False) U U.heap)) (va_Qi (fun (r : Int32) (_ : Unit) => r = chr (byt.getD x1.toNatClampNeg 0)) (fun (_ : Unit) _ => True) (fun _ => False)) 0 0 (fun _ => False) := by
  refine Met.ofW (cc := cJ1_charAt_3b067) (maxL := 2) (ret := (some .char)) (by decide) rfl ?_
  intro p e s m args below meth c s₁ B hml hv
  obtain ⟨rfl, ⟨hP, hK⟩, hE⟩ := hv
  have hx := B.exec
  have hb := B.bytes
  have hr := B.returns
  have hts := atoms_spec (ws := wsJ1_charAt_3b067) B.pre
  have hown : s.vm.findClass RJ1 = some m.cls := findClass_of_methodNamed B.named
  have hlocks := B.notSynchronized
  have hS : va_S (fun _ => False) s.heap s.heap [] := va_S.rf
  have hl := lv_entry ([.ref aV, .int x1]) (n := 2) (Nat.le_of_ble_eq_true rfl)
  rw [lg_entry_eq]
  generalize (lg_sl ([.ref aV, .int x1]) ++ List.replicate (2 - (lg_sl ([.ref aV, .int x1])).length) Slot.unset).toArray = ls at hl ⊢
  have hl : lv_has ls 2 [(0, .ref aV), (1, .int x1)] := hl
  refine lv_iload_n hx hb dJ1_charAt_3b067_0 rfl (lv_at hl 1 rfl) ?_
  refine lv_aload_n hx hb dJ1_charAt_3b067_1 rfl (lv_at hl 0 rfl) ?_
  refine va_tlen (v := Int32.ofNat kn) hx hb hE.2.2.2.1 hS rfl dJ1_charAt_3b067_2 ?_
  refine va_callv (va_runS (As := [.int x1, .int (Int32.ofNat kn)]) (rest := []) ⟨hx, hb, hml, hown, hts⟩ (c_J0_checkIndex_df160 l dC dI kn byt aK aV x1 (Int32.ofNat kn) (vp_in_nn h1) (vp_in_lt h1 hk)) (va_cwS 2 hts gJ1_charAt_3b067_J0_checkIndex_df160 rfl rfl rfl (by decide +kernel) ⟨Nat.le_of_ble_eq_true rfl, Nat.le_of_ble_eq_true rfl⟩) ⟨(fb_RE sE.fb), fun U hU hW => ⟨rfl, ⟨xR.at (hP.sub (ws' := []) [] rfl) (hK.sub (tys' := []) [] rfl) hU hW, hE.at hS (fun q h => h.elim) hU hW⟩⟩⟩ rfl rfl hl.1 rfl (lv_room (Nat.le_of_ble_eq_true rfl)) dJ1_charAt_3b067_3 ⟨Nat.le_of_ble_eq_true rfl, Nat.le_of_ble_eq_true rfl⟩) hS (fun q _ h => h.elim) (fun q h => h.elim) (fun u t H locs ht hvm hw hB hz1 hk1 hS => ?_)
  have hP : va_P (dC, dI) vwCl [] H := fun k q h => by simp at h
  refine lv_aload_n hx hb dJ1_charAt_3b067_6 rfl (lv_at hl 0 rfl) ?_
  refine lv_iload_n hx hb dJ1_charAt_3b067_7 rfl (lv_at hl 1 rfl) ?_
  refine va_tb hx hb hE.2.2.2.1 hS h1 rfl dJ1_charAt_3b067_8 ?_
  refine lv_sipush (v := 255) hx hb dJ1_charAt_3b067_9 (by decide) ?_
  refine lv_iand hx hb dJ1_charAt_3b067_12 ?_
  refine lv_i2c (v := (((byt.getD x1.toNatClampNeg 0) &&& 255).toUInt32 % 65536).toInt32) hx hb dJ1_charAt_3b067_13 rfl ?_
  exact W.zret (v := (((byt.getD x1.toNatClampNeg 0) &&& 255).toUInt32 % 65536).toInt32) hx hb hr (na_char _) (fun t ht hW => ⟨⟨(((byt.getD x1.toNatClampNeg 0) &&& 255).toUInt32 % 65536).toInt32, (), rfl, rfl, trivial⟩, hS.F ht⟩) hS.2.2 dJ1_charAt_3b067_14

set_option maxHeartbeats 4000000 in
set_option maxRecDepth 100000 in
theorem c_J0_charAt_5068e (l : Launch) (dC : Nat → ClassId) (dI : Nat → Nat → Nat) (kn : Nat) (byt : List Int32) (aK : Nat) (aV : Nat) (x1 : Int32) (h1 : vp_in x1 kn) (hk : kn < 2 ^ 31) : Met l yJ0_charAt_5068e wsJ0_charAt_5068e ({ frames := 3, cells := 0, slots := 0, locals := 64 }) (va_Pc [.ref aK, .int x1] (fun U => xR (dC, dI) [] [] U ∧ sE kn byt aK aV (fun _ => False) U U.heap)) (va_Qi (fun (r : Int32) (_ : Unit) => r = chr (byt.getD x1.toNatClampNeg 0)) (fun (_ : Unit) _ => True) (fun _ => False)) 0 0 (fun _ => False) := by
  refine Met.ofW (cc := cJ0_charAt_5068e) (maxL := 2) (ret := (some .char)) (by decide) rfl ?_
  intro p e s m args below meth c s₁ B hml hv
  obtain ⟨rfl, ⟨hP, hK⟩, hE⟩ := hv
  have hx := B.exec
  have hb := B.bytes
  have hr := B.returns
  have hts := atoms_spec (ws := wsJ0_charAt_5068e) B.pre
  have hown : s.vm.findClass RJ0 = some m.cls := findClass_of_methodNamed B.named
  have hlocks := B.notSynchronized
  have hS : va_S (fun _ => False) s.heap s.heap [] := va_S.rf
  have hl := lv_entry ([.ref aK, .int x1]) (n := 2) (Nat.le_of_ble_eq_true rfl)
  rw [lg_entry_eq]
  generalize (lg_sl ([.ref aK, .int x1]) ++ List.replicate (2 - (lg_sl ([.ref aK, .int x1])).length) Slot.unset).toArray = ls at hl ⊢
  have hl : lv_has ls 2 [(0, .ref aK), (1, .int x1)] := hl
  refine lv_aload_n hx hb dJ0_charAt_5068e_0 rfl (lv_at hl 0 rfl) ?_
  refine va_calli (va_runV (As := []) (rest := []) ⟨hx, hb, hml, hown, hts⟩ (c_J0_isLatin1_aae02 l dC dI kn byt aK aV ) (cwV 0 hts gJ0_charAt_5068e_J0_isLatin1_aae02 rfl rfl rfl (by decide +kernel) ⟨Nat.le_of_ble_eq_true rfl, Nat.le_of_ble_eq_true rfl⟩) ⟨(fb_RE sE.fb), hE.recv hS, fun U hU hW => ⟨rfl, ⟨xR.at (hP.sub (ws' := []) [] rfl) (hK.sub (tys' := []) [] rfl) hU hW, hE.at hS (fun q h => h.elim) hU hW⟩⟩⟩ rfl rfl hl.1 rfl (lv_room (Nat.le_of_ble_eq_true rfl)) dJ0_charAt_5068e_1 ⟨Nat.le_of_ble_eq_true rfl, Nat.le_of_ble_eq_true rfl⟩) hS (fun q _ h => h.elim) (fun q h => h.elim) (fun r_1 u t H locs ht hvm hw hB hz1 hk1 hS => ?_)
  have hw_2 := hw
  have hP : va_P (dC, dI) vwCl [] H := fun k q h => by simp at h
  subst hw_2
  refine lv_if_eq (tgt := 16) hx hb dJ0_charAt_5068e_4 (by decide) (fun c_4 => absurd c_4 (by decide)) (fun c_4 => ?_)
  refine lv_aload_n hx hb dJ0_charAt_5068e_7 rfl (lv_at hl 0 rfl) ?_
  refine vk_getf hx hb hE.2.2.1 hS hown (hts (.fieldLink RJ0 9 "java/lang/String" "value" "[B") (by decide +kernel)) (fun _ h9 => h9) dJ0_charAt_5068e_8 ?_
  refine lv_iload_n hx hb dJ0_charAt_5068e_11 rfl (lv_at hl 1 rfl) ?_
  refine va_calli (va_runS (As := [.ref aV, .int x1]) (rest := []) ⟨hx, hb, hml, hown, hts⟩ (c_J1_charAt_3b067 l dC dI kn byt aK aV x1 h1 hk) (va_cwS 2 hts gJ0_charAt_5068e_J1_charAt_3b067 rfl rfl rfl (by decide +kernel) ⟨Nat.le_of_ble_eq_true rfl, Nat.le_of_ble_eq_true rfl⟩) ⟨(fb_RE sE.fb), fun U hU hW => ⟨rfl, ⟨xR.at (hP.sub (ws' := []) [] rfl) (hK.sub (tys' := []) [] rfl) hU hW, hE.at hS (fun q h => h.elim) hU hW⟩⟩⟩ rfl rfl hl.1 rfl (lv_room (Nat.le_of_ble_eq_true rfl)) dJ0_charAt_5068e_12 ⟨Nat.le_of_ble_eq_true rfl, Nat.le_of_ble_eq_true rfl⟩) hS (fun q _ h => h.elim) (fun q h => h.elim) (fun r_3 u t H locs ht hvm hw hB hz1 hk1 hS => ?_)
  have hw_4 := hw
  have hP : va_P (dC, dI) vwCl [] H := fun k q h => by simp at h
  subst hw_4
  exact W.zret (v := chr (byt.getD x1.toNatClampNeg 0)) hx hb hr (na_char _) (fun t ht hW => ⟨⟨chr (byt.getD x1.toNatClampNeg 0), (), rfl, rfl, trivial⟩, hS.F ht⟩) hS.2.2 dJ0_charAt_5068e_15
end
section
set_option maxRecDepth 100000 in
theorem in_X9_init_RX9 : ∀ w ∈ u_ws RX9 TX9 4, w ∈ wsX9_init := by decide +kernel
set_option maxRecDepth 100000 in
theorem in_X0_init_RX0 : ∀ w ∈ u_ws RX0 TX0 6, w ∈ wsX0_init := by decide +kernel
set_option maxRecDepth 100000 in
theorem in_X8_init_RX8 : ∀ w ∈ u_ws RX8 TX8 8, w ∈ wsX8_init := by decide +kernel
set_option maxRecDepth 100000 in
theorem in_X8_init_RX9 : ∀ w ∈ u_ws RX9 TX9 4, w ∈ wsX8_init := by decide +kernel
set_option maxRecDepth 100000 in
theorem in_X1_init_RX1 : ∀ w ∈ u_ws RX1 TX1 5, w ∈ wsX1_init := by decide +kernel
set_option maxRecDepth 100000 in
theorem in_X1_init_RX9 : ∀ w ∈ u_ws RX9 TX9 4, w ∈ wsX1_init := by decide +kernel
set_option maxRecDepth 100000 in
theorem in_X2_init_RX2 : ∀ w ∈ u_ws RX2 TX2 8, w ∈ wsX2_init := by decide +kernel
set_option maxRecDepth 100000 in
theorem in_X3_init_RX3 : ∀ w ∈ u_ws RX3 TX3 7, w ∈ wsX3_init := by decide +kernel
set_option maxRecDepth 100000 in
theorem in_X3_init_RX9 : ∀ w ∈ u_ws RX9 TX9 4, w ∈ wsX3_init := by decide +kernel
def nmB : List Int32 := [122, 101, 114, 111, 32, 105, 110, 100, 101, 120, 32, 110, 111, 116, 104, 105, 110, 103, 32, 115, 111, 114, 116, 32, 115, 105, 122, 101, 32, 100, 101, 101, 112, 32, 116, 114, 97, 112, 32, 108, 111, 115, 116, 32, 98, 111, 114, 100, 101, 114, 32, 97, 110, 121, 32, 109, 97, 99, 104, 105, 110, 101, 32]
def wdB : List Int32 := [107, 105, 110, 100, 32, 117, 110, 100, 101, 114, 32, 102, 110, 32, 108, 101, 116, 32, 105, 102, 32, 101, 108, 115, 101, 32, 119, 104, 105, 108, 101, 32, 114, 101, 116, 117, 114, 110, 32, 109, 97, 114, 107, 32, 116, 104, 114, 111, 119, 32, 116, 114, 121, 32, 99, 97, 116, 99, 104, 32, 102, 105, 110, 97, 108, 108, 121, 32, 102, 97, 105, 108, 32, 111, 110, 32, 103, 111, 32, 119, 105, 116, 104, 32, 101, 110, 100, 32, 101, 120, 105, 116, 32, 111, 112, 101, 110, 32, 116, 104, 101, 110, 32, 99, 108, 101, 97, 110, 32, 100, 111, 32, 110, 111, 110, 101, 32, 110, 101, 119, 32, 115, 105, 122, 101, 32, 99, 101, 108, 108, 32, 116, 97, 103, 32, 98, 97, 100, 32, 116, 104, 114, 111, 119, 115, 32, 99, 111, 100, 101, 115, 32, 118, 97, 108, 117, 101, 115, 32, 101, 120, 105, 116, 115, 32]
def nmS : Nat → Int64 × Int32 × (Nat → Int64)
  | 0 => (0, 0, fun _ => 0)
  | i + 1 => if chr (nmB.getD i 0) = 32 then (0, (nmS i).2.1 + 1, vp_updL (nmS i).2.2 ((nmS i).2.1 + 1).toNatClampNeg (nmS i).1) else ((nmS i).1 <<< ((8 : Int32).toInt64 &&& 63) ||| (chr (nmB.getD i 0)).toInt64, (nmS i).2.1, (nmS i).2.2)
theorem nmS_sp {i : Nat} (h : chr (nmB.getD i 0) = 32) : nmS (i + 1) = (0, (nmS i).2.1 + 1, vp_updL (nmS i).2.2 ((nmS i).2.1 + 1).toNatClampNeg (nmS i).1) := by rw [nmS, if_pos h]
theorem nmS_ch {i : Nat} (h : ¬ chr (nmB.getD i 0) = 32) : nmS (i + 1) = ((nmS i).1 <<< ((8 : Int32).toInt64 &&& 63) ||| (chr (nmB.getD i 0)).toInt64, (nmS i).2.1, (nmS i).2.2) := by rw [nmS, if_neg h]
set_option maxRecDepth 100000 in
theorem nmS_in : ∀ i, i < 63 → ¬ (51 : Int32) ≤ (nmS i).2.1 ∧ ¬ ((nmS i).2.1 + 1 < 0 ∨ 52 ≤ ((nmS i).2.1 + 1).toNatClampNeg) := by decide +kernel
theorem ofn_nI (n : Nat) : Int32.ofNat n = nI n := rfl
set_option maxHeartbeats 4000000 in
set_option maxRecDepth 100000 in
theorem c_X9_init_16 (l : Launch) (dC : Nat → ClassId) (dI : Nat → Nat → Nat) (sz : Nat) (h0 : Nat) : Met l yX9_init wsX9_init ({ frames := 1, cells := 3, slots := 48, locals := 24 }) (va_Pc [.ref h0, .int 16] (fun U => xM (dC, dI) sz [(h0, .inr (8, [.null, .null, .null, .int 0]))] [] U)) (va_Qv (fun _ : Unit => True) (fun (_ : Unit) t => ∃ (q_1 : Nat), ∃ (cA_2 : ClassId), ∃ (q_3 : Nat), ∃ (q_5 : Nat), xB (dC, dI) [(h0, .inr (8, [.ref q_1, .ref q_3, .ref q_5, .int 0])), (q_1, .inl (cA_2, 16, .inl (fun _ => 0)))] [(cA_2, .int)] (va_A [(h0, .inr (8, [.null, .null, .null, .int 0]))] sz) t) (va_A [(h0, .inr (8, [.null, .null, .null, .int 0]))] sz)) 3 48 (va_A [(h0, .inr (8, [.null, .null, .null, .int 0]))] sz) := by
  refine Met.ofW (cc := cX9_init) (maxL := 3) (ret := none) (by decide) rfl ?_
  intro p e s m args below meth c s₁ B hml hv
  obtain ⟨rfl, hsz, hP, hK, hD0⟩ := hv
  have hx := B.exec
  have hb := B.bytes
  have hr := B.returns
  have hts := atoms_spec (ws := wsX9_init) B.pre
  have hown : s.vm.findClass RX9 = some m.cls := findClass_of_methodNamed B.named
  have hlocks := B.notSynchronized
  have hin : meth.name = "<init>" := (name_of_methodNamed B.named B.method).1
  subst hsz
  have hD := hD0.self (sz := s.heap.size)
  generalize hAe : va_A [(h0, .inr (8, [.null, .null, .null, .int 0]))] s.heap.size = A at hD ⊢
  have hA : ∀ q : Nat, s.heap.size ≤ q → A q := fun q h => by rw [← hAe]; exact Or.inr h
  have hS : va_S A s.heap s.heap [] := va_S.rf
  have hl := lv_entry ([.ref h0, .int 16]) (n := 3) (Nat.le_of_ble_eq_true rfl)
  rw [lg_entry_eq]
  generalize (lg_sl ([.ref h0, .int 16]) ++ List.replicate (3 - (lg_sl ([.ref h0, .int 16])).length) Slot.unset).toArray = ls at hl ⊢
  have hl : lv_has ls 3 [(0, .ref h0), (1, .int 16)] := hl
  refine lv_aload_n hx hb dX9_init_0 rfl (lv_at hl 0 rfl) ?_
  refine W.objInit hx hb hown (hts (.methodLink RX9 1 objectInit) (by decide +kernel)) (hts (.instanceMethod objectInit) (by decide +kernel)) (hts (.code objectInit ⟨#[0xb1]⟩ 1 none) (by decide +kernel)) rfl (by rw [hml]; exact hl.1) rfl dX9_init_1 (Nat.le_of_ble_eq_true rfl) (Nat.le_of_ble_eq_true rfl) ?_
  refine W.eq (g2 := F0 m 4 ls []) rfl ?_
  refine lv_aload_n hx hb dX9_init_4 rfl (lv_at hl 0 rfl) ?_
  refine lv_iconst (v := 0) hx hb dX9_init_5 (by decide) ?_
  refine va_put (D := (dC, dI)) (ci := 8) (v := .int 0) (ty := .int) (C := RX9) (T := TX9) (N := 4) hx hb hts in_X9_init_RX9 tyX9 tyX9_ok nmX9 hown hK hP hD hS 0 rfl rfl 3 (by decide) (hts (.fieldLink RX9 7 "FourTongues$Row" "count" "I") (by decide +kernel)) (fun _ h9 => h9) rfl (by decide +kernel) rfl rfl (Nat.le_of_ble_eq_true rfl) dX9_init_6 (fun H locs hP hD hS => ?_)
  have hP : va_P (dC, dI) vwCl [(h0, .inr (8, [.null, .null, .null, .int 0]))] _ := hP
  have hD : va_D A [(h0, .inr (8, [.null, .null, .null, .int 0]))] := hD
  refine lv_iload_n hx hb dX9_init_9 rfl (lv_at hl 1 rfl) ?_
  refine lv_iconst (v := 1) hx hb dX9_init_10 (by decide) ?_
  refine va_mmax hx hb (by rw [hml]; exact hl.1.symm) hown (hts (.methodLink RX9 13 Lib.Math.max.name) (by decide +kernel)) (hts (.static Lib.Math.max.name) (by decide +kernel)) (hts (.initialized "java/lang/Math") (by decide +kernel)) (hts (.code Lib.Math.max.name Lib.Math.max.code 2 (some .int)) (by decide +kernel)) (Nat.le_of_ble_eq_true rfl) (Nat.le_of_ble_eq_true rfl) (Nat.le_of_ble_eq_true rfl) (Nat.le_of_ble_eq_true rfl) dX9_init_11 ?_
  refine my_ti (v := 16) (by decide) ?_
  refine lv_istore_n (lv' := [(2, .int 16), (0, .ref h0), (1, .int 16)]) hx hb dX9_init_14 rfl hl (by decide) rfl (fun ls hl => ?_)
  refine lv_aload_n hx hb dX9_init_15 rfl (lv_at hl 1 rfl) ?_
  refine lv_iload_n hx hb dX9_init_16 rfl (lv_at hl 0 rfl) ?_
  refine va_newa (atype := .int) (ty := .int) (a0 := (16, .inl (fun _ => 0))) (N' := 16) hx hb (hts (.arrayClass .int) (by decide +kernel)) rfl hK hP hD hS hA (cz_int 16) (by decide +kernel) (by decide +kernel) (by decide +kernel) (Nat.le_of_ble_eq_true rfl) (Nat.le_of_ble_eq_true rfl) dX9_init_17 (fun q_1 cA_2 H hK hP hD hS => ?_)
  have hP : va_P (dC, dI) vwCl [(h0, .inr (8, [.null, .null, .null, .int 0])), (q_1, .inl (cA_2, 16, .inl (fun _ => 0)))] _ := hP
  have hD : va_D A [(h0, .inr (8, [.null, .null, .null, .int 0])), (q_1, .inl (cA_2, 16, .inl (fun _ => 0)))] := hD
  have hK : va_K (dC, dI) vwCl [(cA_2, .int)] s := hK
  refine W.widen (k := 1) (n := 16) (Nat.le_of_ble_eq_true rfl) (Nat.le_of_ble_eq_true rfl) ?_
  refine va_put (D := (dC, dI)) (ci := 8) (v := .ref q_1) (ty := .array .int) (C := RX9) (T := TX9) (N := 4) hx hb hts in_X9_init_RX9 tyX9 tyX9_ok nmX9 hown hK hP hD hS 0 rfl rfl 0 (by decide) (hts (.fieldLink RX9 19 "FourTongues$Row" "kinds" "[I") (by decide +kernel)) (fun _ h9 => h9) rfl (by decide +kernel) rfl rfl (Nat.le_of_ble_eq_true rfl) dX9_init_19 (fun H locs hP hD hS => ?_)
  have hP : va_P (dC, dI) vwCl [(h0, .inr (8, [.ref q_1, .null, .null, .int 0])), (q_1, .inl (cA_2, 16, .inl (fun _ => 0)))] _ := hP
  have hD : va_D A [(h0, .inr (8, [.ref q_1, .null, .null, .int 0])), (q_1, .inl (cA_2, 16, .inl (fun _ => 0)))] := hD
  refine lv_aload_n hx hb dX9_init_22 rfl (lv_at hl 1 rfl) ?_
  refine lv_iload_n hx hb dX9_init_23 rfl (lv_at hl 0 rfl) ?_
  refine va_newa (atype := .long) (ty := .long) (a0 := (16, .inr (.inl (fun _ => 0)))) (N' := 16) hx hb (hts (.arrayClass .long) (by decide +kernel)) rfl hK hP hD hS hA (cz_long 16) (by decide +kernel) (by decide +kernel) (by decide +kernel) (Nat.le_of_ble_eq_true rfl) (Nat.le_of_ble_eq_true rfl) dX9_init_24 (fun q_3 cA_4 H hK hP hD hS => ?_)
  have hP : va_P (dC, dI) vwCl [(h0, .inr (8, [.ref q_1, .null, .null, .int 0])), (q_1, .inl (cA_2, 16, .inl (fun _ => 0))), (q_3, .inl (cA_4, 16, .inr (.inl (fun _ => 0))))] _ := hP
  have hD : va_D A [(h0, .inr (8, [.ref q_1, .null, .null, .int 0])), (q_1, .inl (cA_2, 16, .inl (fun _ => 0))), (q_3, .inl (cA_4, 16, .inr (.inl (fun _ => 0))))] := hD
  have hK : va_K (dC, dI) vwCl [(cA_2, .int), (cA_4, .long)] s := hK
  refine W.widen (k := 2) (n := 32) (Nat.le_of_ble_eq_true rfl) (Nat.le_of_ble_eq_true rfl) ?_
  refine va_put (D := (dC, dI)) (ci := 8) (v := .ref q_3) (ty := .array .long) (C := RX9) (T := TX9) (N := 4) hx hb hts in_X9_init_RX9 tyX9 tyX9_ok nmX9 hown hK hP hD hS 0 rfl rfl 1 (by decide) (hts (.fieldLink RX9 23 "FourTongues$Row" "wholes" "[J") (by decide +kernel)) (fun _ h9 => h9) rfl (by decide +kernel) rfl rfl (Nat.le_of_ble_eq_true rfl) dX9_init_26 (fun H locs hP hD hS => ?_)
  have hP : va_P (dC, dI) vwCl [(h0, .inr (8, [.ref q_1, .ref q_3, .null, .int 0])), (q_1, .inl (cA_2, 16, .inl (fun _ => 0))), (q_3, .inl (cA_4, 16, .inr (.inl (fun _ => 0))))] _ := hP
  have hD : va_D A [(h0, .inr (8, [.ref q_1, .ref q_3, .null, .int 0])), (q_1, .inl (cA_2, 16, .inl (fun _ => 0))), (q_3, .inl (cA_4, 16, .inr (.inl (fun _ => 0))))] := hD
  have hP := hP.sub (ws' := [(h0, .inr (8, [.ref q_1, .ref q_3, .null, .int 0])), (q_1, .inl (cA_2, 16, .inl (fun _ => 0)))]) [0, 1] rfl
  have hD := hD.sub (ws' := [(h0, .inr (8, [.ref q_1, .ref q_3, .null, .int 0])), (q_1, .inl (cA_2, 16, .inl (fun _ => 0)))]) [0, 1] (by decide) rfl
  refine lv_aload_n hx hb dX9_init_29 rfl (lv_at hl 1 rfl) ?_
  refine lv_iload_n hx hb dX9_init_30 rfl (lv_at hl 0 rfl) ?_
  refine va_newa (atype := .double) (ty := .double) (a0 := (16, .inr (.inr (.inr (.inl (fun _ => 0)))))) (N' := 16) hx hb (hts (.arrayClass .double) (by decide +kernel)) rfl hK hP hD hS hA (cz_double 16) (by decide +kernel) (by decide +kernel) (by decide +kernel) (Nat.le_of_ble_eq_true rfl) (Nat.le_of_ble_eq_true rfl) dX9_init_31 (fun q_5 cA_6 H hK hP hD hS => ?_)
  have hP : va_P (dC, dI) vwCl [(h0, .inr (8, [.ref q_1, .ref q_3, .null, .int 0])), (q_1, .inl (cA_2, 16, .inl (fun _ => 0))), (q_5, .inl (cA_6, 16, .inr (.inr (.inr (.inl (fun _ => 0))))))] _ := hP
  have hD : va_D A [(h0, .inr (8, [.ref q_1, .ref q_3, .null, .int 0])), (q_1, .inl (cA_2, 16, .inl (fun _ => 0))), (q_5, .inl (cA_6, 16, .inr (.inr (.inr (.inl (fun _ => 0))))))] := hD
  have hK : va_K (dC, dI) vwCl [(cA_2, .int), (cA_4, .long), (cA_6, .double)] s := hK
  refine W.widen (k := 3) (n := 48) (Nat.le_of_ble_eq_true rfl) (Nat.le_of_ble_eq_true rfl) ?_
  refine va_put (D := (dC, dI)) (ci := 8) (v := .ref q_5) (ty := .array .double) (C := RX9) (T := TX9) (N := 4) hx hb hts in_X9_init_RX9 tyX9 tyX9_ok nmX9 hown hK hP hD hS 0 rfl rfl 2 (by decide) (hts (.fieldLink RX9 27 "FourTongues$Row" "reals" "[D") (by decide +kernel)) (fun _ h9 => h9) rfl (by decide +kernel) rfl rfl (Nat.le_of_ble_eq_true rfl) dX9_init_33 (fun H locs hP hD hS => ?_)
  have hP : va_P (dC, dI) vwCl [(h0, .inr (8, [.ref q_1, .ref q_3, .ref q_5, .int 0])), (q_1, .inl (cA_2, 16, .inl (fun _ => 0))), (q_5, .inl (cA_6, 16, .inr (.inr (.inr (.inl (fun _ => 0))))))] _ := hP
  have hD : va_D A [(h0, .inr (8, [.ref q_1, .ref q_3, .ref q_5, .int 0])), (q_1, .inl (cA_2, 16, .inl (fun _ => 0))), (q_5, .inl (cA_6, 16, .inr (.inr (.inr (.inl (fun _ => 0))))))] := hD
  have hP := hP.sub (ws' := [(h0, .inr (8, [.ref q_1, .ref q_3, .ref q_5, .int 0])), (q_1, .inl (cA_2, 16, .inl (fun _ => 0)))]) [0, 1] rfl
  have hD := hD.sub (ws' := [(h0, .inr (8, [.ref q_1, .ref q_3, .ref q_5, .int 0])), (q_1, .inl (cA_2, 16, .inl (fun _ => 0)))]) [0, 1] (by decide) rfl
  have hP9 := hP.sub (ws' := [(h0, .inr (8, [.ref q_1, .ref q_3, .ref q_5, .int 0])), (q_1, .inl (cA_2, 16, .inl (fun _ => 0)))]) [0, 1] rfl
  have hD9 := hD.sub (ws' := [(h0, .inr (8, [.ref q_1, .ref q_3, .ref q_5, .int 0])), (q_1, .inl (cA_2, 16, .inl (fun _ => 0)))]) [0, 1] (by decide) rfl
  have hK9 := hK.sub (tys' := [(cA_2, .int)]) [0] rfl
  exact W.vret hx hb hr (fun t ht hW => ⟨⟨(), rfl, trivial, ⟨q_1, cA_2, q_3, q_5, by rw [ht]; exact hP9, va_K.moved hW.alike hK9, hD9⟩⟩, hS.F ht⟩) hS.2.2 dX9_init_36

set_option maxHeartbeats 4000000 in
set_option maxRecDepth 100000 in
theorem c_X9_init_32 (l : Launch) (dC : Nat → ClassId) (dI : Nat → Nat → Nat) (sz : Nat) (h0 : Nat) : Met l yX9_init wsX9_init ({ frames := 1, cells := 3, slots := 96, locals := 24 }) (va_Pc [.ref h0, .int 32] (fun U => xM (dC, dI) sz [(h0, .inr (8, [.null, .null, .null, .int 0]))] [] U)) (va_Qv (fun _ : Unit => True) (fun (_ : Unit) t => ∃ (q_1 : Nat), ∃ (cA_2 : ClassId), ∃ (q_3 : Nat), ∃ (q_5 : Nat), xB (dC, dI) [(h0, .inr (8, [.ref q_1, .ref q_3, .ref q_5, .int 0])), (q_1, .inl (cA_2, 32, .inl (fun _ => 0)))] [(cA_2, .int)] (va_A [(h0, .inr (8, [.null, .null, .null, .int 0]))] sz) t) (va_A [(h0, .inr (8, [.null, .null, .null, .int 0]))] sz)) 3 96 (va_A [(h0, .inr (8, [.null, .null, .null, .int 0]))] sz) := by
  refine Met.ofW (cc := cX9_init) (maxL := 3) (ret := none) (by decide) rfl ?_
  intro p e s m args below meth c s₁ B hml hv
  obtain ⟨rfl, hsz, hP, hK, hD0⟩ := hv
  have hx := B.exec
  have hb := B.bytes
  have hr := B.returns
  have hts := atoms_spec (ws := wsX9_init) B.pre
  have hown : s.vm.findClass RX9 = some m.cls := findClass_of_methodNamed B.named
  have hlocks := B.notSynchronized
  have hin : meth.name = "<init>" := (name_of_methodNamed B.named B.method).1
  subst hsz
  have hD := hD0.self (sz := s.heap.size)
  generalize hAe : va_A [(h0, .inr (8, [.null, .null, .null, .int 0]))] s.heap.size = A at hD ⊢
  have hA : ∀ q : Nat, s.heap.size ≤ q → A q := fun q h => by rw [← hAe]; exact Or.inr h
  have hS : va_S A s.heap s.heap [] := va_S.rf
  have hl := lv_entry ([.ref h0, .int 32]) (n := 3) (Nat.le_of_ble_eq_true rfl)
  rw [lg_entry_eq]
  generalize (lg_sl ([.ref h0, .int 32]) ++ List.replicate (3 - (lg_sl ([.ref h0, .int 32])).length) Slot.unset).toArray = ls at hl ⊢
  have hl : lv_has ls 3 [(0, .ref h0), (1, .int 32)] := hl
  refine lv_aload_n hx hb dX9_init_0 rfl (lv_at hl 0 rfl) ?_
  refine W.objInit hx hb hown (hts (.methodLink RX9 1 objectInit) (by decide +kernel)) (hts (.instanceMethod objectInit) (by decide +kernel)) (hts (.code objectInit ⟨#[0xb1]⟩ 1 none) (by decide +kernel)) rfl (by rw [hml]; exact hl.1) rfl dX9_init_1 (Nat.le_of_ble_eq_true rfl) (Nat.le_of_ble_eq_true rfl) ?_
  refine W.eq (g2 := F0 m 4 ls []) rfl ?_
  refine lv_aload_n hx hb dX9_init_4 rfl (lv_at hl 0 rfl) ?_
  refine lv_iconst (v := 0) hx hb dX9_init_5 (by decide) ?_
  refine va_put (D := (dC, dI)) (ci := 8) (v := .int 0) (ty := .int) (C := RX9) (T := TX9) (N := 4) hx hb hts in_X9_init_RX9 tyX9 tyX9_ok nmX9 hown hK hP hD hS 0 rfl rfl 3 (by decide) (hts (.fieldLink RX9 7 "FourTongues$Row" "count" "I") (by decide +kernel)) (fun _ h9 => h9) rfl (by decide +kernel) rfl rfl (Nat.le_of_ble_eq_true rfl) dX9_init_6 (fun H locs hP hD hS => ?_)
  have hP : va_P (dC, dI) vwCl [(h0, .inr (8, [.null, .null, .null, .int 0]))] _ := hP
  have hD : va_D A [(h0, .inr (8, [.null, .null, .null, .int 0]))] := hD
  refine lv_iload_n hx hb dX9_init_9 rfl (lv_at hl 1 rfl) ?_
  refine lv_iconst (v := 1) hx hb dX9_init_10 (by decide) ?_
  refine va_mmax hx hb (by rw [hml]; exact hl.1.symm) hown (hts (.methodLink RX9 13 Lib.Math.max.name) (by decide +kernel)) (hts (.static Lib.Math.max.name) (by decide +kernel)) (hts (.initialized "java/lang/Math") (by decide +kernel)) (hts (.code Lib.Math.max.name Lib.Math.max.code 2 (some .int)) (by decide +kernel)) (Nat.le_of_ble_eq_true rfl) (Nat.le_of_ble_eq_true rfl) (Nat.le_of_ble_eq_true rfl) (Nat.le_of_ble_eq_true rfl) dX9_init_11 ?_
  refine my_ti (v := 32) (by decide) ?_
  refine lv_istore_n (lv' := [(2, .int 32), (0, .ref h0), (1, .int 32)]) hx hb dX9_init_14 rfl hl (by decide) rfl (fun ls hl => ?_)
  refine lv_aload_n hx hb dX9_init_15 rfl (lv_at hl 1 rfl) ?_
  refine lv_iload_n hx hb dX9_init_16 rfl (lv_at hl 0 rfl) ?_
  refine va_newa (atype := .int) (ty := .int) (a0 := (32, .inl (fun _ => 0))) (N' := 32) hx hb (hts (.arrayClass .int) (by decide +kernel)) rfl hK hP hD hS hA (cz_int 32) (by decide +kernel) (by decide +kernel) (by decide +kernel) (Nat.le_of_ble_eq_true rfl) (Nat.le_of_ble_eq_true rfl) dX9_init_17 (fun q_1 cA_2 H hK hP hD hS => ?_)
  have hP : va_P (dC, dI) vwCl [(h0, .inr (8, [.null, .null, .null, .int 0])), (q_1, .inl (cA_2, 32, .inl (fun _ => 0)))] _ := hP
  have hD : va_D A [(h0, .inr (8, [.null, .null, .null, .int 0])), (q_1, .inl (cA_2, 32, .inl (fun _ => 0)))] := hD
  have hK : va_K (dC, dI) vwCl [(cA_2, .int)] s := hK
  refine W.widen (k := 1) (n := 32) (Nat.le_of_ble_eq_true rfl) (Nat.le_of_ble_eq_true rfl) ?_
  refine va_put (D := (dC, dI)) (ci := 8) (v := .ref q_1) (ty := .array .int) (C := RX9) (T := TX9) (N := 4) hx hb hts in_X9_init_RX9 tyX9 tyX9_ok nmX9 hown hK hP hD hS 0 rfl rfl 0 (by decide) (hts (.fieldLink RX9 19 "FourTongues$Row" "kinds" "[I") (by decide +kernel)) (fun _ h9 => h9) rfl (by decide +kernel) rfl rfl (Nat.le_of_ble_eq_true rfl) dX9_init_19 (fun H locs hP hD hS => ?_)
  have hP : va_P (dC, dI) vwCl [(h0, .inr (8, [.ref q_1, .null, .null, .int 0])), (q_1, .inl (cA_2, 32, .inl (fun _ => 0)))] _ := hP
  have hD : va_D A [(h0, .inr (8, [.ref q_1, .null, .null, .int 0])), (q_1, .inl (cA_2, 32, .inl (fun _ => 0)))] := hD
  refine lv_aload_n hx hb dX9_init_22 rfl (lv_at hl 1 rfl) ?_
  refine lv_iload_n hx hb dX9_init_23 rfl (lv_at hl 0 rfl) ?_
  refine va_newa (atype := .long) (ty := .long) (a0 := (32, .inr (.inl (fun _ => 0)))) (N' := 32) hx hb (hts (.arrayClass .long) (by decide +kernel)) rfl hK hP hD hS hA (cz_long 32) (by decide +kernel) (by decide +kernel) (by decide +kernel) (Nat.le_of_ble_eq_true rfl) (Nat.le_of_ble_eq_true rfl) dX9_init_24 (fun q_3 cA_4 H hK hP hD hS => ?_)
  have hP : va_P (dC, dI) vwCl [(h0, .inr (8, [.ref q_1, .null, .null, .int 0])), (q_1, .inl (cA_2, 32, .inl (fun _ => 0))), (q_3, .inl (cA_4, 32, .inr (.inl (fun _ => 0))))] _ := hP
  have hD : va_D A [(h0, .inr (8, [.ref q_1, .null, .null, .int 0])), (q_1, .inl (cA_2, 32, .inl (fun _ => 0))), (q_3, .inl (cA_4, 32, .inr (.inl (fun _ => 0))))] := hD
  have hK : va_K (dC, dI) vwCl [(cA_2, .int), (cA_4, .long)] s := hK
  refine W.widen (k := 2) (n := 64) (Nat.le_of_ble_eq_true rfl) (Nat.le_of_ble_eq_true rfl) ?_
  refine va_put (D := (dC, dI)) (ci := 8) (v := .ref q_3) (ty := .array .long) (C := RX9) (T := TX9) (N := 4) hx hb hts in_X9_init_RX9 tyX9 tyX9_ok nmX9 hown hK hP hD hS 0 rfl rfl 1 (by decide) (hts (.fieldLink RX9 23 "FourTongues$Row" "wholes" "[J") (by decide +kernel)) (fun _ h9 => h9) rfl (by decide +kernel) rfl rfl (Nat.le_of_ble_eq_true rfl) dX9_init_26 (fun H locs hP hD hS => ?_)
  have hP : va_P (dC, dI) vwCl [(h0, .inr (8, [.ref q_1, .ref q_3, .null, .int 0])), (q_1, .inl (cA_2, 32, .inl (fun _ => 0))), (q_3, .inl (cA_4, 32, .inr (.inl (fun _ => 0))))] _ := hP
  have hD : va_D A [(h0, .inr (8, [.ref q_1, .ref q_3, .null, .int 0])), (q_1, .inl (cA_2, 32, .inl (fun _ => 0))), (q_3, .inl (cA_4, 32, .inr (.inl (fun _ => 0))))] := hD
  have hP := hP.sub (ws' := [(h0, .inr (8, [.ref q_1, .ref q_3, .null, .int 0])), (q_1, .inl (cA_2, 32, .inl (fun _ => 0)))]) [0, 1] rfl
  have hD := hD.sub (ws' := [(h0, .inr (8, [.ref q_1, .ref q_3, .null, .int 0])), (q_1, .inl (cA_2, 32, .inl (fun _ => 0)))]) [0, 1] (by decide) rfl
  refine lv_aload_n hx hb dX9_init_29 rfl (lv_at hl 1 rfl) ?_
  refine lv_iload_n hx hb dX9_init_30 rfl (lv_at hl 0 rfl) ?_
  refine va_newa (atype := .double) (ty := .double) (a0 := (32, .inr (.inr (.inr (.inl (fun _ => 0)))))) (N' := 32) hx hb (hts (.arrayClass .double) (by decide +kernel)) rfl hK hP hD hS hA (cz_double 32) (by decide +kernel) (by decide +kernel) (by decide +kernel) (Nat.le_of_ble_eq_true rfl) (Nat.le_of_ble_eq_true rfl) dX9_init_31 (fun q_5 cA_6 H hK hP hD hS => ?_)
  have hP : va_P (dC, dI) vwCl [(h0, .inr (8, [.ref q_1, .ref q_3, .null, .int 0])), (q_1, .inl (cA_2, 32, .inl (fun _ => 0))), (q_5, .inl (cA_6, 32, .inr (.inr (.inr (.inl (fun _ => 0))))))] _ := hP
  have hD : va_D A [(h0, .inr (8, [.ref q_1, .ref q_3, .null, .int 0])), (q_1, .inl (cA_2, 32, .inl (fun _ => 0))), (q_5, .inl (cA_6, 32, .inr (.inr (.inr (.inl (fun _ => 0))))))] := hD
  have hK : va_K (dC, dI) vwCl [(cA_2, .int), (cA_4, .long), (cA_6, .double)] s := hK
  refine W.widen (k := 3) (n := 96) (Nat.le_of_ble_eq_true rfl) (Nat.le_of_ble_eq_true rfl) ?_
  refine va_put (D := (dC, dI)) (ci := 8) (v := .ref q_5) (ty := .array .double) (C := RX9) (T := TX9) (N := 4) hx hb hts in_X9_init_RX9 tyX9 tyX9_ok nmX9 hown hK hP hD hS 0 rfl rfl 2 (by decide) (hts (.fieldLink RX9 27 "FourTongues$Row" "reals" "[D") (by decide +kernel)) (fun _ h9 => h9) rfl (by decide +kernel) rfl rfl (Nat.le_of_ble_eq_true rfl) dX9_init_33 (fun H locs hP hD hS => ?_)
  have hP : va_P (dC, dI) vwCl [(h0, .inr (8, [.ref q_1, .ref q_3, .ref q_5, .int 0])), (q_1, .inl (cA_2, 32, .inl (fun _ => 0))), (q_5, .inl (cA_6, 32, .inr (.inr (.inr (.inl (fun _ => 0))))))] _ := hP
  have hD : va_D A [(h0, .inr (8, [.ref q_1, .ref q_3, .ref q_5, .int 0])), (q_1, .inl (cA_2, 32, .inl (fun _ => 0))), (q_5, .inl (cA_6, 32, .inr (.inr (.inr (.inl (fun _ => 0))))))] := hD
  have hP := hP.sub (ws' := [(h0, .inr (8, [.ref q_1, .ref q_3, .ref q_5, .int 0])), (q_1, .inl (cA_2, 32, .inl (fun _ => 0)))]) [0, 1] rfl
  have hD := hD.sub (ws' := [(h0, .inr (8, [.ref q_1, .ref q_3, .ref q_5, .int 0])), (q_1, .inl (cA_2, 32, .inl (fun _ => 0)))]) [0, 1] (by decide) rfl
  have hP9 := hP.sub (ws' := [(h0, .inr (8, [.ref q_1, .ref q_3, .ref q_5, .int 0])), (q_1, .inl (cA_2, 32, .inl (fun _ => 0)))]) [0, 1] rfl
  have hD9 := hD.sub (ws' := [(h0, .inr (8, [.ref q_1, .ref q_3, .ref q_5, .int 0])), (q_1, .inl (cA_2, 32, .inl (fun _ => 0)))]) [0, 1] (by decide) rfl
  have hK9 := hK.sub (tys' := [(cA_2, .int)]) [0] rfl
  exact W.vret hx hb hr (fun t ht hW => ⟨⟨(), rfl, trivial, ⟨q_1, cA_2, q_3, q_5, by rw [ht]; exact hP9, va_K.moved hW.alike hK9, hD9⟩⟩, hS.F ht⟩) hS.2.2 dX9_init_36

set_option maxHeartbeats 4000000 in
set_option maxRecDepth 100000 in
theorem c_X9_init_64 (l : Launch) (dC : Nat → ClassId) (dI : Nat → Nat → Nat) (sz : Nat) (h0 : Nat) : Met l yX9_init wsX9_init ({ frames := 1, cells := 3, slots := 192, locals := 24 }) (va_Pc [.ref h0, .int 64] (fun U => xM (dC, dI) sz [(h0, .inr (8, [.null, .null, .null, .int 0]))] [] U)) (va_Qv (fun _ : Unit => True) (fun (_ : Unit) t => ∃ (q_1 : Nat), ∃ (cA_2 : ClassId), ∃ (q_3 : Nat), ∃ (q_5 : Nat), xB (dC, dI) [(h0, .inr (8, [.ref q_1, .ref q_3, .ref q_5, .int 0])), (q_1, .inl (cA_2, 64, .inl (fun _ => 0)))] [(cA_2, .int)] (va_A [(h0, .inr (8, [.null, .null, .null, .int 0]))] sz) t) (va_A [(h0, .inr (8, [.null, .null, .null, .int 0]))] sz)) 3 192 (va_A [(h0, .inr (8, [.null, .null, .null, .int 0]))] sz) := by
  refine Met.ofW (cc := cX9_init) (maxL := 3) (ret := none) (by decide) rfl ?_
  intro p e s m args below meth c s₁ B hml hv
  obtain ⟨rfl, hsz, hP, hK, hD0⟩ := hv
  have hx := B.exec
  have hb := B.bytes
  have hr := B.returns
  have hts := atoms_spec (ws := wsX9_init) B.pre
  have hown : s.vm.findClass RX9 = some m.cls := findClass_of_methodNamed B.named
  have hlocks := B.notSynchronized
  have hin : meth.name = "<init>" := (name_of_methodNamed B.named B.method).1
  subst hsz
  have hD := hD0.self (sz := s.heap.size)
  generalize hAe : va_A [(h0, .inr (8, [.null, .null, .null, .int 0]))] s.heap.size = A at hD ⊢
  have hA : ∀ q : Nat, s.heap.size ≤ q → A q := fun q h => by rw [← hAe]; exact Or.inr h
  have hS : va_S A s.heap s.heap [] := va_S.rf
  have hl := lv_entry ([.ref h0, .int 64]) (n := 3) (Nat.le_of_ble_eq_true rfl)
  rw [lg_entry_eq]
  generalize (lg_sl ([.ref h0, .int 64]) ++ List.replicate (3 - (lg_sl ([.ref h0, .int 64])).length) Slot.unset).toArray = ls at hl ⊢
  have hl : lv_has ls 3 [(0, .ref h0), (1, .int 64)] := hl
  refine lv_aload_n hx hb dX9_init_0 rfl (lv_at hl 0 rfl) ?_
  refine W.objInit hx hb hown (hts (.methodLink RX9 1 objectInit) (by decide +kernel)) (hts (.instanceMethod objectInit) (by decide +kernel)) (hts (.code objectInit ⟨#[0xb1]⟩ 1 none) (by decide +kernel)) rfl (by rw [hml]; exact hl.1) rfl dX9_init_1 (Nat.le_of_ble_eq_true rfl) (Nat.le_of_ble_eq_true rfl) ?_
  refine W.eq (g2 := F0 m 4 ls []) rfl ?_
  refine lv_aload_n hx hb dX9_init_4 rfl (lv_at hl 0 rfl) ?_
  refine lv_iconst (v := 0) hx hb dX9_init_5 (by decide) ?_
  refine va_put (D := (dC, dI)) (ci := 8) (v := .int 0) (ty := .int) (C := RX9) (T := TX9) (N := 4) hx hb hts in_X9_init_RX9 tyX9 tyX9_ok nmX9 hown hK hP hD hS 0 rfl rfl 3 (by decide) (hts (.fieldLink RX9 7 "FourTongues$Row" "count" "I") (by decide +kernel)) (fun _ h9 => h9) rfl (by decide +kernel) rfl rfl (Nat.le_of_ble_eq_true rfl) dX9_init_6 (fun H locs hP hD hS => ?_)
  have hP : va_P (dC, dI) vwCl [(h0, .inr (8, [.null, .null, .null, .int 0]))] _ := hP
  have hD : va_D A [(h0, .inr (8, [.null, .null, .null, .int 0]))] := hD
  refine lv_iload_n hx hb dX9_init_9 rfl (lv_at hl 1 rfl) ?_
  refine lv_iconst (v := 1) hx hb dX9_init_10 (by decide) ?_
  refine va_mmax hx hb (by rw [hml]; exact hl.1.symm) hown (hts (.methodLink RX9 13 Lib.Math.max.name) (by decide +kernel)) (hts (.static Lib.Math.max.name) (by decide +kernel)) (hts (.initialized "java/lang/Math") (by decide +kernel)) (hts (.code Lib.Math.max.name Lib.Math.max.code 2 (some .int)) (by decide +kernel)) (Nat.le_of_ble_eq_true rfl) (Nat.le_of_ble_eq_true rfl) (Nat.le_of_ble_eq_true rfl) (Nat.le_of_ble_eq_true rfl) dX9_init_11 ?_
  refine my_ti (v := 64) (by decide) ?_
  refine lv_istore_n (lv' := [(2, .int 64), (0, .ref h0), (1, .int 64)]) hx hb dX9_init_14 rfl hl (by decide) rfl (fun ls hl => ?_)
  refine lv_aload_n hx hb dX9_init_15 rfl (lv_at hl 1 rfl) ?_
  refine lv_iload_n hx hb dX9_init_16 rfl (lv_at hl 0 rfl) ?_
  refine va_newa (atype := .int) (ty := .int) (a0 := (64, .inl (fun _ => 0))) (N' := 64) hx hb (hts (.arrayClass .int) (by decide +kernel)) rfl hK hP hD hS hA (cz_int 64) (by decide +kernel) (by decide +kernel) (by decide +kernel) (Nat.le_of_ble_eq_true rfl) (Nat.le_of_ble_eq_true rfl) dX9_init_17 (fun q_1 cA_2 H hK hP hD hS => ?_)
  have hP : va_P (dC, dI) vwCl [(h0, .inr (8, [.null, .null, .null, .int 0])), (q_1, .inl (cA_2, 64, .inl (fun _ => 0)))] _ := hP
  have hD : va_D A [(h0, .inr (8, [.null, .null, .null, .int 0])), (q_1, .inl (cA_2, 64, .inl (fun _ => 0)))] := hD
  have hK : va_K (dC, dI) vwCl [(cA_2, .int)] s := hK
  refine W.widen (k := 1) (n := 64) (Nat.le_of_ble_eq_true rfl) (Nat.le_of_ble_eq_true rfl) ?_
  refine va_put (D := (dC, dI)) (ci := 8) (v := .ref q_1) (ty := .array .int) (C := RX9) (T := TX9) (N := 4) hx hb hts in_X9_init_RX9 tyX9 tyX9_ok nmX9 hown hK hP hD hS 0 rfl rfl 0 (by decide) (hts (.fieldLink RX9 19 "FourTongues$Row" "kinds" "[I") (by decide +kernel)) (fun _ h9 => h9) rfl (by decide +kernel) rfl rfl (Nat.le_of_ble_eq_true rfl) dX9_init_19 (fun H locs hP hD hS => ?_)
  have hP : va_P (dC, dI) vwCl [(h0, .inr (8, [.ref q_1, .null, .null, .int 0])), (q_1, .inl (cA_2, 64, .inl (fun _ => 0)))] _ := hP
  have hD : va_D A [(h0, .inr (8, [.ref q_1, .null, .null, .int 0])), (q_1, .inl (cA_2, 64, .inl (fun _ => 0)))] := hD
  refine lv_aload_n hx hb dX9_init_22 rfl (lv_at hl 1 rfl) ?_
  refine lv_iload_n hx hb dX9_init_23 rfl (lv_at hl 0 rfl) ?_
  refine va_newa (atype := .long) (ty := .long) (a0 := (64, .inr (.inl (fun _ => 0)))) (N' := 64) hx hb (hts (.arrayClass .long) (by decide +kernel)) rfl hK hP hD hS hA (cz_long 64) (by decide +kernel) (by decide +kernel) (by decide +kernel) (Nat.le_of_ble_eq_true rfl) (Nat.le_of_ble_eq_true rfl) dX9_init_24 (fun q_3 cA_4 H hK hP hD hS => ?_)
  have hP : va_P (dC, dI) vwCl [(h0, .inr (8, [.ref q_1, .null, .null, .int 0])), (q_1, .inl (cA_2, 64, .inl (fun _ => 0))), (q_3, .inl (cA_4, 64, .inr (.inl (fun _ => 0))))] _ := hP
  have hD : va_D A [(h0, .inr (8, [.ref q_1, .null, .null, .int 0])), (q_1, .inl (cA_2, 64, .inl (fun _ => 0))), (q_3, .inl (cA_4, 64, .inr (.inl (fun _ => 0))))] := hD
  have hK : va_K (dC, dI) vwCl [(cA_2, .int), (cA_4, .long)] s := hK
  refine W.widen (k := 2) (n := 128) (Nat.le_of_ble_eq_true rfl) (Nat.le_of_ble_eq_true rfl) ?_
  refine va_put (D := (dC, dI)) (ci := 8) (v := .ref q_3) (ty := .array .long) (C := RX9) (T := TX9) (N := 4) hx hb hts in_X9_init_RX9 tyX9 tyX9_ok nmX9 hown hK hP hD hS 0 rfl rfl 1 (by decide) (hts (.fieldLink RX9 23 "FourTongues$Row" "wholes" "[J") (by decide +kernel)) (fun _ h9 => h9) rfl (by decide +kernel) rfl rfl (Nat.le_of_ble_eq_true rfl) dX9_init_26 (fun H locs hP hD hS => ?_)
  have hP : va_P (dC, dI) vwCl [(h0, .inr (8, [.ref q_1, .ref q_3, .null, .int 0])), (q_1, .inl (cA_2, 64, .inl (fun _ => 0))), (q_3, .inl (cA_4, 64, .inr (.inl (fun _ => 0))))] _ := hP
  have hD : va_D A [(h0, .inr (8, [.ref q_1, .ref q_3, .null, .int 0])), (q_1, .inl (cA_2, 64, .inl (fun _ => 0))), (q_3, .inl (cA_4, 64, .inr (.inl (fun _ => 0))))] := hD
  have hP := hP.sub (ws' := [(h0, .inr (8, [.ref q_1, .ref q_3, .null, .int 0])), (q_1, .inl (cA_2, 64, .inl (fun _ => 0)))]) [0, 1] rfl
  have hD := hD.sub (ws' := [(h0, .inr (8, [.ref q_1, .ref q_3, .null, .int 0])), (q_1, .inl (cA_2, 64, .inl (fun _ => 0)))]) [0, 1] (by decide) rfl
  refine lv_aload_n hx hb dX9_init_29 rfl (lv_at hl 1 rfl) ?_
  refine lv_iload_n hx hb dX9_init_30 rfl (lv_at hl 0 rfl) ?_
  refine va_newa (atype := .double) (ty := .double) (a0 := (64, .inr (.inr (.inr (.inl (fun _ => 0)))))) (N' := 64) hx hb (hts (.arrayClass .double) (by decide +kernel)) rfl hK hP hD hS hA (cz_double 64) (by decide +kernel) (by decide +kernel) (by decide +kernel) (Nat.le_of_ble_eq_true rfl) (Nat.le_of_ble_eq_true rfl) dX9_init_31 (fun q_5 cA_6 H hK hP hD hS => ?_)
  have hP : va_P (dC, dI) vwCl [(h0, .inr (8, [.ref q_1, .ref q_3, .null, .int 0])), (q_1, .inl (cA_2, 64, .inl (fun _ => 0))), (q_5, .inl (cA_6, 64, .inr (.inr (.inr (.inl (fun _ => 0))))))] _ := hP
  have hD : va_D A [(h0, .inr (8, [.ref q_1, .ref q_3, .null, .int 0])), (q_1, .inl (cA_2, 64, .inl (fun _ => 0))), (q_5, .inl (cA_6, 64, .inr (.inr (.inr (.inl (fun _ => 0))))))] := hD
  have hK : va_K (dC, dI) vwCl [(cA_2, .int), (cA_4, .long), (cA_6, .double)] s := hK
  refine W.widen (k := 3) (n := 192) (Nat.le_of_ble_eq_true rfl) (Nat.le_of_ble_eq_true rfl) ?_
  refine va_put (D := (dC, dI)) (ci := 8) (v := .ref q_5) (ty := .array .double) (C := RX9) (T := TX9) (N := 4) hx hb hts in_X9_init_RX9 tyX9 tyX9_ok nmX9 hown hK hP hD hS 0 rfl rfl 2 (by decide) (hts (.fieldLink RX9 27 "FourTongues$Row" "reals" "[D") (by decide +kernel)) (fun _ h9 => h9) rfl (by decide +kernel) rfl rfl (Nat.le_of_ble_eq_true rfl) dX9_init_33 (fun H locs hP hD hS => ?_)
  have hP : va_P (dC, dI) vwCl [(h0, .inr (8, [.ref q_1, .ref q_3, .ref q_5, .int 0])), (q_1, .inl (cA_2, 64, .inl (fun _ => 0))), (q_5, .inl (cA_6, 64, .inr (.inr (.inr (.inl (fun _ => 0))))))] _ := hP
  have hD : va_D A [(h0, .inr (8, [.ref q_1, .ref q_3, .ref q_5, .int 0])), (q_1, .inl (cA_2, 64, .inl (fun _ => 0))), (q_5, .inl (cA_6, 64, .inr (.inr (.inr (.inl (fun _ => 0))))))] := hD
  have hP := hP.sub (ws' := [(h0, .inr (8, [.ref q_1, .ref q_3, .ref q_5, .int 0])), (q_1, .inl (cA_2, 64, .inl (fun _ => 0)))]) [0, 1] rfl
  have hD := hD.sub (ws' := [(h0, .inr (8, [.ref q_1, .ref q_3, .ref q_5, .int 0])), (q_1, .inl (cA_2, 64, .inl (fun _ => 0)))]) [0, 1] (by decide) rfl
  have hP9 := hP.sub (ws' := [(h0, .inr (8, [.ref q_1, .ref q_3, .ref q_5, .int 0])), (q_1, .inl (cA_2, 64, .inl (fun _ => 0)))]) [0, 1] rfl
  have hD9 := hD.sub (ws' := [(h0, .inr (8, [.ref q_1, .ref q_3, .ref q_5, .int 0])), (q_1, .inl (cA_2, 64, .inl (fun _ => 0)))]) [0, 1] (by decide) rfl
  have hK9 := hK.sub (tys' := [(cA_2, .int)]) [0] rfl
  exact W.vret hx hb hr (fun t ht hW => ⟨⟨(), rfl, trivial, ⟨q_1, cA_2, q_3, q_5, by rw [ht]; exact hP9, va_K.moved hW.alike hK9, hD9⟩⟩, hS.F ht⟩) hS.2.2 dX9_init_36

set_option maxHeartbeats 4000000 in
set_option maxRecDepth 100000 in
theorem c_J7_fill_53178 (l : Launch) (dC : Nat → ClassId) (dI : Nat → Nat → Nat) (sz : Nat) (h0 : Nat) (cA : ClassId) (kn : Nat) (f : Nat → Int32) (x1 : Int32) (hk : kn < 2 ^ 31) : Met l yJ7_fill_53178 wsJ7_fill_53178 ({ frames := 0, cells := 0, slots := 0, locals := 0 }) (va_Pc [.ref h0, .int x1] (fun U => xM (dC, dI) sz [(h0, .inl (cA, kn, .inl f))] [(cA, .int)] U)) (va_Qv (fun _ : Unit => True) (fun (_ : Unit) t => ∃ (f2 : Nat → Int32), (∀ j, j < kn → f2 j = x1) ∧ xB (dC, dI) [(h0, .inl (cA, kn, .inl f2))] [(cA, .int)] (va_A [(h0, .inl (cA, kn, .inl f))] sz) t) (va_A [(h0, .inl (cA, kn, .inl f))] sz)) 0 0 (va_A [(h0, .inl (cA, kn, .inl f))] sz) := by
  refine Met.ofW (cc := cJ7_fill_53178) (maxL := 4) (ret := none) (by decide) rfl ?_
  intro p e s m args below meth c s₁ B hml hv
  obtain ⟨rfl, hsz, hP, hK, hD0⟩ := hv
  have hx := B.exec
  have hb := B.bytes
  have hr := B.returns
  have hts := atoms_spec (ws := wsJ7_fill_53178) B.pre
  have hown : s.vm.findClass RJ7 = some m.cls := findClass_of_methodNamed B.named
  have hlocks := B.notSynchronized
  subst hsz
  have hD := hD0.self (sz := s.heap.size)
  generalize hAe : va_A [(h0, .inl (cA, kn, .inl f))] s.heap.size = A at hD ⊢
  have hA : ∀ q : Nat, s.heap.size ≤ q → A q := fun q h => by rw [← hAe]; exact Or.inr h
  have hS : va_S A s.heap s.heap [] := va_S.rf
  have hl := lv_entry ([.ref h0, .int x1]) (n := 4) (Nat.le_of_ble_eq_true rfl)
  rw [lg_entry_eq]
  generalize (lg_sl ([.ref h0, .int x1]) ++ List.replicate (4 - (lg_sl ([.ref h0, .int x1])).length) Slot.unset).toArray = ls at hl ⊢
  have hl : lv_has ls 4 [(0, .ref h0), (1, .int x1)] := hl
  refine lv_iconst (v := 0) hx hb dJ7_fill_53178_0 (by decide) ?_
  refine lv_istore_n (lv' := [(2, .int 0), (0, .ref h0), (1, .int x1)]) hx hb dJ7_fill_53178_1 rfl hl (by decide) rfl (fun ls hl => ?_)
  refine lv_aload_n hx hb dJ7_fill_53178_2 rfl (lv_at hl 1 rfl) ?_
  refine va_alen (v := Int32.ofNat kn) hx hb hK hP 0 0 rfl rfl rfl dJ7_fill_53178_3 ?_
  refine lv_istore_n (lv' := [(3, .int (Int32.ofNat kn)), (2, .int 0), (0, .ref h0), (1, .int x1)]) hx hb dJ7_fill_53178_4 rfl hl (by decide) rfl (fun ls hl => ?_)
  have hl : lv_has ls 4 [(3, .int (nI kn)), (2, .int (nI 0)), (0, .ref h0), (1, .int x1)] := hl
  refine my_for (I := fun i H locs ls => ∃ (g : Nat → Int32), (∀ j, j < i → g j = x1) ∧ va_P (dC, dI) vwCl [(h0, .inl (cA, kn, .inl g))] H ∧ va_D A [(h0, .inl (cA, kn, .inl g))] ∧ va_S A s.heap H locs ∧ lv_has ls 4 [(0, .ref h0), (1, .int x1), (2, .int (nI i)), (3, .int (nI kn))]) kn (fun i H locs ls hi hI ih => ?_) 0 _ _ ls (by omega) ⟨f, fun j hj => absurd hj (Nat.not_lt_zero j), hP.sub [0] rfl, hD.sub [0] (by decide) rfl, hS, lv_sub hl [2, 3, 1, 0] rfl⟩
  obtain ⟨g, hi_0, hP, hD, hS, hl⟩ := hI
  refine lv_iload_n hx hb dJ7_fill_53178_5 rfl (lv_at hl 2 rfl) ?_
  refine lv_iload_n hx hb dJ7_fill_53178_6 rfl (lv_at hl 3 rfl) ?_
  refine lv_icmp_ge (tgt := 20) hx hb dJ7_fill_53178_7 (by decide) (fun c_7 => ?_) (fun c_7 => ?_)
  · have hge : kn ≤ i := Nat.le_of_not_lt (fun q => (nI_ge q (by omega)) c_7)
    have hP9 := hP.sub (ws' := [(h0, .inl (cA, kn, .inl g))]) [0] rfl
    have hD9 := hD.sub (ws' := [(h0, .inl (cA, kn, .inl g))]) [0] (by decide) rfl
    have hK9 := hK.sub (tys' := [(cA, .int)]) [0] rfl
    exact W.vret hx hb hr (fun t ht hW => ⟨⟨(), rfl, trivial, ⟨g, fun j hj => hi_0 j (by omega), by rw [ht]; exact hP9, va_K.moved hW.alike hK9, hD9⟩⟩, hS.F ht⟩) hS.2.2 dJ7_fill_53178_20
  · have hlt : i < kn := Nat.lt_of_not_le (fun q => c_7 (nI_le q (by omega)))
    refine lv_aload_n hx hb dJ7_fill_53178_10 rfl (lv_at hl 0 rfl) ?_
    refine lv_iload_n hx hb dJ7_fill_53178_11 rfl (lv_at hl 2 rfl) ?_
    refine lv_iload_n hx hb dJ7_fill_53178_12 rfl (lv_at hl 1 rfl) ?_
    refine va_iast hx hb hK hP hD hS 0 0 rfl rfl (vp_in_nI hlt hk) dJ7_fill_53178_13 (fun H locs hP hD hS => ?_)
    obtain ⟨f_1, ef_1⟩ : ∃ y : Nat → Int32, y = upd g ((nI i : Int32).toNatClampNeg) x1 := ⟨_, rfl⟩
    rw [← ef_1] at hP hD
    have hP : va_P (dC, dI) vwCl [(h0, .inl (cA, kn, .inl f_1))] _ := hP
    have hD : va_D A [(h0, .inl (cA, kn, .inl f_1))] := hD
    refine lv_iinc (v := nI (i + 1)) (lv' := [(2, .int (nI (i + 1))), (0, .ref h0), (1, .int x1), (3, .int (nI kn))]) hx hb dJ7_fill_53178_14 hl (k := 2) rfl (by exact nI_1 i) (by decide) rfl (fun ls hl => ?_)
    refine lv_goto (tgt := 5) hx hb dJ7_fill_53178_17 (by decide) ?_
    have hn : ∀ j, j < i + 1 → f_1 j = x1 := by
      intro j hj
      rw [ef_1, upd]
      by_cases hq : j = (nI i).toNatClampNeg
      · rw [if_pos hq]
      · rw [if_neg hq]; rw [nI_clamp (by omega)] at hq; exact hi_0 j (by omega)
    exact ih hlt _ _ _ ⟨f_1, hn, hP.sub [0] rfl, hD.sub [0] (by decide) rfl, hS, lv_sub hl [1, 2, 0, 3] rfl⟩

set_option maxHeartbeats 4000000 in
set_option maxRecDepth 100000 in
theorem c_X0_init (l : Launch) (dC : Nat → ClassId) (dI : Nat → Nat → Nat) (sz : Nat) (h0 : Nat) : Met l yX0_init wsX0_init ({ frames := 1, cells := 5, slots := 332, locals := 24 }) (va_Pc [.ref h0] (fun U => xM (dC, dI) sz [(h0, .inr (0, [.null, .null, .null, .null, .null, .int 0]))] [] U)) (va_Qv (fun _ : Unit => True) (fun (_ : Unit) t => ∃ (q_1 : Nat), ∃ (cA_2 : ClassId), ∃ (q_3 : Nat), ∃ (cA_4 : ClassId), ∃ (q_5 : Nat), ∃ (cA_6 : ClassId), ∃ (q_7 : Nat), ∃ (cA_8 : ClassId), ∃ (q_9 : Nat), ∃ (cA_10 : ClassId), ∃ (f_11 : Nat → Int32), xB (dC, dI) [(h0, .inr (0, [.ref q_1, .ref q_3, .ref q_5, .ref q_7, .ref q_9, .int 0])), (q_1, .inl (cA_2, 16, .inl (fun _ => 0))), (q_5, .inl (cA_6, 100, .inl (fun _ => 0))), (q_7, .inl (cA_8, 100, .inl (fun _ => 0))), (q_9, .inl (cA_10, 100, .inl (fun _ => 0))), (q_3, .inl (cA_4, 16, .inl f_11))] [(cA_2, .int), (cA_4, .int), (cA_6, .int), (cA_8, .int), (cA_10, .int), (cA_4, .int)] (va_A [(h0, .inr (0, [.null, .null, .null, .null, .null, .int 0]))] sz) t) (va_A [(h0, .inr (0, [.null, .null, .null, .null, .null, .int 0]))] sz)) 5 332 (va_A [(h0, .inr (0, [.null, .null, .null, .null, .null, .int 0]))] sz) := by
  refine Met.ofW (cc := cX0_init) (maxL := 1) (ret := none) (by decide) rfl ?_
  intro p e s m args below meth c s₁ B hml hv
  obtain ⟨rfl, hsz, hP, hK, hD0⟩ := hv
  have hx := B.exec
  have hb := B.bytes
  have hr := B.returns
  have hts := atoms_spec (ws := wsX0_init) B.pre
  have hown : s.vm.findClass RX0 = some m.cls := findClass_of_methodNamed B.named
  have hlocks := B.notSynchronized
  have hin : meth.name = "<init>" := (name_of_methodNamed B.named B.method).1
  subst hsz
  have hD := hD0.self (sz := s.heap.size)
  generalize hAe : va_A [(h0, .inr (0, [.null, .null, .null, .null, .null, .int 0]))] s.heap.size = A at hD ⊢
  have hA : ∀ q : Nat, s.heap.size ≤ q → A q := fun q h => by rw [← hAe]; exact Or.inr h
  have hS : va_S A s.heap s.heap [] := va_S.rf
  have hl := lv_entry ([.ref h0]) (n := 1) (Nat.le_of_ble_eq_true rfl)
  rw [lg_entry_eq]
  generalize (lg_sl ([.ref h0]) ++ List.replicate (1 - (lg_sl ([.ref h0])).length) Slot.unset).toArray = ls at hl ⊢
  have hl : lv_has ls 1 [(0, .ref h0)] := hl
  refine lv_aload_n hx hb dX0_init_0 rfl (lv_at hl 0 rfl) ?_
  refine W.objInit hx hb hown (hts (.methodLink RX0 3 objectInit) (by decide +kernel)) (hts (.instanceMethod objectInit) (by decide +kernel)) (hts (.code objectInit ⟨#[0xb1]⟩ 1 none) (by decide +kernel)) rfl (by rw [hml]; exact hl.1) rfl dX0_init_1 (Nat.le_of_ble_eq_true rfl) (Nat.le_of_ble_eq_true rfl) ?_
  refine W.eq (g2 := F0 m 4 ls []) rfl ?_
  refine lv_aload_n hx hb dX0_init_4 rfl (lv_at hl 0 rfl) ?_
  refine lv_bipush (v := 16) hx hb dX0_init_5 (by decide) ?_
  refine va_newa (atype := .int) (ty := .int) (a0 := (16, .inl (fun _ => 0))) (N' := 16) hx hb (hts (.arrayClass .int) (by decide +kernel)) rfl hK hP hD hS hA (cz_int 16) (by decide +kernel) (by decide +kernel) (by decide +kernel) (Nat.le_of_ble_eq_true rfl) (Nat.le_of_ble_eq_true rfl) dX0_init_7 (fun q_1 cA_2 H hK hP hD hS => ?_)
  have hP : va_P (dC, dI) vwCl [(h0, .inr (0, [.null, .null, .null, .null, .null, .int 0])), (q_1, .inl (cA_2, 16, .inl (fun _ => 0)))] _ := hP
  have hD : va_D A [(h0, .inr (0, [.null, .null, .null, .null, .null, .int 0])), (q_1, .inl (cA_2, 16, .inl (fun _ => 0)))] := hD
  have hK : va_K (dC, dI) vwCl [(cA_2, .int)] s := hK
  refine W.widen (k := 1) (n := 16) (Nat.le_of_ble_eq_true rfl) (Nat.le_of_ble_eq_true rfl) ?_
  refine va_putF (D := (dC, dI)) (ci := 0) (v := .ref q_1) (ty := .array .int) (C := RX0) (T := TX0) (N := 6) hx hb hts in_X0_init_RX0 tyX0 tyX0_ok nmX0 hown hK hP hD hS 0 rfl rfl 0 (by decide) (hts (.fieldLink RX0 9 "FourTongues$Borders" "rules" "[I") (by decide +kernel)) (fun _ h9 => h9) rfl hin rfl (by decide +kernel) rfl rfl (Nat.le_of_ble_eq_true rfl) dX0_init_9 (fun H locs hP hD hS => ?_)
  have hP : va_P (dC, dI) vwCl [(h0, .inr (0, [.ref q_1, .null, .null, .null, .null, .int 0])), (q_1, .inl (cA_2, 16, .inl (fun _ => 0)))] _ := hP
  have hD : va_D A [(h0, .inr (0, [.ref q_1, .null, .null, .null, .null, .int 0])), (q_1, .inl (cA_2, 16, .inl (fun _ => 0)))] := hD
  refine lv_aload_n hx hb dX0_init_12 rfl (lv_at hl 0 rfl) ?_
  refine lv_bipush (v := 16) hx hb dX0_init_13 (by decide) ?_
  refine va_newa (atype := .int) (ty := .int) (a0 := (16, .inl (fun _ => 0))) (N' := 16) hx hb (hts (.arrayClass .int) (by decide +kernel)) rfl hK hP hD hS hA (cz_int 16) (by decide +kernel) (by decide +kernel) (by decide +kernel) (Nat.le_of_ble_eq_true rfl) (Nat.le_of_ble_eq_true rfl) dX0_init_15 (fun q_3 cA_4 H hK hP hD hS => ?_)
  have hP : va_P (dC, dI) vwCl [(h0, .inr (0, [.ref q_1, .null, .null, .null, .null, .int 0])), (q_1, .inl (cA_2, 16, .inl (fun _ => 0))), (q_3, .inl (cA_4, 16, .inl (fun _ => 0)))] _ := hP
  have hD : va_D A [(h0, .inr (0, [.ref q_1, .null, .null, .null, .null, .int 0])), (q_1, .inl (cA_2, 16, .inl (fun _ => 0))), (q_3, .inl (cA_4, 16, .inl (fun _ => 0)))] := hD
  have hK : va_K (dC, dI) vwCl [(cA_2, .int), (cA_4, .int)] s := hK
  refine W.widen (k := 2) (n := 32) (Nat.le_of_ble_eq_true rfl) (Nat.le_of_ble_eq_true rfl) ?_
  refine va_putF (D := (dC, dI)) (ci := 0) (v := .ref q_3) (ty := .array .int) (C := RX0) (T := TX0) (N := 6) hx hb hts in_X0_init_RX0 tyX0 tyX0_ok nmX0 hown hK hP hD hS 0 rfl rfl 1 (by decide) (hts (.fieldLink RX0 15 "FourTongues$Borders" "defaults" "[I") (by decide +kernel)) (fun _ h9 => h9) rfl hin rfl (by decide +kernel) rfl rfl (Nat.le_of_ble_eq_true rfl) dX0_init_17 (fun H locs hP hD hS => ?_)
  have hP : va_P (dC, dI) vwCl [(h0, .inr (0, [.ref q_1, .ref q_3, .null, .null, .null, .int 0])), (q_1, .inl (cA_2, 16, .inl (fun _ => 0))), (q_3, .inl (cA_4, 16, .inl (fun _ => 0)))] _ := hP
  have hD : va_D A [(h0, .inr (0, [.ref q_1, .ref q_3, .null, .null, .null, .int 0])), (q_1, .inl (cA_2, 16, .inl (fun _ => 0))), (q_3, .inl (cA_4, 16, .inl (fun _ => 0)))] := hD
  refine lv_aload_n hx hb dX0_init_20 rfl (lv_at hl 0 rfl) ?_
  refine lv_bipush (v := 100) hx hb dX0_init_21 (by decide) ?_
  refine va_newa (atype := .int) (ty := .int) (a0 := (100, .inl (fun _ => 0))) (N' := 100) hx hb (hts (.arrayClass .int) (by decide +kernel)) rfl hK hP hD hS hA (cz_int 100) (by decide +kernel) (by decide +kernel) (by decide +kernel) (Nat.le_of_ble_eq_true rfl) (Nat.le_of_ble_eq_true rfl) dX0_init_23 (fun q_5 cA_6 H hK hP hD hS => ?_)
  have hP : va_P (dC, dI) vwCl [(h0, .inr (0, [.ref q_1, .ref q_3, .null, .null, .null, .int 0])), (q_1, .inl (cA_2, 16, .inl (fun _ => 0))), (q_3, .inl (cA_4, 16, .inl (fun _ => 0))), (q_5, .inl (cA_6, 100, .inl (fun _ => 0)))] _ := hP
  have hD : va_D A [(h0, .inr (0, [.ref q_1, .ref q_3, .null, .null, .null, .int 0])), (q_1, .inl (cA_2, 16, .inl (fun _ => 0))), (q_3, .inl (cA_4, 16, .inl (fun _ => 0))), (q_5, .inl (cA_6, 100, .inl (fun _ => 0)))] := hD
  have hK : va_K (dC, dI) vwCl [(cA_2, .int), (cA_4, .int), (cA_6, .int)] s := hK
  refine W.widen (k := 3) (n := 132) (Nat.le_of_ble_eq_true rfl) (Nat.le_of_ble_eq_true rfl) ?_
  refine va_putF (D := (dC, dI)) (ci := 0) (v := .ref q_5) (ty := .array .int) (C := RX0) (T := TX0) (N := 6) hx hb hts in_X0_init_RX0 tyX0 tyX0_ok nmX0 hown hK hP hD hS 0 rfl rfl 2 (by decide) (hts (.fieldLink RX0 18 "FourTongues$Borders" "entryBorders" "[I") (by decide +kernel)) (fun _ h9 => h9) rfl hin rfl (by decide +kernel) rfl rfl (Nat.le_of_ble_eq_true rfl) dX0_init_25 (fun H locs hP hD hS => ?_)
  have hP : va_P (dC, dI) vwCl [(h0, .inr (0, [.ref q_1, .ref q_3, .ref q_5, .null, .null, .int 0])), (q_1, .inl (cA_2, 16, .inl (fun _ => 0))), (q_3, .inl (cA_4, 16, .inl (fun _ => 0))), (q_5, .inl (cA_6, 100, .inl (fun _ => 0)))] _ := hP
  have hD : va_D A [(h0, .inr (0, [.ref q_1, .ref q_3, .ref q_5, .null, .null, .int 0])), (q_1, .inl (cA_2, 16, .inl (fun _ => 0))), (q_3, .inl (cA_4, 16, .inl (fun _ => 0))), (q_5, .inl (cA_6, 100, .inl (fun _ => 0)))] := hD
  refine lv_aload_n hx hb dX0_init_28 rfl (lv_at hl 0 rfl) ?_
  refine lv_bipush (v := 100) hx hb dX0_init_29 (by decide) ?_
  refine va_newa (atype := .int) (ty := .int) (a0 := (100, .inl (fun _ => 0))) (N' := 100) hx hb (hts (.arrayClass .int) (by decide +kernel)) rfl hK hP hD hS hA (cz_int 100) (by decide +kernel) (by decide +kernel) (by decide +kernel) (Nat.le_of_ble_eq_true rfl) (Nat.le_of_ble_eq_true rfl) dX0_init_31 (fun q_7 cA_8 H hK hP hD hS => ?_)
  have hP : va_P (dC, dI) vwCl [(h0, .inr (0, [.ref q_1, .ref q_3, .ref q_5, .null, .null, .int 0])), (q_1, .inl (cA_2, 16, .inl (fun _ => 0))), (q_3, .inl (cA_4, 16, .inl (fun _ => 0))), (q_5, .inl (cA_6, 100, .inl (fun _ => 0))), (q_7, .inl (cA_8, 100, .inl (fun _ => 0)))] _ := hP
  have hD : va_D A [(h0, .inr (0, [.ref q_1, .ref q_3, .ref q_5, .null, .null, .int 0])), (q_1, .inl (cA_2, 16, .inl (fun _ => 0))), (q_3, .inl (cA_4, 16, .inl (fun _ => 0))), (q_5, .inl (cA_6, 100, .inl (fun _ => 0))), (q_7, .inl (cA_8, 100, .inl (fun _ => 0)))] := hD
  have hK : va_K (dC, dI) vwCl [(cA_2, .int), (cA_4, .int), (cA_6, .int), (cA_8, .int)] s := hK
  refine W.widen (k := 4) (n := 232) (Nat.le_of_ble_eq_true rfl) (Nat.le_of_ble_eq_true rfl) ?_
  refine va_putF (D := (dC, dI)) (ci := 0) (v := .ref q_7) (ty := .array .int) (C := RX0) (T := TX0) (N := 6) hx hb hts in_X0_init_RX0 tyX0 tyX0_ok nmX0 hown hK hP hD hS 0 rfl rfl 3 (by decide) (hts (.fieldLink RX0 21 "FourTongues$Borders" "entryWhats" "[I") (by decide +kernel)) (fun _ h9 => h9) rfl hin rfl (by decide +kernel) rfl rfl (Nat.le_of_ble_eq_true rfl) dX0_init_33 (fun H locs hP hD hS => ?_)
  have hP : va_P (dC, dI) vwCl [(h0, .inr (0, [.ref q_1, .ref q_3, .ref q_5, .ref q_7, .null, .int 0])), (q_1, .inl (cA_2, 16, .inl (fun _ => 0))), (q_3, .inl (cA_4, 16, .inl (fun _ => 0))), (q_5, .inl (cA_6, 100, .inl (fun _ => 0))), (q_7, .inl (cA_8, 100, .inl (fun _ => 0)))] _ := hP
  have hD : va_D A [(h0, .inr (0, [.ref q_1, .ref q_3, .ref q_5, .ref q_7, .null, .int 0])), (q_1, .inl (cA_2, 16, .inl (fun _ => 0))), (q_3, .inl (cA_4, 16, .inl (fun _ => 0))), (q_5, .inl (cA_6, 100, .inl (fun _ => 0))), (q_7, .inl (cA_8, 100, .inl (fun _ => 0)))] := hD
  refine lv_aload_n hx hb dX0_init_36 rfl (lv_at hl 0 rfl) ?_
  refine lv_bipush (v := 100) hx hb dX0_init_37 (by decide) ?_
  refine va_newa (atype := .int) (ty := .int) (a0 := (100, .inl (fun _ => 0))) (N' := 100) hx hb (hts (.arrayClass .int) (by decide +kernel)) rfl hK hP hD hS hA (cz_int 100) (by decide +kernel) (by decide +kernel) (by decide +kernel) (Nat.le_of_ble_eq_true rfl) (Nat.le_of_ble_eq_true rfl) dX0_init_39 (fun q_9 cA_10 H hK hP hD hS => ?_)
  have hP : va_P (dC, dI) vwCl [(h0, .inr (0, [.ref q_1, .ref q_3, .ref q_5, .ref q_7, .null, .int 0])), (q_1, .inl (cA_2, 16, .inl (fun _ => 0))), (q_3, .inl (cA_4, 16, .inl (fun _ => 0))), (q_5, .inl (cA_6, 100, .inl (fun _ => 0))), (q_7, .inl (cA_8, 100, .inl (fun _ => 0))), (q_9, .inl (cA_10, 100, .inl (fun _ => 0)))] _ := hP
  have hD : va_D A [(h0, .inr (0, [.ref q_1, .ref q_3, .ref q_5, .ref q_7, .null, .int 0])), (q_1, .inl (cA_2, 16, .inl (fun _ => 0))), (q_3, .inl (cA_4, 16, .inl (fun _ => 0))), (q_5, .inl (cA_6, 100, .inl (fun _ => 0))), (q_7, .inl (cA_8, 100, .inl (fun _ => 0))), (q_9, .inl (cA_10, 100, .inl (fun _ => 0)))] := hD
  have hK : va_K (dC, dI) vwCl [(cA_2, .int), (cA_4, .int), (cA_6, .int), (cA_8, .int), (cA_10, .int)] s := hK
  refine W.widen (k := 5) (n := 332) (Nat.le_of_ble_eq_true rfl) (Nat.le_of_ble_eq_true rfl) ?_
  refine va_putF (D := (dC, dI)) (ci := 0) (v := .ref q_9) (ty := .array .int) (C := RX0) (T := TX0) (N := 6) hx hb hts in_X0_init_RX0 tyX0 tyX0_ok nmX0 hown hK hP hD hS 0 rfl rfl 4 (by decide) (hts (.fieldLink RX0 24 "FourTongues$Borders" "entryAs" "[I") (by decide +kernel)) (fun _ h9 => h9) rfl hin rfl (by decide +kernel) rfl rfl (Nat.le_of_ble_eq_true rfl) dX0_init_41 (fun H locs hP hD hS => ?_)
  have hP : va_P (dC, dI) vwCl [(h0, .inr (0, [.ref q_1, .ref q_3, .ref q_5, .ref q_7, .ref q_9, .int 0])), (q_1, .inl (cA_2, 16, .inl (fun _ => 0))), (q_3, .inl (cA_4, 16, .inl (fun _ => 0))), (q_5, .inl (cA_6, 100, .inl (fun _ => 0))), (q_7, .inl (cA_8, 100, .inl (fun _ => 0))), (q_9, .inl (cA_10, 100, .inl (fun _ => 0)))] _ := hP
  have hD : va_D A [(h0, .inr (0, [.ref q_1, .ref q_3, .ref q_5, .ref q_7, .ref q_9, .int 0])), (q_1, .inl (cA_2, 16, .inl (fun _ => 0))), (q_3, .inl (cA_4, 16, .inl (fun _ => 0))), (q_5, .inl (cA_6, 100, .inl (fun _ => 0))), (q_7, .inl (cA_8, 100, .inl (fun _ => 0))), (q_9, .inl (cA_10, 100, .inl (fun _ => 0)))] := hD
  refine lv_aload_n hx hb dX0_init_44 rfl (lv_at hl 0 rfl) ?_
  refine lv_iconst (v := 0) hx hb dX0_init_45 (by decide) ?_
  refine va_put (D := (dC, dI)) (ci := 0) (v := .int 0) (ty := .int) (C := RX0) (T := TX0) (N := 6) hx hb hts in_X0_init_RX0 tyX0 tyX0_ok nmX0 hown hK hP hD hS 0 rfl rfl 5 (by decide) (hts (.fieldLink RX0 27 "FourTongues$Borders" "entries" "I") (by decide +kernel)) (fun _ h9 => h9) rfl (by decide +kernel) rfl rfl (Nat.le_of_ble_eq_true rfl) dX0_init_46 (fun H locs hP hD hS => ?_)
  have hP : va_P (dC, dI) vwCl [(h0, .inr (0, [.ref q_1, .ref q_3, .ref q_5, .ref q_7, .ref q_9, .int 0])), (q_1, .inl (cA_2, 16, .inl (fun _ => 0))), (q_3, .inl (cA_4, 16, .inl (fun _ => 0))), (q_5, .inl (cA_6, 100, .inl (fun _ => 0))), (q_7, .inl (cA_8, 100, .inl (fun _ => 0))), (q_9, .inl (cA_10, 100, .inl (fun _ => 0)))] _ := hP
  have hD : va_D A [(h0, .inr (0, [.ref q_1, .ref q_3, .ref q_5, .ref q_7, .ref q_9, .int 0])), (q_1, .inl (cA_2, 16, .inl (fun _ => 0))), (q_3, .inl (cA_4, 16, .inl (fun _ => 0))), (q_5, .inl (cA_6, 100, .inl (fun _ => 0))), (q_7, .inl (cA_8, 100, .inl (fun _ => 0))), (q_9, .inl (cA_10, 100, .inl (fun _ => 0)))] := hD
  refine lv_aload_n hx hb dX0_init_49 rfl (lv_at hl 0 rfl) ?_
  refine va_get (D := (dC, dI)) (ci := 0) (v := .ref q_3) (C := RX0) (T := TX0) (N := 6) hx hb hts in_X0_init_RX0 hown hK hP 0 rfl rfl 1 (by decide) (hts (.fieldLink RX0 15 "FourTongues$Borders" "defaults" "[I") (by decide +kernel)) (fun _ h9 => h9) rfl dX0_init_50 ?_
  refine lv_bipush (v := 9) hx hb dX0_init_53 (by decide) ?_
  have hPc := hP.sub (ws' := [(q_3, .inl (cA_4, 16, .inl (fun _ => 0)))]) [2] rfl
  have hDc := hD.sub (ws' := [(q_3, .inl (cA_4, 16, .inl (fun _ => 0)))]) [2] (by decide) rfl
  have hKc := hK.sub (tys' := [(cA_4, .int)]) [1] rfl
  have hFc := va_free (wc := [(q_3, .inl (cA_4, 16, .inl (fun _ => 0)))]) hD hS hA [2] rfl
  refine va_callv (va_runS (As := [.ref q_3, .int 9]) (rest := []) ⟨hx, hb, hml, hown, hts⟩ (c_J7_fill_53178 l dC dI H.size q_3 cA_4 16 (fun _ => 0) 9 (by decide)) (va_cwS 2 hts gX0_init_J7_fill_53178 rfl rfl rfl (by decide +kernel) ⟨Nat.le_of_ble_eq_true rfl, Nat.le_of_ble_eq_true rfl⟩) ⟨fb_M, fun U hU hW => ⟨rfl, xM.at hPc hKc hDc hU hW⟩⟩ rfl rfl hl.1 rfl (lv_room (Nat.le_of_ble_eq_true rfl)) dX0_init_55 ⟨Nat.le_of_ble_eq_true rfl, Nat.le_of_ble_eq_true rfl⟩) hS (fun q _ h => hFc q h) hFc (fun u t H locs ht hvm hw hB hz1 hk1 hS => ?_)
  obtain ⟨f_11, hf_12, hB⟩ := hB
  obtain ⟨hP, hD, hK⟩ := xB.join (wr := [(h0, .inr (0, [.ref q_1, .ref q_3, .ref q_5, .ref q_7, .ref q_9, .int 0])), (q_1, .inl (cA_2, 16, .inl (fun _ => 0))), (q_5, .inl (cA_6, 100, .inl (fun _ => 0))), (q_7, .inl (cA_8, 100, .inl (fun _ => 0))), (q_9, .inl (cA_10, 100, .inl (fun _ => 0)))]) (w1 := [(q_3, .inl (cA_4, 16, .inl f_11))]) hP hD hK [2] [0, 1, 3, 4, 5] rfl rfl (by decide) (by decide) hk1 hFc hB ht hvm
  have hP : va_P (dC, dI) vwCl [(h0, .inr (0, [.ref q_1, .ref q_3, .ref q_5, .ref q_7, .ref q_9, .int 0])), (q_1, .inl (cA_2, 16, .inl (fun _ => 0))), (q_5, .inl (cA_6, 100, .inl (fun _ => 0))), (q_7, .inl (cA_8, 100, .inl (fun _ => 0))), (q_9, .inl (cA_10, 100, .inl (fun _ => 0))), (q_3, .inl (cA_4, 16, .inl f_11))] _ := hP
  have hD : va_D A [(h0, .inr (0, [.ref q_1, .ref q_3, .ref q_5, .ref q_7, .ref q_9, .int 0])), (q_1, .inl (cA_2, 16, .inl (fun _ => 0))), (q_5, .inl (cA_6, 100, .inl (fun _ => 0))), (q_7, .inl (cA_8, 100, .inl (fun _ => 0))), (q_9, .inl (cA_10, 100, .inl (fun _ => 0))), (q_3, .inl (cA_4, 16, .inl f_11))] := hD
  have hK : va_K (dC, dI) vwCl [(cA_2, .int), (cA_4, .int), (cA_6, .int), (cA_8, .int), (cA_10, .int), (cA_4, .int)] s := hK
  have hP9 := hP.sub (ws' := [(h0, .inr (0, [.ref q_1, .ref q_3, .ref q_5, .ref q_7, .ref q_9, .int 0])), (q_1, .inl (cA_2, 16, .inl (fun _ => 0))), (q_5, .inl (cA_6, 100, .inl (fun _ => 0))), (q_7, .inl (cA_8, 100, .inl (fun _ => 0))), (q_9, .inl (cA_10, 100, .inl (fun _ => 0))), (q_3, .inl (cA_4, 16, .inl f_11))]) [0, 1, 2, 3, 4, 5] rfl
  have hD9 := hD.sub (ws' := [(h0, .inr (0, [.ref q_1, .ref q_3, .ref q_5, .ref q_7, .ref q_9, .int 0])), (q_1, .inl (cA_2, 16, .inl (fun _ => 0))), (q_5, .inl (cA_6, 100, .inl (fun _ => 0))), (q_7, .inl (cA_8, 100, .inl (fun _ => 0))), (q_9, .inl (cA_10, 100, .inl (fun _ => 0))), (q_3, .inl (cA_4, 16, .inl f_11))]) [0, 1, 2, 3, 4, 5] (by decide) rfl
  have hK9 := hK.sub (tys' := [(cA_2, .int), (cA_4, .int), (cA_6, .int), (cA_8, .int), (cA_10, .int), (cA_4, .int)]) [0, 1, 2, 3, 4, 1] rfl
  exact W.vret hx hb hr (fun t ht hW => ⟨⟨(), rfl, trivial, ⟨q_1, cA_2, q_3, cA_4, q_5, cA_6, q_7, cA_8, q_9, cA_10, f_11, by rw [ht]; exact hP9, va_K.moved hW.alike hK9, hD9⟩⟩, hS.F ht⟩) hS.2.2 dX0_init_58

set_option maxHeartbeats 4000000 in
set_option maxRecDepth 100000 in
theorem c_X8_init (l : Launch) (dC : Nat → ClassId) (dI : Nat → Nat → Nat) (sz : Nat) (h0 : Nat) : Met l yX8_init wsX8_init ({ frames := 2, cells := 9, slots := 1284, locals := 46 }) (va_Pc [.ref h0] (fun U => xM (dC, dI) sz [(h0, .inr (7, [.null, .int 0, .null, .null, .null, .null, .null, .int 0]))] [] U)) (va_Qv (fun _ : Unit => True) (fun (_ : Unit) t => ∃ (q_1 : Nat), ∃ (q_3 : Nat), ∃ (q_4 : Nat), ∃ (cA_5 : ClassId), ∃ (q_6 : Nat), ∃ (q_7 : Nat), ∃ (q_8 : Nat), ∃ (q_10 : Nat), ∃ (q_12 : Nat), ∃ (q_14 : Nat), xB (dC, dI) [(h0, .inr (7, [.ref q_1, .int 0, .ref q_3, .ref q_8, .ref q_10, .ref q_12, .ref q_14, .int 0])), (q_3, .inr (8, [.ref q_4, .ref q_6, .ref q_7, .int 0])), (q_4, .inl (cA_5, 32, .inl (fun _ => 0)))] [(cA_5, .int)] (va_A [(h0, .inr (7, [.null, .int 0, .null, .null, .null, .null, .null, .int 0]))] sz) t) (va_A [(h0, .inr (7, [.null, .int 0, .null, .null, .null, .null, .null, .int 0]))] sz)) 9 1284 (va_A [(h0, .inr (7, [.null, .int 0, .null, .null, .null, .null, .null, .int 0]))] sz) := by
  refine Met.ofW (cc := cX8_init) (maxL := 1) (ret := none) (by decide) rfl ?_
  intro p e s m args below meth c s₁ B hml hv
  obtain ⟨rfl, hsz, hP, hK, hD0⟩ := hv
  have hx := B.exec
  have hb := B.bytes
  have hr := B.returns
  have hts := atoms_spec (ws := wsX8_init) B.pre
  have hown : s.vm.findClass RX8 = some m.cls := findClass_of_methodNamed B.named
  have hlocks := B.notSynchronized
  have hin : meth.name = "<init>" := (name_of_methodNamed B.named B.method).1
  subst hsz
  have hD := hD0.self (sz := s.heap.size)
  generalize hAe : va_A [(h0, .inr (7, [.null, .int 0, .null, .null, .null, .null, .null, .int 0]))] s.heap.size = A at hD ⊢
  have hA : ∀ q : Nat, s.heap.size ≤ q → A q := fun q h => by rw [← hAe]; exact Or.inr h
  have hS : va_S A s.heap s.heap [] := va_S.rf
  have hl := lv_entry ([.ref h0]) (n := 1) (Nat.le_of_ble_eq_true rfl)
  rw [lg_entry_eq]
  generalize (lg_sl ([.ref h0]) ++ List.replicate (1 - (lg_sl ([.ref h0])).length) Slot.unset).toArray = ls at hl ⊢
  have hl : lv_has ls 1 [(0, .ref h0)] := hl
  refine lv_aload_n hx hb dX8_init_0 rfl (lv_at hl 0 rfl) ?_
  refine W.objInit hx hb hown (hts (.methodLink RX8 1 objectInit) (by decide +kernel)) (hts (.instanceMethod objectInit) (by decide +kernel)) (hts (.code objectInit ⟨#[0xb1]⟩ 1 none) (by decide +kernel)) rfl (by rw [hml]; exact hl.1) rfl dX8_init_1 (Nat.le_of_ble_eq_true rfl) (Nat.le_of_ble_eq_true rfl) ?_
  refine W.eq (g2 := F0 m 4 ls []) rfl ?_
  refine lv_aload_n hx hb dX8_init_4 rfl (lv_at hl 0 rfl) ?_
  refine lv_sipush (v := 1024) hx hb dX8_init_5 (by decide) ?_
  refine va_newa (atype := .int) (ty := .int) (a0 := (1024, .inl (fun _ => 0))) (N' := 1024) hx hb (hts (.arrayClass .int) (by decide +kernel)) rfl hK hP hD hS hA (cz_int 1024) (by decide +kernel) (by decide +kernel) (by decide +kernel) (Nat.le_of_ble_eq_true rfl) (Nat.le_of_ble_eq_true rfl) dX8_init_8 (fun q_1 cA_2 H hK hP hD hS => ?_)
  have hP : va_P (dC, dI) vwCl [(h0, .inr (7, [.null, .int 0, .null, .null, .null, .null, .null, .int 0])), (q_1, .inl (cA_2, 1024, .inl (fun _ => 0)))] _ := hP
  have hD : va_D A [(h0, .inr (7, [.null, .int 0, .null, .null, .null, .null, .null, .int 0])), (q_1, .inl (cA_2, 1024, .inl (fun _ => 0)))] := hD
  have hK : va_K (dC, dI) vwCl [(cA_2, .int)] s := hK
  refine W.widen (k := 1) (n := 1024) (Nat.le_of_ble_eq_true rfl) (Nat.le_of_ble_eq_true rfl) ?_
  refine va_put (D := (dC, dI)) (ci := 7) (v := .ref q_1) (ty := .array .int) (C := RX8) (T := TX8) (N := 8) hx hb hts in_X8_init_RX8 tyX8 tyX8_ok nmX8 hown hK hP hD hS 0 rfl rfl 0 (by decide) (hts (.fieldLink RX8 7 "FourTongues$Program" "code" "[I") (by decide +kernel)) (fun _ h9 => h9) rfl (by decide +kernel) rfl rfl (Nat.le_of_ble_eq_true rfl) dX8_init_10 (fun H locs hP hD hS => ?_)
  have hP : va_P (dC, dI) vwCl [(h0, .inr (7, [.ref q_1, .int 0, .null, .null, .null, .null, .null, .int 0])), (q_1, .inl (cA_2, 1024, .inl (fun _ => 0)))] _ := hP
  have hD : va_D A [(h0, .inr (7, [.ref q_1, .int 0, .null, .null, .null, .null, .null, .int 0])), (q_1, .inl (cA_2, 1024, .inl (fun _ => 0)))] := hD
  have hP := hP.sub (ws' := [(h0, .inr (7, [.ref q_1, .int 0, .null, .null, .null, .null, .null, .int 0]))]) [0] rfl
  have hD := hD.sub (ws' := [(h0, .inr (7, [.ref q_1, .int 0, .null, .null, .null, .null, .null, .int 0]))]) [0] (by decide) rfl
  refine lv_aload_n hx hb dX8_init_13 rfl (lv_at hl 0 rfl) ?_
  refine lv_iconst (v := 0) hx hb dX8_init_14 (by decide) ?_
  refine va_put (D := (dC, dI)) (ci := 7) (v := .int 0) (ty := .int) (C := RX8) (T := TX8) (N := 8) hx hb hts in_X8_init_RX8 tyX8 tyX8_ok nmX8 hown hK hP hD hS 0 rfl rfl 1 (by decide) (hts (.fieldLink RX8 13 "FourTongues$Program" "length" "I") (by decide +kernel)) (fun _ h9 => h9) rfl (by decide +kernel) rfl rfl (Nat.le_of_ble_eq_true rfl) dX8_init_15 (fun H locs hP hD hS => ?_)
  have hP : va_P (dC, dI) vwCl [(h0, .inr (7, [.ref q_1, .int 0, .null, .null, .null, .null, .null, .int 0]))] _ := hP
  have hD : va_D A [(h0, .inr (7, [.ref q_1, .int 0, .null, .null, .null, .null, .null, .int 0]))] := hD
  refine lv_aload_n hx hb dX8_init_18 rfl (lv_at hl 0 rfl) ?_
  refine va_new (ci := 8) (fs := [.null, .null, .null, .int 0]) (C := RX9) (T := TX9) (N := 4) hx hb hts in_X8_init_RX9 tyX9 tyX9_ok hown (hts (.classLink RX8 17 RX9) (by decide +kernel)) (hts (.instantiable RX9 4) (by decide +kernel)) (hts (.initialized RX9) (by decide +kernel)) hK hP hD hS hA rfl df_X9 (Nat.le_of_ble_eq_true rfl) (Nat.le_of_ble_eq_true rfl) dX8_init_19 (fun q_3 H hP hD hS => ?_)
  have hP : va_P (dC, dI) vwCl [(h0, .inr (7, [.ref q_1, .int 0, .null, .null, .null, .null, .null, .int 0])), (q_3, .inr (8, [.null, .null, .null, .int 0]))] _ := hP
  have hD : va_D A [(h0, .inr (7, [.ref q_1, .int 0, .null, .null, .null, .null, .null, .int 0])), (q_3, .inr (8, [.null, .null, .null, .int 0]))] := hD
  refine W.widen (k := 2) (n := 1028) (Nat.le_of_ble_eq_true rfl) (Nat.le_of_ble_eq_true rfl) ?_
  refine lv_dup hx hb dX8_init_22 rfl ?_
  refine lv_bipush (v := 32) hx hb dX8_init_23 (by decide) ?_
  have hPc := hP.sub (ws' := [(q_3, .inr (8, [.null, .null, .null, .int 0]))]) [1] rfl
  have hDc := hD.sub (ws' := [(q_3, .inr (8, [.null, .null, .null, .int 0]))]) [1] (by decide) rfl
  have hKc := hK.sub (tys' := []) [] rfl
  have hFc := va_free (wc := [(q_3, .inr (8, [.null, .null, .null, .int 0]))]) hD hS hA [1] rfl
  refine va_callv (va_runI (As := [.int 32]) (rest := [.ref q_3, .ref h0]) ⟨hx, hb, hml, hown, hts⟩ (c_X9_init_32 l dC dI H.size q_3 ) (cwI 1 hts gX8_init_X9_init rfl rfl rfl (hts (.initialized RX9) (by decide +kernel)) (hts (.methodLink RX8 19 yX9_init) (by decide +kernel)) (hts (.instanceMethod yX9_init) (by decide +kernel)) rfl (by decide +kernel) ⟨Nat.le_of_ble_eq_true rfl, Nat.le_of_ble_eq_true rfl⟩) ⟨fb_M, fun U hU hW => ⟨rfl, xM.at hPc hKc hDc hU hW⟩⟩ rfl rfl hl.1 rfl (lv_room (Nat.le_of_ble_eq_true rfl)) dX8_init_25 ⟨Nat.le_of_ble_eq_true rfl, Nat.le_of_ble_eq_true rfl⟩) hS (fun q _ h => hFc q h) hFc (fun u t H locs ht hvm hw hB hz1 hk1 hS => ?_)
  obtain ⟨q_4, cA_5, q_6, q_7, hB⟩ := hB
  obtain ⟨hP, hD, hK⟩ := xB.join (wr := [(h0, .inr (7, [.ref q_1, .int 0, .null, .null, .null, .null, .null, .int 0]))]) (w1 := [(q_3, .inr (8, [.ref q_4, .ref q_6, .ref q_7, .int 0])), (q_4, .inl (cA_5, 32, .inl (fun _ => 0)))]) hP hD hK [1] [0] rfl rfl (by decide) (by decide) hk1 hFc hB ht hvm
  have hP : va_P (dC, dI) vwCl [(h0, .inr (7, [.ref q_1, .int 0, .null, .null, .null, .null, .null, .int 0])), (q_3, .inr (8, [.ref q_4, .ref q_6, .ref q_7, .int 0])), (q_4, .inl (cA_5, 32, .inl (fun _ => 0)))] _ := hP
  have hD : va_D A [(h0, .inr (7, [.ref q_1, .int 0, .null, .null, .null, .null, .null, .int 0])), (q_3, .inr (8, [.ref q_4, .ref q_6, .ref q_7, .int 0])), (q_4, .inl (cA_5, 32, .inl (fun _ => 0)))] := hD
  have hK : va_K (dC, dI) vwCl [(cA_2, .int), (cA_5, .int)] s := hK
  refine W.widen (k := 5) (n := 1124) (Nat.le_of_ble_eq_true rfl) (Nat.le_of_ble_eq_true rfl) ?_
  refine va_putF (D := (dC, dI)) (ci := 7) (v := .ref q_3) (ty := .object "FourTongues$Row") (C := RX8) (T := TX8) (N := 8) hx hb hts in_X8_init_RX8 tyX8 tyX8_ok nmX8 hown hK hP hD hS 0 rfl rfl 2 (by decide) (hts (.fieldLink RX8 22 "FourTongues$Program" "constants" "LFourTongues$Row;") (by decide +kernel)) (fun _ h9 => h9) rfl hin rfl (by decide +kernel) rfl rfl (Nat.le_of_ble_eq_true rfl) dX8_init_28 (fun H locs hP hD hS => ?_)
  have hP : va_P (dC, dI) vwCl [(h0, .inr (7, [.ref q_1, .int 0, .ref q_3, .null, .null, .null, .null, .int 0])), (q_3, .inr (8, [.ref q_4, .ref q_6, .ref q_7, .int 0])), (q_4, .inl (cA_5, 32, .inl (fun _ => 0)))] _ := hP
  have hD : va_D A [(h0, .inr (7, [.ref q_1, .int 0, .ref q_3, .null, .null, .null, .null, .int 0])), (q_3, .inr (8, [.ref q_4, .ref q_6, .ref q_7, .int 0])), (q_4, .inl (cA_5, 32, .inl (fun _ => 0)))] := hD
  refine lv_aload_n hx hb dX8_init_31 rfl (lv_at hl 0 rfl) ?_
  refine lv_bipush (v := 40) hx hb dX8_init_32 (by decide) ?_
  refine va_newa (atype := .long) (ty := .long) (a0 := (40, .inr (.inl (fun _ => 0)))) (N' := 40) hx hb (hts (.arrayClass .long) (by decide +kernel)) rfl hK hP hD hS hA (cz_long 40) (by decide +kernel) (by decide +kernel) (by decide +kernel) (Nat.le_of_ble_eq_true rfl) (Nat.le_of_ble_eq_true rfl) dX8_init_34 (fun q_8 cA_9 H hK hP hD hS => ?_)
  have hP : va_P (dC, dI) vwCl [(h0, .inr (7, [.ref q_1, .int 0, .ref q_3, .null, .null, .null, .null, .int 0])), (q_3, .inr (8, [.ref q_4, .ref q_6, .ref q_7, .int 0])), (q_4, .inl (cA_5, 32, .inl (fun _ => 0))), (q_8, .inl (cA_9, 40, .inr (.inl (fun _ => 0))))] _ := hP
  have hD : va_D A [(h0, .inr (7, [.ref q_1, .int 0, .ref q_3, .null, .null, .null, .null, .int 0])), (q_3, .inr (8, [.ref q_4, .ref q_6, .ref q_7, .int 0])), (q_4, .inl (cA_5, 32, .inl (fun _ => 0))), (q_8, .inl (cA_9, 40, .inr (.inl (fun _ => 0))))] := hD
  have hK : va_K (dC, dI) vwCl [(cA_2, .int), (cA_5, .int), (cA_9, .long)] s := hK
  refine W.widen (k := 6) (n := 1164) (Nat.le_of_ble_eq_true rfl) (Nat.le_of_ble_eq_true rfl) ?_
  refine va_putF (D := (dC, dI)) (ci := 7) (v := .ref q_8) (ty := .array .long) (C := RX8) (T := TX8) (N := 8) hx hb hts in_X8_init_RX8 tyX8 tyX8_ok nmX8 hown hK hP hD hS 0 rfl rfl 3 (by decide) (hts (.fieldLink RX8 26 "FourTongues$Program" "names" "[J") (by decide +kernel)) (fun _ h9 => h9) rfl hin rfl (by decide +kernel) rfl rfl (Nat.le_of_ble_eq_true rfl) dX8_init_36 (fun H locs hP hD hS => ?_)
  have hP : va_P (dC, dI) vwCl [(h0, .inr (7, [.ref q_1, .int 0, .ref q_3, .ref q_8, .null, .null, .null, .int 0])), (q_3, .inr (8, [.ref q_4, .ref q_6, .ref q_7, .int 0])), (q_4, .inl (cA_5, 32, .inl (fun _ => 0))), (q_8, .inl (cA_9, 40, .inr (.inl (fun _ => 0))))] _ := hP
  have hD : va_D A [(h0, .inr (7, [.ref q_1, .int 0, .ref q_3, .ref q_8, .null, .null, .null, .int 0])), (q_3, .inr (8, [.ref q_4, .ref q_6, .ref q_7, .int 0])), (q_4, .inl (cA_5, 32, .inl (fun _ => 0))), (q_8, .inl (cA_9, 40, .inr (.inl (fun _ => 0))))] := hD
  have hP := hP.sub (ws' := [(h0, .inr (7, [.ref q_1, .int 0, .ref q_3, .ref q_8, .null, .null, .null, .int 0])), (q_3, .inr (8, [.ref q_4, .ref q_6, .ref q_7, .int 0])), (q_4, .inl (cA_5, 32, .inl (fun _ => 0)))]) [0, 1, 2] rfl
  have hD := hD.sub (ws' := [(h0, .inr (7, [.ref q_1, .int 0, .ref q_3, .ref q_8, .null, .null, .null, .int 0])), (q_3, .inr (8, [.ref q_4, .ref q_6, .ref q_7, .int 0])), (q_4, .inl (cA_5, 32, .inl (fun _ => 0)))]) [0, 1, 2] (by decide) rfl
  refine lv_aload_n hx hb dX8_init_39 rfl (lv_at hl 0 rfl) ?_
  refine lv_bipush (v := 40) hx hb dX8_init_40 (by decide) ?_
  refine va_newa (atype := .int) (ty := .int) (a0 := (40, .inl (fun _ => 0))) (N' := 40) hx hb (hts (.arrayClass .int) (by decide +kernel)) rfl hK hP hD hS hA (cz_int 40) (by decide +kernel) (by decide +kernel) (by decide +kernel) (Nat.le_of_ble_eq_true rfl) (Nat.le_of_ble_eq_true rfl) dX8_init_42 (fun q_10 cA_11 H hK hP hD hS => ?_)
  have hP : va_P (dC, dI) vwCl [(h0, .inr (7, [.ref q_1, .int 0, .ref q_3, .ref q_8, .null, .null, .null, .int 0])), (q_3, .inr (8, [.ref q_4, .ref q_6, .ref q_7, .int 0])), (q_4, .inl (cA_5, 32, .inl (fun _ => 0))), (q_10, .inl (cA_11, 40, .inl (fun _ => 0)))] _ := hP
  have hD : va_D A [(h0, .inr (7, [.ref q_1, .int 0, .ref q_3, .ref q_8, .null, .null, .null, .int 0])), (q_3, .inr (8, [.ref q_4, .ref q_6, .ref q_7, .int 0])), (q_4, .inl (cA_5, 32, .inl (fun _ => 0))), (q_10, .inl (cA_11, 40, .inl (fun _ => 0)))] := hD
  have hK : va_K (dC, dI) vwCl [(cA_2, .int), (cA_5, .int), (cA_9, .long), (cA_11, .int)] s := hK
  refine W.widen (k := 7) (n := 1204) (Nat.le_of_ble_eq_true rfl) (Nat.le_of_ble_eq_true rfl) ?_
  refine va_putF (D := (dC, dI)) (ci := 7) (v := .ref q_10) (ty := .array .int) (C := RX8) (T := TX8) (N := 8) hx hb hts in_X8_init_RX8 tyX8 tyX8_ok nmX8 hown hK hP hD hS 0 rfl rfl 4 (by decide) (hts (.fieldLink RX8 30 "FourTongues$Program" "starts" "[I") (by decide +kernel)) (fun _ h9 => h9) rfl hin rfl (by decide +kernel) rfl rfl (Nat.le_of_ble_eq_true rfl) dX8_init_44 (fun H locs hP hD hS => ?_)
  have hP : va_P (dC, dI) vwCl [(h0, .inr (7, [.ref q_1, .int 0, .ref q_3, .ref q_8, .ref q_10, .null, .null, .int 0])), (q_3, .inr (8, [.ref q_4, .ref q_6, .ref q_7, .int 0])), (q_4, .inl (cA_5, 32, .inl (fun _ => 0))), (q_10, .inl (cA_11, 40, .inl (fun _ => 0)))] _ := hP
  have hD : va_D A [(h0, .inr (7, [.ref q_1, .int 0, .ref q_3, .ref q_8, .ref q_10, .null, .null, .int 0])), (q_3, .inr (8, [.ref q_4, .ref q_6, .ref q_7, .int 0])), (q_4, .inl (cA_5, 32, .inl (fun _ => 0))), (q_10, .inl (cA_11, 40, .inl (fun _ => 0)))] := hD
  have hP := hP.sub (ws' := [(h0, .inr (7, [.ref q_1, .int 0, .ref q_3, .ref q_8, .ref q_10, .null, .null, .int 0])), (q_3, .inr (8, [.ref q_4, .ref q_6, .ref q_7, .int 0])), (q_4, .inl (cA_5, 32, .inl (fun _ => 0)))]) [0, 1, 2] rfl
  have hD := hD.sub (ws' := [(h0, .inr (7, [.ref q_1, .int 0, .ref q_3, .ref q_8, .ref q_10, .null, .null, .int 0])), (q_3, .inr (8, [.ref q_4, .ref q_6, .ref q_7, .int 0])), (q_4, .inl (cA_5, 32, .inl (fun _ => 0)))]) [0, 1, 2] (by decide) rfl
  refine lv_aload_n hx hb dX8_init_47 rfl (lv_at hl 0 rfl) ?_
  refine lv_bipush (v := 40) hx hb dX8_init_48 (by decide) ?_
  refine va_newa (atype := .int) (ty := .int) (a0 := (40, .inl (fun _ => 0))) (N' := 40) hx hb (hts (.arrayClass .int) (by decide +kernel)) rfl hK hP hD hS hA (cz_int 40) (by decide +kernel) (by decide +kernel) (by decide +kernel) (Nat.le_of_ble_eq_true rfl) (Nat.le_of_ble_eq_true rfl) dX8_init_50 (fun q_12 cA_13 H hK hP hD hS => ?_)
  have hP : va_P (dC, dI) vwCl [(h0, .inr (7, [.ref q_1, .int 0, .ref q_3, .ref q_8, .ref q_10, .null, .null, .int 0])), (q_3, .inr (8, [.ref q_4, .ref q_6, .ref q_7, .int 0])), (q_4, .inl (cA_5, 32, .inl (fun _ => 0))), (q_12, .inl (cA_13, 40, .inl (fun _ => 0)))] _ := hP
  have hD : va_D A [(h0, .inr (7, [.ref q_1, .int 0, .ref q_3, .ref q_8, .ref q_10, .null, .null, .int 0])), (q_3, .inr (8, [.ref q_4, .ref q_6, .ref q_7, .int 0])), (q_4, .inl (cA_5, 32, .inl (fun _ => 0))), (q_12, .inl (cA_13, 40, .inl (fun _ => 0)))] := hD
  have hK : va_K (dC, dI) vwCl [(cA_2, .int), (cA_5, .int), (cA_9, .long), (cA_11, .int), (cA_13, .int)] s := hK
  refine W.widen (k := 8) (n := 1244) (Nat.le_of_ble_eq_true rfl) (Nat.le_of_ble_eq_true rfl) ?_
  refine va_putF (D := (dC, dI)) (ci := 7) (v := .ref q_12) (ty := .array .int) (C := RX8) (T := TX8) (N := 8) hx hb hts in_X8_init_RX8 tyX8 tyX8_ok nmX8 hown hK hP hD hS 0 rfl rfl 5 (by decide) (hts (.fieldLink RX8 33 "FourTongues$Program" "parameters" "[I") (by decide +kernel)) (fun _ h9 => h9) rfl hin rfl (by decide +kernel) rfl rfl (Nat.le_of_ble_eq_true rfl) dX8_init_52 (fun H locs hP hD hS => ?_)
  have hP : va_P (dC, dI) vwCl [(h0, .inr (7, [.ref q_1, .int 0, .ref q_3, .ref q_8, .ref q_10, .ref q_12, .null, .int 0])), (q_3, .inr (8, [.ref q_4, .ref q_6, .ref q_7, .int 0])), (q_4, .inl (cA_5, 32, .inl (fun _ => 0))), (q_12, .inl (cA_13, 40, .inl (fun _ => 0)))] _ := hP
  have hD : va_D A [(h0, .inr (7, [.ref q_1, .int 0, .ref q_3, .ref q_8, .ref q_10, .ref q_12, .null, .int 0])), (q_3, .inr (8, [.ref q_4, .ref q_6, .ref q_7, .int 0])), (q_4, .inl (cA_5, 32, .inl (fun _ => 0))), (q_12, .inl (cA_13, 40, .inl (fun _ => 0)))] := hD
  have hP := hP.sub (ws' := [(h0, .inr (7, [.ref q_1, .int 0, .ref q_3, .ref q_8, .ref q_10, .ref q_12, .null, .int 0])), (q_3, .inr (8, [.ref q_4, .ref q_6, .ref q_7, .int 0])), (q_4, .inl (cA_5, 32, .inl (fun _ => 0)))]) [0, 1, 2] rfl
  have hD := hD.sub (ws' := [(h0, .inr (7, [.ref q_1, .int 0, .ref q_3, .ref q_8, .ref q_10, .ref q_12, .null, .int 0])), (q_3, .inr (8, [.ref q_4, .ref q_6, .ref q_7, .int 0])), (q_4, .inl (cA_5, 32, .inl (fun _ => 0)))]) [0, 1, 2] (by decide) rfl
  refine lv_aload_n hx hb dX8_init_55 rfl (lv_at hl 0 rfl) ?_
  refine lv_bipush (v := 40) hx hb dX8_init_56 (by decide) ?_
  refine va_newa (atype := .int) (ty := .int) (a0 := (40, .inl (fun _ => 0))) (N' := 40) hx hb (hts (.arrayClass .int) (by decide +kernel)) rfl hK hP hD hS hA (cz_int 40) (by decide +kernel) (by decide +kernel) (by decide +kernel) (Nat.le_of_ble_eq_true rfl) (Nat.le_of_ble_eq_true rfl) dX8_init_58 (fun q_14 cA_15 H hK hP hD hS => ?_)
  have hP : va_P (dC, dI) vwCl [(h0, .inr (7, [.ref q_1, .int 0, .ref q_3, .ref q_8, .ref q_10, .ref q_12, .null, .int 0])), (q_3, .inr (8, [.ref q_4, .ref q_6, .ref q_7, .int 0])), (q_4, .inl (cA_5, 32, .inl (fun _ => 0))), (q_14, .inl (cA_15, 40, .inl (fun _ => 0)))] _ := hP
  have hD : va_D A [(h0, .inr (7, [.ref q_1, .int 0, .ref q_3, .ref q_8, .ref q_10, .ref q_12, .null, .int 0])), (q_3, .inr (8, [.ref q_4, .ref q_6, .ref q_7, .int 0])), (q_4, .inl (cA_5, 32, .inl (fun _ => 0))), (q_14, .inl (cA_15, 40, .inl (fun _ => 0)))] := hD
  have hK : va_K (dC, dI) vwCl [(cA_2, .int), (cA_5, .int), (cA_9, .long), (cA_11, .int), (cA_13, .int), (cA_15, .int)] s := hK
  refine W.widen (k := 9) (n := 1284) (Nat.le_of_ble_eq_true rfl) (Nat.le_of_ble_eq_true rfl) ?_
  refine va_putF (D := (dC, dI)) (ci := 7) (v := .ref q_14) (ty := .array .int) (C := RX8) (T := TX8) (N := 8) hx hb hts in_X8_init_RX8 tyX8 tyX8_ok nmX8 hown hK hP hD hS 0 rfl rfl 6 (by decide) (hts (.fieldLink RX8 36 "FourTongues$Program" "variables" "[I") (by decide +kernel)) (fun _ h9 => h9) rfl hin rfl (by decide +kernel) rfl rfl (Nat.le_of_ble_eq_true rfl) dX8_init_60 (fun H locs hP hD hS => ?_)
  have hP : va_P (dC, dI) vwCl [(h0, .inr (7, [.ref q_1, .int 0, .ref q_3, .ref q_8, .ref q_10, .ref q_12, .ref q_14, .int 0])), (q_3, .inr (8, [.ref q_4, .ref q_6, .ref q_7, .int 0])), (q_4, .inl (cA_5, 32, .inl (fun _ => 0))), (q_14, .inl (cA_15, 40, .inl (fun _ => 0)))] _ := hP
  have hD : va_D A [(h0, .inr (7, [.ref q_1, .int 0, .ref q_3, .ref q_8, .ref q_10, .ref q_12, .ref q_14, .int 0])), (q_3, .inr (8, [.ref q_4, .ref q_6, .ref q_7, .int 0])), (q_4, .inl (cA_5, 32, .inl (fun _ => 0))), (q_14, .inl (cA_15, 40, .inl (fun _ => 0)))] := hD
  have hP := hP.sub (ws' := [(h0, .inr (7, [.ref q_1, .int 0, .ref q_3, .ref q_8, .ref q_10, .ref q_12, .ref q_14, .int 0])), (q_3, .inr (8, [.ref q_4, .ref q_6, .ref q_7, .int 0])), (q_4, .inl (cA_5, 32, .inl (fun _ => 0)))]) [0, 1, 2] rfl
  have hD := hD.sub (ws' := [(h0, .inr (7, [.ref q_1, .int 0, .ref q_3, .ref q_8, .ref q_10, .ref q_12, .ref q_14, .int 0])), (q_3, .inr (8, [.ref q_4, .ref q_6, .ref q_7, .int 0])), (q_4, .inl (cA_5, 32, .inl (fun _ => 0)))]) [0, 1, 2] (by decide) rfl
  refine lv_aload_n hx hb dX8_init_63 rfl (lv_at hl 0 rfl) ?_
  refine lv_iconst (v := 0) hx hb dX8_init_64 (by decide) ?_
  refine va_put (D := (dC, dI)) (ci := 7) (v := .int 0) (ty := .int) (C := RX8) (T := TX8) (N := 8) hx hb hts in_X8_init_RX8 tyX8 tyX8_ok nmX8 hown hK hP hD hS 0 rfl rfl 7 (by decide) (hts (.fieldLink RX8 39 "FourTongues$Program" "functions" "I") (by decide +kernel)) (fun _ h9 => h9) rfl (by decide +kernel) rfl rfl (Nat.le_of_ble_eq_true rfl) dX8_init_65 (fun H locs hP hD hS => ?_)
  have hP : va_P (dC, dI) vwCl [(h0, .inr (7, [.ref q_1, .int 0, .ref q_3, .ref q_8, .ref q_10, .ref q_12, .ref q_14, .int 0])), (q_3, .inr (8, [.ref q_4, .ref q_6, .ref q_7, .int 0])), (q_4, .inl (cA_5, 32, .inl (fun _ => 0)))] _ := hP
  have hD : va_D A [(h0, .inr (7, [.ref q_1, .int 0, .ref q_3, .ref q_8, .ref q_10, .ref q_12, .ref q_14, .int 0])), (q_3, .inr (8, [.ref q_4, .ref q_6, .ref q_7, .int 0])), (q_4, .inl (cA_5, 32, .inl (fun _ => 0)))] := hD
  have hP9 := hP.sub (ws' := [(h0, .inr (7, [.ref q_1, .int 0, .ref q_3, .ref q_8, .ref q_10, .ref q_12, .ref q_14, .int 0])), (q_3, .inr (8, [.ref q_4, .ref q_6, .ref q_7, .int 0])), (q_4, .inl (cA_5, 32, .inl (fun _ => 0)))]) [0, 1, 2] rfl
  have hD9 := hD.sub (ws' := [(h0, .inr (7, [.ref q_1, .int 0, .ref q_3, .ref q_8, .ref q_10, .ref q_12, .ref q_14, .int 0])), (q_3, .inr (8, [.ref q_4, .ref q_6, .ref q_7, .int 0])), (q_4, .inl (cA_5, 32, .inl (fun _ => 0)))]) [0, 1, 2] (by decide) rfl
  have hK9 := hK.sub (tys' := [(cA_5, .int)]) [1] rfl
  exact W.vret hx hb hr (fun t ht hW => ⟨⟨(), rfl, trivial, ⟨q_1, q_3, q_4, cA_5, q_6, q_7, q_8, q_10, q_12, q_14, by rw [ht]; exact hP9, va_K.moved hW.alike hK9, hD9⟩⟩, hS.F ht⟩) hS.2.2 dX8_init_68

set_option maxHeartbeats 4000000 in
set_option maxRecDepth 100000 in
theorem c_X1_init (l : Launch) (dC : Nat → ClassId) (dI : Nat → Nat → Nat) (sz : Nat) (h0 : Nat) : Met l yX1_init wsX1_init ({ frames := 2, cells := 6, slots := 452, locals := 46 }) (va_Pc [.ref h0] (fun U => xM (dC, dI) sz [(h0, .inr (1, [.null, .int 0, .null, .null, .int 0]))] [] U)) (va_Qv (fun _ : Unit => True) (fun (_ : Unit) t => ∃ (q_1 : Nat), ∃ (q_3 : Nat), ∃ (q_8 : Nat), xB (dC, dI) [(h0, .inr (1, [.ref q_1, .int 0, .ref q_3, .ref q_8, .int 0]))] [] (va_A [(h0, .inr (1, [.null, .int 0, .null, .null, .int 0]))] sz) t) (va_A [(h0, .inr (1, [.null, .int 0, .null, .null, .int 0]))] sz)) 6 452 (va_A [(h0, .inr (1, [.null, .int 0, .null, .null, .int 0]))] sz) := by
  refine Met.ofW (cc := cX1_init) (maxL := 1) (ret := none) (by decide) rfl ?_
  intro p e s m args below meth c s₁ B hml hv
  obtain ⟨rfl, hsz, hP, hK, hD0⟩ := hv
  have hx := B.exec
  have hb := B.bytes
  have hr := B.returns
  have hts := atoms_spec (ws := wsX1_init) B.pre
  have hown : s.vm.findClass RX1 = some m.cls := findClass_of_methodNamed B.named
  have hlocks := B.notSynchronized
  have hin : meth.name = "<init>" := (name_of_methodNamed B.named B.method).1
  subst hsz
  have hD := hD0.self (sz := s.heap.size)
  generalize hAe : va_A [(h0, .inr (1, [.null, .int 0, .null, .null, .int 0]))] s.heap.size = A at hD ⊢
  have hA : ∀ q : Nat, s.heap.size ≤ q → A q := fun q h => by rw [← hAe]; exact Or.inr h
  have hS : va_S A s.heap s.heap [] := va_S.rf
  have hl := lv_entry ([.ref h0]) (n := 1) (Nat.le_of_ble_eq_true rfl)
  rw [lg_entry_eq]
  generalize (lg_sl ([.ref h0]) ++ List.replicate (1 - (lg_sl ([.ref h0])).length) Slot.unset).toArray = ls at hl ⊢
  have hl : lv_has ls 1 [(0, .ref h0)] := hl
  refine lv_aload_n hx hb dX1_init_0 rfl (lv_at hl 0 rfl) ?_
  refine W.objInit hx hb hown (hts (.methodLink RX1 3 objectInit) (by decide +kernel)) (hts (.instanceMethod objectInit) (by decide +kernel)) (hts (.code objectInit ⟨#[0xb1]⟩ 1 none) (by decide +kernel)) rfl (by rw [hml]; exact hl.1) rfl dX1_init_1 (Nat.le_of_ble_eq_true rfl) (Nat.le_of_ble_eq_true rfl) ?_
  refine W.eq (g2 := F0 m 4 ls []) rfl ?_
  refine lv_aload_n hx hb dX1_init_4 rfl (lv_at hl 0 rfl) ?_
  refine lv_sipush (v := 288) hx hb dX1_init_5 (by decide) ?_
  refine va_newa (atype := .int) (ty := .int) (a0 := (288, .inl (fun _ => 0))) (N' := 288) hx hb (hts (.arrayClass .int) (by decide +kernel)) rfl hK hP hD hS hA (cz_int 288) (by decide +kernel) (by decide +kernel) (by decide +kernel) (Nat.le_of_ble_eq_true rfl) (Nat.le_of_ble_eq_true rfl) dX1_init_8 (fun q_1 cA_2 H hK hP hD hS => ?_)
  have hP : va_P (dC, dI) vwCl [(h0, .inr (1, [.null, .int 0, .null, .null, .int 0])), (q_1, .inl (cA_2, 288, .inl (fun _ => 0)))] _ := hP
  have hD : va_D A [(h0, .inr (1, [.null, .int 0, .null, .null, .int 0])), (q_1, .inl (cA_2, 288, .inl (fun _ => 0)))] := hD
  have hK : va_K (dC, dI) vwCl [(cA_2, .int)] s := hK
  refine W.widen (k := 1) (n := 288) (Nat.le_of_ble_eq_true rfl) (Nat.le_of_ble_eq_true rfl) ?_
  refine va_put (D := (dC, dI)) (ci := 1) (v := .ref q_1) (ty := .array .int) (C := RX1) (T := TX1) (N := 5) hx hb hts in_X1_init_RX1 tyX1 tyX1_ok nmX1 hown hK hP hD hS 0 rfl rfl 0 (by decide) (hts (.fieldLink RX1 11 "FourTongues$Failures" "facts" "[I") (by decide +kernel)) (fun _ h9 => h9) rfl (by decide +kernel) rfl rfl (Nat.le_of_ble_eq_true rfl) dX1_init_10 (fun H locs hP hD hS => ?_)
  have hP : va_P (dC, dI) vwCl [(h0, .inr (1, [.ref q_1, .int 0, .null, .null, .int 0])), (q_1, .inl (cA_2, 288, .inl (fun _ => 0)))] _ := hP
  have hD : va_D A [(h0, .inr (1, [.ref q_1, .int 0, .null, .null, .int 0])), (q_1, .inl (cA_2, 288, .inl (fun _ => 0)))] := hD
  have hP := hP.sub (ws' := [(h0, .inr (1, [.ref q_1, .int 0, .null, .null, .int 0]))]) [0] rfl
  have hD := hD.sub (ws' := [(h0, .inr (1, [.ref q_1, .int 0, .null, .null, .int 0]))]) [0] (by decide) rfl
  refine lv_aload_n hx hb dX1_init_13 rfl (lv_at hl 0 rfl) ?_
  refine lv_iconst (v := 0) hx hb dX1_init_14 (by decide) ?_
  refine va_put (D := (dC, dI)) (ci := 1) (v := .int 0) (ty := .int) (C := RX1) (T := TX1) (N := 5) hx hb hts in_X1_init_RX1 tyX1 tyX1_ok nmX1 hown hK hP hD hS 0 rfl rfl 1 (by decide) (hts (.fieldLink RX1 15 "FourTongues$Failures" "count" "I") (by decide +kernel)) (fun _ h9 => h9) rfl (by decide +kernel) rfl rfl (Nat.le_of_ble_eq_true rfl) dX1_init_15 (fun H locs hP hD hS => ?_)
  have hP : va_P (dC, dI) vwCl [(h0, .inr (1, [.ref q_1, .int 0, .null, .null, .int 0]))] _ := hP
  have hD : va_D A [(h0, .inr (1, [.ref q_1, .int 0, .null, .null, .int 0]))] := hD
  refine lv_aload_n hx hb dX1_init_18 rfl (lv_at hl 0 rfl) ?_
  refine va_new (ci := 8) (fs := [.null, .null, .null, .int 0]) (C := RX9) (T := TX9) (N := 4) hx hb hts in_X1_init_RX9 tyX9 tyX9_ok hown (hts (.classLink RX1 19 RX9) (by decide +kernel)) (hts (.instantiable RX9 4) (by decide +kernel)) (hts (.initialized RX9) (by decide +kernel)) hK hP hD hS hA rfl df_X9 (Nat.le_of_ble_eq_true rfl) (Nat.le_of_ble_eq_true rfl) dX1_init_19 (fun q_3 H hP hD hS => ?_)
  have hP : va_P (dC, dI) vwCl [(h0, .inr (1, [.ref q_1, .int 0, .null, .null, .int 0])), (q_3, .inr (8, [.null, .null, .null, .int 0]))] _ := hP
  have hD : va_D A [(h0, .inr (1, [.ref q_1, .int 0, .null, .null, .int 0])), (q_3, .inr (8, [.null, .null, .null, .int 0]))] := hD
  refine W.widen (k := 2) (n := 292) (Nat.le_of_ble_eq_true rfl) (Nat.le_of_ble_eq_true rfl) ?_
  refine lv_dup hx hb dX1_init_22 rfl ?_
  refine lv_bipush (v := 32) hx hb dX1_init_23 (by decide) ?_
  have hPc := hP.sub (ws' := [(q_3, .inr (8, [.null, .null, .null, .int 0]))]) [1] rfl
  have hDc := hD.sub (ws' := [(q_3, .inr (8, [.null, .null, .null, .int 0]))]) [1] (by decide) rfl
  have hKc := hK.sub (tys' := []) [] rfl
  have hFc := va_free (wc := [(q_3, .inr (8, [.null, .null, .null, .int 0]))]) hD hS hA [1] rfl
  refine va_callv (va_runI (As := [.int 32]) (rest := [.ref q_3, .ref h0]) ⟨hx, hb, hml, hown, hts⟩ (c_X9_init_32 l dC dI H.size q_3 ) (cwI 1 hts gX1_init_X9_init rfl rfl rfl (hts (.initialized RX9) (by decide +kernel)) (hts (.methodLink RX1 21 yX9_init) (by decide +kernel)) (hts (.instanceMethod yX9_init) (by decide +kernel)) rfl (by decide +kernel) ⟨Nat.le_of_ble_eq_true rfl, Nat.le_of_ble_eq_true rfl⟩) ⟨fb_M, fun U hU hW => ⟨rfl, xM.at hPc hKc hDc hU hW⟩⟩ rfl rfl hl.1 rfl (lv_room (Nat.le_of_ble_eq_true rfl)) dX1_init_25 ⟨Nat.le_of_ble_eq_true rfl, Nat.le_of_ble_eq_true rfl⟩) hS (fun q _ h => hFc q h) hFc (fun u t H locs ht hvm hw hB hz1 hk1 hS => ?_)
  obtain ⟨q_4, cA_5, q_6, q_7, hB⟩ := hB
  obtain ⟨hP, hD, hK⟩ := xB.join (wr := [(h0, .inr (1, [.ref q_1, .int 0, .null, .null, .int 0]))]) (w1 := [(q_3, .inr (8, [.ref q_4, .ref q_6, .ref q_7, .int 0])), (q_4, .inl (cA_5, 32, .inl (fun _ => 0)))]) hP hD hK [1] [0] rfl rfl (by decide) (by decide) hk1 hFc hB ht hvm
  have hP : va_P (dC, dI) vwCl [(h0, .inr (1, [.ref q_1, .int 0, .null, .null, .int 0])), (q_3, .inr (8, [.ref q_4, .ref q_6, .ref q_7, .int 0])), (q_4, .inl (cA_5, 32, .inl (fun _ => 0)))] _ := hP
  have hD : va_D A [(h0, .inr (1, [.ref q_1, .int 0, .null, .null, .int 0])), (q_3, .inr (8, [.ref q_4, .ref q_6, .ref q_7, .int 0])), (q_4, .inl (cA_5, 32, .inl (fun _ => 0)))] := hD
  have hK : va_K (dC, dI) vwCl [(cA_2, .int), (cA_5, .int)] s := hK
  refine W.widen (k := 5) (n := 388) (Nat.le_of_ble_eq_true rfl) (Nat.le_of_ble_eq_true rfl) ?_
  refine va_putF (D := (dC, dI)) (ci := 1) (v := .ref q_3) (ty := .object "FourTongues$Row") (C := RX1) (T := TX1) (N := 5) hx hb hts in_X1_init_RX1 tyX1 tyX1_ok nmX1 hown hK hP hD hS 0 rfl rfl 2 (by decide) (hts (.fieldLink RX1 24 "FourTongues$Failures" "values" "LFourTongues$Row;") (by decide +kernel)) (fun _ h9 => h9) rfl hin rfl (by decide +kernel) rfl rfl (Nat.le_of_ble_eq_true rfl) dX1_init_28 (fun H locs hP hD hS => ?_)
  have hP : va_P (dC, dI) vwCl [(h0, .inr (1, [.ref q_1, .int 0, .ref q_3, .null, .int 0])), (q_3, .inr (8, [.ref q_4, .ref q_6, .ref q_7, .int 0])), (q_4, .inl (cA_5, 32, .inl (fun _ => 0)))] _ := hP
  have hD : va_D A [(h0, .inr (1, [.ref q_1, .int 0, .ref q_3, .null, .int 0])), (q_3, .inr (8, [.ref q_4, .ref q_6, .ref q_7, .int 0])), (q_4, .inl (cA_5, 32, .inl (fun _ => 0)))] := hD
  have hP := hP.sub (ws' := [(h0, .inr (1, [.ref q_1, .int 0, .ref q_3, .null, .int 0]))]) [0] rfl
  have hD := hD.sub (ws' := [(h0, .inr (1, [.ref q_1, .int 0, .ref q_3, .null, .int 0]))]) [0] (by decide) rfl
  refine lv_aload_n hx hb dX1_init_31 rfl (lv_at hl 0 rfl) ?_
  refine lv_bipush (v := 64) hx hb dX1_init_32 (by decide) ?_
  refine va_newa (atype := .int) (ty := .int) (a0 := (64, .inl (fun _ => 0))) (N' := 64) hx hb (hts (.arrayClass .int) (by decide +kernel)) rfl hK hP hD hS hA (cz_int 64) (by decide +kernel) (by decide +kernel) (by decide +kernel) (Nat.le_of_ble_eq_true rfl) (Nat.le_of_ble_eq_true rfl) dX1_init_34 (fun q_8 cA_9 H hK hP hD hS => ?_)
  have hP : va_P (dC, dI) vwCl [(h0, .inr (1, [.ref q_1, .int 0, .ref q_3, .null, .int 0])), (q_8, .inl (cA_9, 64, .inl (fun _ => 0)))] _ := hP
  have hD : va_D A [(h0, .inr (1, [.ref q_1, .int 0, .ref q_3, .null, .int 0])), (q_8, .inl (cA_9, 64, .inl (fun _ => 0)))] := hD
  have hK : va_K (dC, dI) vwCl [(cA_2, .int), (cA_5, .int), (cA_9, .int)] s := hK
  refine W.widen (k := 6) (n := 452) (Nat.le_of_ble_eq_true rfl) (Nat.le_of_ble_eq_true rfl) ?_
  refine va_put (D := (dC, dI)) (ci := 1) (v := .ref q_8) (ty := .array .int) (C := RX1) (T := TX1) (N := 5) hx hb hts in_X1_init_RX1 tyX1 tyX1_ok nmX1 hown hK hP hD hS 0 rfl rfl 3 (by decide) (hts (.fieldLink RX1 28 "FourTongues$Failures" "lying" "[I") (by decide +kernel)) (fun _ h9 => h9) rfl (by decide +kernel) rfl rfl (Nat.le_of_ble_eq_true rfl) dX1_init_36 (fun H locs hP hD hS => ?_)
  have hP : va_P (dC, dI) vwCl [(h0, .inr (1, [.ref q_1, .int 0, .ref q_3, .ref q_8, .int 0])), (q_8, .inl (cA_9, 64, .inl (fun _ => 0)))] _ := hP
  have hD : va_D A [(h0, .inr (1, [.ref q_1, .int 0, .ref q_3, .ref q_8, .int 0])), (q_8, .inl (cA_9, 64, .inl (fun _ => 0)))] := hD
  have hP := hP.sub (ws' := [(h0, .inr (1, [.ref q_1, .int 0, .ref q_3, .ref q_8, .int 0]))]) [0] rfl
  have hD := hD.sub (ws' := [(h0, .inr (1, [.ref q_1, .int 0, .ref q_3, .ref q_8, .int 0]))]) [0] (by decide) rfl
  refine lv_aload_n hx hb dX1_init_39 rfl (lv_at hl 0 rfl) ?_
  refine lv_iconst (v := 0) hx hb dX1_init_40 (by decide) ?_
  refine va_put (D := (dC, dI)) (ci := 1) (v := .int 0) (ty := .int) (C := RX1) (T := TX1) (N := 5) hx hb hts in_X1_init_RX1 tyX1 tyX1_ok nmX1 hown hK hP hD hS 0 rfl rfl 4 (by decide) (hts (.fieldLink RX1 31 "FourTongues$Failures" "lyingCount" "I") (by decide +kernel)) (fun _ h9 => h9) rfl (by decide +kernel) rfl rfl (Nat.le_of_ble_eq_true rfl) dX1_init_41 (fun H locs hP hD hS => ?_)
  have hP : va_P (dC, dI) vwCl [(h0, .inr (1, [.ref q_1, .int 0, .ref q_3, .ref q_8, .int 0]))] _ := hP
  have hD : va_D A [(h0, .inr (1, [.ref q_1, .int 0, .ref q_3, .ref q_8, .int 0]))] := hD
  have hP9 := hP.sub (ws' := [(h0, .inr (1, [.ref q_1, .int 0, .ref q_3, .ref q_8, .int 0]))]) [0] rfl
  have hD9 := hD.sub (ws' := [(h0, .inr (1, [.ref q_1, .int 0, .ref q_3, .ref q_8, .int 0]))]) [0] (by decide) rfl
  have hK9 := hK.sub (tys' := []) [] rfl
  exact W.vret hx hb hr (fun t ht hW => ⟨⟨(), rfl, trivial, ⟨q_1, q_3, q_8, by rw [ht]; exact hP9, va_K.moved hW.alike hK9, hD9⟩⟩, hS.F ht⟩) hS.2.2 dX1_init_44

set_option maxHeartbeats 4000000 in
set_option maxRecDepth 100000 in
theorem c_X2_init (l : Launch) (dC : Nat → ClassId) (dI : Nat → Nat → Nat) (sz : Nat) (h0 : Nat) : Met l yX2_init wsX2_init ({ frames := 1, cells := 7, slots := 168, locals := 24 }) (va_Pc [.ref h0] (fun U => xM (dC, dI) sz [(h0, .inr (2, [.null, .null, .null, .null, .null, .null, .null, .int 0]))] [] U)) (va_Qv (fun _ : Unit => True) (fun (_ : Unit) t => ∃ (q_1 : Nat), ∃ (q_3 : Nat), ∃ (q_5 : Nat), ∃ (q_7 : Nat), ∃ (q_9 : Nat), ∃ (q_11 : Nat), ∃ (q_13 : Nat), xB (dC, dI) [(h0, .inr (2, [.ref q_1, .ref q_3, .ref q_5, .ref q_7, .ref q_9, .ref q_11, .ref q_13, .int 0]))] [] (va_A [(h0, .inr (2, [.null, .null, .null, .null, .null, .null, .null, .int 0]))] sz) t) (va_A [(h0, .inr (2, [.null, .null, .null, .null, .null, .null, .null, .int 0]))] sz)) 7 168 (va_A [(h0, .inr (2, [.null, .null, .null, .null, .null, .null, .null, .int 0]))] sz) := by
  refine Met.ofW (cc := cX2_init) (maxL := 1) (ret := none) (by decide) rfl ?_
  intro p e s m args below meth c s₁ B hml hv
  obtain ⟨rfl, hsz, hP, hK, hD0⟩ := hv
  have hx := B.exec
  have hb := B.bytes
  have hr := B.returns
  have hts := atoms_spec (ws := wsX2_init) B.pre
  have hown : s.vm.findClass RX2 = some m.cls := findClass_of_methodNamed B.named
  have hlocks := B.notSynchronized
  have hin : meth.name = "<init>" := (name_of_methodNamed B.named B.method).1
  subst hsz
  have hD := hD0.self (sz := s.heap.size)
  generalize hAe : va_A [(h0, .inr (2, [.null, .null, .null, .null, .null, .null, .null, .int 0]))] s.heap.size = A at hD ⊢
  have hA : ∀ q : Nat, s.heap.size ≤ q → A q := fun q h => by rw [← hAe]; exact Or.inr h
  have hS : va_S A s.heap s.heap [] := va_S.rf
  have hl := lv_entry ([.ref h0]) (n := 1) (Nat.le_of_ble_eq_true rfl)
  rw [lg_entry_eq]
  generalize (lg_sl ([.ref h0]) ++ List.replicate (1 - (lg_sl ([.ref h0])).length) Slot.unset).toArray = ls at hl ⊢
  have hl : lv_has ls 1 [(0, .ref h0)] := hl
  refine lv_aload_n hx hb dX2_init_0 rfl (lv_at hl 0 rfl) ?_
  refine W.objInit hx hb hown (hts (.methodLink RX2 1 objectInit) (by decide +kernel)) (hts (.instanceMethod objectInit) (by decide +kernel)) (hts (.code objectInit ⟨#[0xb1]⟩ 1 none) (by decide +kernel)) rfl (by rw [hml]; exact hl.1) rfl dX2_init_1 (Nat.le_of_ble_eq_true rfl) (Nat.le_of_ble_eq_true rfl) ?_
  refine W.eq (g2 := F0 m 4 ls []) rfl ?_
  refine lv_aload_n hx hb dX2_init_4 rfl (lv_at hl 0 rfl) ?_
  refine lv_bipush (v := 24) hx hb dX2_init_5 (by decide) ?_
  refine va_newa (atype := .int) (ty := .int) (a0 := (24, .inl (fun _ => 0))) (N' := 24) hx hb (hts (.arrayClass .int) (by decide +kernel)) rfl hK hP hD hS hA (cz_int 24) (by decide +kernel) (by decide +kernel) (by decide +kernel) (Nat.le_of_ble_eq_true rfl) (Nat.le_of_ble_eq_true rfl) dX2_init_7 (fun q_1 cA_2 H hK hP hD hS => ?_)
  have hP : va_P (dC, dI) vwCl [(h0, .inr (2, [.null, .null, .null, .null, .null, .null, .null, .int 0])), (q_1, .inl (cA_2, 24, .inl (fun _ => 0)))] _ := hP
  have hD : va_D A [(h0, .inr (2, [.null, .null, .null, .null, .null, .null, .null, .int 0])), (q_1, .inl (cA_2, 24, .inl (fun _ => 0)))] := hD
  have hK : va_K (dC, dI) vwCl [(cA_2, .int)] s := hK
  refine W.widen (k := 1) (n := 24) (Nat.le_of_ble_eq_true rfl) (Nat.le_of_ble_eq_true rfl) ?_
  refine va_putF (D := (dC, dI)) (ci := 2) (v := .ref q_1) (ty := .array .int) (C := RX2) (T := TX2) (N := 8) hx hb hts in_X2_init_RX2 tyX2 tyX2_ok nmX2 hown hK hP hD hS 0 rfl rfl 0 (by decide) (hts (.fieldLink RX2 9 "FourTongues$Frames" "tongues" "[I") (by decide +kernel)) (fun _ h9 => h9) rfl hin rfl (by decide +kernel) rfl rfl (Nat.le_of_ble_eq_true rfl) dX2_init_9 (fun H locs hP hD hS => ?_)
  have hP : va_P (dC, dI) vwCl [(h0, .inr (2, [.ref q_1, .null, .null, .null, .null, .null, .null, .int 0])), (q_1, .inl (cA_2, 24, .inl (fun _ => 0)))] _ := hP
  have hD : va_D A [(h0, .inr (2, [.ref q_1, .null, .null, .null, .null, .null, .null, .int 0])), (q_1, .inl (cA_2, 24, .inl (fun _ => 0)))] := hD
  have hP := hP.sub (ws' := [(h0, .inr (2, [.ref q_1, .null, .null, .null, .null, .null, .null, .int 0]))]) [0] rfl
  have hD := hD.sub (ws' := [(h0, .inr (2, [.ref q_1, .null, .null, .null, .null, .null, .null, .int 0]))]) [0] (by decide) rfl
  refine lv_aload_n hx hb dX2_init_12 rfl (lv_at hl 0 rfl) ?_
  refine lv_bipush (v := 24) hx hb dX2_init_13 (by decide) ?_
  refine va_newa (atype := .int) (ty := .int) (a0 := (24, .inl (fun _ => 0))) (N' := 24) hx hb (hts (.arrayClass .int) (by decide +kernel)) rfl hK hP hD hS hA (cz_int 24) (by decide +kernel) (by decide +kernel) (by decide +kernel) (Nat.le_of_ble_eq_true rfl) (Nat.le_of_ble_eq_true rfl) dX2_init_15 (fun q_3 cA_4 H hK hP hD hS => ?_)
  have hP : va_P (dC, dI) vwCl [(h0, .inr (2, [.ref q_1, .null, .null, .null, .null, .null, .null, .int 0])), (q_3, .inl (cA_4, 24, .inl (fun _ => 0)))] _ := hP
  have hD : va_D A [(h0, .inr (2, [.ref q_1, .null, .null, .null, .null, .null, .null, .int 0])), (q_3, .inl (cA_4, 24, .inl (fun _ => 0)))] := hD
  have hK : va_K (dC, dI) vwCl [(cA_2, .int), (cA_4, .int)] s := hK
  refine W.widen (k := 2) (n := 48) (Nat.le_of_ble_eq_true rfl) (Nat.le_of_ble_eq_true rfl) ?_
  refine va_putF (D := (dC, dI)) (ci := 2) (v := .ref q_3) (ty := .array .int) (C := RX2) (T := TX2) (N := 8) hx hb hts in_X2_init_RX2 tyX2 tyX2_ok nmX2 hown hK hP hD hS 0 rfl rfl 1 (by decide) (hts (.fieldLink RX2 13 "FourTongues$Frames" "functions" "[I") (by decide +kernel)) (fun _ h9 => h9) rfl hin rfl (by decide +kernel) rfl rfl (Nat.le_of_ble_eq_true rfl) dX2_init_17 (fun H locs hP hD hS => ?_)
  have hP : va_P (dC, dI) vwCl [(h0, .inr (2, [.ref q_1, .ref q_3, .null, .null, .null, .null, .null, .int 0])), (q_3, .inl (cA_4, 24, .inl (fun _ => 0)))] _ := hP
  have hD : va_D A [(h0, .inr (2, [.ref q_1, .ref q_3, .null, .null, .null, .null, .null, .int 0])), (q_3, .inl (cA_4, 24, .inl (fun _ => 0)))] := hD
  have hP := hP.sub (ws' := [(h0, .inr (2, [.ref q_1, .ref q_3, .null, .null, .null, .null, .null, .int 0]))]) [0] rfl
  have hD := hD.sub (ws' := [(h0, .inr (2, [.ref q_1, .ref q_3, .null, .null, .null, .null, .null, .int 0]))]) [0] (by decide) rfl
  refine lv_aload_n hx hb dX2_init_20 rfl (lv_at hl 0 rfl) ?_
  refine lv_bipush (v := 24) hx hb dX2_init_21 (by decide) ?_
  refine va_newa (atype := .int) (ty := .int) (a0 := (24, .inl (fun _ => 0))) (N' := 24) hx hb (hts (.arrayClass .int) (by decide +kernel)) rfl hK hP hD hS hA (cz_int 24) (by decide +kernel) (by decide +kernel) (by decide +kernel) (Nat.le_of_ble_eq_true rfl) (Nat.le_of_ble_eq_true rfl) dX2_init_23 (fun q_5 cA_6 H hK hP hD hS => ?_)
  have hP : va_P (dC, dI) vwCl [(h0, .inr (2, [.ref q_1, .ref q_3, .null, .null, .null, .null, .null, .int 0])), (q_5, .inl (cA_6, 24, .inl (fun _ => 0)))] _ := hP
  have hD : va_D A [(h0, .inr (2, [.ref q_1, .ref q_3, .null, .null, .null, .null, .null, .int 0])), (q_5, .inl (cA_6, 24, .inl (fun _ => 0)))] := hD
  have hK : va_K (dC, dI) vwCl [(cA_2, .int), (cA_4, .int), (cA_6, .int)] s := hK
  refine W.widen (k := 3) (n := 72) (Nat.le_of_ble_eq_true rfl) (Nat.le_of_ble_eq_true rfl) ?_
  refine va_putF (D := (dC, dI)) (ci := 2) (v := .ref q_5) (ty := .array .int) (C := RX2) (T := TX2) (N := 8) hx hb hts in_X2_init_RX2 tyX2 tyX2_ok nmX2 hown hK hP hD hS 0 rfl rfl 2 (by decide) (hts (.fieldLink RX2 16 "FourTongues$Frames" "bases" "[I") (by decide +kernel)) (fun _ h9 => h9) rfl hin rfl (by decide +kernel) rfl rfl (Nat.le_of_ble_eq_true rfl) dX2_init_25 (fun H locs hP hD hS => ?_)
  have hP : va_P (dC, dI) vwCl [(h0, .inr (2, [.ref q_1, .ref q_3, .ref q_5, .null, .null, .null, .null, .int 0])), (q_5, .inl (cA_6, 24, .inl (fun _ => 0)))] _ := hP
  have hD : va_D A [(h0, .inr (2, [.ref q_1, .ref q_3, .ref q_5, .null, .null, .null, .null, .int 0])), (q_5, .inl (cA_6, 24, .inl (fun _ => 0)))] := hD
  have hP := hP.sub (ws' := [(h0, .inr (2, [.ref q_1, .ref q_3, .ref q_5, .null, .null, .null, .null, .int 0]))]) [0] rfl
  have hD := hD.sub (ws' := [(h0, .inr (2, [.ref q_1, .ref q_3, .ref q_5, .null, .null, .null, .null, .int 0]))]) [0] (by decide) rfl
  refine lv_aload_n hx hb dX2_init_28 rfl (lv_at hl 0 rfl) ?_
  refine lv_bipush (v := 24) hx hb dX2_init_29 (by decide) ?_
  refine va_newa (atype := .int) (ty := .int) (a0 := (24, .inl (fun _ => 0))) (N' := 24) hx hb (hts (.arrayClass .int) (by decide +kernel)) rfl hK hP hD hS hA (cz_int 24) (by decide +kernel) (by decide +kernel) (by decide +kernel) (Nat.le_of_ble_eq_true rfl) (Nat.le_of_ble_eq_true rfl) dX2_init_31 (fun q_7 cA_8 H hK hP hD hS => ?_)
  have hP : va_P (dC, dI) vwCl [(h0, .inr (2, [.ref q_1, .ref q_3, .ref q_5, .null, .null, .null, .null, .int 0])), (q_7, .inl (cA_8, 24, .inl (fun _ => 0)))] _ := hP
  have hD : va_D A [(h0, .inr (2, [.ref q_1, .ref q_3, .ref q_5, .null, .null, .null, .null, .int 0])), (q_7, .inl (cA_8, 24, .inl (fun _ => 0)))] := hD
  have hK : va_K (dC, dI) vwCl [(cA_2, .int), (cA_4, .int), (cA_6, .int), (cA_8, .int)] s := hK
  refine W.widen (k := 4) (n := 96) (Nat.le_of_ble_eq_true rfl) (Nat.le_of_ble_eq_true rfl) ?_
  refine va_putF (D := (dC, dI)) (ci := 2) (v := .ref q_7) (ty := .array .int) (C := RX2) (T := TX2) (N := 8) hx hb hts in_X2_init_RX2 tyX2 tyX2_ok nmX2 hown hK hP hD hS 0 rfl rfl 3 (by decide) (hts (.fieldLink RX2 19 "FourTongues$Frames" "floors" "[I") (by decide +kernel)) (fun _ h9 => h9) rfl hin rfl (by decide +kernel) rfl rfl (Nat.le_of_ble_eq_true rfl) dX2_init_33 (fun H locs hP hD hS => ?_)
  have hP : va_P (dC, dI) vwCl [(h0, .inr (2, [.ref q_1, .ref q_3, .ref q_5, .ref q_7, .null, .null, .null, .int 0])), (q_7, .inl (cA_8, 24, .inl (fun _ => 0)))] _ := hP
  have hD : va_D A [(h0, .inr (2, [.ref q_1, .ref q_3, .ref q_5, .ref q_7, .null, .null, .null, .int 0])), (q_7, .inl (cA_8, 24, .inl (fun _ => 0)))] := hD
  have hP := hP.sub (ws' := [(h0, .inr (2, [.ref q_1, .ref q_3, .ref q_5, .ref q_7, .null, .null, .null, .int 0]))]) [0] rfl
  have hD := hD.sub (ws' := [(h0, .inr (2, [.ref q_1, .ref q_3, .ref q_5, .ref q_7, .null, .null, .null, .int 0]))]) [0] (by decide) rfl
  refine lv_aload_n hx hb dX2_init_36 rfl (lv_at hl 0 rfl) ?_
  refine lv_bipush (v := 24) hx hb dX2_init_37 (by decide) ?_
  refine va_newa (atype := .int) (ty := .int) (a0 := (24, .inl (fun _ => 0))) (N' := 24) hx hb (hts (.arrayClass .int) (by decide +kernel)) rfl hK hP hD hS hA (cz_int 24) (by decide +kernel) (by decide +kernel) (by decide +kernel) (Nat.le_of_ble_eq_true rfl) (Nat.le_of_ble_eq_true rfl) dX2_init_39 (fun q_9 cA_10 H hK hP hD hS => ?_)
  have hP : va_P (dC, dI) vwCl [(h0, .inr (2, [.ref q_1, .ref q_3, .ref q_5, .ref q_7, .null, .null, .null, .int 0])), (q_9, .inl (cA_10, 24, .inl (fun _ => 0)))] _ := hP
  have hD : va_D A [(h0, .inr (2, [.ref q_1, .ref q_3, .ref q_5, .ref q_7, .null, .null, .null, .int 0])), (q_9, .inl (cA_10, 24, .inl (fun _ => 0)))] := hD
  have hK : va_K (dC, dI) vwCl [(cA_2, .int), (cA_4, .int), (cA_6, .int), (cA_8, .int), (cA_10, .int)] s := hK
  refine W.widen (k := 5) (n := 120) (Nat.le_of_ble_eq_true rfl) (Nat.le_of_ble_eq_true rfl) ?_
  refine va_putF (D := (dC, dI)) (ci := 2) (v := .ref q_9) (ty := .array .int) (C := RX2) (T := TX2) (N := 8) hx hb hts in_X2_init_RX2 tyX2 tyX2_ok nmX2 hown hK hP hD hS 0 rfl rfl 4 (by decide) (hts (.fieldLink RX2 22 "FourTongues$Frames" "tops" "[I") (by decide +kernel)) (fun _ h9 => h9) rfl hin rfl (by decide +kernel) rfl rfl (Nat.le_of_ble_eq_true rfl) dX2_init_41 (fun H locs hP hD hS => ?_)
  have hP : va_P (dC, dI) vwCl [(h0, .inr (2, [.ref q_1, .ref q_3, .ref q_5, .ref q_7, .ref q_9, .null, .null, .int 0])), (q_9, .inl (cA_10, 24, .inl (fun _ => 0)))] _ := hP
  have hD : va_D A [(h0, .inr (2, [.ref q_1, .ref q_3, .ref q_5, .ref q_7, .ref q_9, .null, .null, .int 0])), (q_9, .inl (cA_10, 24, .inl (fun _ => 0)))] := hD
  have hP := hP.sub (ws' := [(h0, .inr (2, [.ref q_1, .ref q_3, .ref q_5, .ref q_7, .ref q_9, .null, .null, .int 0]))]) [0] rfl
  have hD := hD.sub (ws' := [(h0, .inr (2, [.ref q_1, .ref q_3, .ref q_5, .ref q_7, .ref q_9, .null, .null, .int 0]))]) [0] (by decide) rfl
  refine lv_aload_n hx hb dX2_init_44 rfl (lv_at hl 0 rfl) ?_
  refine lv_bipush (v := 24) hx hb dX2_init_45 (by decide) ?_
  refine va_newa (atype := .int) (ty := .int) (a0 := (24, .inl (fun _ => 0))) (N' := 24) hx hb (hts (.arrayClass .int) (by decide +kernel)) rfl hK hP hD hS hA (cz_int 24) (by decide +kernel) (by decide +kernel) (by decide +kernel) (Nat.le_of_ble_eq_true rfl) (Nat.le_of_ble_eq_true rfl) dX2_init_47 (fun q_11 cA_12 H hK hP hD hS => ?_)
  have hP : va_P (dC, dI) vwCl [(h0, .inr (2, [.ref q_1, .ref q_3, .ref q_5, .ref q_7, .ref q_9, .null, .null, .int 0])), (q_11, .inl (cA_12, 24, .inl (fun _ => 0)))] _ := hP
  have hD : va_D A [(h0, .inr (2, [.ref q_1, .ref q_3, .ref q_5, .ref q_7, .ref q_9, .null, .null, .int 0])), (q_11, .inl (cA_12, 24, .inl (fun _ => 0)))] := hD
  have hK : va_K (dC, dI) vwCl [(cA_2, .int), (cA_4, .int), (cA_6, .int), (cA_8, .int), (cA_10, .int), (cA_12, .int)] s := hK
  refine W.widen (k := 6) (n := 144) (Nat.le_of_ble_eq_true rfl) (Nat.le_of_ble_eq_true rfl) ?_
  refine va_putF (D := (dC, dI)) (ci := 2) (v := .ref q_11) (ty := .array .int) (C := RX2) (T := TX2) (N := 8) hx hb hts in_X2_init_RX2 tyX2 tyX2_ok nmX2 hown hK hP hD hS 0 rfl rfl 5 (by decide) (hts (.fieldLink RX2 25 "FourTongues$Frames" "calledAt" "[I") (by decide +kernel)) (fun _ h9 => h9) rfl hin rfl (by decide +kernel) rfl rfl (Nat.le_of_ble_eq_true rfl) dX2_init_49 (fun H locs hP hD hS => ?_)
  have hP : va_P (dC, dI) vwCl [(h0, .inr (2, [.ref q_1, .ref q_3, .ref q_5, .ref q_7, .ref q_9, .ref q_11, .null, .int 0])), (q_11, .inl (cA_12, 24, .inl (fun _ => 0)))] _ := hP
  have hD : va_D A [(h0, .inr (2, [.ref q_1, .ref q_3, .ref q_5, .ref q_7, .ref q_9, .ref q_11, .null, .int 0])), (q_11, .inl (cA_12, 24, .inl (fun _ => 0)))] := hD
  have hP := hP.sub (ws' := [(h0, .inr (2, [.ref q_1, .ref q_3, .ref q_5, .ref q_7, .ref q_9, .ref q_11, .null, .int 0]))]) [0] rfl
  have hD := hD.sub (ws' := [(h0, .inr (2, [.ref q_1, .ref q_3, .ref q_5, .ref q_7, .ref q_9, .ref q_11, .null, .int 0]))]) [0] (by decide) rfl
  refine lv_aload_n hx hb dX2_init_52 rfl (lv_at hl 0 rfl) ?_
  refine lv_bipush (v := 24) hx hb dX2_init_53 (by decide) ?_
  refine va_newa (atype := .int) (ty := .int) (a0 := (24, .inl (fun _ => 0))) (N' := 24) hx hb (hts (.arrayClass .int) (by decide +kernel)) rfl hK hP hD hS hA (cz_int 24) (by decide +kernel) (by decide +kernel) (by decide +kernel) (Nat.le_of_ble_eq_true rfl) (Nat.le_of_ble_eq_true rfl) dX2_init_55 (fun q_13 cA_14 H hK hP hD hS => ?_)
  have hP : va_P (dC, dI) vwCl [(h0, .inr (2, [.ref q_1, .ref q_3, .ref q_5, .ref q_7, .ref q_9, .ref q_11, .null, .int 0])), (q_13, .inl (cA_14, 24, .inl (fun _ => 0)))] _ := hP
  have hD : va_D A [(h0, .inr (2, [.ref q_1, .ref q_3, .ref q_5, .ref q_7, .ref q_9, .ref q_11, .null, .int 0])), (q_13, .inl (cA_14, 24, .inl (fun _ => 0)))] := hD
  have hK : va_K (dC, dI) vwCl [(cA_2, .int), (cA_4, .int), (cA_6, .int), (cA_8, .int), (cA_10, .int), (cA_12, .int), (cA_14, .int)] s := hK
  refine W.widen (k := 7) (n := 168) (Nat.le_of_ble_eq_true rfl) (Nat.le_of_ble_eq_true rfl) ?_
  refine va_putF (D := (dC, dI)) (ci := 2) (v := .ref q_13) (ty := .array .int) (C := RX2) (T := TX2) (N := 8) hx hb hts in_X2_init_RX2 tyX2 tyX2_ok nmX2 hown hK hP hD hS 0 rfl rfl 6 (by decide) (hts (.fieldLink RX2 28 "FourTongues$Frames" "guardBases" "[I") (by decide +kernel)) (fun _ h9 => h9) rfl hin rfl (by decide +kernel) rfl rfl (Nat.le_of_ble_eq_true rfl) dX2_init_57 (fun H locs hP hD hS => ?_)
  have hP : va_P (dC, dI) vwCl [(h0, .inr (2, [.ref q_1, .ref q_3, .ref q_5, .ref q_7, .ref q_9, .ref q_11, .ref q_13, .int 0])), (q_13, .inl (cA_14, 24, .inl (fun _ => 0)))] _ := hP
  have hD : va_D A [(h0, .inr (2, [.ref q_1, .ref q_3, .ref q_5, .ref q_7, .ref q_9, .ref q_11, .ref q_13, .int 0])), (q_13, .inl (cA_14, 24, .inl (fun _ => 0)))] := hD
  have hP := hP.sub (ws' := [(h0, .inr (2, [.ref q_1, .ref q_3, .ref q_5, .ref q_7, .ref q_9, .ref q_11, .ref q_13, .int 0]))]) [0] rfl
  have hD := hD.sub (ws' := [(h0, .inr (2, [.ref q_1, .ref q_3, .ref q_5, .ref q_7, .ref q_9, .ref q_11, .ref q_13, .int 0]))]) [0] (by decide) rfl
  refine lv_aload_n hx hb dX2_init_60 rfl (lv_at hl 0 rfl) ?_
  refine lv_iconst (v := 0) hx hb dX2_init_61 (by decide) ?_
  refine va_put (D := (dC, dI)) (ci := 2) (v := .int 0) (ty := .int) (C := RX2) (T := TX2) (N := 8) hx hb hts in_X2_init_RX2 tyX2 tyX2_ok nmX2 hown hK hP hD hS 0 rfl rfl 7 (by decide) (hts (.fieldLink RX2 31 "FourTongues$Frames" "count" "I") (by decide +kernel)) (fun _ h9 => h9) rfl (by decide +kernel) rfl rfl (Nat.le_of_ble_eq_true rfl) dX2_init_62 (fun H locs hP hD hS => ?_)
  have hP : va_P (dC, dI) vwCl [(h0, .inr (2, [.ref q_1, .ref q_3, .ref q_5, .ref q_7, .ref q_9, .ref q_11, .ref q_13, .int 0]))] _ := hP
  have hD : va_D A [(h0, .inr (2, [.ref q_1, .ref q_3, .ref q_5, .ref q_7, .ref q_9, .ref q_11, .ref q_13, .int 0]))] := hD
  have hP9 := hP.sub (ws' := [(h0, .inr (2, [.ref q_1, .ref q_3, .ref q_5, .ref q_7, .ref q_9, .ref q_11, .ref q_13, .int 0]))]) [0] rfl
  have hD9 := hD.sub (ws' := [(h0, .inr (2, [.ref q_1, .ref q_3, .ref q_5, .ref q_7, .ref q_9, .ref q_11, .ref q_13, .int 0]))]) [0] (by decide) rfl
  have hK9 := hK.sub (tys' := []) [] rfl
  exact W.vret hx hb hr (fun t ht hW => ⟨⟨(), rfl, trivial, ⟨q_1, q_3, q_5, q_7, q_9, q_11, q_13, by rw [ht]; exact hP9, va_K.moved hW.alike hK9, hD9⟩⟩, hS.F ht⟩) hS.2.2 dX2_init_65

set_option maxHeartbeats 4000000 in
set_option maxRecDepth 100000 in
theorem c_X3_init (l : Launch) (dC : Nat → ClassId) (dI : Nat → Nat → Nat) (sz : Nat) (h0 : Nat) : Met l yX3_init wsX3_init ({ frames := 2, cells := 9, slots := 2052, locals := 46 }) (va_Pc [.ref h0] (fun U => xM (dC, dI) sz [(h0, .inr (3, [.null, .null, .null, .null, .null, .null, .int 0]))] [] U)) (va_Qv (fun _ : Unit => True) (fun (_ : Unit) t => ∃ (q_1 : Nat), ∃ (q_3 : Nat), ∃ (q_5 : Nat), ∃ (q_7 : Nat), ∃ (q_9 : Nat), ∃ (q_11 : Nat), xB (dC, dI) [(h0, .inr (3, [.ref q_1, .ref q_3, .ref q_5, .ref q_7, .ref q_9, .ref q_11, .int 0]))] [] (va_A [(h0, .inr (3, [.null, .null, .null, .null, .null, .null, .int 0]))] sz) t) (va_A [(h0, .inr (3, [.null, .null, .null, .null, .null, .null, .int 0]))] sz)) 9 2052 (va_A [(h0, .inr (3, [.null, .null, .null, .null, .null, .null, .int 0]))] sz) := by
  refine Met.ofW (cc := cX3_init) (maxL := 1) (ret := none) (by decide) rfl ?_
  intro p e s m args below meth c s₁ B hml hv
  obtain ⟨rfl, hsz, hP, hK, hD0⟩ := hv
  have hx := B.exec
  have hb := B.bytes
  have hr := B.returns
  have hts := atoms_spec (ws := wsX3_init) B.pre
  have hown : s.vm.findClass RX3 = some m.cls := findClass_of_methodNamed B.named
  have hlocks := B.notSynchronized
  have hin : meth.name = "<init>" := (name_of_methodNamed B.named B.method).1
  subst hsz
  have hD := hD0.self (sz := s.heap.size)
  generalize hAe : va_A [(h0, .inr (3, [.null, .null, .null, .null, .null, .null, .int 0]))] s.heap.size = A at hD ⊢
  have hA : ∀ q : Nat, s.heap.size ≤ q → A q := fun q h => by rw [← hAe]; exact Or.inr h
  have hS : va_S A s.heap s.heap [] := va_S.rf
  have hl := lv_entry ([.ref h0]) (n := 1) (Nat.le_of_ble_eq_true rfl)
  rw [lg_entry_eq]
  generalize (lg_sl ([.ref h0]) ++ List.replicate (1 - (lg_sl ([.ref h0])).length) Slot.unset).toArray = ls at hl ⊢
  have hl : lv_has ls 1 [(0, .ref h0)] := hl
  refine lv_aload_n hx hb dX3_init_0 rfl (lv_at hl 0 rfl) ?_
  refine W.objInit hx hb hown (hts (.methodLink RX3 1 objectInit) (by decide +kernel)) (hts (.instanceMethod objectInit) (by decide +kernel)) (hts (.code objectInit ⟨#[0xb1]⟩ 1 none) (by decide +kernel)) rfl (by rw [hml]; exact hl.1) rfl dX3_init_1 (Nat.le_of_ble_eq_true rfl) (Nat.le_of_ble_eq_true rfl) ?_
  refine W.eq (g2 := F0 m 4 ls []) rfl ?_
  refine lv_aload_n hx hb dX3_init_4 rfl (lv_at hl 0 rfl) ?_
  refine lv_sipush (v := 400) hx hb dX3_init_5 (by decide) ?_
  refine va_newa (atype := .int) (ty := .int) (a0 := (400, .inl (fun _ => 0))) (N' := 400) hx hb (hts (.arrayClass .int) (by decide +kernel)) rfl hK hP hD hS hA (cz_int 400) (by decide +kernel) (by decide +kernel) (by decide +kernel) (Nat.le_of_ble_eq_true rfl) (Nat.le_of_ble_eq_true rfl) dX3_init_8 (fun q_1 cA_2 H hK hP hD hS => ?_)
  have hP : va_P (dC, dI) vwCl [(h0, .inr (3, [.null, .null, .null, .null, .null, .null, .int 0])), (q_1, .inl (cA_2, 400, .inl (fun _ => 0)))] _ := hP
  have hD : va_D A [(h0, .inr (3, [.null, .null, .null, .null, .null, .null, .int 0])), (q_1, .inl (cA_2, 400, .inl (fun _ => 0)))] := hD
  have hK : va_K (dC, dI) vwCl [(cA_2, .int)] s := hK
  refine W.widen (k := 1) (n := 400) (Nat.le_of_ble_eq_true rfl) (Nat.le_of_ble_eq_true rfl) ?_
  refine va_putF (D := (dC, dI)) (ci := 3) (v := .ref q_1) (ty := .array .int) (C := RX3) (T := TX3) (N := 7) hx hb hts in_X3_init_RX3 tyX3 tyX3_ok nmX3 hown hK hP hD hS 0 rfl rfl 0 (by decide) (hts (.fieldLink RX3 9 "FourTongues$Guards" "kinds" "[I") (by decide +kernel)) (fun _ h9 => h9) rfl hin rfl (by decide +kernel) rfl rfl (Nat.le_of_ble_eq_true rfl) dX3_init_10 (fun H locs hP hD hS => ?_)
  have hP : va_P (dC, dI) vwCl [(h0, .inr (3, [.ref q_1, .null, .null, .null, .null, .null, .int 0])), (q_1, .inl (cA_2, 400, .inl (fun _ => 0)))] _ := hP
  have hD : va_D A [(h0, .inr (3, [.ref q_1, .null, .null, .null, .null, .null, .int 0])), (q_1, .inl (cA_2, 400, .inl (fun _ => 0)))] := hD
  have hP := hP.sub (ws' := [(h0, .inr (3, [.ref q_1, .null, .null, .null, .null, .null, .int 0]))]) [0] rfl
  have hD := hD.sub (ws' := [(h0, .inr (3, [.ref q_1, .null, .null, .null, .null, .null, .int 0]))]) [0] (by decide) rfl
  refine lv_aload_n hx hb dX3_init_13 rfl (lv_at hl 0 rfl) ?_
  refine lv_sipush (v := 400) hx hb dX3_init_14 (by decide) ?_
  refine va_newa (atype := .int) (ty := .int) (a0 := (400, .inl (fun _ => 0))) (N' := 400) hx hb (hts (.arrayClass .int) (by decide +kernel)) rfl hK hP hD hS hA (cz_int 400) (by decide +kernel) (by decide +kernel) (by decide +kernel) (Nat.le_of_ble_eq_true rfl) (Nat.le_of_ble_eq_true rfl) dX3_init_17 (fun q_3 cA_4 H hK hP hD hS => ?_)
  have hP : va_P (dC, dI) vwCl [(h0, .inr (3, [.ref q_1, .null, .null, .null, .null, .null, .int 0])), (q_3, .inl (cA_4, 400, .inl (fun _ => 0)))] _ := hP
  have hD : va_D A [(h0, .inr (3, [.ref q_1, .null, .null, .null, .null, .null, .int 0])), (q_3, .inl (cA_4, 400, .inl (fun _ => 0)))] := hD
  have hK : va_K (dC, dI) vwCl [(cA_2, .int), (cA_4, .int)] s := hK
  refine W.widen (k := 2) (n := 800) (Nat.le_of_ble_eq_true rfl) (Nat.le_of_ble_eq_true rfl) ?_
  refine va_putF (D := (dC, dI)) (ci := 3) (v := .ref q_3) (ty := .array .int) (C := RX3) (T := TX3) (N := 7) hx hb hts in_X3_init_RX3 tyX3 tyX3_ok nmX3 hown hK hP hD hS 0 rfl rfl 1 (by decide) (hts (.fieldLink RX3 13 "FourTongues$Guards" "targets" "[I") (by decide +kernel)) (fun _ h9 => h9) rfl hin rfl (by decide +kernel) rfl rfl (Nat.le_of_ble_eq_true rfl) dX3_init_19 (fun H locs hP hD hS => ?_)
  have hP : va_P (dC, dI) vwCl [(h0, .inr (3, [.ref q_1, .ref q_3, .null, .null, .null, .null, .int 0])), (q_3, .inl (cA_4, 400, .inl (fun _ => 0)))] _ := hP
  have hD : va_D A [(h0, .inr (3, [.ref q_1, .ref q_3, .null, .null, .null, .null, .int 0])), (q_3, .inl (cA_4, 400, .inl (fun _ => 0)))] := hD
  have hP := hP.sub (ws' := [(h0, .inr (3, [.ref q_1, .ref q_3, .null, .null, .null, .null, .int 0]))]) [0] rfl
  have hD := hD.sub (ws' := [(h0, .inr (3, [.ref q_1, .ref q_3, .null, .null, .null, .null, .int 0]))]) [0] (by decide) rfl
  refine lv_aload_n hx hb dX3_init_22 rfl (lv_at hl 0 rfl) ?_
  refine lv_sipush (v := 400) hx hb dX3_init_23 (by decide) ?_
  refine va_newa (atype := .int) (ty := .int) (a0 := (400, .inl (fun _ => 0))) (N' := 400) hx hb (hts (.arrayClass .int) (by decide +kernel)) rfl hK hP hD hS hA (cz_int 400) (by decide +kernel) (by decide +kernel) (by decide +kernel) (Nat.le_of_ble_eq_true rfl) (Nat.le_of_ble_eq_true rfl) dX3_init_26 (fun q_5 cA_6 H hK hP hD hS => ?_)
  have hP : va_P (dC, dI) vwCl [(h0, .inr (3, [.ref q_1, .ref q_3, .null, .null, .null, .null, .int 0])), (q_5, .inl (cA_6, 400, .inl (fun _ => 0)))] _ := hP
  have hD : va_D A [(h0, .inr (3, [.ref q_1, .ref q_3, .null, .null, .null, .null, .int 0])), (q_5, .inl (cA_6, 400, .inl (fun _ => 0)))] := hD
  have hK : va_K (dC, dI) vwCl [(cA_2, .int), (cA_4, .int), (cA_6, .int)] s := hK
  refine W.widen (k := 3) (n := 1200) (Nat.le_of_ble_eq_true rfl) (Nat.le_of_ble_eq_true rfl) ?_
  refine va_putF (D := (dC, dI)) (ci := 3) (v := .ref q_5) (ty := .array .int) (C := RX3) (T := TX3) (N := 7) hx hb hts in_X3_init_RX3 tyX3 tyX3_ok nmX3 hown hK hP hD hS 0 rfl rfl 2 (by decide) (hts (.fieldLink RX3 16 "FourTongues$Guards" "names" "[I") (by decide +kernel)) (fun _ h9 => h9) rfl hin rfl (by decide +kernel) rfl rfl (Nat.le_of_ble_eq_true rfl) dX3_init_28 (fun H locs hP hD hS => ?_)
  have hP : va_P (dC, dI) vwCl [(h0, .inr (3, [.ref q_1, .ref q_3, .ref q_5, .null, .null, .null, .int 0])), (q_5, .inl (cA_6, 400, .inl (fun _ => 0)))] _ := hP
  have hD : va_D A [(h0, .inr (3, [.ref q_1, .ref q_3, .ref q_5, .null, .null, .null, .int 0])), (q_5, .inl (cA_6, 400, .inl (fun _ => 0)))] := hD
  have hP := hP.sub (ws' := [(h0, .inr (3, [.ref q_1, .ref q_3, .ref q_5, .null, .null, .null, .int 0]))]) [0] rfl
  have hD := hD.sub (ws' := [(h0, .inr (3, [.ref q_1, .ref q_3, .ref q_5, .null, .null, .null, .int 0]))]) [0] (by decide) rfl
  refine lv_aload_n hx hb dX3_init_31 rfl (lv_at hl 0 rfl) ?_
  refine lv_sipush (v := 400) hx hb dX3_init_32 (by decide) ?_
  refine va_newa (atype := .int) (ty := .int) (a0 := (400, .inl (fun _ => 0))) (N' := 400) hx hb (hts (.arrayClass .int) (by decide +kernel)) rfl hK hP hD hS hA (cz_int 400) (by decide +kernel) (by decide +kernel) (by decide +kernel) (Nat.le_of_ble_eq_true rfl) (Nat.le_of_ble_eq_true rfl) dX3_init_35 (fun q_7 cA_8 H hK hP hD hS => ?_)
  have hP : va_P (dC, dI) vwCl [(h0, .inr (3, [.ref q_1, .ref q_3, .ref q_5, .null, .null, .null, .int 0])), (q_7, .inl (cA_8, 400, .inl (fun _ => 0)))] _ := hP
  have hD : va_D A [(h0, .inr (3, [.ref q_1, .ref q_3, .ref q_5, .null, .null, .null, .int 0])), (q_7, .inl (cA_8, 400, .inl (fun _ => 0)))] := hD
  have hK : va_K (dC, dI) vwCl [(cA_2, .int), (cA_4, .int), (cA_6, .int), (cA_8, .int)] s := hK
  refine W.widen (k := 4) (n := 1600) (Nat.le_of_ble_eq_true rfl) (Nat.le_of_ble_eq_true rfl) ?_
  refine va_putF (D := (dC, dI)) (ci := 3) (v := .ref q_7) (ty := .array .int) (C := RX3) (T := TX3) (N := 7) hx hb hts in_X3_init_RX3 tyX3 tyX3_ok nmX3 hown hK hP hD hS 0 rfl rfl 3 (by decide) (hts (.fieldLink RX3 19 "FourTongues$Guards" "underWay" "[I") (by decide +kernel)) (fun _ h9 => h9) rfl hin rfl (by decide +kernel) rfl rfl (Nat.le_of_ble_eq_true rfl) dX3_init_37 (fun H locs hP hD hS => ?_)
  have hP : va_P (dC, dI) vwCl [(h0, .inr (3, [.ref q_1, .ref q_3, .ref q_5, .ref q_7, .null, .null, .int 0])), (q_7, .inl (cA_8, 400, .inl (fun _ => 0)))] _ := hP
  have hD : va_D A [(h0, .inr (3, [.ref q_1, .ref q_3, .ref q_5, .ref q_7, .null, .null, .int 0])), (q_7, .inl (cA_8, 400, .inl (fun _ => 0)))] := hD
  have hP := hP.sub (ws' := [(h0, .inr (3, [.ref q_1, .ref q_3, .ref q_5, .ref q_7, .null, .null, .int 0]))]) [0] rfl
  have hD := hD.sub (ws' := [(h0, .inr (3, [.ref q_1, .ref q_3, .ref q_5, .ref q_7, .null, .null, .int 0]))]) [0] (by decide) rfl
  refine lv_aload_n hx hb dX3_init_40 rfl (lv_at hl 0 rfl) ?_
  refine lv_sipush (v := 400) hx hb dX3_init_41 (by decide) ?_
  refine va_newa (atype := .int) (ty := .int) (a0 := (400, .inl (fun _ => 0))) (N' := 400) hx hb (hts (.arrayClass .int) (by decide +kernel)) rfl hK hP hD hS hA (cz_int 400) (by decide +kernel) (by decide +kernel) (by decide +kernel) (Nat.le_of_ble_eq_true rfl) (Nat.le_of_ble_eq_true rfl) dX3_init_44 (fun q_9 cA_10 H hK hP hD hS => ?_)
  have hP : va_P (dC, dI) vwCl [(h0, .inr (3, [.ref q_1, .ref q_3, .ref q_5, .ref q_7, .null, .null, .int 0])), (q_9, .inl (cA_10, 400, .inl (fun _ => 0)))] _ := hP
  have hD : va_D A [(h0, .inr (3, [.ref q_1, .ref q_3, .ref q_5, .ref q_7, .null, .null, .int 0])), (q_9, .inl (cA_10, 400, .inl (fun _ => 0)))] := hD
  have hK : va_K (dC, dI) vwCl [(cA_2, .int), (cA_4, .int), (cA_6, .int), (cA_8, .int), (cA_10, .int)] s := hK
  refine W.widen (k := 5) (n := 2000) (Nat.le_of_ble_eq_true rfl) (Nat.le_of_ble_eq_true rfl) ?_
  refine va_putF (D := (dC, dI)) (ci := 3) (v := .ref q_9) (ty := .array .int) (C := RX3) (T := TX3) (N := 7) hx hb hts in_X3_init_RX3 tyX3 tyX3_ok nmX3 hown hK hP hD hS 0 rfl rfl 4 (by decide) (hts (.fieldLink RX3 22 "FourTongues$Guards" "failures" "[I") (by decide +kernel)) (fun _ h9 => h9) rfl hin rfl (by decide +kernel) rfl rfl (Nat.le_of_ble_eq_true rfl) dX3_init_46 (fun H locs hP hD hS => ?_)
  have hP : va_P (dC, dI) vwCl [(h0, .inr (3, [.ref q_1, .ref q_3, .ref q_5, .ref q_7, .ref q_9, .null, .int 0])), (q_9, .inl (cA_10, 400, .inl (fun _ => 0)))] _ := hP
  have hD : va_D A [(h0, .inr (3, [.ref q_1, .ref q_3, .ref q_5, .ref q_7, .ref q_9, .null, .int 0])), (q_9, .inl (cA_10, 400, .inl (fun _ => 0)))] := hD
  have hP := hP.sub (ws' := [(h0, .inr (3, [.ref q_1, .ref q_3, .ref q_5, .ref q_7, .ref q_9, .null, .int 0]))]) [0] rfl
  have hD := hD.sub (ws' := [(h0, .inr (3, [.ref q_1, .ref q_3, .ref q_5, .ref q_7, .ref q_9, .null, .int 0]))]) [0] (by decide) rfl
  refine lv_aload_n hx hb dX3_init_49 rfl (lv_at hl 0 rfl) ?_
  refine va_new (ci := 8) (fs := [.null, .null, .null, .int 0]) (C := RX9) (T := TX9) (N := 4) hx hb hts in_X3_init_RX9 tyX9 tyX9_ok hown (hts (.classLink RX3 25 RX9) (by decide +kernel)) (hts (.instantiable RX9 4) (by decide +kernel)) (hts (.initialized RX9) (by decide +kernel)) hK hP hD hS hA rfl df_X9 (Nat.le_of_ble_eq_true rfl) (Nat.le_of_ble_eq_true rfl) dX3_init_50 (fun q_11 H hP hD hS => ?_)
  have hP : va_P (dC, dI) vwCl [(h0, .inr (3, [.ref q_1, .ref q_3, .ref q_5, .ref q_7, .ref q_9, .null, .int 0])), (q_11, .inr (8, [.null, .null, .null, .int 0]))] _ := hP
  have hD : va_D A [(h0, .inr (3, [.ref q_1, .ref q_3, .ref q_5, .ref q_7, .ref q_9, .null, .int 0])), (q_11, .inr (8, [.null, .null, .null, .int 0]))] := hD
  refine W.widen (k := 6) (n := 2004) (Nat.le_of_ble_eq_true rfl) (Nat.le_of_ble_eq_true rfl) ?_
  refine lv_dup hx hb dX3_init_53 rfl ?_
  refine lv_bipush (v := 16) hx hb dX3_init_54 (by decide) ?_
  have hPc := hP.sub (ws' := [(q_11, .inr (8, [.null, .null, .null, .int 0]))]) [1] rfl
  have hDc := hD.sub (ws' := [(q_11, .inr (8, [.null, .null, .null, .int 0]))]) [1] (by decide) rfl
  have hKc := hK.sub (tys' := []) [] rfl
  have hFc := va_free (wc := [(q_11, .inr (8, [.null, .null, .null, .int 0]))]) hD hS hA [1] rfl
  refine va_callv (va_runI (As := [.int 16]) (rest := [.ref q_11, .ref h0]) ⟨hx, hb, hml, hown, hts⟩ (c_X9_init_16 l dC dI H.size q_11 ) (cwI 1 hts gX3_init_X9_init rfl rfl rfl (hts (.initialized RX9) (by decide +kernel)) (hts (.methodLink RX3 27 yX9_init) (by decide +kernel)) (hts (.instanceMethod yX9_init) (by decide +kernel)) rfl (by decide +kernel) ⟨Nat.le_of_ble_eq_true rfl, Nat.le_of_ble_eq_true rfl⟩) ⟨fb_M, fun U hU hW => ⟨rfl, xM.at hPc hKc hDc hU hW⟩⟩ rfl rfl hl.1 rfl (lv_room (Nat.le_of_ble_eq_true rfl)) dX3_init_56 ⟨Nat.le_of_ble_eq_true rfl, Nat.le_of_ble_eq_true rfl⟩) hS (fun q _ h => hFc q h) hFc (fun u t H locs ht hvm hw hB hz1 hk1 hS => ?_)
  obtain ⟨q_12, cA_13, q_14, q_15, hB⟩ := hB
  obtain ⟨hP, hD, hK⟩ := xB.join (wr := [(h0, .inr (3, [.ref q_1, .ref q_3, .ref q_5, .ref q_7, .ref q_9, .null, .int 0]))]) (w1 := [(q_11, .inr (8, [.ref q_12, .ref q_14, .ref q_15, .int 0])), (q_12, .inl (cA_13, 16, .inl (fun _ => 0)))]) hP hD hK [1] [0] rfl rfl (by decide) (by decide) hk1 hFc hB ht hvm
  have hP : va_P (dC, dI) vwCl [(h0, .inr (3, [.ref q_1, .ref q_3, .ref q_5, .ref q_7, .ref q_9, .null, .int 0])), (q_11, .inr (8, [.ref q_12, .ref q_14, .ref q_15, .int 0])), (q_12, .inl (cA_13, 16, .inl (fun _ => 0)))] _ := hP
  have hD : va_D A [(h0, .inr (3, [.ref q_1, .ref q_3, .ref q_5, .ref q_7, .ref q_9, .null, .int 0])), (q_11, .inr (8, [.ref q_12, .ref q_14, .ref q_15, .int 0])), (q_12, .inl (cA_13, 16, .inl (fun _ => 0)))] := hD
  have hK : va_K (dC, dI) vwCl [(cA_2, .int), (cA_4, .int), (cA_6, .int), (cA_8, .int), (cA_10, .int), (cA_13, .int)] s := hK
  refine W.widen (k := 9) (n := 2052) (Nat.le_of_ble_eq_true rfl) (Nat.le_of_ble_eq_true rfl) ?_
  refine va_putF (D := (dC, dI)) (ci := 3) (v := .ref q_11) (ty := .object "FourTongues$Row") (C := RX3) (T := TX3) (N := 7) hx hb hts in_X3_init_RX3 tyX3 tyX3_ok nmX3 hown hK hP hD hS 0 rfl rfl 5 (by decide) (hts (.fieldLink RX3 30 "FourTongues$Guards" "answers" "LFourTongues$Row;") (by decide +kernel)) (fun _ h9 => h9) rfl hin rfl (by decide +kernel) rfl rfl (Nat.le_of_ble_eq_true rfl) dX3_init_59 (fun H locs hP hD hS => ?_)
  have hP : va_P (dC, dI) vwCl [(h0, .inr (3, [.ref q_1, .ref q_3, .ref q_5, .ref q_7, .ref q_9, .ref q_11, .int 0])), (q_11, .inr (8, [.ref q_12, .ref q_14, .ref q_15, .int 0])), (q_12, .inl (cA_13, 16, .inl (fun _ => 0)))] _ := hP
  have hD : va_D A [(h0, .inr (3, [.ref q_1, .ref q_3, .ref q_5, .ref q_7, .ref q_9, .ref q_11, .int 0])), (q_11, .inr (8, [.ref q_12, .ref q_14, .ref q_15, .int 0])), (q_12, .inl (cA_13, 16, .inl (fun _ => 0)))] := hD
  have hP := hP.sub (ws' := [(h0, .inr (3, [.ref q_1, .ref q_3, .ref q_5, .ref q_7, .ref q_9, .ref q_11, .int 0]))]) [0] rfl
  have hD := hD.sub (ws' := [(h0, .inr (3, [.ref q_1, .ref q_3, .ref q_5, .ref q_7, .ref q_9, .ref q_11, .int 0]))]) [0] (by decide) rfl
  refine lv_aload_n hx hb dX3_init_62 rfl (lv_at hl 0 rfl) ?_
  refine lv_iconst (v := 0) hx hb dX3_init_63 (by decide) ?_
  refine va_put (D := (dC, dI)) (ci := 3) (v := .int 0) (ty := .int) (C := RX3) (T := TX3) (N := 7) hx hb hts in_X3_init_RX3 tyX3 tyX3_ok nmX3 hown hK hP hD hS 0 rfl rfl 6 (by decide) (hts (.fieldLink RX3 34 "FourTongues$Guards" "count" "I") (by decide +kernel)) (fun _ h9 => h9) rfl (by decide +kernel) rfl rfl (Nat.le_of_ble_eq_true rfl) dX3_init_64 (fun H locs hP hD hS => ?_)
  have hP : va_P (dC, dI) vwCl [(h0, .inr (3, [.ref q_1, .ref q_3, .ref q_5, .ref q_7, .ref q_9, .ref q_11, .int 0]))] _ := hP
  have hD : va_D A [(h0, .inr (3, [.ref q_1, .ref q_3, .ref q_5, .ref q_7, .ref q_9, .ref q_11, .int 0]))] := hD
  have hP9 := hP.sub (ws' := [(h0, .inr (3, [.ref q_1, .ref q_3, .ref q_5, .ref q_7, .ref q_9, .ref q_11, .int 0]))]) [0] rfl
  have hD9 := hD.sub (ws' := [(h0, .inr (3, [.ref q_1, .ref q_3, .ref q_5, .ref q_7, .ref q_9, .ref q_11, .int 0]))]) [0] (by decide) rfl
  have hK9 := hK.sub (tys' := []) [] rfl
  exact W.vret hx hb hr (fun t ht hW => ⟨⟨(), rfl, trivial, ⟨q_1, q_3, q_5, q_7, q_9, q_11, by rw [ht]; exact hP9, va_K.moved hW.alike hK9, hD9⟩⟩, hS.F ht⟩) hS.2.2 dX3_init_67
end
section
set_option maxRecDepth 100000 in
theorem in_X5_init_RX5 : ∀ w ∈ u_ws RX5 TX5 5, w ∈ wsX5_init := by decide +kernel
set_option maxRecDepth 100000 in
theorem in_X10_init_RX10 : ∀ w ∈ u_ws RX10 TX10 16, w ∈ wsX10_init := by decide +kernel
set_option maxRecDepth 100000 in
theorem in_X7_init_RX10 : ∀ w ∈ u_ws RX10 TX10 16, w ∈ wsX7_init := by decide +kernel
set_option maxRecDepth 100000 in
theorem in_X7_init_RX7 : ∀ w ∈ u_ws RX7 TX7 11, w ∈ wsX7_init := by decide +kernel
set_option maxRecDepth 100000 in
theorem in_X4_init_RX1 : ∀ w ∈ u_ws RX1 TX1 5, w ∈ wsX4_init := by decide +kernel
set_option maxRecDepth 100000 in
theorem in_X4_init_RX2 : ∀ w ∈ u_ws RX2 TX2 8, w ∈ wsX4_init := by decide +kernel
set_option maxRecDepth 100000 in
theorem in_X4_init_RX3 : ∀ w ∈ u_ws RX3 TX3 7, w ∈ wsX4_init := by decide +kernel
set_option maxRecDepth 100000 in
theorem in_X4_init_RX4 : ∀ w ∈ u_ws RX4 TX4 17, w ∈ wsX4_init := by decide +kernel
set_option maxRecDepth 100000 in
theorem in_X4_init_RX9 : ∀ w ∈ u_ws RX9 TX9 4, w ∈ wsX4_init := by decide +kernel
set_option maxRecDepth 100000 in
theorem in_X11_init_RX0 : ∀ w ∈ u_ws RX0 TX0 6, w ∈ wsX11_init := by decide +kernel
set_option maxRecDepth 100000 in
theorem in_X11_init_RX11 : ∀ w ∈ u_ws RX11 TX11 9, w ∈ wsX11_init := by decide +kernel
set_option maxRecDepth 100000 in
theorem in_X11_init_RX4 : ∀ w ∈ u_ws RX4 TX4 17, w ∈ wsX11_init := by decide +kernel
set_option maxRecDepth 100000 in
theorem in_X11_init_RX5 : ∀ w ∈ u_ws RX5 TX5 5, w ∈ wsX11_init := by decide +kernel
set_option maxRecDepth 100000 in
theorem in_X11_init_RX7 : ∀ w ∈ u_ws RX7 TX7 11, w ∈ wsX11_init := by decide +kernel
set_option maxRecDepth 100000 in
theorem in_X11_init_RX8 : ∀ w ∈ u_ws RX8 TX8 8, w ∈ wsX11_init := by decide +kernel
set_option maxHeartbeats 4000000 in
set_option maxRecDepth 100000 in
theorem c_X5_init (l : Launch) (dC : Nat → ClassId) (dI : Nat → Nat → Nat) (sz : Nat) (h0 : Nat) (aK : Nat) (aV : Nat) : Met l yX5_init wsX5_init ({ frames := 4, cells := 3, slots := 156, locals := 85 }) (va_Pc [.ref h0] (fun U => xM (dC, dI) sz [(h0, .inr (5, [.null, .null, .null, .int 0, .int 0]))] [] U ∧ eS RX5 29 "zero index nothing sort size deep trap lost border any machine " 63 nmB aK aV (va_A [(h0, .inr (5, [.null, .null, .null, .int 0, .int 0]))] sz) U)) (va_Qv (fun _ : Unit => True) (fun (_ : Unit) t => ∃ (q_1 : Nat), ∃ (cA_2 : ClassId), ∃ (q_3 : Nat), ∃ (cA_4 : ClassId), ∃ (q_5 : Nat), ∃ (cA_6 : ClassId), ∃ (f0 : Nat → Int64), ∃ (f_9 : Nat → Int32), (f0 = (nmS 63).2.2) ∧ xB (dC, dI) [(h0, .inr (5, [.ref q_1, .ref q_3, .ref q_5, .int 11, .int 0])), (q_1, .inl (cA_2, 52, .inr (.inl f0))), (q_3, .inl (cA_4, 52, .inl f_9)), (q_5, .inl (cA_6, 52, .inl (fun _ => 0)))] [(cA_2, .long), (cA_4, .int), (cA_6, .int)] (va_A [(h0, .inr (5, [.null, .null, .null, .int 0, .int 0]))] sz) t) (va_A [(h0, .inr (5, [.null, .null, .null, .int 0, .int 0]))] sz)) 3 156 (va_A [(h0, .inr (5, [.null, .null, .null, .int 0, .int 0]))] sz) := by
  refine Met.ofW (cc := cX5_init) (maxL := 5) (ret := none) (by decide) rfl ?_
  intro p e s m args below meth c s₁ B hml hv
  obtain ⟨rfl, ⟨hsz, hP, hK, hD0⟩, hE⟩ := hv
  have hx := B.exec
  have hb := B.bytes
  have hr := B.returns
  have hts := atoms_spec (ws := wsX5_init) B.pre
  have hown : s.vm.findClass RX5 = some m.cls := findClass_of_methodNamed B.named
  have hlocks := B.notSynchronized
  have hin : meth.name = "<init>" := (name_of_methodNamed B.named B.method).1
  subst hsz
  have hD := hD0.self (sz := s.heap.size)
  generalize hAe : va_A [(h0, .inr (5, [.null, .null, .null, .int 0, .int 0]))] s.heap.size = A at hD hE ⊢
  have hA : ∀ q : Nat, s.heap.size ≤ q → A q := fun q h => by rw [← hAe]; exact Or.inr h
  have hS : va_S A s.heap s.heap [] := va_S.rf
  have hl := lv_entry ([.ref h0]) (n := 5) (Nat.le_of_ble_eq_true rfl)
  rw [lg_entry_eq]
  generalize (lg_sl ([.ref h0]) ++ List.replicate (5 - (lg_sl ([.ref h0])).length) Slot.unset).toArray = ls at hl ⊢
  have hl : lv_has ls 5 [(0, .ref h0)] := hl
  refine lv_aload_n hx hb dX5_init_0 rfl (lv_at hl 0 rfl) ?_
  refine W.objInit hx hb hown (hts (.methodLink RX5 3 objectInit) (by decide +kernel)) (hts (.instanceMethod objectInit) (by decide +kernel)) (hts (.code objectInit ⟨#[0xb1]⟩ 1 none) (by decide +kernel)) rfl (by rw [hml]; exact hl.1) rfl dX5_init_1 (Nat.le_of_ble_eq_true rfl) (Nat.le_of_ble_eq_true rfl) ?_
  refine W.eq (g2 := F0 m 4 ls []) rfl ?_
  refine lv_aload_n hx hb dX5_init_4 rfl (lv_at hl 0 rfl) ?_
  refine lv_bipush (v := 52) hx hb dX5_init_5 (by decide) ?_
  refine va_newa (atype := .long) (ty := .long) (a0 := (52, .inr (.inl (fun _ => 0)))) (N' := 52) hx hb (hts (.arrayClass .long) (by decide +kernel)) rfl hK hP hD hS hA (cz_long 52) (by decide +kernel) (by decide +kernel) (by decide +kernel) (Nat.le_of_ble_eq_true rfl) (Nat.le_of_ble_eq_true rfl) dX5_init_7 (fun q_1 cA_2 H hK hP hD hS => ?_)
  have hP : va_P (dC, dI) vwCl [(h0, .inr (5, [.null, .null, .null, .int 0, .int 0])), (q_1, .inl (cA_2, 52, .inr (.inl (fun _ => 0))))] _ := hP
  have hD : va_D A [(h0, .inr (5, [.null, .null, .null, .int 0, .int 0])), (q_1, .inl (cA_2, 52, .inr (.inl (fun _ => 0))))] := hD
  have hK : va_K (dC, dI) vwCl [(cA_2, .long)] s := hK
  refine W.widen (k := 1) (n := 52) (Nat.le_of_ble_eq_true rfl) (Nat.le_of_ble_eq_true rfl) ?_
  refine va_putF (D := (dC, dI)) (ci := 5) (v := .ref q_1) (ty := .array .long) (C := RX5) (T := TX5) (N := 5) hx hb hts in_X5_init_RX5 tyX5 tyX5_ok nmX5 hown hK hP hD hS 0 rfl rfl 0 (by decide) (hts (.fieldLink RX5 11 "FourTongues$Names" "packed" "[J") (by decide +kernel)) (fun _ h9 => h9) rfl hin rfl (by decide +kernel) rfl rfl (Nat.le_of_ble_eq_true rfl) dX5_init_9 (fun H locs hP hD hS => ?_)
  have hP : va_P (dC, dI) vwCl [(h0, .inr (5, [.ref q_1, .null, .null, .int 0, .int 0])), (q_1, .inl (cA_2, 52, .inr (.inl (fun _ => 0))))] _ := hP
  have hD : va_D A [(h0, .inr (5, [.ref q_1, .null, .null, .int 0, .int 0])), (q_1, .inl (cA_2, 52, .inr (.inl (fun _ => 0))))] := hD
  refine lv_aload_n hx hb dX5_init_12 rfl (lv_at hl 0 rfl) ?_
  refine lv_bipush (v := 52) hx hb dX5_init_13 (by decide) ?_
  refine va_newa (atype := .int) (ty := .int) (a0 := (52, .inl (fun _ => 0))) (N' := 52) hx hb (hts (.arrayClass .int) (by decide +kernel)) rfl hK hP hD hS hA (cz_int 52) (by decide +kernel) (by decide +kernel) (by decide +kernel) (Nat.le_of_ble_eq_true rfl) (Nat.le_of_ble_eq_true rfl) dX5_init_15 (fun q_3 cA_4 H hK hP hD hS => ?_)
  have hP : va_P (dC, dI) vwCl [(h0, .inr (5, [.ref q_1, .null, .null, .int 0, .int 0])), (q_1, .inl (cA_2, 52, .inr (.inl (fun _ => 0)))), (q_3, .inl (cA_4, 52, .inl (fun _ => 0)))] _ := hP
  have hD : va_D A [(h0, .inr (5, [.ref q_1, .null, .null, .int 0, .int 0])), (q_1, .inl (cA_2, 52, .inr (.inl (fun _ => 0)))), (q_3, .inl (cA_4, 52, .inl (fun _ => 0)))] := hD
  have hK : va_K (dC, dI) vwCl [(cA_2, .long), (cA_4, .int)] s := hK
  refine W.widen (k := 2) (n := 104) (Nat.le_of_ble_eq_true rfl) (Nat.le_of_ble_eq_true rfl) ?_
  refine va_putF (D := (dC, dI)) (ci := 5) (v := .ref q_3) (ty := .array .int) (C := RX5) (T := TX5) (N := 5) hx hb hts in_X5_init_RX5 tyX5 tyX5_ok nmX5 hown hK hP hD hS 0 rfl rfl 1 (by decide) (hts (.fieldLink RX5 15 "FourTongues$Names" "above" "[I") (by decide +kernel)) (fun _ h9 => h9) rfl hin rfl (by decide +kernel) rfl rfl (Nat.le_of_ble_eq_true rfl) dX5_init_17 (fun H locs hP hD hS => ?_)
  have hP : va_P (dC, dI) vwCl [(h0, .inr (5, [.ref q_1, .ref q_3, .null, .int 0, .int 0])), (q_1, .inl (cA_2, 52, .inr (.inl (fun _ => 0)))), (q_3, .inl (cA_4, 52, .inl (fun _ => 0)))] _ := hP
  have hD : va_D A [(h0, .inr (5, [.ref q_1, .ref q_3, .null, .int 0, .int 0])), (q_1, .inl (cA_2, 52, .inr (.inl (fun _ => 0)))), (q_3, .inl (cA_4, 52, .inl (fun _ => 0)))] := hD
  refine lv_aload_n hx hb dX5_init_20 rfl (lv_at hl 0 rfl) ?_
  refine lv_bipush (v := 52) hx hb dX5_init_21 (by decide) ?_
  refine va_newa (atype := .int) (ty := .int) (a0 := (52, .inl (fun _ => 0))) (N' := 52) hx hb (hts (.arrayClass .int) (by decide +kernel)) rfl hK hP hD hS hA (cz_int 52) (by decide +kernel) (by decide +kernel) (by decide +kernel) (Nat.le_of_ble_eq_true rfl) (Nat.le_of_ble_eq_true rfl) dX5_init_23 (fun q_5 cA_6 H hK hP hD hS => ?_)
  have hP : va_P (dC, dI) vwCl [(h0, .inr (5, [.ref q_1, .ref q_3, .null, .int 0, .int 0])), (q_1, .inl (cA_2, 52, .inr (.inl (fun _ => 0)))), (q_3, .inl (cA_4, 52, .inl (fun _ => 0))), (q_5, .inl (cA_6, 52, .inl (fun _ => 0)))] _ := hP
  have hD : va_D A [(h0, .inr (5, [.ref q_1, .ref q_3, .null, .int 0, .int 0])), (q_1, .inl (cA_2, 52, .inr (.inl (fun _ => 0)))), (q_3, .inl (cA_4, 52, .inl (fun _ => 0))), (q_5, .inl (cA_6, 52, .inl (fun _ => 0)))] := hD
  have hK : va_K (dC, dI) vwCl [(cA_2, .long), (cA_4, .int), (cA_6, .int)] s := hK
  refine W.widen (k := 3) (n := 156) (Nat.le_of_ble_eq_true rfl) (Nat.le_of_ble_eq_true rfl) ?_
  refine va_putF (D := (dC, dI)) (ci := 5) (v := .ref q_5) (ty := .array .int) (C := RX5) (T := TX5) (N := 5) hx hb hts in_X5_init_RX5 tyX5 tyX5_ok nmX5 hown hK hP hD hS 0 rfl rfl 2 (by decide) (hts (.fieldLink RX5 19 "FourTongues$Names" "keptAbove" "[I") (by decide +kernel)) (fun _ h9 => h9) rfl hin rfl (by decide +kernel) rfl rfl (Nat.le_of_ble_eq_true rfl) dX5_init_25 (fun H locs hP hD hS => ?_)
  have hP : va_P (dC, dI) vwCl [(h0, .inr (5, [.ref q_1, .ref q_3, .ref q_5, .int 0, .int 0])), (q_1, .inl (cA_2, 52, .inr (.inl (fun _ => 0)))), (q_3, .inl (cA_4, 52, .inl (fun _ => 0))), (q_5, .inl (cA_6, 52, .inl (fun _ => 0)))] _ := hP
  have hD : va_D A [(h0, .inr (5, [.ref q_1, .ref q_3, .ref q_5, .int 0, .int 0])), (q_1, .inl (cA_2, 52, .inr (.inl (fun _ => 0)))), (q_3, .inl (cA_4, 52, .inl (fun _ => 0))), (q_5, .inl (cA_6, 52, .inl (fun _ => 0)))] := hD
  refine lv_aload_n hx hb dX5_init_28 rfl (lv_at hl 0 rfl) ?_
  refine lv_iconst (v := 0) hx hb dX5_init_29 (by decide) ?_
  refine va_put (D := (dC, dI)) (ci := 5) (v := .int 0) (ty := .int) (C := RX5) (T := TX5) (N := 5) hx hb hts in_X5_init_RX5 tyX5 tyX5_ok nmX5 hown hK hP hD hS 0 rfl rfl 3 (by decide) (hts (.fieldLink RX5 22 "FourTongues$Names" "count" "I") (by decide +kernel)) (fun _ h9 => h9) rfl (by decide +kernel) rfl rfl (Nat.le_of_ble_eq_true rfl) dX5_init_30 (fun H locs hP hD hS => ?_)
  have hP : va_P (dC, dI) vwCl [(h0, .inr (5, [.ref q_1, .ref q_3, .ref q_5, .int 0, .int 0])), (q_1, .inl (cA_2, 52, .inr (.inl (fun _ => 0)))), (q_3, .inl (cA_4, 52, .inl (fun _ => 0))), (q_5, .inl (cA_6, 52, .inl (fun _ => 0)))] _ := hP
  have hD : va_D A [(h0, .inr (5, [.ref q_1, .ref q_3, .ref q_5, .int 0, .int 0])), (q_1, .inl (cA_2, 52, .inr (.inl (fun _ => 0)))), (q_3, .inl (cA_4, 52, .inl (fun _ => 0))), (q_5, .inl (cA_6, 52, .inl (fun _ => 0)))] := hD
  refine lv_aload_n hx hb dX5_init_33 rfl (lv_at hl 0 rfl) ?_
  refine lv_iconst (v := 0) hx hb dX5_init_34 (by decide) ?_
  refine va_put (D := (dC, dI)) (ci := 5) (v := .int 0) (ty := .int) (C := RX5) (T := TX5) (N := 5) hx hb hts in_X5_init_RX5 tyX5 tyX5_ok nmX5 hown hK hP hD hS 0 rfl rfl 4 (by decide) (hts (.fieldLink RX5 26 "FourTongues$Names" "keptCount" "I") (by decide +kernel)) (fun _ h9 => h9) rfl (by decide +kernel) rfl rfl (Nat.le_of_ble_eq_true rfl) dX5_init_35 (fun H locs hP hD hS => ?_)
  have hP : va_P (dC, dI) vwCl [(h0, .inr (5, [.ref q_1, .ref q_3, .ref q_5, .int 0, .int 0])), (q_1, .inl (cA_2, 52, .inr (.inl (fun _ => 0)))), (q_3, .inl (cA_4, 52, .inl (fun _ => 0))), (q_5, .inl (cA_6, 52, .inl (fun _ => 0)))] _ := hP
  have hD : va_D A [(h0, .inr (5, [.ref q_1, .ref q_3, .ref q_5, .int 0, .int 0])), (q_1, .inl (cA_2, 52, .inr (.inl (fun _ => 0)))), (q_3, .inl (cA_4, 52, .inl (fun _ => 0))), (q_5, .inl (cA_6, 52, .inl (fun _ => 0)))] := hD
  refine lv_lconst (v := 0) hx hb dX5_init_38 (by decide) ?_
  refine lv_lstore_n (lv' := [(1, .long 0), (0, .ref h0)]) hx hb dX5_init_39 rfl hl (by decide) rfl (fun ls hl => ?_)
  refine lv_iconst (v := 0) hx hb dX5_init_40 (by decide) ?_
  refine lv_istore_n (lv' := [(3, .int 0), (1, .long 0), (0, .ref h0)]) hx hb dX5_init_41 rfl hl (by decide) rfl (fun ls hl => ?_)
  have hl : lv_has ls 5 [(3, .int (nI 0)), (1, .long 0), (0, .ref h0)] := hl
  refine my_for (I := fun i H locs ls => ∃ (w0 : Int64), ∃ (c0 : Int32), ∃ (f0 : Nat → Int64), ∃ (g0 : Nat → Int32), (w0 = (nmS i).1) ∧ (c0 = (nmS i).2.1) ∧ (f0 = (nmS i).2.2) ∧ va_P (dC, dI) vwCl [(h0, .inr (5, [.ref q_1, .ref q_3, .ref q_5, .int c0, .int 0])), (q_1, .inl (cA_2, 52, .inr (.inl f0))), (q_3, .inl (cA_4, 52, .inl g0)), (q_5, .inl (cA_6, 52, .inl (fun _ => 0)))] H ∧ va_D A [(h0, .inr (5, [.ref q_1, .ref q_3, .ref q_5, .int c0, .int 0])), (q_1, .inl (cA_2, 52, .inr (.inl f0))), (q_3, .inl (cA_4, 52, .inl g0)), (q_5, .inl (cA_6, 52, .inl (fun _ => 0)))] ∧ va_S A s.heap H locs ∧ lv_has ls 5 [(0, .ref h0), (1, .long w0), (3, .int (nI i))]) 63 (fun i H locs ls hi hI ih => ?_) 0 _ _ ls (by omega) ⟨0, 0, (fun _ => 0), (fun _ => 0), rfl, rfl, rfl, hP.sub [0, 1, 2, 3] rfl, hD.sub [0, 1, 2, 3] (by decide) rfl, hS, lv_sub hl [2, 1, 0] rfl⟩
  obtain ⟨w0, c0, f0, g0, hi_0, hi_1, hi_2, hP, hD, hS, hl⟩ := hI
  refine lv_iload_n hx hb dX5_init_42 rfl (lv_at hl 2 rfl) ?_
  refine va_ldcS hx hb hown hE.2 dX5_init_43 ?_
  refine va_calli (va_runV (As := []) (rest := [.int (nI i)]) ⟨hx, hb, hml, hown, hts⟩ (c_J0_length_8abf5 l dC dI 63 nmB aK aV ) (cwV 0 hts gX5_init_J0_length_8abf5 rfl rfl rfl (by decide +kernel) ⟨Nat.le_of_ble_eq_true rfl, Nat.le_of_ble_eq_true rfl⟩) ⟨(fb_RE sE.fb), hE.1.recv hS, fun U hU hW => ⟨rfl, ⟨xR.at (hP.sub (ws' := []) [] rfl) (hK.sub (tys' := []) [] rfl) hU hW, hE.1.at hS (fun q h => h.elim) hU hW⟩⟩⟩ rfl rfl hl.1 rfl (lv_room (Nat.le_of_ble_eq_true rfl)) dX5_init_45 ⟨Nat.le_of_ble_eq_true rfl, Nat.le_of_ble_eq_true rfl⟩) hS (fun q _ h => h.elim) (fun q h => h.elim) (fun r_7 u t H locs ht hvm hw hB hz1 hk1 hS => ?_)
  have hw_8 := hw
  have hP := xR.keep hP hk1
  subst hw_8
  refine lv_icmp_ge (tgt := 140) hx hb dX5_init_48 (by decide) (fun c_48 => ?_) (fun c_48 => ?_)
  · have hge : 63 ≤ i := Nat.le_of_not_lt (fun q => (nI_ge q (by omega)) c_48)
    obtain rfl : i = 63 := by omega
    obtain rfl : c0 = 11 := by rw [hi_1]; decide +kernel
    refine lv_aload_n hx hb dX5_init_140 rfl (lv_at hl 0 rfl) ?_
    refine va_get (D := (dC, dI)) (ci := 5) (v := .ref q_3) (C := RX5) (T := TX5) (N := 5) hx hb hts in_X5_init_RX5 hown hK hP 0 rfl rfl 1 (by decide) (hts (.fieldLink RX5 15 "FourTongues$Names" "above" "[I") (by decide +kernel)) (fun _ h9 => h9) rfl dX5_init_141 ?_
    refine lv_bipush (v := 10) hx hb dX5_init_144 (by decide) ?_
    refine lv_iconst (v := 0) hx hb dX5_init_146 (by decide) ?_
    refine va_iast hx hb hK hP hD hS 2 1 rfl rfl (by unfold vp_in; decide) dX5_init_147 (fun H locs hP hD hS => ?_)
    obtain ⟨f_9, ef_9⟩ : ∃ y : Nat → Int32, y = upd g0 ((10 : Int32).toNatClampNeg) 0 := ⟨_, rfl⟩
    rw [← ef_9] at hP hD
    have hP : va_P (dC, dI) vwCl [(h0, .inr (5, [.ref q_1, .ref q_3, .ref q_5, .int 11, .int 0])), (q_1, .inl (cA_2, 52, .inr (.inl f0))), (q_3, .inl (cA_4, 52, .inl f_9)), (q_5, .inl (cA_6, 52, .inl (fun _ => 0)))] _ := hP
    have hD : va_D A [(h0, .inr (5, [.ref q_1, .ref q_3, .ref q_5, .int 11, .int 0])), (q_1, .inl (cA_2, 52, .inr (.inl f0))), (q_3, .inl (cA_4, 52, .inl f_9)), (q_5, .inl (cA_6, 52, .inl (fun _ => 0)))] := hD
    have hP9 := hP.sub (ws' := [(h0, .inr (5, [.ref q_1, .ref q_3, .ref q_5, .int 11, .int 0])), (q_1, .inl (cA_2, 52, .inr (.inl f0))), (q_3, .inl (cA_4, 52, .inl f_9)), (q_5, .inl (cA_6, 52, .inl (fun _ => 0)))]) [0, 1, 2, 3] rfl
    have hD9 := hD.sub (ws' := [(h0, .inr (5, [.ref q_1, .ref q_3, .ref q_5, .int 11, .int 0])), (q_1, .inl (cA_2, 52, .inr (.inl f0))), (q_3, .inl (cA_4, 52, .inl f_9)), (q_5, .inl (cA_6, 52, .inl (fun _ => 0)))]) [0, 1, 2, 3] (by decide) rfl
    have hK9 := hK.sub (tys' := [(cA_2, .long), (cA_4, .int), (cA_6, .int)]) [0, 1, 2] rfl
    exact W.vret hx hb hr (fun t ht hW => ⟨⟨(), rfl, trivial, ⟨q_1, cA_2, q_3, cA_4, q_5, cA_6, f0, f_9, hi_2, by rw [ht]; exact hP9, va_K.moved hW.alike hK9, hD9⟩⟩, hS.F ht⟩) hS.2.2 dX5_init_148
  · have hlt : i < 63 := Nat.lt_of_not_le (fun q => c_48 (nI_le q (by omega)))
    refine va_ldcS hx hb hown hE.2 dX5_init_51 ?_
    refine lv_iload_n hx hb dX5_init_53 rfl (lv_at hl 2 rfl) ?_
    refine va_calli (va_runV (As := [.int (nI i)]) (rest := []) ⟨hx, hb, hml, hown, hts⟩ (c_J0_charAt_5068e l dC dI 63 nmB aK aV (nI i) (vp_in_nI hlt (by decide)) (by decide)) (cwV 1 hts gX5_init_J0_charAt_5068e rfl rfl rfl (by decide +kernel) ⟨Nat.le_of_ble_eq_true rfl, Nat.le_of_ble_eq_true rfl⟩) ⟨(fb_RE sE.fb), hE.1.recv hS, fun U hU hW => ⟨rfl, ⟨xR.at (hP.sub (ws' := []) [] rfl) (hK.sub (tys' := []) [] rfl) hU hW, hE.1.at hS (fun q h => h.elim) hU hW⟩⟩⟩ rfl rfl hl.1 rfl (lv_room (Nat.le_of_ble_eq_true rfl)) dX5_init_54 ⟨Nat.le_of_ble_eq_true rfl, Nat.le_of_ble_eq_true rfl⟩) hS (fun q _ h => h.elim) (fun q h => h.elim) (fun r_10 u t H locs ht hvm hw hB hz1 hk1 hS => ?_)
    have hw_11 := hw
    have hP := xR.keep hP hk1
    rw [nI_clamp (show i < 2 ^ 31 by omega)] at hw_11
    refine lv_istore (lv' := [(4, .int r_10), (0, .ref h0), (1, .long w0), (3, .int (nI i))]) hx hb dX5_init_57 hl (by decide) rfl (fun ls hl => ?_)
    refine lv_iload hx hb dX5_init_59 (lv_at hl 0 rfl) ?_
    refine lv_bipush (v := 32) hx hb dX5_init_61 (by decide) ?_
    refine lv_icmp_ne (tgt := 125) hx hb dX5_init_63 (by decide) (fun c_63 => ?_) (fun c_63 => ?_)
    · refine lv_lload_n hx hb dX5_init_125 rfl (lv_at hl 2 rfl) ?_
      refine lv_bipush (v := 8) hx hb dX5_init_126 (by decide) ?_
      refine lv_lshl (v := w0 <<< ((8 : Int32).toInt64 &&& 63)) hx hb dX5_init_128 rfl ?_
      refine lv_iload hx hb dX5_init_129 (lv_at hl 0 rfl) ?_
      refine lv_i2l (v := r_10.toInt64) hx hb dX5_init_131 rfl ?_
      refine lv_lor hx hb dX5_init_132 ?_
      refine lv_lstore_n (lv' := [(1, .long ((w0 <<< ((8 : Int32).toInt64 &&& 63)) ||| r_10.toInt64)), (4, .int r_10), (0, .ref h0), (3, .int (nI i))]) hx hb dX5_init_133 rfl hl (by decide) rfl (fun ls hl => ?_)
      refine lv_iinc (v := nI (i + 1)) (lv' := [(3, .int (nI (i + 1))), (1, .long ((w0 <<< ((8 : Int32).toInt64 &&& 63)) ||| r_10.toInt64)), (4, .int r_10), (0, .ref h0)]) hx hb dX5_init_134 hl (k := 3) rfl (by exact nI_1 i) (by decide) rfl (fun ls hl => ?_)
      refine lv_goto (tgt := 42) hx hb dX5_init_137 (by decide) ?_
      have hs := nmS_ch (fun q => c_63 (hw_11.trans q))
      exact ih hlt _ _ _ ⟨_, c0, f0, g0, by rw [hs, hi_0, hw_11], by rw [hs, hi_1], by rw [hs, hi_2], hP.sub [0, 1, 2, 3] rfl, hD.sub [0, 1, 2, 3] (by decide) rfl, hS, lv_sub hl [3, 1, 0] rfl⟩
    · refine lv_aload_n hx hb dX5_init_66 rfl (lv_at hl 1 rfl) ?_
      refine va_get (D := (dC, dI)) (ci := 5) (v := .int c0) (C := RX5) (T := TX5) (N := 5) hx hb hts in_X5_init_RX5 hown hK hP 0 rfl rfl 3 (by decide) (hts (.fieldLink RX5 22 "FourTongues$Names" "count" "I") (by decide +kernel)) (fun _ h9 => h9) rfl dX5_init_67 ?_
      refine lv_bipush (v := 51) hx hb dX5_init_70 (by decide) ?_
      refine lv_icmp_ge (tgt := 125) hx hb dX5_init_72 (by decide) (fun c_72 => absurd c_72 (by rw [hi_1]; exact (nmS_in i hlt).1)) (fun c_72 => ?_)
      refine lv_aload_n hx hb dX5_init_75 rfl (lv_at hl 1 rfl) ?_
      refine lv_dup hx hb dX5_init_76 rfl ?_
      refine va_get (D := (dC, dI)) (ci := 5) (v := .int c0) (C := RX5) (T := TX5) (N := 5) hx hb hts in_X5_init_RX5 hown hK hP 0 rfl rfl 3 (by decide) (hts (.fieldLink RX5 22 "FourTongues$Names" "count" "I") (by decide +kernel)) (fun _ h9 => h9) rfl dX5_init_77 ?_
      refine lv_iconst (v := 1) hx hb dX5_init_80 (by decide) ?_
      refine lv_iadd hx hb dX5_init_81 ?_
      refine va_put (D := (dC, dI)) (ci := 5) (v := .int (c0 + 1)) (ty := .int) (C := RX5) (T := TX5) (N := 5) hx hb hts in_X5_init_RX5 tyX5 tyX5_ok nmX5 hown hK hP hD hS 0 rfl rfl 3 (by decide) (hts (.fieldLink RX5 22 "FourTongues$Names" "count" "I") (by decide +kernel)) (fun _ h9 => h9) rfl (by decide +kernel) rfl rfl (Nat.le_of_ble_eq_true rfl) dX5_init_82 (fun H locs hP hD hS => ?_)
      have hP : va_P (dC, dI) vwCl [(h0, .inr (5, [.ref q_1, .ref q_3, .ref q_5, .int (c0 + 1), .int 0])), (q_1, .inl (cA_2, 52, .inr (.inl f0))), (q_3, .inl (cA_4, 52, .inl g0)), (q_5, .inl (cA_6, 52, .inl (fun _ => 0)))] _ := hP
      have hD : va_D A [(h0, .inr (5, [.ref q_1, .ref q_3, .ref q_5, .int (c0 + 1), .int 0])), (q_1, .inl (cA_2, 52, .inr (.inl f0))), (q_3, .inl (cA_4, 52, .inl g0)), (q_5, .inl (cA_6, 52, .inl (fun _ => 0)))] := hD
      refine lv_aload_n hx hb dX5_init_85 rfl (lv_at hl 1 rfl) ?_
      refine va_get (D := (dC, dI)) (ci := 5) (v := .ref q_1) (C := RX5) (T := TX5) (N := 5) hx hb hts in_X5_init_RX5 hown hK hP 0 rfl rfl 0 (by decide) (hts (.fieldLink RX5 11 "FourTongues$Names" "packed" "[J") (by decide +kernel)) (fun _ h9 => h9) rfl dX5_init_86 ?_
      refine lv_aload_n hx hb dX5_init_89 rfl (lv_at hl 1 rfl) ?_
      refine va_get (D := (dC, dI)) (ci := 5) (v := .int (c0 + 1)) (C := RX5) (T := TX5) (N := 5) hx hb hts in_X5_init_RX5 hown hK hP 0 rfl rfl 3 (by decide) (hts (.fieldLink RX5 22 "FourTongues$Names" "count" "I") (by decide +kernel)) (fun _ h9 => h9) rfl dX5_init_90 ?_
      refine lv_lload_n hx hb dX5_init_93 rfl (lv_at hl 2 rfl) ?_
      refine va_last hx hb hK hP hD hS 1 0 rfl rfl (by rw [hi_1]; exact (nmS_in i hlt).2) dX5_init_94 (fun H locs hP hD hS => ?_)
      obtain ⟨f_12, ef_12⟩ : ∃ y : Nat → Int64, y = vp_updL f0 ((c0 + 1 : Int32).toNatClampNeg) w0 := ⟨_, rfl⟩
      rw [← ef_12] at hP hD
      have hP : va_P (dC, dI) vwCl [(h0, .inr (5, [.ref q_1, .ref q_3, .ref q_5, .int (c0 + 1), .int 0])), (q_1, .inl (cA_2, 52, .inr (.inl f_12))), (q_3, .inl (cA_4, 52, .inl g0)), (q_5, .inl (cA_6, 52, .inl (fun _ => 0)))] _ := hP
      have hD : va_D A [(h0, .inr (5, [.ref q_1, .ref q_3, .ref q_5, .int (c0 + 1), .int 0])), (q_1, .inl (cA_2, 52, .inr (.inl f_12))), (q_3, .inl (cA_4, 52, .inl g0)), (q_5, .inl (cA_6, 52, .inl (fun _ => 0)))] := hD
      refine lv_aload_n hx hb dX5_init_95 rfl (lv_at hl 1 rfl) ?_
      refine va_get (D := (dC, dI)) (ci := 5) (v := .ref q_3) (C := RX5) (T := TX5) (N := 5) hx hb hts in_X5_init_RX5 hown hK hP 0 rfl rfl 1 (by decide) (hts (.fieldLink RX5 15 "FourTongues$Names" "above" "[I") (by decide +kernel)) (fun _ h9 => h9) rfl dX5_init_96 ?_
      refine lv_aload_n hx hb dX5_init_99 rfl (lv_at hl 1 rfl) ?_
      refine va_get (D := (dC, dI)) (ci := 5) (v := .int (c0 + 1)) (C := RX5) (T := TX5) (N := 5) hx hb hts in_X5_init_RX5 hown hK hP 0 rfl rfl 3 (by decide) (hts (.fieldLink RX5 22 "FourTongues$Names" "count" "I") (by decide +kernel)) (fun _ h9 => h9) rfl dX5_init_100 ?_
      refine lv_aload_n hx hb dX5_init_103 rfl (lv_at hl 1 rfl) ?_
      refine va_get (D := (dC, dI)) (ci := 5) (v := .int (c0 + 1)) (C := RX5) (T := TX5) (N := 5) hx hb hts in_X5_init_RX5 hown hK hP 0 rfl rfl 3 (by decide) (hts (.fieldLink RX5 22 "FourTongues$Names" "count" "I") (by decide +kernel)) (fun _ h9 => h9) rfl dX5_init_104 ?_
      refine lv_bipush (v := 7) hx hb dX5_init_107 (by decide) ?_
      refine lv_icmp_gt (tgt := 117) hx hb dX5_init_109 (by decide) (fun c_109 => ?_) (fun c_109 => ?_)
      · refine lv_bipush (v := 10) hx hb dX5_init_117 (by decide) ?_
        refine va_iast hx hb hK hP hD hS 2 1 rfl rfl (by rw [hi_1]; exact (nmS_in i hlt).2) dX5_init_119 (fun H locs hP hD hS => ?_)
        obtain ⟨f_13, ef_13⟩ : ∃ y : Nat → Int32, y = upd g0 ((c0 + 1 : Int32).toNatClampNeg) 10 := ⟨_, rfl⟩
        rw [← ef_13] at hP hD
        have hP : va_P (dC, dI) vwCl [(h0, .inr (5, [.ref q_1, .ref q_3, .ref q_5, .int (c0 + 1), .int 0])), (q_1, .inl (cA_2, 52, .inr (.inl f_12))), (q_3, .inl (cA_4, 52, .inl f_13)), (q_5, .inl (cA_6, 52, .inl (fun _ => 0)))] _ := hP
        have hD : va_D A [(h0, .inr (5, [.ref q_1, .ref q_3, .ref q_5, .int (c0 + 1), .int 0])), (q_1, .inl (cA_2, 52, .inr (.inl f_12))), (q_3, .inl (cA_4, 52, .inl f_13)), (q_5, .inl (cA_6, 52, .inl (fun _ => 0)))] := hD
        refine lv_lconst (v := 0) hx hb dX5_init_120 (by decide) ?_
        refine lv_lstore_n (lv' := [(1, .long 0), (4, .int r_10), (0, .ref h0), (3, .int (nI i))]) hx hb dX5_init_121 rfl hl (by decide) rfl (fun ls hl => ?_)
        refine lv_goto (tgt := 134) hx hb dX5_init_122 (by decide) ?_
        refine lv_iinc (v := nI (i + 1)) (lv' := [(3, .int (nI (i + 1))), (1, .long 0), (4, .int r_10), (0, .ref h0)]) hx hb dX5_init_134 hl (k := 3) rfl (by exact nI_1 i) (by decide) rfl (fun ls hl => ?_)
        refine lv_goto (tgt := 42) hx hb dX5_init_137 (by decide) ?_
        have hs := nmS_sp (hw_11.symm.trans c_63)
        exact ih hlt _ _ _ ⟨0, (c0 + 1), f_12, f_13, by rw [hs], by rw [hs, hi_1], by rw [hs, ef_12, hi_0, hi_1, hi_2], hP.sub [0, 1, 2, 3] rfl, hD.sub [0, 1, 2, 3] (by decide) rfl, hS, lv_sub hl [3, 1, 0] rfl⟩
      · refine lv_bipush (v := 11) hx hb dX5_init_112 (by decide) ?_
        refine lv_goto (tgt := 119) hx hb dX5_init_114 (by decide) ?_
        refine va_iast hx hb hK hP hD hS 2 1 rfl rfl (by rw [hi_1]; exact (nmS_in i hlt).2) dX5_init_119 (fun H locs hP hD hS => ?_)
        obtain ⟨f_14, ef_14⟩ : ∃ y : Nat → Int32, y = upd g0 ((c0 + 1 : Int32).toNatClampNeg) 11 := ⟨_, rfl⟩
        rw [← ef_14] at hP hD
        have hP : va_P (dC, dI) vwCl [(h0, .inr (5, [.ref q_1, .ref q_3, .ref q_5, .int (c0 + 1), .int 0])), (q_1, .inl (cA_2, 52, .inr (.inl f_12))), (q_3, .inl (cA_4, 52, .inl f_14)), (q_5, .inl (cA_6, 52, .inl (fun _ => 0)))] _ := hP
        have hD : va_D A [(h0, .inr (5, [.ref q_1, .ref q_3, .ref q_5, .int (c0 + 1), .int 0])), (q_1, .inl (cA_2, 52, .inr (.inl f_12))), (q_3, .inl (cA_4, 52, .inl f_14)), (q_5, .inl (cA_6, 52, .inl (fun _ => 0)))] := hD
        refine lv_lconst (v := 0) hx hb dX5_init_120 (by decide) ?_
        refine lv_lstore_n (lv' := [(1, .long 0), (4, .int r_10), (0, .ref h0), (3, .int (nI i))]) hx hb dX5_init_121 rfl hl (by decide) rfl (fun ls hl => ?_)
        refine lv_goto (tgt := 134) hx hb dX5_init_122 (by decide) ?_
        refine lv_iinc (v := nI (i + 1)) (lv' := [(3, .int (nI (i + 1))), (1, .long 0), (4, .int r_10), (0, .ref h0)]) hx hb dX5_init_134 hl (k := 3) rfl (by exact nI_1 i) (by decide) rfl (fun ls hl => ?_)
        refine lv_goto (tgt := 42) hx hb dX5_init_137 (by decide) ?_
        have hs := nmS_sp (hw_11.symm.trans c_63)
        exact ih hlt _ _ _ ⟨0, (c0 + 1), f_12, f_14, by rw [hs], by rw [hs, hi_1], by rw [hs, ef_12, hi_0, hi_1, hi_2], hP.sub [0, 1, 2, 3] rfl, hD.sub [0, 1, 2, 3] (by decide) rfl, hS, lv_sub hl [3, 1, 0] rfl⟩

set_option maxHeartbeats 4000000 in
set_option maxRecDepth 100000 in
theorem c_X10_init (l : Launch) (dC : Nat → ClassId) (dI : Nat → Nat → Nat) (sz : Nat) (h0 : Nat) (aT : Nat) (bK : Nat) (bV : Nat) : Met l yX10_init wsX10_init ({ frames := 4, cells := 5, slots := 12037, locals := 85 }) (va_Pc [.ref h0, .ref aT] (fun U => xM (dC, dI) sz [(h0, .inr (9, [.null, .null, .null, .null, .null, .null, .int 0, .int 0, .int 0, .int 0, .int 0, .int 0, .int 0, .int 0, .long 0, .double 0]))] [] U ∧ eS RX10 67 "kind under fn let if else while return mark throw try catch finally fail on go with end exit open then clean do none new size cell tag bad throws codes values exits " 165 wdB bK bV (va_A [(h0, .inr (9, [.null, .null, .null, .null, .null, .null, .int 0, .int 0, .int 0, .int 0, .int 0, .int 0, .int 0, .int 0, .long 0, .double 0]))] sz) U)) (va_Qv (fun _ : Unit => True) (fun (_ : Unit) t => ∃ (q_1 : Nat), ∃ (q_3 : Nat), ∃ (cA_4 : ClassId), ∃ (q_5 : Nat), ∃ (cA_6 : ClassId), ∃ (q_7 : Nat), ∃ (cA_8 : ClassId), ∃ (q_9 : Nat), ∃ (cA_10 : ClassId), xB (dC, dI) [(h0, .inr (9, [.ref aT, .ref q_1, .ref q_3, .ref q_5, .ref q_7, .ref q_9, .int 0, .int 0, .int 0, .int 0, .int 0, .int 0, .int 0, .int 0, .long 0, .double FP.dconst0])), (q_3, .inl (cA_4, 3001, .inl (fun _ => 0))), (q_5, .inl (cA_6, 3001, .inl (fun _ => 0))), (q_7, .inl (cA_8, 3001, .inr (.inl (fun _ => 0)))), (q_9, .inl (cA_10, 3001, .inr (.inr (.inr (.inl (fun _ => 0))))))] [(cA_4, .int), (cA_6, .int), (cA_8, .long), (cA_10, .double)] (va_A [(h0, .inr (9, [.null, .null, .null, .null, .null, .null, .int 0, .int 0, .int 0, .int 0, .int 0, .int 0, .int 0, .int 0, .long 0, .double 0]))] sz) t) (va_A [(h0, .inr (9, [.null, .null, .null, .null, .null, .null, .int 0, .int 0, .int 0, .int 0, .int 0, .int 0, .int 0, .int 0, .long 0, .double 0]))] sz)) 5 12037 (va_A [(h0, .inr (9, [.null, .null, .null, .null, .null, .null, .int 0, .int 0, .int 0, .int 0, .int 0, .int 0, .int 0, .int 0, .long 0, .double 0]))] sz) := by
  refine Met.ofW (cc := cX10_init) (maxL := 7) (ret := none) (by decide) rfl ?_
  intro p e s m args below meth c s₁ B hml hv
  obtain ⟨rfl, ⟨hsz, hP, hK, hD0⟩, hE⟩ := hv
  have hx := B.exec
  have hb := B.bytes
  have hr := B.returns
  have hts := atoms_spec (ws := wsX10_init) B.pre
  have hown : s.vm.findClass RX10 = some m.cls := findClass_of_methodNamed B.named
  have hlocks := B.notSynchronized
  have hin : meth.name = "<init>" := (name_of_methodNamed B.named B.method).1
  subst hsz
  have hD := hD0.self (sz := s.heap.size)
  generalize hAe : va_A [(h0, .inr (9, [.null, .null, .null, .null, .null, .null, .int 0, .int 0, .int 0, .int 0, .int 0, .int 0, .int 0, .int 0, .long 0, .double 0]))] s.heap.size = A at hD hE ⊢
  have hA : ∀ q : Nat, s.heap.size ≤ q → A q := fun q h => by rw [← hAe]; exact Or.inr h
  have hS : va_S A s.heap s.heap [] := va_S.rf
  have hl := lv_entry ([.ref h0, .ref aT]) (n := 7) (Nat.le_of_ble_eq_true rfl)
  rw [lg_entry_eq]
  generalize (lg_sl ([.ref h0, .ref aT]) ++ List.replicate (7 - (lg_sl ([.ref h0, .ref aT])).length) Slot.unset).toArray = ls at hl ⊢
  have hl : lv_has ls 7 [(0, .ref h0), (1, .ref aT)] := hl
  refine lv_aload_n hx hb dX10_init_0 rfl (lv_at hl 0 rfl) ?_
  refine W.objInit hx hb hown (hts (.methodLink RX10 3 objectInit) (by decide +kernel)) (hts (.instanceMethod objectInit) (by decide +kernel)) (hts (.code objectInit ⟨#[0xb1]⟩ 1 none) (by decide +kernel)) rfl (by rw [hml]; exact hl.1) rfl dX10_init_1 (Nat.le_of_ble_eq_true rfl) (Nat.le_of_ble_eq_true rfl) ?_
  refine W.eq (g2 := F0 m 4 ls []) rfl ?_
  refine lv_aload_n hx hb dX10_init_4 rfl (lv_at hl 0 rfl) ?_
  refine lv_bipush (v := 33) hx hb dX10_init_5 (by decide) ?_
  refine va_newa (atype := .long) (ty := .long) (a0 := (33, .inr (.inl (fun _ => 0)))) (N' := 33) hx hb (hts (.arrayClass .long) (by decide +kernel)) rfl hK hP hD hS hA (cz_long 33) (by decide +kernel) (by decide +kernel) (by decide +kernel) (Nat.le_of_ble_eq_true rfl) (Nat.le_of_ble_eq_true rfl) dX10_init_7 (fun q_1 cA_2 H hK hP hD hS => ?_)
  have hP : va_P (dC, dI) vwCl [(h0, .inr (9, [.null, .null, .null, .null, .null, .null, .int 0, .int 0, .int 0, .int 0, .int 0, .int 0, .int 0, .int 0, .long 0, .double 0])), (q_1, .inl (cA_2, 33, .inr (.inl (fun _ => 0))))] _ := hP
  have hD : va_D A [(h0, .inr (9, [.null, .null, .null, .null, .null, .null, .int 0, .int 0, .int 0, .int 0, .int 0, .int 0, .int 0, .int 0, .long 0, .double 0])), (q_1, .inl (cA_2, 33, .inr (.inl (fun _ => 0))))] := hD
  have hK : va_K (dC, dI) vwCl [(cA_2, .long)] s := hK
  refine W.widen (k := 1) (n := 33) (Nat.le_of_ble_eq_true rfl) (Nat.le_of_ble_eq_true rfl) ?_
  refine va_putF (D := (dC, dI)) (ci := 9) (v := .ref q_1) (ty := .array .long) (C := RX10) (T := TX10) (N := 16) hx hb hts in_X10_init_RX10 tyX10 tyX10_ok nmX10 hown hK hP hD hS 0 rfl rfl 1 (by decide) (hts (.fieldLink RX10 11 "FourTongues$Tokens" "words" "[J") (by decide +kernel)) (fun _ h9 => h9) rfl hin rfl (by decide +kernel) rfl rfl (Nat.le_of_ble_eq_true rfl) dX10_init_9 (fun H locs hP hD hS => ?_)
  have hP : va_P (dC, dI) vwCl [(h0, .inr (9, [.null, .ref q_1, .null, .null, .null, .null, .int 0, .int 0, .int 0, .int 0, .int 0, .int 0, .int 0, .int 0, .long 0, .double 0])), (q_1, .inl (cA_2, 33, .inr (.inl (fun _ => 0))))] _ := hP
  have hD : va_D A [(h0, .inr (9, [.null, .ref q_1, .null, .null, .null, .null, .int 0, .int 0, .int 0, .int 0, .int 0, .int 0, .int 0, .int 0, .long 0, .double 0])), (q_1, .inl (cA_2, 33, .inr (.inl (fun _ => 0))))] := hD
  refine lv_aload_n hx hb dX10_init_12 rfl (lv_at hl 0 rfl) ?_
  refine lv_sipush (v := 3001) hx hb dX10_init_13 (by decide) ?_
  refine va_newa (atype := .int) (ty := .int) (a0 := (3001, .inl (fun _ => 0))) (N' := 3001) hx hb (hts (.arrayClass .int) (by decide +kernel)) rfl hK hP hD hS hA (cz_int 3001) (by decide +kernel) (by decide +kernel) (by decide +kernel) (Nat.le_of_ble_eq_true rfl) (Nat.le_of_ble_eq_true rfl) dX10_init_16 (fun q_3 cA_4 H hK hP hD hS => ?_)
  have hP : va_P (dC, dI) vwCl [(h0, .inr (9, [.null, .ref q_1, .null, .null, .null, .null, .int 0, .int 0, .int 0, .int 0, .int 0, .int 0, .int 0, .int 0, .long 0, .double 0])), (q_1, .inl (cA_2, 33, .inr (.inl (fun _ => 0)))), (q_3, .inl (cA_4, 3001, .inl (fun _ => 0)))] _ := hP
  have hD : va_D A [(h0, .inr (9, [.null, .ref q_1, .null, .null, .null, .null, .int 0, .int 0, .int 0, .int 0, .int 0, .int 0, .int 0, .int 0, .long 0, .double 0])), (q_1, .inl (cA_2, 33, .inr (.inl (fun _ => 0)))), (q_3, .inl (cA_4, 3001, .inl (fun _ => 0)))] := hD
  have hK : va_K (dC, dI) vwCl [(cA_2, .long), (cA_4, .int)] s := hK
  refine W.widen (k := 2) (n := 3034) (Nat.le_of_ble_eq_true rfl) (Nat.le_of_ble_eq_true rfl) ?_
  refine va_putF (D := (dC, dI)) (ci := 9) (v := .ref q_3) (ty := .array .int) (C := RX10) (T := TX10) (N := 16) hx hb hts in_X10_init_RX10 tyX10 tyX10_ok nmX10 hown hK hP hD hS 0 rfl rfl 2 (by decide) (hts (.fieldLink RX10 15 "FourTongues$Tokens" "kinds" "[I") (by decide +kernel)) (fun _ h9 => h9) rfl hin rfl (by decide +kernel) rfl rfl (Nat.le_of_ble_eq_true rfl) dX10_init_18 (fun H locs hP hD hS => ?_)
  have hP : va_P (dC, dI) vwCl [(h0, .inr (9, [.null, .ref q_1, .ref q_3, .null, .null, .null, .int 0, .int 0, .int 0, .int 0, .int 0, .int 0, .int 0, .int 0, .long 0, .double 0])), (q_1, .inl (cA_2, 33, .inr (.inl (fun _ => 0)))), (q_3, .inl (cA_4, 3001, .inl (fun _ => 0)))] _ := hP
  have hD : va_D A [(h0, .inr (9, [.null, .ref q_1, .ref q_3, .null, .null, .null, .int 0, .int 0, .int 0, .int 0, .int 0, .int 0, .int 0, .int 0, .long 0, .double 0])), (q_1, .inl (cA_2, 33, .inr (.inl (fun _ => 0)))), (q_3, .inl (cA_4, 3001, .inl (fun _ => 0)))] := hD
  refine lv_aload_n hx hb dX10_init_21 rfl (lv_at hl 0 rfl) ?_
  refine lv_sipush (v := 3001) hx hb dX10_init_22 (by decide) ?_
  refine va_newa (atype := .int) (ty := .int) (a0 := (3001, .inl (fun _ => 0))) (N' := 3001) hx hb (hts (.arrayClass .int) (by decide +kernel)) rfl hK hP hD hS hA (cz_int 3001) (by decide +kernel) (by decide +kernel) (by decide +kernel) (Nat.le_of_ble_eq_true rfl) (Nat.le_of_ble_eq_true rfl) dX10_init_25 (fun q_5 cA_6 H hK hP hD hS => ?_)
  have hP : va_P (dC, dI) vwCl [(h0, .inr (9, [.null, .ref q_1, .ref q_3, .null, .null, .null, .int 0, .int 0, .int 0, .int 0, .int 0, .int 0, .int 0, .int 0, .long 0, .double 0])), (q_1, .inl (cA_2, 33, .inr (.inl (fun _ => 0)))), (q_3, .inl (cA_4, 3001, .inl (fun _ => 0))), (q_5, .inl (cA_6, 3001, .inl (fun _ => 0)))] _ := hP
  have hD : va_D A [(h0, .inr (9, [.null, .ref q_1, .ref q_3, .null, .null, .null, .int 0, .int 0, .int 0, .int 0, .int 0, .int 0, .int 0, .int 0, .long 0, .double 0])), (q_1, .inl (cA_2, 33, .inr (.inl (fun _ => 0)))), (q_3, .inl (cA_4, 3001, .inl (fun _ => 0))), (q_5, .inl (cA_6, 3001, .inl (fun _ => 0)))] := hD
  have hK : va_K (dC, dI) vwCl [(cA_2, .long), (cA_4, .int), (cA_6, .int)] s := hK
  refine W.widen (k := 3) (n := 6035) (Nat.le_of_ble_eq_true rfl) (Nat.le_of_ble_eq_true rfl) ?_
  refine va_putF (D := (dC, dI)) (ci := 9) (v := .ref q_5) (ty := .array .int) (C := RX10) (T := TX10) (N := 16) hx hb hts in_X10_init_RX10 tyX10 tyX10_ok nmX10 hown hK hP hD hS 0 rfl rfl 3 (by decide) (hts (.fieldLink RX10 19 "FourTongues$Tokens" "places" "[I") (by decide +kernel)) (fun _ h9 => h9) rfl hin rfl (by decide +kernel) rfl rfl (Nat.le_of_ble_eq_true rfl) dX10_init_27 (fun H locs hP hD hS => ?_)
  have hP : va_P (dC, dI) vwCl [(h0, .inr (9, [.null, .ref q_1, .ref q_3, .ref q_5, .null, .null, .int 0, .int 0, .int 0, .int 0, .int 0, .int 0, .int 0, .int 0, .long 0, .double 0])), (q_1, .inl (cA_2, 33, .inr (.inl (fun _ => 0)))), (q_3, .inl (cA_4, 3001, .inl (fun _ => 0))), (q_5, .inl (cA_6, 3001, .inl (fun _ => 0)))] _ := hP
  have hD : va_D A [(h0, .inr (9, [.null, .ref q_1, .ref q_3, .ref q_5, .null, .null, .int 0, .int 0, .int 0, .int 0, .int 0, .int 0, .int 0, .int 0, .long 0, .double 0])), (q_1, .inl (cA_2, 33, .inr (.inl (fun _ => 0)))), (q_3, .inl (cA_4, 3001, .inl (fun _ => 0))), (q_5, .inl (cA_6, 3001, .inl (fun _ => 0)))] := hD
  refine lv_aload_n hx hb dX10_init_30 rfl (lv_at hl 0 rfl) ?_
  refine lv_sipush (v := 3001) hx hb dX10_init_31 (by decide) ?_
  refine va_newa (atype := .long) (ty := .long) (a0 := (3001, .inr (.inl (fun _ => 0)))) (N' := 3001) hx hb (hts (.arrayClass .long) (by decide +kernel)) rfl hK hP hD hS hA (cz_long 3001) (by decide +kernel) (by decide +kernel) (by decide +kernel) (Nat.le_of_ble_eq_true rfl) (Nat.le_of_ble_eq_true rfl) dX10_init_34 (fun q_7 cA_8 H hK hP hD hS => ?_)
  have hP : va_P (dC, dI) vwCl [(h0, .inr (9, [.null, .ref q_1, .ref q_3, .ref q_5, .null, .null, .int 0, .int 0, .int 0, .int 0, .int 0, .int 0, .int 0, .int 0, .long 0, .double 0])), (q_1, .inl (cA_2, 33, .inr (.inl (fun _ => 0)))), (q_3, .inl (cA_4, 3001, .inl (fun _ => 0))), (q_5, .inl (cA_6, 3001, .inl (fun _ => 0))), (q_7, .inl (cA_8, 3001, .inr (.inl (fun _ => 0))))] _ := hP
  have hD : va_D A [(h0, .inr (9, [.null, .ref q_1, .ref q_3, .ref q_5, .null, .null, .int 0, .int 0, .int 0, .int 0, .int 0, .int 0, .int 0, .int 0, .long 0, .double 0])), (q_1, .inl (cA_2, 33, .inr (.inl (fun _ => 0)))), (q_3, .inl (cA_4, 3001, .inl (fun _ => 0))), (q_5, .inl (cA_6, 3001, .inl (fun _ => 0))), (q_7, .inl (cA_8, 3001, .inr (.inl (fun _ => 0))))] := hD
  have hK : va_K (dC, dI) vwCl [(cA_2, .long), (cA_4, .int), (cA_6, .int), (cA_8, .long)] s := hK
  refine W.widen (k := 4) (n := 9036) (Nat.le_of_ble_eq_true rfl) (Nat.le_of_ble_eq_true rfl) ?_
  refine va_putF (D := (dC, dI)) (ci := 9) (v := .ref q_7) (ty := .array .long) (C := RX10) (T := TX10) (N := 16) hx hb hts in_X10_init_RX10 tyX10 tyX10_ok nmX10 hown hK hP hD hS 0 rfl rfl 4 (by decide) (hts (.fieldLink RX10 22 "FourTongues$Tokens" "wholes" "[J") (by decide +kernel)) (fun _ h9 => h9) rfl hin rfl (by decide +kernel) rfl rfl (Nat.le_of_ble_eq_true rfl) dX10_init_36 (fun H locs hP hD hS => ?_)
  have hP : va_P (dC, dI) vwCl [(h0, .inr (9, [.null, .ref q_1, .ref q_3, .ref q_5, .ref q_7, .null, .int 0, .int 0, .int 0, .int 0, .int 0, .int 0, .int 0, .int 0, .long 0, .double 0])), (q_1, .inl (cA_2, 33, .inr (.inl (fun _ => 0)))), (q_3, .inl (cA_4, 3001, .inl (fun _ => 0))), (q_5, .inl (cA_6, 3001, .inl (fun _ => 0))), (q_7, .inl (cA_8, 3001, .inr (.inl (fun _ => 0))))] _ := hP
  have hD : va_D A [(h0, .inr (9, [.null, .ref q_1, .ref q_3, .ref q_5, .ref q_7, .null, .int 0, .int 0, .int 0, .int 0, .int 0, .int 0, .int 0, .int 0, .long 0, .double 0])), (q_1, .inl (cA_2, 33, .inr (.inl (fun _ => 0)))), (q_3, .inl (cA_4, 3001, .inl (fun _ => 0))), (q_5, .inl (cA_6, 3001, .inl (fun _ => 0))), (q_7, .inl (cA_8, 3001, .inr (.inl (fun _ => 0))))] := hD
  refine lv_aload_n hx hb dX10_init_39 rfl (lv_at hl 0 rfl) ?_
  refine lv_sipush (v := 3001) hx hb dX10_init_40 (by decide) ?_
  refine va_newa (atype := .double) (ty := .double) (a0 := (3001, .inr (.inr (.inr (.inl (fun _ => 0)))))) (N' := 3001) hx hb (hts (.arrayClass .double) (by decide +kernel)) rfl hK hP hD hS hA (cz_double 3001) (by decide +kernel) (by decide +kernel) (by decide +kernel) (Nat.le_of_ble_eq_true rfl) (Nat.le_of_ble_eq_true rfl) dX10_init_43 (fun q_9 cA_10 H hK hP hD hS => ?_)
  have hP : va_P (dC, dI) vwCl [(h0, .inr (9, [.null, .ref q_1, .ref q_3, .ref q_5, .ref q_7, .null, .int 0, .int 0, .int 0, .int 0, .int 0, .int 0, .int 0, .int 0, .long 0, .double 0])), (q_1, .inl (cA_2, 33, .inr (.inl (fun _ => 0)))), (q_3, .inl (cA_4, 3001, .inl (fun _ => 0))), (q_5, .inl (cA_6, 3001, .inl (fun _ => 0))), (q_7, .inl (cA_8, 3001, .inr (.inl (fun _ => 0)))), (q_9, .inl (cA_10, 3001, .inr (.inr (.inr (.inl (fun _ => 0))))))] _ := hP
  have hD : va_D A [(h0, .inr (9, [.null, .ref q_1, .ref q_3, .ref q_5, .ref q_7, .null, .int 0, .int 0, .int 0, .int 0, .int 0, .int 0, .int 0, .int 0, .long 0, .double 0])), (q_1, .inl (cA_2, 33, .inr (.inl (fun _ => 0)))), (q_3, .inl (cA_4, 3001, .inl (fun _ => 0))), (q_5, .inl (cA_6, 3001, .inl (fun _ => 0))), (q_7, .inl (cA_8, 3001, .inr (.inl (fun _ => 0)))), (q_9, .inl (cA_10, 3001, .inr (.inr (.inr (.inl (fun _ => 0))))))] := hD
  have hK : va_K (dC, dI) vwCl [(cA_2, .long), (cA_4, .int), (cA_6, .int), (cA_8, .long), (cA_10, .double)] s := hK
  refine W.widen (k := 5) (n := 12037) (Nat.le_of_ble_eq_true rfl) (Nat.le_of_ble_eq_true rfl) ?_
  refine va_putF (D := (dC, dI)) (ci := 9) (v := .ref q_9) (ty := .array .double) (C := RX10) (T := TX10) (N := 16) hx hb hts in_X10_init_RX10 tyX10 tyX10_ok nmX10 hown hK hP hD hS 0 rfl rfl 5 (by decide) (hts (.fieldLink RX10 25 "FourTongues$Tokens" "reals" "[D") (by decide +kernel)) (fun _ h9 => h9) rfl hin rfl (by decide +kernel) rfl rfl (Nat.le_of_ble_eq_true rfl) dX10_init_45 (fun H locs hP hD hS => ?_)
  have hP : va_P (dC, dI) vwCl [(h0, .inr (9, [.null, .ref q_1, .ref q_3, .ref q_5, .ref q_7, .ref q_9, .int 0, .int 0, .int 0, .int 0, .int 0, .int 0, .int 0, .int 0, .long 0, .double 0])), (q_1, .inl (cA_2, 33, .inr (.inl (fun _ => 0)))), (q_3, .inl (cA_4, 3001, .inl (fun _ => 0))), (q_5, .inl (cA_6, 3001, .inl (fun _ => 0))), (q_7, .inl (cA_8, 3001, .inr (.inl (fun _ => 0)))), (q_9, .inl (cA_10, 3001, .inr (.inr (.inr (.inl (fun _ => 0))))))] _ := hP
  have hD : va_D A [(h0, .inr (9, [.null, .ref q_1, .ref q_3, .ref q_5, .ref q_7, .ref q_9, .int 0, .int 0, .int 0, .int 0, .int 0, .int 0, .int 0, .int 0, .long 0, .double 0])), (q_1, .inl (cA_2, 33, .inr (.inl (fun _ => 0)))), (q_3, .inl (cA_4, 3001, .inl (fun _ => 0))), (q_5, .inl (cA_6, 3001, .inl (fun _ => 0))), (q_7, .inl (cA_8, 3001, .inr (.inl (fun _ => 0)))), (q_9, .inl (cA_10, 3001, .inr (.inr (.inr (.inl (fun _ => 0))))))] := hD
  refine lv_aload_n hx hb dX10_init_48 rfl (lv_at hl 0 rfl) ?_
  refine lv_iconst (v := 0) hx hb dX10_init_49 (by decide) ?_
  refine va_put (D := (dC, dI)) (ci := 9) (v := .int 0) (ty := .int) (C := RX10) (T := TX10) (N := 16) hx hb hts in_X10_init_RX10 tyX10 tyX10_ok nmX10 hown hK hP hD hS 0 rfl rfl 6 (by decide) (hts (.fieldLink RX10 29 "FourTongues$Tokens" "count" "I") (by decide +kernel)) (fun _ h9 => h9) rfl (by decide +kernel) rfl rfl (Nat.le_of_ble_eq_true rfl) dX10_init_50 (fun H locs hP hD hS => ?_)
  have hP : va_P (dC, dI) vwCl [(h0, .inr (9, [.null, .ref q_1, .ref q_3, .ref q_5, .ref q_7, .ref q_9, .int 0, .int 0, .int 0, .int 0, .int 0, .int 0, .int 0, .int 0, .long 0, .double 0])), (q_1, .inl (cA_2, 33, .inr (.inl (fun _ => 0)))), (q_3, .inl (cA_4, 3001, .inl (fun _ => 0))), (q_5, .inl (cA_6, 3001, .inl (fun _ => 0))), (q_7, .inl (cA_8, 3001, .inr (.inl (fun _ => 0)))), (q_9, .inl (cA_10, 3001, .inr (.inr (.inr (.inl (fun _ => 0))))))] _ := hP
  have hD : va_D A [(h0, .inr (9, [.null, .ref q_1, .ref q_3, .ref q_5, .ref q_7, .ref q_9, .int 0, .int 0, .int 0, .int 0, .int 0, .int 0, .int 0, .int 0, .long 0, .double 0])), (q_1, .inl (cA_2, 33, .inr (.inl (fun _ => 0)))), (q_3, .inl (cA_4, 3001, .inl (fun _ => 0))), (q_5, .inl (cA_6, 3001, .inl (fun _ => 0))), (q_7, .inl (cA_8, 3001, .inr (.inl (fun _ => 0)))), (q_9, .inl (cA_10, 3001, .inr (.inr (.inr (.inl (fun _ => 0))))))] := hD
  refine lv_aload_n hx hb dX10_init_53 rfl (lv_at hl 0 rfl) ?_
  refine lv_iconst (v := 0) hx hb dX10_init_54 (by decide) ?_
  refine va_put (D := (dC, dI)) (ci := 9) (v := .int 0) (ty := .int) (C := RX10) (T := TX10) (N := 16) hx hb hts in_X10_init_RX10 tyX10 tyX10_ok nmX10 hown hK hP hD hS 0 rfl rfl 7 (by decide) (hts (.fieldLink RX10 33 "FourTongues$Tokens" "length" "I") (by decide +kernel)) (fun _ h9 => h9) rfl (by decide +kernel) rfl rfl (Nat.le_of_ble_eq_true rfl) dX10_init_55 (fun H locs hP hD hS => ?_)
  have hP : va_P (dC, dI) vwCl [(h0, .inr (9, [.null, .ref q_1, .ref q_3, .ref q_5, .ref q_7, .ref q_9, .int 0, .int 0, .int 0, .int 0, .int 0, .int 0, .int 0, .int 0, .long 0, .double 0])), (q_1, .inl (cA_2, 33, .inr (.inl (fun _ => 0)))), (q_3, .inl (cA_4, 3001, .inl (fun _ => 0))), (q_5, .inl (cA_6, 3001, .inl (fun _ => 0))), (q_7, .inl (cA_8, 3001, .inr (.inl (fun _ => 0)))), (q_9, .inl (cA_10, 3001, .inr (.inr (.inr (.inl (fun _ => 0))))))] _ := hP
  have hD : va_D A [(h0, .inr (9, [.null, .ref q_1, .ref q_3, .ref q_5, .ref q_7, .ref q_9, .int 0, .int 0, .int 0, .int 0, .int 0, .int 0, .int 0, .int 0, .long 0, .double 0])), (q_1, .inl (cA_2, 33, .inr (.inl (fun _ => 0)))), (q_3, .inl (cA_4, 3001, .inl (fun _ => 0))), (q_5, .inl (cA_6, 3001, .inl (fun _ => 0))), (q_7, .inl (cA_8, 3001, .inr (.inl (fun _ => 0)))), (q_9, .inl (cA_10, 3001, .inr (.inr (.inr (.inl (fun _ => 0))))))] := hD
  refine lv_aload_n hx hb dX10_init_58 rfl (lv_at hl 0 rfl) ?_
  refine lv_iconst (v := 0) hx hb dX10_init_59 (by decide) ?_
  refine va_put (D := (dC, dI)) (ci := 9) (v := .int 0) (ty := .int) (C := RX10) (T := TX10) (N := 16) hx hb hts in_X10_init_RX10 tyX10 tyX10_ok nmX10 hown hK hP hD hS 0 rfl rfl 8 (by decide) (hts (.fieldLink RX10 36 "FourTongues$Tokens" "tongue" "I") (by decide +kernel)) (fun _ h9 => h9) rfl (by decide +kernel) rfl rfl (Nat.le_of_ble_eq_true rfl) dX10_init_60 (fun H locs hP hD hS => ?_)
  have hP : va_P (dC, dI) vwCl [(h0, .inr (9, [.null, .ref q_1, .ref q_3, .ref q_5, .ref q_7, .ref q_9, .int 0, .int 0, .int 0, .int 0, .int 0, .int 0, .int 0, .int 0, .long 0, .double 0])), (q_1, .inl (cA_2, 33, .inr (.inl (fun _ => 0)))), (q_3, .inl (cA_4, 3001, .inl (fun _ => 0))), (q_5, .inl (cA_6, 3001, .inl (fun _ => 0))), (q_7, .inl (cA_8, 3001, .inr (.inl (fun _ => 0)))), (q_9, .inl (cA_10, 3001, .inr (.inr (.inr (.inl (fun _ => 0))))))] _ := hP
  have hD : va_D A [(h0, .inr (9, [.null, .ref q_1, .ref q_3, .ref q_5, .ref q_7, .ref q_9, .int 0, .int 0, .int 0, .int 0, .int 0, .int 0, .int 0, .int 0, .long 0, .double 0])), (q_1, .inl (cA_2, 33, .inr (.inl (fun _ => 0)))), (q_3, .inl (cA_4, 3001, .inl (fun _ => 0))), (q_5, .inl (cA_6, 3001, .inl (fun _ => 0))), (q_7, .inl (cA_8, 3001, .inr (.inl (fun _ => 0)))), (q_9, .inl (cA_10, 3001, .inr (.inr (.inr (.inl (fun _ => 0))))))] := hD
  refine lv_aload_n hx hb dX10_init_63 rfl (lv_at hl 0 rfl) ?_
  refine lv_iconst (v := 0) hx hb dX10_init_64 (by decide) ?_
  refine va_put (D := (dC, dI)) (ci := 9) (v := .int 0) (ty := .int) (C := RX10) (T := TX10) (N := 16) hx hb hts in_X10_init_RX10 tyX10 tyX10_ok nmX10 hown hK hP hD hS 0 rfl rfl 9 (by decide) (hts (.fieldLink RX10 39 "FourTongues$Tokens" "at" "I") (by decide +kernel)) (fun _ h9 => h9) rfl (by decide +kernel) rfl rfl (Nat.le_of_ble_eq_true rfl) dX10_init_65 (fun H locs hP hD hS => ?_)
  have hP : va_P (dC, dI) vwCl [(h0, .inr (9, [.null, .ref q_1, .ref q_3, .ref q_5, .ref q_7, .ref q_9, .int 0, .int 0, .int 0, .int 0, .int 0, .int 0, .int 0, .int 0, .long 0, .double 0])), (q_1, .inl (cA_2, 33, .inr (.inl (fun _ => 0)))), (q_3, .inl (cA_4, 3001, .inl (fun _ => 0))), (q_5, .inl (cA_6, 3001, .inl (fun _ => 0))), (q_7, .inl (cA_8, 3001, .inr (.inl (fun _ => 0)))), (q_9, .inl (cA_10, 3001, .inr (.inr (.inr (.inl (fun _ => 0))))))] _ := hP
  have hD : va_D A [(h0, .inr (9, [.null, .ref q_1, .ref q_3, .ref q_5, .ref q_7, .ref q_9, .int 0, .int 0, .int 0, .int 0, .int 0, .int 0, .int 0, .int 0, .long 0, .double 0])), (q_1, .inl (cA_2, 33, .inr (.inl (fun _ => 0)))), (q_3, .inl (cA_4, 3001, .inl (fun _ => 0))), (q_5, .inl (cA_6, 3001, .inl (fun _ => 0))), (q_7, .inl (cA_8, 3001, .inr (.inl (fun _ => 0)))), (q_9, .inl (cA_10, 3001, .inr (.inr (.inr (.inl (fun _ => 0))))))] := hD
  refine lv_aload_n hx hb dX10_init_68 rfl (lv_at hl 0 rfl) ?_
  refine lv_iconst (v := 0) hx hb dX10_init_69 (by decide) ?_
  refine va_put (D := (dC, dI)) (ci := 9) (v := .int 0) (ty := .int) (C := RX10) (T := TX10) (N := 16) hx hb hts in_X10_init_RX10 tyX10 tyX10_ok nmX10 hown hK hP hD hS 0 rfl rfl 10 (by decide) (hts (.fieldLink RX10 42 "FourTongues$Tokens" "now" "I") (by decide +kernel)) (fun _ h9 => h9) rfl (by decide +kernel) rfl rfl (Nat.le_of_ble_eq_true rfl) dX10_init_70 (fun H locs hP hD hS => ?_)
  have hP : va_P (dC, dI) vwCl [(h0, .inr (9, [.null, .ref q_1, .ref q_3, .ref q_5, .ref q_7, .ref q_9, .int 0, .int 0, .int 0, .int 0, .int 0, .int 0, .int 0, .int 0, .long 0, .double 0])), (q_1, .inl (cA_2, 33, .inr (.inl (fun _ => 0)))), (q_3, .inl (cA_4, 3001, .inl (fun _ => 0))), (q_5, .inl (cA_6, 3001, .inl (fun _ => 0))), (q_7, .inl (cA_8, 3001, .inr (.inl (fun _ => 0)))), (q_9, .inl (cA_10, 3001, .inr (.inr (.inr (.inl (fun _ => 0))))))] _ := hP
  have hD : va_D A [(h0, .inr (9, [.null, .ref q_1, .ref q_3, .ref q_5, .ref q_7, .ref q_9, .int 0, .int 0, .int 0, .int 0, .int 0, .int 0, .int 0, .int 0, .long 0, .double 0])), (q_1, .inl (cA_2, 33, .inr (.inl (fun _ => 0)))), (q_3, .inl (cA_4, 3001, .inl (fun _ => 0))), (q_5, .inl (cA_6, 3001, .inl (fun _ => 0))), (q_7, .inl (cA_8, 3001, .inr (.inl (fun _ => 0)))), (q_9, .inl (cA_10, 3001, .inr (.inr (.inr (.inl (fun _ => 0))))))] := hD
  refine lv_aload_n hx hb dX10_init_73 rfl (lv_at hl 0 rfl) ?_
  refine lv_iconst (v := 0) hx hb dX10_init_74 (by decide) ?_
  refine va_put (D := (dC, dI)) (ci := 9) (v := .int 0) (ty := .boolean) (C := RX10) (T := TX10) (N := 16) hx hb hts in_X10_init_RX10 tyX10 tyX10_ok nmX10 hown hK hP hD hS 0 rfl rfl 11 (by decide) (hts (.fieldLink RX10 45 "FourTongues$Tokens" "stopped" "Z") (by decide +kernel)) (fun _ h9 => h9) rfl (by decide +kernel) rfl rfl (Nat.le_of_ble_eq_true rfl) dX10_init_75 (fun H locs hP hD hS => ?_)
  have hP : va_P (dC, dI) vwCl [(h0, .inr (9, [.null, .ref q_1, .ref q_3, .ref q_5, .ref q_7, .ref q_9, .int 0, .int 0, .int 0, .int 0, .int 0, .int 0, .int 0, .int 0, .long 0, .double 0])), (q_1, .inl (cA_2, 33, .inr (.inl (fun _ => 0)))), (q_3, .inl (cA_4, 3001, .inl (fun _ => 0))), (q_5, .inl (cA_6, 3001, .inl (fun _ => 0))), (q_7, .inl (cA_8, 3001, .inr (.inl (fun _ => 0)))), (q_9, .inl (cA_10, 3001, .inr (.inr (.inr (.inl (fun _ => 0))))))] _ := hP
  have hD : va_D A [(h0, .inr (9, [.null, .ref q_1, .ref q_3, .ref q_5, .ref q_7, .ref q_9, .int 0, .int 0, .int 0, .int 0, .int 0, .int 0, .int 0, .int 0, .long 0, .double 0])), (q_1, .inl (cA_2, 33, .inr (.inl (fun _ => 0)))), (q_3, .inl (cA_4, 3001, .inl (fun _ => 0))), (q_5, .inl (cA_6, 3001, .inl (fun _ => 0))), (q_7, .inl (cA_8, 3001, .inr (.inl (fun _ => 0)))), (q_9, .inl (cA_10, 3001, .inr (.inr (.inr (.inl (fun _ => 0))))))] := hD
  refine lv_aload_n hx hb dX10_init_78 rfl (lv_at hl 0 rfl) ?_
  refine lv_iconst (v := 0) hx hb dX10_init_79 (by decide) ?_
  refine va_put (D := (dC, dI)) (ci := 9) (v := .int 0) (ty := .int) (C := RX10) (T := TX10) (N := 16) hx hb hts in_X10_init_RX10 tyX10 tyX10_ok nmX10 hown hK hP hD hS 0 rfl rfl 12 (by decide) (hts (.fieldLink RX10 49 "FourTongues$Tokens" "kind" "I") (by decide +kernel)) (fun _ h9 => h9) rfl (by decide +kernel) rfl rfl (Nat.le_of_ble_eq_true rfl) dX10_init_80 (fun H locs hP hD hS => ?_)
  have hP : va_P (dC, dI) vwCl [(h0, .inr (9, [.null, .ref q_1, .ref q_3, .ref q_5, .ref q_7, .ref q_9, .int 0, .int 0, .int 0, .int 0, .int 0, .int 0, .int 0, .int 0, .long 0, .double 0])), (q_1, .inl (cA_2, 33, .inr (.inl (fun _ => 0)))), (q_3, .inl (cA_4, 3001, .inl (fun _ => 0))), (q_5, .inl (cA_6, 3001, .inl (fun _ => 0))), (q_7, .inl (cA_8, 3001, .inr (.inl (fun _ => 0)))), (q_9, .inl (cA_10, 3001, .inr (.inr (.inr (.inl (fun _ => 0))))))] _ := hP
  have hD : va_D A [(h0, .inr (9, [.null, .ref q_1, .ref q_3, .ref q_5, .ref q_7, .ref q_9, .int 0, .int 0, .int 0, .int 0, .int 0, .int 0, .int 0, .int 0, .long 0, .double 0])), (q_1, .inl (cA_2, 33, .inr (.inl (fun _ => 0)))), (q_3, .inl (cA_4, 3001, .inl (fun _ => 0))), (q_5, .inl (cA_6, 3001, .inl (fun _ => 0))), (q_7, .inl (cA_8, 3001, .inr (.inl (fun _ => 0)))), (q_9, .inl (cA_10, 3001, .inr (.inr (.inr (.inl (fun _ => 0))))))] := hD
  refine lv_aload_n hx hb dX10_init_83 rfl (lv_at hl 0 rfl) ?_
  refine lv_iconst (v := 0) hx hb dX10_init_84 (by decide) ?_
  refine va_put (D := (dC, dI)) (ci := 9) (v := .int 0) (ty := .int) (C := RX10) (T := TX10) (N := 16) hx hb hts in_X10_init_RX10 tyX10 tyX10_ok nmX10 hown hK hP hD hS 0 rfl rfl 13 (by decide) (hts (.fieldLink RX10 52 "FourTongues$Tokens" "place" "I") (by decide +kernel)) (fun _ h9 => h9) rfl (by decide +kernel) rfl rfl (Nat.le_of_ble_eq_true rfl) dX10_init_85 (fun H locs hP hD hS => ?_)
  have hP : va_P (dC, dI) vwCl [(h0, .inr (9, [.null, .ref q_1, .ref q_3, .ref q_5, .ref q_7, .ref q_9, .int 0, .int 0, .int 0, .int 0, .int 0, .int 0, .int 0, .int 0, .long 0, .double 0])), (q_1, .inl (cA_2, 33, .inr (.inl (fun _ => 0)))), (q_3, .inl (cA_4, 3001, .inl (fun _ => 0))), (q_5, .inl (cA_6, 3001, .inl (fun _ => 0))), (q_7, .inl (cA_8, 3001, .inr (.inl (fun _ => 0)))), (q_9, .inl (cA_10, 3001, .inr (.inr (.inr (.inl (fun _ => 0))))))] _ := hP
  have hD : va_D A [(h0, .inr (9, [.null, .ref q_1, .ref q_3, .ref q_5, .ref q_7, .ref q_9, .int 0, .int 0, .int 0, .int 0, .int 0, .int 0, .int 0, .int 0, .long 0, .double 0])), (q_1, .inl (cA_2, 33, .inr (.inl (fun _ => 0)))), (q_3, .inl (cA_4, 3001, .inl (fun _ => 0))), (q_5, .inl (cA_6, 3001, .inl (fun _ => 0))), (q_7, .inl (cA_8, 3001, .inr (.inl (fun _ => 0)))), (q_9, .inl (cA_10, 3001, .inr (.inr (.inr (.inl (fun _ => 0))))))] := hD
  refine lv_aload_n hx hb dX10_init_88 rfl (lv_at hl 0 rfl) ?_
  refine lv_lconst (v := 0) hx hb dX10_init_89 (by decide) ?_
  refine va_put (D := (dC, dI)) (ci := 9) (v := .long 0) (ty := .long) (C := RX10) (T := TX10) (N := 16) hx hb hts in_X10_init_RX10 tyX10 tyX10_ok nmX10 hown hK hP hD hS 0 rfl rfl 14 (by decide) (hts (.fieldLink RX10 55 "FourTongues$Tokens" "whole" "J") (by decide +kernel)) (fun _ h9 => h9) rfl (by decide +kernel) rfl rfl (Nat.le_of_ble_eq_true rfl) dX10_init_90 (fun H locs hP hD hS => ?_)
  have hP : va_P (dC, dI) vwCl [(h0, .inr (9, [.null, .ref q_1, .ref q_3, .ref q_5, .ref q_7, .ref q_9, .int 0, .int 0, .int 0, .int 0, .int 0, .int 0, .int 0, .int 0, .long 0, .double 0])), (q_1, .inl (cA_2, 33, .inr (.inl (fun _ => 0)))), (q_3, .inl (cA_4, 3001, .inl (fun _ => 0))), (q_5, .inl (cA_6, 3001, .inl (fun _ => 0))), (q_7, .inl (cA_8, 3001, .inr (.inl (fun _ => 0)))), (q_9, .inl (cA_10, 3001, .inr (.inr (.inr (.inl (fun _ => 0))))))] _ := hP
  have hD : va_D A [(h0, .inr (9, [.null, .ref q_1, .ref q_3, .ref q_5, .ref q_7, .ref q_9, .int 0, .int 0, .int 0, .int 0, .int 0, .int 0, .int 0, .int 0, .long 0, .double 0])), (q_1, .inl (cA_2, 33, .inr (.inl (fun _ => 0)))), (q_3, .inl (cA_4, 3001, .inl (fun _ => 0))), (q_5, .inl (cA_6, 3001, .inl (fun _ => 0))), (q_7, .inl (cA_8, 3001, .inr (.inl (fun _ => 0)))), (q_9, .inl (cA_10, 3001, .inr (.inr (.inr (.inl (fun _ => 0))))))] := hD
  refine lv_aload_n hx hb dX10_init_93 rfl (lv_at hl 0 rfl) ?_
  refine lv_dconst0 hx hb dX10_init_94 ?_
  refine va_put (D := (dC, dI)) (ci := 9) (v := .double FP.dconst0) (ty := .double) (C := RX10) (T := TX10) (N := 16) hx hb hts in_X10_init_RX10 tyX10 tyX10_ok nmX10 hown hK hP hD hS 0 rfl rfl 15 (by decide) (hts (.fieldLink RX10 59 "FourTongues$Tokens" "real" "D") (by decide +kernel)) (fun _ h9 => h9) rfl (by decide +kernel) rfl rfl (Nat.le_of_ble_eq_true rfl) dX10_init_95 (fun H locs hP hD hS => ?_)
  have hP : va_P (dC, dI) vwCl [(h0, .inr (9, [.null, .ref q_1, .ref q_3, .ref q_5, .ref q_7, .ref q_9, .int 0, .int 0, .int 0, .int 0, .int 0, .int 0, .int 0, .int 0, .long 0, .double FP.dconst0])), (q_1, .inl (cA_2, 33, .inr (.inl (fun _ => 0)))), (q_3, .inl (cA_4, 3001, .inl (fun _ => 0))), (q_5, .inl (cA_6, 3001, .inl (fun _ => 0))), (q_7, .inl (cA_8, 3001, .inr (.inl (fun _ => 0)))), (q_9, .inl (cA_10, 3001, .inr (.inr (.inr (.inl (fun _ => 0))))))] _ := hP
  have hD : va_D A [(h0, .inr (9, [.null, .ref q_1, .ref q_3, .ref q_5, .ref q_7, .ref q_9, .int 0, .int 0, .int 0, .int 0, .int 0, .int 0, .int 0, .int 0, .long 0, .double FP.dconst0])), (q_1, .inl (cA_2, 33, .inr (.inl (fun _ => 0)))), (q_3, .inl (cA_4, 3001, .inl (fun _ => 0))), (q_5, .inl (cA_6, 3001, .inl (fun _ => 0))), (q_7, .inl (cA_8, 3001, .inr (.inl (fun _ => 0)))), (q_9, .inl (cA_10, 3001, .inr (.inr (.inr (.inl (fun _ => 0))))))] := hD
  refine lv_aload_n hx hb dX10_init_98 rfl (lv_at hl 0 rfl) ?_
  refine lv_aload_n hx hb dX10_init_99 rfl (lv_at hl 1 rfl) ?_
  refine va_putF (D := (dC, dI)) (ci := 9) (v := .ref aT) (ty := .array .byte) (C := RX10) (T := TX10) (N := 16) hx hb hts in_X10_init_RX10 tyX10 tyX10_ok nmX10 hown hK hP hD hS 0 rfl rfl 0 (by decide) (hts (.fieldLink RX10 63 "FourTongues$Tokens" "text" "[B") (by decide +kernel)) (fun _ h9 => h9) rfl hin rfl (by decide +kernel) rfl rfl (Nat.le_of_ble_eq_true rfl) dX10_init_100 (fun H locs hP hD hS => ?_)
  have hP : va_P (dC, dI) vwCl [(h0, .inr (9, [.ref aT, .ref q_1, .ref q_3, .ref q_5, .ref q_7, .ref q_9, .int 0, .int 0, .int 0, .int 0, .int 0, .int 0, .int 0, .int 0, .long 0, .double FP.dconst0])), (q_1, .inl (cA_2, 33, .inr (.inl (fun _ => 0)))), (q_3, .inl (cA_4, 3001, .inl (fun _ => 0))), (q_5, .inl (cA_6, 3001, .inl (fun _ => 0))), (q_7, .inl (cA_8, 3001, .inr (.inl (fun _ => 0)))), (q_9, .inl (cA_10, 3001, .inr (.inr (.inr (.inl (fun _ => 0))))))] _ := hP
  have hD : va_D A [(h0, .inr (9, [.ref aT, .ref q_1, .ref q_3, .ref q_5, .ref q_7, .ref q_9, .int 0, .int 0, .int 0, .int 0, .int 0, .int 0, .int 0, .int 0, .long 0, .double FP.dconst0])), (q_1, .inl (cA_2, 33, .inr (.inl (fun _ => 0)))), (q_3, .inl (cA_4, 3001, .inl (fun _ => 0))), (q_5, .inl (cA_6, 3001, .inl (fun _ => 0))), (q_7, .inl (cA_8, 3001, .inr (.inl (fun _ => 0)))), (q_9, .inl (cA_10, 3001, .inr (.inr (.inr (.inl (fun _ => 0))))))] := hD
  refine lv_lconst (v := 0) hx hb dX10_init_103 (by decide) ?_
  refine lv_lstore_n (lv' := [(2, .long 0), (0, .ref h0), (1, .ref aT)]) hx hb dX10_init_104 rfl hl (by decide) rfl (fun ls hl => ?_)
  refine lv_iconst (v := 0) hx hb dX10_init_105 (by decide) ?_
  refine lv_istore (lv' := [(4, .int 0), (2, .long 0), (0, .ref h0), (1, .ref aT)]) hx hb dX10_init_106 hl (by decide) rfl (fun ls hl => ?_)
  refine lv_iconst (v := 0) hx hb dX10_init_108 (by decide) ?_
  refine lv_istore (lv' := [(5, .int 0), (4, .int 0), (2, .long 0), (0, .ref h0), (1, .ref aT)]) hx hb dX10_init_109 hl (by decide) rfl (fun ls hl => ?_)
  have hl : lv_has ls 7 [(5, .int (nI 0)), (4, .int (nI 0)), (2, .long 0), (0, .ref h0), (1, .ref aT)] := hl
  refine my_for (I := fun i H locs ls => ∃ (w0 : Int64), ∃ (k0 : Nat), ∃ (f0 : Nat → Int64), (k0 ≤ 33) ∧ va_P (dC, dI) vwCl [(h0, .inr (9, [.ref aT, .ref q_1, .ref q_3, .ref q_5, .ref q_7, .ref q_9, .int 0, .int 0, .int 0, .int 0, .int 0, .int 0, .int 0, .int 0, .long 0, .double FP.dconst0])), (q_1, .inl (cA_2, 33, .inr (.inl f0))), (q_3, .inl (cA_4, 3001, .inl (fun _ => 0))), (q_5, .inl (cA_6, 3001, .inl (fun _ => 0))), (q_7, .inl (cA_8, 3001, .inr (.inl (fun _ => 0)))), (q_9, .inl (cA_10, 3001, .inr (.inr (.inr (.inl (fun _ => 0))))))] H ∧ va_D A [(h0, .inr (9, [.ref aT, .ref q_1, .ref q_3, .ref q_5, .ref q_7, .ref q_9, .int 0, .int 0, .int 0, .int 0, .int 0, .int 0, .int 0, .int 0, .long 0, .double FP.dconst0])), (q_1, .inl (cA_2, 33, .inr (.inl f0))), (q_3, .inl (cA_4, 3001, .inl (fun _ => 0))), (q_5, .inl (cA_6, 3001, .inl (fun _ => 0))), (q_7, .inl (cA_8, 3001, .inr (.inl (fun _ => 0)))), (q_9, .inl (cA_10, 3001, .inr (.inr (.inr (.inl (fun _ => 0))))))] ∧ va_S A s.heap H locs ∧ lv_has ls 7 [(0, .ref h0), (1, .ref aT), (2, .long w0), (4, .int (nI k0)), (5, .int (nI i))]) 165 (fun i H locs ls hi hI ih => ?_) 0 _ _ ls (by omega) ⟨0, 0, (fun _ => 0), Nat.zero_le _, hP.sub [0, 1, 2, 3, 4, 5] rfl, hD.sub [0, 1, 2, 3, 4, 5] (by decide) rfl, hS, lv_sub hl [3, 4, 2, 1, 0] rfl⟩
  obtain ⟨w0, k0, f0, hi_0, hP, hD, hS, hl⟩ := hI
  refine lv_iload hx hb dX10_init_111 (lv_at hl 4 rfl) ?_
  refine va_ldcS hx hb hown hE.2 dX10_init_113 ?_
  refine va_calli (va_runV (As := []) (rest := [.int (nI i)]) ⟨hx, hb, hml, hown, hts⟩ (c_J0_length_8abf5 l dC dI 165 wdB bK bV ) (cwV 0 hts gX10_init_J0_length_8abf5 rfl rfl rfl (by decide +kernel) ⟨Nat.le_of_ble_eq_true rfl, Nat.le_of_ble_eq_true rfl⟩) ⟨(fb_RE sE.fb), hE.1.recv hS, fun U hU hW => ⟨rfl, ⟨xR.at (hP.sub (ws' := []) [] rfl) (hK.sub (tys' := []) [] rfl) hU hW, hE.1.at hS (fun q h => h.elim) hU hW⟩⟩⟩ rfl rfl hl.1 rfl (lv_room (Nat.le_of_ble_eq_true rfl)) dX10_init_115 ⟨Nat.le_of_ble_eq_true rfl, Nat.le_of_ble_eq_true rfl⟩) hS (fun q _ h => h.elim) (fun q h => h.elim) (fun r_11 u t H locs ht hvm hw hB hz1 hk1 hS => ?_)
  have hw_12 := hw
  have hP := xR.keep hP hk1
  subst hw_12
  refine lv_icmp_ge (tgt := 175) hx hb dX10_init_118 (by decide) (fun c_118 => ?_) (fun c_118 => ?_)
  · have hP := hP.sub (ws' := [(h0, .inr (9, [.ref aT, .ref q_1, .ref q_3, .ref q_5, .ref q_7, .ref q_9, .int 0, .int 0, .int 0, .int 0, .int 0, .int 0, .int 0, .int 0, .long 0, .double FP.dconst0])), (q_3, .inl (cA_4, 3001, .inl (fun _ => 0))), (q_5, .inl (cA_6, 3001, .inl (fun _ => 0))), (q_7, .inl (cA_8, 3001, .inr (.inl (fun _ => 0)))), (q_9, .inl (cA_10, 3001, .inr (.inr (.inr (.inl (fun _ => 0))))))]) [0, 2, 3, 4, 5] rfl
    have hD := hD.sub (ws' := [(h0, .inr (9, [.ref aT, .ref q_1, .ref q_3, .ref q_5, .ref q_7, .ref q_9, .int 0, .int 0, .int 0, .int 0, .int 0, .int 0, .int 0, .int 0, .long 0, .double FP.dconst0])), (q_3, .inl (cA_4, 3001, .inl (fun _ => 0))), (q_5, .inl (cA_6, 3001, .inl (fun _ => 0))), (q_7, .inl (cA_8, 3001, .inr (.inl (fun _ => 0)))), (q_9, .inl (cA_10, 3001, .inr (.inr (.inr (.inl (fun _ => 0))))))]) [0, 2, 3, 4, 5] (by decide) rfl
    have hP9 := hP.sub (ws' := [(h0, .inr (9, [.ref aT, .ref q_1, .ref q_3, .ref q_5, .ref q_7, .ref q_9, .int 0, .int 0, .int 0, .int 0, .int 0, .int 0, .int 0, .int 0, .long 0, .double FP.dconst0])), (q_3, .inl (cA_4, 3001, .inl (fun _ => 0))), (q_5, .inl (cA_6, 3001, .inl (fun _ => 0))), (q_7, .inl (cA_8, 3001, .inr (.inl (fun _ => 0)))), (q_9, .inl (cA_10, 3001, .inr (.inr (.inr (.inl (fun _ => 0))))))]) [0, 1, 2, 3, 4] rfl
    have hD9 := hD.sub (ws' := [(h0, .inr (9, [.ref aT, .ref q_1, .ref q_3, .ref q_5, .ref q_7, .ref q_9, .int 0, .int 0, .int 0, .int 0, .int 0, .int 0, .int 0, .int 0, .long 0, .double FP.dconst0])), (q_3, .inl (cA_4, 3001, .inl (fun _ => 0))), (q_5, .inl (cA_6, 3001, .inl (fun _ => 0))), (q_7, .inl (cA_8, 3001, .inr (.inl (fun _ => 0)))), (q_9, .inl (cA_10, 3001, .inr (.inr (.inr (.inl (fun _ => 0))))))]) [0, 1, 2, 3, 4] (by decide) rfl
    have hK9 := hK.sub (tys' := [(cA_4, .int), (cA_6, .int), (cA_8, .long), (cA_10, .double)]) [1, 2, 3, 4] rfl
    exact W.vret hx hb hr (fun t ht hW => ⟨⟨(), rfl, trivial, ⟨q_1, q_3, cA_4, q_5, cA_6, q_7, cA_8, q_9, cA_10, by rw [ht]; exact hP9, va_K.moved hW.alike hK9, hD9⟩⟩, hS.F ht⟩) hS.2.2 dX10_init_175
  · have hlt : i < 165 := Nat.lt_of_not_le (fun q => c_118 (nI_le q (by omega)))
    refine va_ldcS hx hb hown hE.2 dX10_init_121 ?_
    refine lv_iload hx hb dX10_init_123 (lv_at hl 4 rfl) ?_
    refine va_calli (va_runV (As := [.int (nI i)]) (rest := []) ⟨hx, hb, hml, hown, hts⟩ (c_J0_charAt_5068e l dC dI 165 wdB bK bV (nI i) (vp_in_nI hlt (by decide)) (by decide)) (cwV 1 hts gX10_init_J0_charAt_5068e rfl rfl rfl (by decide +kernel) ⟨Nat.le_of_ble_eq_true rfl, Nat.le_of_ble_eq_true rfl⟩) ⟨(fb_RE sE.fb), hE.1.recv hS, fun U hU hW => ⟨rfl, ⟨xR.at (hP.sub (ws' := []) [] rfl) (hK.sub (tys' := []) [] rfl) hU hW, hE.1.at hS (fun q h => h.elim) hU hW⟩⟩⟩ rfl rfl hl.1 rfl (lv_room (Nat.le_of_ble_eq_true rfl)) dX10_init_125 ⟨Nat.le_of_ble_eq_true rfl, Nat.le_of_ble_eq_true rfl⟩) hS (fun q _ h => h.elim) (fun q h => h.elim) (fun r_13 u t H locs ht hvm hw hB hz1 hk1 hS => ?_)
    have hw_14 := hw
    have hP := xR.keep hP hk1
    refine lv_istore (lv' := [(6, .int r_13), (0, .ref h0), (1, .ref aT), (2, .long w0), (4, .int (nI k0)), (5, .int (nI i))]) hx hb dX10_init_128 hl (by decide) rfl (fun ls hl => ?_)
    refine lv_iload hx hb dX10_init_130 (lv_at hl 0 rfl) ?_
    refine lv_bipush (v := 32) hx hb dX10_init_132 (by decide) ?_
    refine lv_icmp_ne (tgt := 160) hx hb dX10_init_134 (by decide) (fun c_134 => ?_) (fun c_134 => ?_)
    · refine lv_lload_n hx hb dX10_init_160 rfl (lv_at hl 3 rfl) ?_
      refine lv_bipush (v := 8) hx hb dX10_init_161 (by decide) ?_
      refine lv_lshl (v := w0 <<< ((8 : Int32).toInt64 &&& 63)) hx hb dX10_init_163 rfl ?_
      refine lv_iload hx hb dX10_init_164 (lv_at hl 0 rfl) ?_
      refine lv_i2l (v := r_13.toInt64) hx hb dX10_init_166 rfl ?_
      refine lv_lor hx hb dX10_init_167 ?_
      refine lv_lstore_n (lv' := [(2, .long ((w0 <<< ((8 : Int32).toInt64 &&& 63)) ||| r_13.toInt64)), (6, .int r_13), (0, .ref h0), (1, .ref aT), (4, .int (nI k0)), (5, .int (nI i))]) hx hb dX10_init_168 rfl hl (by decide) rfl (fun ls hl => ?_)
      refine lv_iinc (v := nI (i + 1)) (lv' := [(5, .int (nI (i + 1))), (2, .long ((w0 <<< ((8 : Int32).toInt64 &&& 63)) ||| r_13.toInt64)), (6, .int r_13), (0, .ref h0), (1, .ref aT), (4, .int (nI k0))]) hx hb dX10_init_169 hl (k := 5) rfl (by exact nI_1 i) (by decide) rfl (fun ls hl => ?_)
      refine lv_goto (tgt := 111) hx hb dX10_init_172 (by decide) ?_
      exact ih hlt _ _ _ ⟨_, k0, f0, hi_0, hP.sub [0, 1, 2, 3, 4, 5] rfl, hD.sub [0, 1, 2, 3, 4, 5] (by decide) rfl, hS, lv_sub hl [3, 4, 1, 5, 0] rfl⟩
    · refine lv_iload hx hb dX10_init_137 (lv_at hl 4 rfl) ?_
      refine lv_bipush (v := 33) hx hb dX10_init_139 (by decide) ?_
      refine lv_icmp_ge (tgt := 160) hx hb dX10_init_141 (by decide) (fun c_141 => ?_) (fun c_141 => ?_)
      · refine lv_lload_n hx hb dX10_init_160 rfl (lv_at hl 3 rfl) ?_
        refine lv_bipush (v := 8) hx hb dX10_init_161 (by decide) ?_
        refine lv_lshl (v := w0 <<< ((8 : Int32).toInt64 &&& 63)) hx hb dX10_init_163 rfl ?_
        refine lv_iload hx hb dX10_init_164 (lv_at hl 0 rfl) ?_
        refine lv_i2l (v := r_13.toInt64) hx hb dX10_init_166 rfl ?_
        refine lv_lor hx hb dX10_init_167 ?_
        refine lv_lstore_n (lv' := [(2, .long ((w0 <<< ((8 : Int32).toInt64 &&& 63)) ||| r_13.toInt64)), (6, .int r_13), (0, .ref h0), (1, .ref aT), (4, .int (nI k0)), (5, .int (nI i))]) hx hb dX10_init_168 rfl hl (by decide) rfl (fun ls hl => ?_)
        refine lv_iinc (v := nI (i + 1)) (lv' := [(5, .int (nI (i + 1))), (2, .long ((w0 <<< ((8 : Int32).toInt64 &&& 63)) ||| r_13.toInt64)), (6, .int r_13), (0, .ref h0), (1, .ref aT), (4, .int (nI k0))]) hx hb dX10_init_169 hl (k := 5) rfl (by exact nI_1 i) (by decide) rfl (fun ls hl => ?_)
        refine lv_goto (tgt := 111) hx hb dX10_init_172 (by decide) ?_
        exact ih hlt _ _ _ ⟨_, k0, f0, hi_0, hP.sub [0, 1, 2, 3, 4, 5] rfl, hD.sub [0, 1, 2, 3, 4, 5] (by decide) rfl, hS, lv_sub hl [3, 4, 1, 5, 0] rfl⟩
      · have hk1 : k0 + 1 ≤ 33 := Nat.lt_of_not_le (fun q => c_141 (nI_le (a := 33) q (by omega)))
        refine lv_aload_n hx hb dX10_init_144 rfl (lv_at hl 1 rfl) ?_
        refine va_get (D := (dC, dI)) (ci := 9) (v := .ref q_1) (C := RX10) (T := TX10) (N := 16) hx hb hts in_X10_init_RX10 hown hK hP 0 rfl rfl 1 (by decide) (hts (.fieldLink RX10 11 "FourTongues$Tokens" "words" "[J") (by decide +kernel)) (fun _ h9 => h9) rfl dX10_init_145 ?_
        refine lv_iload hx hb dX10_init_148 (lv_at hl 4 rfl) ?_
        refine lv_lload_n hx hb dX10_init_150 rfl (lv_at hl 3 rfl) ?_
        refine va_last hx hb hK hP hD hS 1 0 rfl rfl (vp_in_nI (by omega) (by decide)) dX10_init_151 (fun H locs hP hD hS => ?_)
        obtain ⟨f_15, ef_15⟩ : ∃ y : Nat → Int64, y = vp_updL f0 ((nI k0 : Int32).toNatClampNeg) w0 := ⟨_, rfl⟩
        rw [← ef_15] at hP hD
        have hP : va_P (dC, dI) vwCl [(h0, .inr (9, [.ref aT, .ref q_1, .ref q_3, .ref q_5, .ref q_7, .ref q_9, .int 0, .int 0, .int 0, .int 0, .int 0, .int 0, .int 0, .int 0, .long 0, .double FP.dconst0])), (q_1, .inl (cA_2, 33, .inr (.inl f_15))), (q_3, .inl (cA_4, 3001, .inl (fun _ => 0))), (q_5, .inl (cA_6, 3001, .inl (fun _ => 0))), (q_7, .inl (cA_8, 3001, .inr (.inl (fun _ => 0)))), (q_9, .inl (cA_10, 3001, .inr (.inr (.inr (.inl (fun _ => 0))))))] _ := hP
        have hD : va_D A [(h0, .inr (9, [.ref aT, .ref q_1, .ref q_3, .ref q_5, .ref q_7, .ref q_9, .int 0, .int 0, .int 0, .int 0, .int 0, .int 0, .int 0, .int 0, .long 0, .double FP.dconst0])), (q_1, .inl (cA_2, 33, .inr (.inl f_15))), (q_3, .inl (cA_4, 3001, .inl (fun _ => 0))), (q_5, .inl (cA_6, 3001, .inl (fun _ => 0))), (q_7, .inl (cA_8, 3001, .inr (.inl (fun _ => 0)))), (q_9, .inl (cA_10, 3001, .inr (.inr (.inr (.inl (fun _ => 0))))))] := hD
        refine lv_iinc (v := nI (k0 + 1)) (lv' := [(4, .int (nI (k0 + 1))), (6, .int r_13), (0, .ref h0), (1, .ref aT), (2, .long w0), (5, .int (nI i))]) hx hb dX10_init_152 hl (k := 4) rfl (by exact nI_1 k0) (by decide) rfl (fun ls hl => ?_)
        refine lv_lconst (v := 0) hx hb dX10_init_155 (by decide) ?_
        refine lv_lstore_n (lv' := [(2, .long 0), (4, .int (nI (k0 + 1))), (6, .int r_13), (0, .ref h0), (1, .ref aT), (5, .int (nI i))]) hx hb dX10_init_156 rfl hl (by decide) rfl (fun ls hl => ?_)
        refine lv_goto (tgt := 169) hx hb dX10_init_157 (by decide) ?_
        refine lv_iinc (v := nI (i + 1)) (lv' := [(5, .int (nI (i + 1))), (2, .long 0), (4, .int (nI (k0 + 1))), (6, .int r_13), (0, .ref h0), (1, .ref aT)]) hx hb dX10_init_169 hl (k := 5) rfl (by exact nI_1 i) (by decide) rfl (fun ls hl => ?_)
        refine lv_goto (tgt := 111) hx hb dX10_init_172 (by decide) ?_
        exact ih hlt _ _ _ ⟨0, (k0 + 1), f_15, hk1, hP.sub [0, 1, 2, 3, 4, 5] rfl, hD.sub [0, 1, 2, 3, 4, 5] (by decide) rfl, hS, lv_sub hl [4, 5, 1, 2, 0] rfl⟩

set_option maxHeartbeats 4000000 in
set_option maxRecDepth 100000 in
theorem c_X7_init (l : Launch) (dC : Nat → ClassId) (dI : Nat → Nat → Nat) (sz : Nat) (h0 : Nat) (aT : Nat) (aN : Nat) (aP : Nat) (bK : Nat) (bV : Nat) : Met l yX7_init wsX7_init ({ frames := 5, cells := 8, slots := 13057, locals := 111 }) (va_Pc [.ref h0, .ref aT, .ref aN, .ref aP] (fun U => xM (dC, dI) sz [(h0, .inr (6, [.null, .null, .null, .null, .null, .int 0, .int 0, .int 0, .int 0, .int 0, .int 0]))] [] U ∧ eS RX10 67 "kind under fn let if else while return mark throw try catch finally fail on go with end exit open then clean do none new size cell tag bad throws codes values exits " 165 wdB bK bV (va_A [(h0, .inr (6, [.null, .null, .null, .null, .null, .int 0, .int 0, .int 0, .int 0, .int 0, .int 0]))] sz) U)) (va_Qv (fun _ : Unit => True) (fun (_ : Unit) t => ∃ (q_1 : Nat), ∃ (cA_2 : ClassId), ∃ (q_3 : Nat), ∃ (q_5 : Nat), ∃ (q_6 : Nat), ∃ (q_7 : Nat), ∃ (cA_8 : ClassId), ∃ (q_9 : Nat), ∃ (cA_10 : ClassId), ∃ (q_11 : Nat), ∃ (cA_12 : ClassId), ∃ (q_13 : Nat), ∃ (cA_14 : ClassId), xB (dC, dI) [(h0, .inr (6, [.ref q_5, .ref aN, .ref aP, .ref q_1, .ref q_3, .int 0, .int 0, .int 0, .int 0, .int 0, .int 0])), (q_1, .inl (cA_2, 4, .inl (fun _ => 0))), (q_5, .inr (9, [.ref aT, .ref q_6, .ref q_7, .ref q_9, .ref q_11, .ref q_13, .int 0, .int 0, .int 0, .int 0, .int 0, .int 0, .int 0, .int 0, .long 0, .double FP.dconst0])), (q_7, .inl (cA_8, 3001, .inl (fun _ => 0))), (q_9, .inl (cA_10, 3001, .inl (fun _ => 0))), (q_11, .inl (cA_12, 3001, .inr (.inl (fun _ => 0)))), (q_13, .inl (cA_14, 3001, .inr (.inr (.inr (.inl (fun _ => 0))))))] [(cA_2, .int), (cA_8, .int), (cA_10, .int), (cA_12, .long), (cA_14, .double)] (va_A [(h0, .inr (6, [.null, .null, .null, .null, .null, .int 0, .int 0, .int 0, .int 0, .int 0, .int 0]))] sz) t) (va_A [(h0, .inr (6, [.null, .null, .null, .null, .null, .int 0, .int 0, .int 0, .int 0, .int 0, .int 0]))] sz)) 8 13057 (va_A [(h0, .inr (6, [.null, .null, .null, .null, .null, .int 0, .int 0, .int 0, .int 0, .int 0, .int 0]))] sz) := by
  refine Met.ofW (cc := cX7_init) (maxL := 4) (ret := none) (by decide) rfl ?_
  intro p e s m args below meth c s₁ B hml hv
  obtain ⟨rfl, ⟨hsz, hP, hK, hD0⟩, hE⟩ := hv
  have hx := B.exec
  have hb := B.bytes
  have hr := B.returns
  have hts := atoms_spec (ws := wsX7_init) B.pre
  have hown : s.vm.findClass RX7 = some m.cls := findClass_of_methodNamed B.named
  have hlocks := B.notSynchronized
  have hin : meth.name = "<init>" := (name_of_methodNamed B.named B.method).1
  subst hsz
  have hD := hD0.self (sz := s.heap.size)
  generalize hAe : va_A [(h0, .inr (6, [.null, .null, .null, .null, .null, .int 0, .int 0, .int 0, .int 0, .int 0, .int 0]))] s.heap.size = A at hD hE ⊢
  have hA : ∀ q : Nat, s.heap.size ≤ q → A q := fun q h => by rw [← hAe]; exact Or.inr h
  have hS : va_S A s.heap s.heap [] := va_S.rf
  have hl := lv_entry ([.ref h0, .ref aT, .ref aN, .ref aP]) (n := 4) (Nat.le_of_ble_eq_true rfl)
  rw [lg_entry_eq]
  generalize (lg_sl ([.ref h0, .ref aT, .ref aN, .ref aP]) ++ List.replicate (4 - (lg_sl ([.ref h0, .ref aT, .ref aN, .ref aP])).length) Slot.unset).toArray = ls at hl ⊢
  have hl : lv_has ls 4 [(0, .ref h0), (1, .ref aT), (2, .ref aN), (3, .ref aP)] := hl
  refine lv_aload_n hx hb dX7_init_0 rfl (lv_at hl 0 rfl) ?_
  refine W.objInit hx hb hown (hts (.methodLink RX7 3 objectInit) (by decide +kernel)) (hts (.instanceMethod objectInit) (by decide +kernel)) (hts (.code objectInit ⟨#[0xb1]⟩ 1 none) (by decide +kernel)) rfl (by rw [hml]; exact hl.1) rfl dX7_init_1 (Nat.le_of_ble_eq_true rfl) (Nat.le_of_ble_eq_true rfl) ?_
  refine W.eq (g2 := F0 m 4 ls []) rfl ?_
  refine lv_aload_n hx hb dX7_init_4 rfl (lv_at hl 0 rfl) ?_
  refine lv_iconst (v := 4) hx hb dX7_init_5 (by decide) ?_
  refine va_newa (atype := .int) (ty := .int) (a0 := (4, .inl (fun _ => 0))) (N' := 4) hx hb (hts (.arrayClass .int) (by decide +kernel)) rfl hK hP hD hS hA (cz_int 4) (by decide +kernel) (by decide +kernel) (by decide +kernel) (Nat.le_of_ble_eq_true rfl) (Nat.le_of_ble_eq_true rfl) dX7_init_6 (fun q_1 cA_2 H hK hP hD hS => ?_)
  have hP : va_P (dC, dI) vwCl [(h0, .inr (6, [.null, .null, .null, .null, .null, .int 0, .int 0, .int 0, .int 0, .int 0, .int 0])), (q_1, .inl (cA_2, 4, .inl (fun _ => 0)))] _ := hP
  have hD : va_D A [(h0, .inr (6, [.null, .null, .null, .null, .null, .int 0, .int 0, .int 0, .int 0, .int 0, .int 0])), (q_1, .inl (cA_2, 4, .inl (fun _ => 0)))] := hD
  have hK : va_K (dC, dI) vwCl [(cA_2, .int)] s := hK
  refine W.widen (k := 1) (n := 4) (Nat.le_of_ble_eq_true rfl) (Nat.le_of_ble_eq_true rfl) ?_
  refine va_putF (D := (dC, dI)) (ci := 6) (v := .ref q_1) (ty := .array .int) (C := RX7) (T := TX7) (N := 11) hx hb hts in_X7_init_RX7 tyX7 tyX7_ok nmX7 hown hK hP hD hS 0 rfl rfl 3 (by decide) (hts (.fieldLink RX7 9 "FourTongues$Parser" "faults" "[I") (by decide +kernel)) (fun _ h9 => h9) rfl hin rfl (by decide +kernel) rfl rfl (Nat.le_of_ble_eq_true rfl) dX7_init_8 (fun H locs hP hD hS => ?_)
  have hP : va_P (dC, dI) vwCl [(h0, .inr (6, [.null, .null, .null, .ref q_1, .null, .int 0, .int 0, .int 0, .int 0, .int 0, .int 0])), (q_1, .inl (cA_2, 4, .inl (fun _ => 0)))] _ := hP
  have hD : va_D A [(h0, .inr (6, [.null, .null, .null, .ref q_1, .null, .int 0, .int 0, .int 0, .int 0, .int 0, .int 0])), (q_1, .inl (cA_2, 4, .inl (fun _ => 0)))] := hD
  refine lv_aload_n hx hb dX7_init_11 rfl (lv_at hl 0 rfl) ?_
  refine lv_sipush (v := 1000) hx hb dX7_init_12 (by decide) ?_
  refine va_newa (atype := .long) (ty := .long) (a0 := (1000, .inr (.inl (fun _ => 0)))) (N' := 1000) hx hb (hts (.arrayClass .long) (by decide +kernel)) rfl hK hP hD hS hA (cz_long 1000) (by decide +kernel) (by decide +kernel) (by decide +kernel) (Nat.le_of_ble_eq_true rfl) (Nat.le_of_ble_eq_true rfl) dX7_init_15 (fun q_3 cA_4 H hK hP hD hS => ?_)
  have hP : va_P (dC, dI) vwCl [(h0, .inr (6, [.null, .null, .null, .ref q_1, .null, .int 0, .int 0, .int 0, .int 0, .int 0, .int 0])), (q_1, .inl (cA_2, 4, .inl (fun _ => 0))), (q_3, .inl (cA_4, 1000, .inr (.inl (fun _ => 0))))] _ := hP
  have hD : va_D A [(h0, .inr (6, [.null, .null, .null, .ref q_1, .null, .int 0, .int 0, .int 0, .int 0, .int 0, .int 0])), (q_1, .inl (cA_2, 4, .inl (fun _ => 0))), (q_3, .inl (cA_4, 1000, .inr (.inl (fun _ => 0))))] := hD
  have hK : va_K (dC, dI) vwCl [(cA_2, .int), (cA_4, .long)] s := hK
  refine W.widen (k := 2) (n := 1004) (Nat.le_of_ble_eq_true rfl) (Nat.le_of_ble_eq_true rfl) ?_
  refine va_putF (D := (dC, dI)) (ci := 6) (v := .ref q_3) (ty := .array .long) (C := RX7) (T := TX7) (N := 11) hx hb hts in_X7_init_RX7 tyX7 tyX7_ok nmX7 hown hK hP hD hS 0 rfl rfl 4 (by decide) (hts (.fieldLink RX7 15 "FourTongues$Parser" "variables" "[J") (by decide +kernel)) (fun _ h9 => h9) rfl hin rfl (by decide +kernel) rfl rfl (Nat.le_of_ble_eq_true rfl) dX7_init_17 (fun H locs hP hD hS => ?_)
  have hP : va_P (dC, dI) vwCl [(h0, .inr (6, [.null, .null, .null, .ref q_1, .ref q_3, .int 0, .int 0, .int 0, .int 0, .int 0, .int 0])), (q_1, .inl (cA_2, 4, .inl (fun _ => 0))), (q_3, .inl (cA_4, 1000, .inr (.inl (fun _ => 0))))] _ := hP
  have hD : va_D A [(h0, .inr (6, [.null, .null, .null, .ref q_1, .ref q_3, .int 0, .int 0, .int 0, .int 0, .int 0, .int 0])), (q_1, .inl (cA_2, 4, .inl (fun _ => 0))), (q_3, .inl (cA_4, 1000, .inr (.inl (fun _ => 0))))] := hD
  have hP := hP.sub (ws' := [(h0, .inr (6, [.null, .null, .null, .ref q_1, .ref q_3, .int 0, .int 0, .int 0, .int 0, .int 0, .int 0])), (q_1, .inl (cA_2, 4, .inl (fun _ => 0)))]) [0, 1] rfl
  have hD := hD.sub (ws' := [(h0, .inr (6, [.null, .null, .null, .ref q_1, .ref q_3, .int 0, .int 0, .int 0, .int 0, .int 0, .int 0])), (q_1, .inl (cA_2, 4, .inl (fun _ => 0)))]) [0, 1] (by decide) rfl
  refine lv_aload_n hx hb dX7_init_20 rfl (lv_at hl 0 rfl) ?_
  refine lv_iconst (v := 0) hx hb dX7_init_21 (by decide) ?_
  refine va_put (D := (dC, dI)) (ci := 6) (v := .int 0) (ty := .int) (C := RX7) (T := TX7) (N := 11) hx hb hts in_X7_init_RX7 tyX7 tyX7_ok nmX7 hown hK hP hD hS 0 rfl rfl 5 (by decide) (hts (.fieldLink RX7 19 "FourTongues$Parser" "variableCount" "I") (by decide +kernel)) (fun _ h9 => h9) rfl (by decide +kernel) rfl rfl (Nat.le_of_ble_eq_true rfl) dX7_init_22 (fun H locs hP hD hS => ?_)
  have hP : va_P (dC, dI) vwCl [(h0, .inr (6, [.null, .null, .null, .ref q_1, .ref q_3, .int 0, .int 0, .int 0, .int 0, .int 0, .int 0])), (q_1, .inl (cA_2, 4, .inl (fun _ => 0)))] _ := hP
  have hD : va_D A [(h0, .inr (6, [.null, .null, .null, .ref q_1, .ref q_3, .int 0, .int 0, .int 0, .int 0, .int 0, .int 0])), (q_1, .inl (cA_2, 4, .inl (fun _ => 0)))] := hD
  refine lv_aload_n hx hb dX7_init_25 rfl (lv_at hl 0 rfl) ?_
  refine lv_iconst (v := 0) hx hb dX7_init_26 (by decide) ?_
  refine va_put (D := (dC, dI)) (ci := 6) (v := .int 0) (ty := .int) (C := RX7) (T := TX7) (N := 11) hx hb hts in_X7_init_RX7 tyX7 tyX7_ok nmX7 hown hK hP hD hS 0 rfl rfl 6 (by decide) (hts (.fieldLink RX7 23 "FourTongues$Parser" "counted" "I") (by decide +kernel)) (fun _ h9 => h9) rfl (by decide +kernel) rfl rfl (Nat.le_of_ble_eq_true rfl) dX7_init_27 (fun H locs hP hD hS => ?_)
  have hP : va_P (dC, dI) vwCl [(h0, .inr (6, [.null, .null, .null, .ref q_1, .ref q_3, .int 0, .int 0, .int 0, .int 0, .int 0, .int 0])), (q_1, .inl (cA_2, 4, .inl (fun _ => 0)))] _ := hP
  have hD : va_D A [(h0, .inr (6, [.null, .null, .null, .ref q_1, .ref q_3, .int 0, .int 0, .int 0, .int 0, .int 0, .int 0])), (q_1, .inl (cA_2, 4, .inl (fun _ => 0)))] := hD
  refine lv_aload_n hx hb dX7_init_30 rfl (lv_at hl 0 rfl) ?_
  refine lv_iconst (v := 0) hx hb dX7_init_31 (by decide) ?_
  refine va_put (D := (dC, dI)) (ci := 6) (v := .int 0) (ty := .int) (C := RX7) (T := TX7) (N := 11) hx hb hts in_X7_init_RX7 tyX7 tyX7_ok nmX7 hown hK hP hD hS 0 rfl rfl 7 (by decide) (hts (.fieldLink RX7 26 "FourTongues$Parser" "told" "I") (by decide +kernel)) (fun _ h9 => h9) rfl (by decide +kernel) rfl rfl (Nat.le_of_ble_eq_true rfl) dX7_init_32 (fun H locs hP hD hS => ?_)
  have hP : va_P (dC, dI) vwCl [(h0, .inr (6, [.null, .null, .null, .ref q_1, .ref q_3, .int 0, .int 0, .int 0, .int 0, .int 0, .int 0])), (q_1, .inl (cA_2, 4, .inl (fun _ => 0)))] _ := hP
  have hD : va_D A [(h0, .inr (6, [.null, .null, .null, .ref q_1, .ref q_3, .int 0, .int 0, .int 0, .int 0, .int 0, .int 0])), (q_1, .inl (cA_2, 4, .inl (fun _ => 0)))] := hD
  refine lv_aload_n hx hb dX7_init_35 rfl (lv_at hl 0 rfl) ?_
  refine lv_iconst (v := 0) hx hb dX7_init_36 (by decide) ?_
  refine va_put (D := (dC, dI)) (ci := 6) (v := .int 0) (ty := .int) (C := RX7) (T := TX7) (N := 11) hx hb hts in_X7_init_RX7 tyX7 tyX7_ok nmX7 hown hK hP hD hS 0 rfl rfl 8 (by decide) (hts (.fieldLink RX7 29 "FourTongues$Parser" "tongue" "I") (by decide +kernel)) (fun _ h9 => h9) rfl (by decide +kernel) rfl rfl (Nat.le_of_ble_eq_true rfl) dX7_init_37 (fun H locs hP hD hS => ?_)
  have hP : va_P (dC, dI) vwCl [(h0, .inr (6, [.null, .null, .null, .ref q_1, .ref q_3, .int 0, .int 0, .int 0, .int 0, .int 0, .int 0])), (q_1, .inl (cA_2, 4, .inl (fun _ => 0)))] _ := hP
  have hD : va_D A [(h0, .inr (6, [.null, .null, .null, .ref q_1, .ref q_3, .int 0, .int 0, .int 0, .int 0, .int 0, .int 0])), (q_1, .inl (cA_2, 4, .inl (fun _ => 0)))] := hD
  refine lv_aload_n hx hb dX7_init_40 rfl (lv_at hl 0 rfl) ?_
  refine lv_iconst (v := 0) hx hb dX7_init_41 (by decide) ?_
  refine va_put (D := (dC, dI)) (ci := 6) (v := .int 0) (ty := .int) (C := RX7) (T := TX7) (N := 11) hx hb hts in_X7_init_RX7 tyX7 tyX7_ok nmX7 hown hK hP hD hS 0 rfl rfl 9 (by decide) (hts (.fieldLink RX7 32 "FourTongues$Parser" "depth" "I") (by decide +kernel)) (fun _ h9 => h9) rfl (by decide +kernel) rfl rfl (Nat.le_of_ble_eq_true rfl) dX7_init_42 (fun H locs hP hD hS => ?_)
  have hP : va_P (dC, dI) vwCl [(h0, .inr (6, [.null, .null, .null, .ref q_1, .ref q_3, .int 0, .int 0, .int 0, .int 0, .int 0, .int 0])), (q_1, .inl (cA_2, 4, .inl (fun _ => 0)))] _ := hP
  have hD : va_D A [(h0, .inr (6, [.null, .null, .null, .ref q_1, .ref q_3, .int 0, .int 0, .int 0, .int 0, .int 0, .int 0])), (q_1, .inl (cA_2, 4, .inl (fun _ => 0)))] := hD
  refine lv_aload_n hx hb dX7_init_45 rfl (lv_at hl 0 rfl) ?_
  refine lv_iconst (v := 0) hx hb dX7_init_46 (by decide) ?_
  refine va_put (D := (dC, dI)) (ci := 6) (v := .int 0) (ty := .int) (C := RX7) (T := TX7) (N := 11) hx hb hts in_X7_init_RX7 tyX7 tyX7_ok nmX7 hown hK hP hD hS 0 rfl rfl 10 (by decide) (hts (.fieldLink RX7 35 "FourTongues$Parser" "place" "I") (by decide +kernel)) (fun _ h9 => h9) rfl (by decide +kernel) rfl rfl (Nat.le_of_ble_eq_true rfl) dX7_init_47 (fun H locs hP hD hS => ?_)
  have hP : va_P (dC, dI) vwCl [(h0, .inr (6, [.null, .null, .null, .ref q_1, .ref q_3, .int 0, .int 0, .int 0, .int 0, .int 0, .int 0])), (q_1, .inl (cA_2, 4, .inl (fun _ => 0)))] _ := hP
  have hD : va_D A [(h0, .inr (6, [.null, .null, .null, .ref q_1, .ref q_3, .int 0, .int 0, .int 0, .int 0, .int 0, .int 0])), (q_1, .inl (cA_2, 4, .inl (fun _ => 0)))] := hD
  refine lv_aload_n hx hb dX7_init_50 rfl (lv_at hl 0 rfl) ?_
  refine va_new (ci := 9) (fs := [.null, .null, .null, .null, .null, .null, .int 0, .int 0, .int 0, .int 0, .int 0, .int 0, .int 0, .int 0, .long 0, .double 0]) (C := RX10) (T := TX10) (N := 16) hx hb hts in_X7_init_RX10 tyX10 tyX10_ok hown (hts (.classLink RX7 38 RX10) (by decide +kernel)) (hts (.instantiable RX10 16) (by decide +kernel)) (hts (.initialized RX10) (by decide +kernel)) hK hP hD hS hA rfl df_X10 (Nat.le_of_ble_eq_true rfl) (Nat.le_of_ble_eq_true rfl) dX7_init_51 (fun q_5 H hP hD hS => ?_)
  have hP : va_P (dC, dI) vwCl [(h0, .inr (6, [.null, .null, .null, .ref q_1, .ref q_3, .int 0, .int 0, .int 0, .int 0, .int 0, .int 0])), (q_1, .inl (cA_2, 4, .inl (fun _ => 0))), (q_5, .inr (9, [.null, .null, .null, .null, .null, .null, .int 0, .int 0, .int 0, .int 0, .int 0, .int 0, .int 0, .int 0, .long 0, .double 0]))] _ := hP
  have hD : va_D A [(h0, .inr (6, [.null, .null, .null, .ref q_1, .ref q_3, .int 0, .int 0, .int 0, .int 0, .int 0, .int 0])), (q_1, .inl (cA_2, 4, .inl (fun _ => 0))), (q_5, .inr (9, [.null, .null, .null, .null, .null, .null, .int 0, .int 0, .int 0, .int 0, .int 0, .int 0, .int 0, .int 0, .long 0, .double 0]))] := hD
  refine W.widen (k := 3) (n := 1020) (Nat.le_of_ble_eq_true rfl) (Nat.le_of_ble_eq_true rfl) ?_
  refine lv_dup hx hb dX7_init_54 rfl ?_
  refine lv_aload_n hx hb dX7_init_55 rfl (lv_at hl 1 rfl) ?_
  have hPc := hP.sub (ws' := [(q_5, .inr (9, [.null, .null, .null, .null, .null, .null, .int 0, .int 0, .int 0, .int 0, .int 0, .int 0, .int 0, .int 0, .long 0, .double 0]))]) [2] rfl
  have hDc := hD.sub (ws' := [(q_5, .inr (9, [.null, .null, .null, .null, .null, .null, .int 0, .int 0, .int 0, .int 0, .int 0, .int 0, .int 0, .int 0, .long 0, .double 0]))]) [2] (by decide) rfl
  have hKc := hK.sub (tys' := []) [] rfl
  have hFc := va_free (wc := [(q_5, .inr (9, [.null, .null, .null, .null, .null, .null, .int 0, .int 0, .int 0, .int 0, .int 0, .int 0, .int 0, .int 0, .long 0, .double 0]))]) hD hS hA [2] rfl
  refine va_callv (va_runI (As := [.ref aT]) (rest := [.ref q_5, .ref h0]) ⟨hx, hb, hml, hown, hts⟩ (c_X10_init l dC dI H.size q_5 aT bK bV ) (cwI 1 hts gX7_init_X10_init rfl rfl rfl (hts (.initialized RX10) (by decide +kernel)) (hts (.methodLink RX7 40 yX10_init) (by decide +kernel)) (hts (.instanceMethod yX10_init) (by decide +kernel)) rfl (by decide +kernel) ⟨Nat.le_of_ble_eq_true rfl, Nat.le_of_ble_eq_true rfl⟩) ⟨(fb_ME eS.fb), fun U hU hW => ⟨rfl, ⟨xM.at hPc hKc hDc hU hW, hE.at hS hFc hU hW⟩⟩⟩ rfl rfl hl.1 rfl (lv_room (Nat.le_of_ble_eq_true rfl)) dX7_init_56 ⟨Nat.le_of_ble_eq_true rfl, Nat.le_of_ble_eq_true rfl⟩) hS (fun q _ h => hFc q h) hFc (fun u t H locs ht hvm hw hB hz1 hk1 hS => ?_)
  obtain ⟨q_6, q_7, cA_8, q_9, cA_10, q_11, cA_12, q_13, cA_14, hB⟩ := hB
  obtain ⟨hP, hD, hK⟩ := xB.join (wr := [(h0, .inr (6, [.null, .null, .null, .ref q_1, .ref q_3, .int 0, .int 0, .int 0, .int 0, .int 0, .int 0])), (q_1, .inl (cA_2, 4, .inl (fun _ => 0)))]) (w1 := [(q_5, .inr (9, [.ref aT, .ref q_6, .ref q_7, .ref q_9, .ref q_11, .ref q_13, .int 0, .int 0, .int 0, .int 0, .int 0, .int 0, .int 0, .int 0, .long 0, .double FP.dconst0])), (q_7, .inl (cA_8, 3001, .inl (fun _ => 0))), (q_9, .inl (cA_10, 3001, .inl (fun _ => 0))), (q_11, .inl (cA_12, 3001, .inr (.inl (fun _ => 0)))), (q_13, .inl (cA_14, 3001, .inr (.inr (.inr (.inl (fun _ => 0))))))]) hP hD hK [2] [0, 1] rfl rfl (by decide) (by decide) hk1 hFc hB ht hvm
  have hP : va_P (dC, dI) vwCl [(h0, .inr (6, [.null, .null, .null, .ref q_1, .ref q_3, .int 0, .int 0, .int 0, .int 0, .int 0, .int 0])), (q_1, .inl (cA_2, 4, .inl (fun _ => 0))), (q_5, .inr (9, [.ref aT, .ref q_6, .ref q_7, .ref q_9, .ref q_11, .ref q_13, .int 0, .int 0, .int 0, .int 0, .int 0, .int 0, .int 0, .int 0, .long 0, .double FP.dconst0])), (q_7, .inl (cA_8, 3001, .inl (fun _ => 0))), (q_9, .inl (cA_10, 3001, .inl (fun _ => 0))), (q_11, .inl (cA_12, 3001, .inr (.inl (fun _ => 0)))), (q_13, .inl (cA_14, 3001, .inr (.inr (.inr (.inl (fun _ => 0))))))] _ := hP
  have hD : va_D A [(h0, .inr (6, [.null, .null, .null, .ref q_1, .ref q_3, .int 0, .int 0, .int 0, .int 0, .int 0, .int 0])), (q_1, .inl (cA_2, 4, .inl (fun _ => 0))), (q_5, .inr (9, [.ref aT, .ref q_6, .ref q_7, .ref q_9, .ref q_11, .ref q_13, .int 0, .int 0, .int 0, .int 0, .int 0, .int 0, .int 0, .int 0, .long 0, .double FP.dconst0])), (q_7, .inl (cA_8, 3001, .inl (fun _ => 0))), (q_9, .inl (cA_10, 3001, .inl (fun _ => 0))), (q_11, .inl (cA_12, 3001, .inr (.inl (fun _ => 0)))), (q_13, .inl (cA_14, 3001, .inr (.inr (.inr (.inl (fun _ => 0))))))] := hD
  have hK : va_K (dC, dI) vwCl [(cA_2, .int), (cA_4, .long), (cA_8, .int), (cA_10, .int), (cA_12, .long), (cA_14, .double)] s := hK
  refine W.widen (k := 8) (n := 13057) (Nat.le_of_ble_eq_true rfl) (Nat.le_of_ble_eq_true rfl) ?_
  refine va_putF (D := (dC, dI)) (ci := 6) (v := .ref q_5) (ty := .object "FourTongues$Tokens") (C := RX7) (T := TX7) (N := 11) hx hb hts in_X7_init_RX7 tyX7 tyX7_ok nmX7 hown hK hP hD hS 0 rfl rfl 0 (by decide) (hts (.fieldLink RX7 43 "FourTongues$Parser" "tokens" "LFourTongues$Tokens;") (by decide +kernel)) (fun _ h9 => h9) rfl hin rfl (by decide +kernel) rfl rfl (Nat.le_of_ble_eq_true rfl) dX7_init_59 (fun H locs hP hD hS => ?_)
  have hP : va_P (dC, dI) vwCl [(h0, .inr (6, [.ref q_5, .null, .null, .ref q_1, .ref q_3, .int 0, .int 0, .int 0, .int 0, .int 0, .int 0])), (q_1, .inl (cA_2, 4, .inl (fun _ => 0))), (q_5, .inr (9, [.ref aT, .ref q_6, .ref q_7, .ref q_9, .ref q_11, .ref q_13, .int 0, .int 0, .int 0, .int 0, .int 0, .int 0, .int 0, .int 0, .long 0, .double FP.dconst0])), (q_7, .inl (cA_8, 3001, .inl (fun _ => 0))), (q_9, .inl (cA_10, 3001, .inl (fun _ => 0))), (q_11, .inl (cA_12, 3001, .inr (.inl (fun _ => 0)))), (q_13, .inl (cA_14, 3001, .inr (.inr (.inr (.inl (fun _ => 0))))))] _ := hP
  have hD : va_D A [(h0, .inr (6, [.ref q_5, .null, .null, .ref q_1, .ref q_3, .int 0, .int 0, .int 0, .int 0, .int 0, .int 0])), (q_1, .inl (cA_2, 4, .inl (fun _ => 0))), (q_5, .inr (9, [.ref aT, .ref q_6, .ref q_7, .ref q_9, .ref q_11, .ref q_13, .int 0, .int 0, .int 0, .int 0, .int 0, .int 0, .int 0, .int 0, .long 0, .double FP.dconst0])), (q_7, .inl (cA_8, 3001, .inl (fun _ => 0))), (q_9, .inl (cA_10, 3001, .inl (fun _ => 0))), (q_11, .inl (cA_12, 3001, .inr (.inl (fun _ => 0)))), (q_13, .inl (cA_14, 3001, .inr (.inr (.inr (.inl (fun _ => 0))))))] := hD
  refine lv_aload_n hx hb dX7_init_62 rfl (lv_at hl 0 rfl) ?_
  refine lv_aload_n hx hb dX7_init_63 rfl (lv_at hl 2 rfl) ?_
  refine va_putF (D := (dC, dI)) (ci := 6) (v := .ref aN) (ty := .object "FourTongues$Names") (C := RX7) (T := TX7) (N := 11) hx hb hts in_X7_init_RX7 tyX7 tyX7_ok nmX7 hown hK hP hD hS 0 rfl rfl 1 (by decide) (hts (.fieldLink RX7 47 "FourTongues$Parser" "names" "LFourTongues$Names;") (by decide +kernel)) (fun _ h9 => h9) rfl hin rfl (by decide +kernel) rfl rfl (Nat.le_of_ble_eq_true rfl) dX7_init_64 (fun H locs hP hD hS => ?_)
  have hP : va_P (dC, dI) vwCl [(h0, .inr (6, [.ref q_5, .ref aN, .null, .ref q_1, .ref q_3, .int 0, .int 0, .int 0, .int 0, .int 0, .int 0])), (q_1, .inl (cA_2, 4, .inl (fun _ => 0))), (q_5, .inr (9, [.ref aT, .ref q_6, .ref q_7, .ref q_9, .ref q_11, .ref q_13, .int 0, .int 0, .int 0, .int 0, .int 0, .int 0, .int 0, .int 0, .long 0, .double FP.dconst0])), (q_7, .inl (cA_8, 3001, .inl (fun _ => 0))), (q_9, .inl (cA_10, 3001, .inl (fun _ => 0))), (q_11, .inl (cA_12, 3001, .inr (.inl (fun _ => 0)))), (q_13, .inl (cA_14, 3001, .inr (.inr (.inr (.inl (fun _ => 0))))))] _ := hP
  have hD : va_D A [(h0, .inr (6, [.ref q_5, .ref aN, .null, .ref q_1, .ref q_3, .int 0, .int 0, .int 0, .int 0, .int 0, .int 0])), (q_1, .inl (cA_2, 4, .inl (fun _ => 0))), (q_5, .inr (9, [.ref aT, .ref q_6, .ref q_7, .ref q_9, .ref q_11, .ref q_13, .int 0, .int 0, .int 0, .int 0, .int 0, .int 0, .int 0, .int 0, .long 0, .double FP.dconst0])), (q_7, .inl (cA_8, 3001, .inl (fun _ => 0))), (q_9, .inl (cA_10, 3001, .inl (fun _ => 0))), (q_11, .inl (cA_12, 3001, .inr (.inl (fun _ => 0)))), (q_13, .inl (cA_14, 3001, .inr (.inr (.inr (.inl (fun _ => 0))))))] := hD
  refine lv_aload_n hx hb dX7_init_67 rfl (lv_at hl 0 rfl) ?_
  refine lv_aload_n hx hb dX7_init_68 rfl (lv_at hl 3 rfl) ?_
  refine va_put (D := (dC, dI)) (ci := 6) (v := .ref aP) (ty := .object "FourTongues$Program") (C := RX7) (T := TX7) (N := 11) hx hb hts in_X7_init_RX7 tyX7 tyX7_ok nmX7 hown hK hP hD hS 0 rfl rfl 2 (by decide) (hts (.fieldLink RX7 51 "FourTongues$Parser" "program" "LFourTongues$Program;") (by decide +kernel)) (fun _ h9 => h9) rfl (by decide +kernel) rfl rfl (Nat.le_of_ble_eq_true rfl) dX7_init_69 (fun H locs hP hD hS => ?_)
  have hP : va_P (dC, dI) vwCl [(h0, .inr (6, [.ref q_5, .ref aN, .ref aP, .ref q_1, .ref q_3, .int 0, .int 0, .int 0, .int 0, .int 0, .int 0])), (q_1, .inl (cA_2, 4, .inl (fun _ => 0))), (q_5, .inr (9, [.ref aT, .ref q_6, .ref q_7, .ref q_9, .ref q_11, .ref q_13, .int 0, .int 0, .int 0, .int 0, .int 0, .int 0, .int 0, .int 0, .long 0, .double FP.dconst0])), (q_7, .inl (cA_8, 3001, .inl (fun _ => 0))), (q_9, .inl (cA_10, 3001, .inl (fun _ => 0))), (q_11, .inl (cA_12, 3001, .inr (.inl (fun _ => 0)))), (q_13, .inl (cA_14, 3001, .inr (.inr (.inr (.inl (fun _ => 0))))))] _ := hP
  have hD : va_D A [(h0, .inr (6, [.ref q_5, .ref aN, .ref aP, .ref q_1, .ref q_3, .int 0, .int 0, .int 0, .int 0, .int 0, .int 0])), (q_1, .inl (cA_2, 4, .inl (fun _ => 0))), (q_5, .inr (9, [.ref aT, .ref q_6, .ref q_7, .ref q_9, .ref q_11, .ref q_13, .int 0, .int 0, .int 0, .int 0, .int 0, .int 0, .int 0, .int 0, .long 0, .double FP.dconst0])), (q_7, .inl (cA_8, 3001, .inl (fun _ => 0))), (q_9, .inl (cA_10, 3001, .inl (fun _ => 0))), (q_11, .inl (cA_12, 3001, .inr (.inl (fun _ => 0)))), (q_13, .inl (cA_14, 3001, .inr (.inr (.inr (.inl (fun _ => 0))))))] := hD
  have hP9 := hP.sub (ws' := [(h0, .inr (6, [.ref q_5, .ref aN, .ref aP, .ref q_1, .ref q_3, .int 0, .int 0, .int 0, .int 0, .int 0, .int 0])), (q_1, .inl (cA_2, 4, .inl (fun _ => 0))), (q_5, .inr (9, [.ref aT, .ref q_6, .ref q_7, .ref q_9, .ref q_11, .ref q_13, .int 0, .int 0, .int 0, .int 0, .int 0, .int 0, .int 0, .int 0, .long 0, .double FP.dconst0])), (q_7, .inl (cA_8, 3001, .inl (fun _ => 0))), (q_9, .inl (cA_10, 3001, .inl (fun _ => 0))), (q_11, .inl (cA_12, 3001, .inr (.inl (fun _ => 0)))), (q_13, .inl (cA_14, 3001, .inr (.inr (.inr (.inl (fun _ => 0))))))]) [0, 1, 2, 3, 4, 5, 6] rfl
  have hD9 := hD.sub (ws' := [(h0, .inr (6, [.ref q_5, .ref aN, .ref aP, .ref q_1, .ref q_3, .int 0, .int 0, .int 0, .int 0, .int 0, .int 0])), (q_1, .inl (cA_2, 4, .inl (fun _ => 0))), (q_5, .inr (9, [.ref aT, .ref q_6, .ref q_7, .ref q_9, .ref q_11, .ref q_13, .int 0, .int 0, .int 0, .int 0, .int 0, .int 0, .int 0, .int 0, .long 0, .double FP.dconst0])), (q_7, .inl (cA_8, 3001, .inl (fun _ => 0))), (q_9, .inl (cA_10, 3001, .inl (fun _ => 0))), (q_11, .inl (cA_12, 3001, .inr (.inl (fun _ => 0)))), (q_13, .inl (cA_14, 3001, .inr (.inr (.inr (.inl (fun _ => 0))))))]) [0, 1, 2, 3, 4, 5, 6] (by decide) rfl
  have hK9 := hK.sub (tys' := [(cA_2, .int), (cA_8, .int), (cA_10, .int), (cA_12, .long), (cA_14, .double)]) [0, 2, 3, 4, 5] rfl
  exact W.vret hx hb hr (fun t ht hW => ⟨⟨(), rfl, trivial, ⟨q_1, cA_2, q_3, q_5, q_6, q_7, cA_8, q_9, cA_10, q_11, cA_12, q_13, cA_14, by rw [ht]; exact hP9, va_K.moved hW.alike hK9, hD9⟩⟩, hS.F ht⟩) hS.2.2 dX7_init_72

set_option maxHeartbeats 4000000 in
set_option maxRecDepth 100000 in
theorem c_X4_init (l : Launch) (dC : Nat → ClassId) (dI : Nat → Nat → Nat) (sz : Nat) (h0 : Nat) (aQ : Nat) (aN : Nat) (aB : Nat) (aP : Nat) : Met l yX4_init wsX4_init ({ frames := 3, cells := 38, slots := 3146, locals := 66 }) (va_Pc [.ref h0, .ref aQ, .ref aN, .ref aB, .ref aP] (fun U => xM (dC, dI) sz [(h0, .inr (4, [.null, .null, .null, .null, .null, .null, .null, .null, .null, .null, .null, .int 0, .int 0, .int 0, .int 0, .int 0, .long 0]))] [] U ∧ va_Nw (.methodLinkNest RX4 28 yX1_init RX11) U ∧ va_Nw (.methodLinkNest RX4 35 yX2_init RX11) U ∧ va_Nw (.methodLinkNest RX4 42 yX3_init RX11) U)) (va_Qv (fun _ : Unit => True) (fun (_ : Unit) t => ∃ (q_1 : Nat), ∃ (q_6 : Nat), ∃ (q_11 : Nat), ∃ (q_12 : Nat), ∃ (q_14 : Nat), ∃ (q_15 : Nat), ∃ (q_16 : Nat), ∃ (q_17 : Nat), ∃ (q_18 : Nat), ∃ (q_19 : Nat), ∃ (q_20 : Nat), ∃ (q_28 : Nat), ∃ (q_35 : Nat), ∃ (cA_36 : ClassId), xB (dC, dI) [(h0, .inr (4, [.ref aQ, .ref aN, .ref aB, .ref q_1, .ref q_6, .ref q_11, .ref q_16, .ref q_20, .ref q_28, .ref q_35, .ref aP, .int 0, .int 0, .int 4, .int (-1), .int (-1), .long 0])), (q_11, .inr (8, [.ref q_12, .ref q_14, .ref q_15, .int 0])), (q_16, .inr (1, [.ref q_17, .int 0, .ref q_18, .ref q_19, .int 0])), (q_35, .inl (cA_36, 10, .inl (fun _ => 0)))] [(cA_36, .int)] (va_A [(h0, .inr (4, [.null, .null, .null, .null, .null, .null, .null, .null, .null, .null, .null, .int 0, .int 0, .int 0, .int 0, .int 0, .long 0]))] sz) t) (va_A [(h0, .inr (4, [.null, .null, .null, .null, .null, .null, .null, .null, .null, .null, .null, .int 0, .int 0, .int 0, .int 0, .int 0, .long 0]))] sz)) 38 3146 (va_A [(h0, .inr (4, [.null, .null, .null, .null, .null, .null, .null, .null, .null, .null, .null, .int 0, .int 0, .int 0, .int 0, .int 0, .long 0]))] sz) := by
  refine Met.ofW (cc := cX4_init) (maxL := 5) (ret := none) (by decide) rfl ?_
  intro p e s m args below meth c s₁ B hml hv
  obtain ⟨rfl, ⟨hsz, hP, hK, hD0⟩, hN1, hN2, hN3⟩ := hv
  have hx := B.exec
  have hb := B.bytes
  have hr := B.returns
  have hts := atoms_spec (ws := wsX4_init) B.pre
  have hown : s.vm.findClass RX4 = some m.cls := findClass_of_methodNamed B.named
  have hlocks := B.notSynchronized
  have hin : meth.name = "<init>" := (name_of_methodNamed B.named B.method).1
  subst hsz
  have hD := hD0.self (sz := s.heap.size)
  generalize hAe : va_A [(h0, .inr (4, [.null, .null, .null, .null, .null, .null, .null, .null, .null, .null, .null, .int 0, .int 0, .int 0, .int 0, .int 0, .long 0]))] s.heap.size = A at hD  ⊢
  have hA : ∀ q : Nat, s.heap.size ≤ q → A q := fun q h => by rw [← hAe]; exact Or.inr h
  have hS : va_S A s.heap s.heap [] := va_S.rf
  have hl := lv_entry ([.ref h0, .ref aQ, .ref aN, .ref aB, .ref aP]) (n := 5) (Nat.le_of_ble_eq_true rfl)
  rw [lg_entry_eq]
  generalize (lg_sl ([.ref h0, .ref aQ, .ref aN, .ref aB, .ref aP]) ++ List.replicate (5 - (lg_sl ([.ref h0, .ref aQ, .ref aN, .ref aB, .ref aP])).length) Slot.unset).toArray = ls at hl ⊢
  have hl : lv_has ls 5 [(0, .ref h0), (1, .ref aQ), (2, .ref aN), (3, .ref aB), (4, .ref aP)] := hl
  refine lv_aload_n hx hb dX4_init_0 rfl (lv_at hl 0 rfl) ?_
  refine W.objInit hx hb hown (hts (.methodLink RX4 3 objectInit) (by decide +kernel)) (hts (.instanceMethod objectInit) (by decide +kernel)) (hts (.code objectInit ⟨#[0xb1]⟩ 1 none) (by decide +kernel)) rfl (by rw [hml]; exact hl.1) rfl dX4_init_1 (Nat.le_of_ble_eq_true rfl) (Nat.le_of_ble_eq_true rfl) ?_
  refine W.eq (g2 := F0 m 4 ls []) rfl ?_
  refine lv_aload_n hx hb dX4_init_4 rfl (lv_at hl 0 rfl) ?_
  refine va_new (ci := 8) (fs := [.null, .null, .null, .int 0]) (C := RX9) (T := TX9) (N := 4) hx hb hts in_X4_init_RX9 tyX9 tyX9_ok hown (hts (.classLink RX4 9 RX9) (by decide +kernel)) (hts (.instantiable RX9 4) (by decide +kernel)) (hts (.initialized RX9) (by decide +kernel)) hK hP hD hS hA rfl df_X9 (Nat.le_of_ble_eq_true rfl) (Nat.le_of_ble_eq_true rfl) dX4_init_5 (fun q_1 H hP hD hS => ?_)
  have hP : va_P (dC, dI) vwCl [(h0, .inr (4, [.null, .null, .null, .null, .null, .null, .null, .null, .null, .null, .null, .int 0, .int 0, .int 0, .int 0, .int 0, .long 0])), (q_1, .inr (8, [.null, .null, .null, .int 0]))] _ := hP
  have hD : va_D A [(h0, .inr (4, [.null, .null, .null, .null, .null, .null, .null, .null, .null, .null, .null, .int 0, .int 0, .int 0, .int 0, .int 0, .long 0])), (q_1, .inr (8, [.null, .null, .null, .int 0]))] := hD
  refine W.widen (k := 1) (n := 4) (Nat.le_of_ble_eq_true rfl) (Nat.le_of_ble_eq_true rfl) ?_
  refine lv_dup hx hb dX4_init_8 rfl ?_
  refine lv_bipush (v := 64) hx hb dX4_init_9 (by decide) ?_
  have hPc := hP.sub (ws' := [(q_1, .inr (8, [.null, .null, .null, .int 0]))]) [1] rfl
  have hDc := hD.sub (ws' := [(q_1, .inr (8, [.null, .null, .null, .int 0]))]) [1] (by decide) rfl
  have hKc := hK.sub (tys' := []) [] rfl
  have hFc := va_free (wc := [(q_1, .inr (8, [.null, .null, .null, .int 0]))]) hD hS hA [1] rfl
  refine va_callv (va_runI (As := [.int 64]) (rest := [.ref q_1, .ref h0]) ⟨hx, hb, hml, hown, hts⟩ (c_X9_init_64 l dC dI H.size q_1 ) (cwI 1 hts gX4_init_X9_init rfl rfl rfl (hts (.initialized RX9) (by decide +kernel)) (hts (.methodLink RX4 11 yX9_init) (by decide +kernel)) (hts (.instanceMethod yX9_init) (by decide +kernel)) rfl (by decide +kernel) ⟨Nat.le_of_ble_eq_true rfl, Nat.le_of_ble_eq_true rfl⟩) ⟨fb_M, fun U hU hW => ⟨rfl, xM.at hPc hKc hDc hU hW⟩⟩ rfl rfl hl.1 rfl (lv_room (Nat.le_of_ble_eq_true rfl)) dX4_init_11 ⟨Nat.le_of_ble_eq_true rfl, Nat.le_of_ble_eq_true rfl⟩) hS (fun q _ h => hFc q h) hFc (fun u t H locs ht hvm hw hB hz1 hk1 hS => ?_)
  obtain ⟨q_2, cA_3, q_4, q_5, hB⟩ := hB
  obtain ⟨hP, hD, hK⟩ := xB.join (wr := [(h0, .inr (4, [.null, .null, .null, .null, .null, .null, .null, .null, .null, .null, .null, .int 0, .int 0, .int 0, .int 0, .int 0, .long 0]))]) (w1 := [(q_1, .inr (8, [.ref q_2, .ref q_4, .ref q_5, .int 0])), (q_2, .inl (cA_3, 64, .inl (fun _ => 0)))]) hP hD hK [1] [0] rfl rfl (by decide) (by decide) hk1 hFc hB ht hvm
  have hP : va_P (dC, dI) vwCl [(h0, .inr (4, [.null, .null, .null, .null, .null, .null, .null, .null, .null, .null, .null, .int 0, .int 0, .int 0, .int 0, .int 0, .long 0])), (q_1, .inr (8, [.ref q_2, .ref q_4, .ref q_5, .int 0])), (q_2, .inl (cA_3, 64, .inl (fun _ => 0)))] _ := hP
  have hD : va_D A [(h0, .inr (4, [.null, .null, .null, .null, .null, .null, .null, .null, .null, .null, .null, .int 0, .int 0, .int 0, .int 0, .int 0, .long 0])), (q_1, .inr (8, [.ref q_2, .ref q_4, .ref q_5, .int 0])), (q_2, .inl (cA_3, 64, .inl (fun _ => 0)))] := hD
  have hK : va_K (dC, dI) vwCl [(cA_3, .int)] s := hK
  refine W.widen (k := 4) (n := 196) (Nat.le_of_ble_eq_true rfl) (Nat.le_of_ble_eq_true rfl) ?_
  refine va_putF (D := (dC, dI)) (ci := 4) (v := .ref q_1) (ty := .object "FourTongues$Row") (C := RX4) (T := TX4) (N := 17) hx hb hts in_X4_init_RX4 tyX4 tyX4_ok nmX4 hown hK hP hD hS 0 rfl rfl 3 (by decide) (hts (.fieldLink RX4 14 "FourTongues$Machine" "stack" "LFourTongues$Row;") (by decide +kernel)) (fun _ h9 => h9) rfl hin rfl (by decide +kernel) rfl rfl (Nat.le_of_ble_eq_true rfl) dX4_init_14 (fun H locs hP hD hS => ?_)
  have hP : va_P (dC, dI) vwCl [(h0, .inr (4, [.null, .null, .null, .ref q_1, .null, .null, .null, .null, .null, .null, .null, .int 0, .int 0, .int 0, .int 0, .int 0, .long 0])), (q_1, .inr (8, [.ref q_2, .ref q_4, .ref q_5, .int 0])), (q_2, .inl (cA_3, 64, .inl (fun _ => 0)))] _ := hP
  have hD : va_D A [(h0, .inr (4, [.null, .null, .null, .ref q_1, .null, .null, .null, .null, .null, .null, .null, .int 0, .int 0, .int 0, .int 0, .int 0, .long 0])), (q_1, .inr (8, [.ref q_2, .ref q_4, .ref q_5, .int 0])), (q_2, .inl (cA_3, 64, .inl (fun _ => 0)))] := hD
  have hP := hP.sub (ws' := [(h0, .inr (4, [.null, .null, .null, .ref q_1, .null, .null, .null, .null, .null, .null, .null, .int 0, .int 0, .int 0, .int 0, .int 0, .long 0]))]) [0] rfl
  have hD := hD.sub (ws' := [(h0, .inr (4, [.null, .null, .null, .ref q_1, .null, .null, .null, .null, .null, .null, .null, .int 0, .int 0, .int 0, .int 0, .int 0, .long 0]))]) [0] (by decide) rfl
  refine lv_aload_n hx hb dX4_init_17 rfl (lv_at hl 0 rfl) ?_
  refine va_new (ci := 8) (fs := [.null, .null, .null, .int 0]) (C := RX9) (T := TX9) (N := 4) hx hb hts in_X4_init_RX9 tyX9 tyX9_ok hown (hts (.classLink RX4 9 RX9) (by decide +kernel)) (hts (.instantiable RX9 4) (by decide +kernel)) (hts (.initialized RX9) (by decide +kernel)) hK hP hD hS hA rfl df_X9 (Nat.le_of_ble_eq_true rfl) (Nat.le_of_ble_eq_true rfl) dX4_init_18 (fun q_6 H hP hD hS => ?_)
  have hP : va_P (dC, dI) vwCl [(h0, .inr (4, [.null, .null, .null, .ref q_1, .null, .null, .null, .null, .null, .null, .null, .int 0, .int 0, .int 0, .int 0, .int 0, .long 0])), (q_6, .inr (8, [.null, .null, .null, .int 0]))] _ := hP
  have hD : va_D A [(h0, .inr (4, [.null, .null, .null, .ref q_1, .null, .null, .null, .null, .null, .null, .null, .int 0, .int 0, .int 0, .int 0, .int 0, .long 0])), (q_6, .inr (8, [.null, .null, .null, .int 0]))] := hD
  refine W.widen (k := 5) (n := 200) (Nat.le_of_ble_eq_true rfl) (Nat.le_of_ble_eq_true rfl) ?_
  refine lv_dup hx hb dX4_init_21 rfl ?_
  refine lv_bipush (v := 64) hx hb dX4_init_22 (by decide) ?_
  have hPc := hP.sub (ws' := [(q_6, .inr (8, [.null, .null, .null, .int 0]))]) [1] rfl
  have hDc := hD.sub (ws' := [(q_6, .inr (8, [.null, .null, .null, .int 0]))]) [1] (by decide) rfl
  have hKc := hK.sub (tys' := []) [] rfl
  have hFc := va_free (wc := [(q_6, .inr (8, [.null, .null, .null, .int 0]))]) hD hS hA [1] rfl
  refine va_callv (va_runI (As := [.int 64]) (rest := [.ref q_6, .ref h0]) ⟨hx, hb, hml, hown, hts⟩ (c_X9_init_64 l dC dI H.size q_6 ) (cwI 1 hts gX4_init_X9_init rfl rfl rfl (hts (.initialized RX9) (by decide +kernel)) (hts (.methodLink RX4 11 yX9_init) (by decide +kernel)) (hts (.instanceMethod yX9_init) (by decide +kernel)) rfl (by decide +kernel) ⟨Nat.le_of_ble_eq_true rfl, Nat.le_of_ble_eq_true rfl⟩) ⟨fb_M, fun U hU hW => ⟨rfl, xM.at hPc hKc hDc hU hW⟩⟩ rfl rfl hl.1 rfl (lv_room (Nat.le_of_ble_eq_true rfl)) dX4_init_24 ⟨Nat.le_of_ble_eq_true rfl, Nat.le_of_ble_eq_true rfl⟩) hS (fun q _ h => hFc q h) hFc (fun u t H locs ht hvm hw hB hz1 hk1 hS => ?_)
  obtain ⟨q_7, cA_8, q_9, q_10, hB⟩ := hB
  obtain ⟨hP, hD, hK⟩ := xB.join (wr := [(h0, .inr (4, [.null, .null, .null, .ref q_1, .null, .null, .null, .null, .null, .null, .null, .int 0, .int 0, .int 0, .int 0, .int 0, .long 0]))]) (w1 := [(q_6, .inr (8, [.ref q_7, .ref q_9, .ref q_10, .int 0])), (q_7, .inl (cA_8, 64, .inl (fun _ => 0)))]) hP hD hK [1] [0] rfl rfl (by decide) (by decide) hk1 hFc hB ht hvm
  have hP : va_P (dC, dI) vwCl [(h0, .inr (4, [.null, .null, .null, .ref q_1, .null, .null, .null, .null, .null, .null, .null, .int 0, .int 0, .int 0, .int 0, .int 0, .long 0])), (q_6, .inr (8, [.ref q_7, .ref q_9, .ref q_10, .int 0])), (q_7, .inl (cA_8, 64, .inl (fun _ => 0)))] _ := hP
  have hD : va_D A [(h0, .inr (4, [.null, .null, .null, .ref q_1, .null, .null, .null, .null, .null, .null, .null, .int 0, .int 0, .int 0, .int 0, .int 0, .long 0])), (q_6, .inr (8, [.ref q_7, .ref q_9, .ref q_10, .int 0])), (q_7, .inl (cA_8, 64, .inl (fun _ => 0)))] := hD
  have hK : va_K (dC, dI) vwCl [(cA_3, .int), (cA_8, .int)] s := hK
  refine W.widen (k := 8) (n := 392) (Nat.le_of_ble_eq_true rfl) (Nat.le_of_ble_eq_true rfl) ?_
  refine va_putF (D := (dC, dI)) (ci := 4) (v := .ref q_6) (ty := .object "FourTongues$Row") (C := RX4) (T := TX4) (N := 17) hx hb hts in_X4_init_RX4 tyX4 tyX4_ok nmX4 hown hK hP hD hS 0 rfl rfl 4 (by decide) (hts (.fieldLink RX4 20 "FourTongues$Machine" "heap" "LFourTongues$Row;") (by decide +kernel)) (fun _ h9 => h9) rfl hin rfl (by decide +kernel) rfl rfl (Nat.le_of_ble_eq_true rfl) dX4_init_27 (fun H locs hP hD hS => ?_)
  have hP : va_P (dC, dI) vwCl [(h0, .inr (4, [.null, .null, .null, .ref q_1, .ref q_6, .null, .null, .null, .null, .null, .null, .int 0, .int 0, .int 0, .int 0, .int 0, .long 0])), (q_6, .inr (8, [.ref q_7, .ref q_9, .ref q_10, .int 0])), (q_7, .inl (cA_8, 64, .inl (fun _ => 0)))] _ := hP
  have hD : va_D A [(h0, .inr (4, [.null, .null, .null, .ref q_1, .ref q_6, .null, .null, .null, .null, .null, .null, .int 0, .int 0, .int 0, .int 0, .int 0, .long 0])), (q_6, .inr (8, [.ref q_7, .ref q_9, .ref q_10, .int 0])), (q_7, .inl (cA_8, 64, .inl (fun _ => 0)))] := hD
  have hP := hP.sub (ws' := [(h0, .inr (4, [.null, .null, .null, .ref q_1, .ref q_6, .null, .null, .null, .null, .null, .null, .int 0, .int 0, .int 0, .int 0, .int 0, .long 0]))]) [0] rfl
  have hD := hD.sub (ws' := [(h0, .inr (4, [.null, .null, .null, .ref q_1, .ref q_6, .null, .null, .null, .null, .null, .null, .int 0, .int 0, .int 0, .int 0, .int 0, .long 0]))]) [0] (by decide) rfl
  refine lv_aload_n hx hb dX4_init_30 rfl (lv_at hl 0 rfl) ?_
  refine va_new (ci := 8) (fs := [.null, .null, .null, .int 0]) (C := RX9) (T := TX9) (N := 4) hx hb hts in_X4_init_RX9 tyX9 tyX9_ok hown (hts (.classLink RX4 9 RX9) (by decide +kernel)) (hts (.instantiable RX9 4) (by decide +kernel)) (hts (.initialized RX9) (by decide +kernel)) hK hP hD hS hA rfl df_X9 (Nat.le_of_ble_eq_true rfl) (Nat.le_of_ble_eq_true rfl) dX4_init_31 (fun q_11 H hP hD hS => ?_)
  have hP : va_P (dC, dI) vwCl [(h0, .inr (4, [.null, .null, .null, .ref q_1, .ref q_6, .null, .null, .null, .null, .null, .null, .int 0, .int 0, .int 0, .int 0, .int 0, .long 0])), (q_11, .inr (8, [.null, .null, .null, .int 0]))] _ := hP
  have hD : va_D A [(h0, .inr (4, [.null, .null, .null, .ref q_1, .ref q_6, .null, .null, .null, .null, .null, .null, .int 0, .int 0, .int 0, .int 0, .int 0, .long 0])), (q_11, .inr (8, [.null, .null, .null, .int 0]))] := hD
  refine W.widen (k := 9) (n := 396) (Nat.le_of_ble_eq_true rfl) (Nat.le_of_ble_eq_true rfl) ?_
  refine lv_dup hx hb dX4_init_34 rfl ?_
  refine lv_bipush (v := 16) hx hb dX4_init_35 (by decide) ?_
  have hPc := hP.sub (ws' := [(q_11, .inr (8, [.null, .null, .null, .int 0]))]) [1] rfl
  have hDc := hD.sub (ws' := [(q_11, .inr (8, [.null, .null, .null, .int 0]))]) [1] (by decide) rfl
  have hKc := hK.sub (tys' := []) [] rfl
  have hFc := va_free (wc := [(q_11, .inr (8, [.null, .null, .null, .int 0]))]) hD hS hA [1] rfl
  refine va_callv (va_runI (As := [.int 16]) (rest := [.ref q_11, .ref h0]) ⟨hx, hb, hml, hown, hts⟩ (c_X9_init_16 l dC dI H.size q_11 ) (cwI 1 hts gX4_init_X9_init rfl rfl rfl (hts (.initialized RX9) (by decide +kernel)) (hts (.methodLink RX4 11 yX9_init) (by decide +kernel)) (hts (.instanceMethod yX9_init) (by decide +kernel)) rfl (by decide +kernel) ⟨Nat.le_of_ble_eq_true rfl, Nat.le_of_ble_eq_true rfl⟩) ⟨fb_M, fun U hU hW => ⟨rfl, xM.at hPc hKc hDc hU hW⟩⟩ rfl rfl hl.1 rfl (lv_room (Nat.le_of_ble_eq_true rfl)) dX4_init_37 ⟨Nat.le_of_ble_eq_true rfl, Nat.le_of_ble_eq_true rfl⟩) hS (fun q _ h => hFc q h) hFc (fun u t H locs ht hvm hw hB hz1 hk1 hS => ?_)
  obtain ⟨q_12, cA_13, q_14, q_15, hB⟩ := hB
  obtain ⟨hP, hD, hK⟩ := xB.join (wr := [(h0, .inr (4, [.null, .null, .null, .ref q_1, .ref q_6, .null, .null, .null, .null, .null, .null, .int 0, .int 0, .int 0, .int 0, .int 0, .long 0]))]) (w1 := [(q_11, .inr (8, [.ref q_12, .ref q_14, .ref q_15, .int 0])), (q_12, .inl (cA_13, 16, .inl (fun _ => 0)))]) hP hD hK [1] [0] rfl rfl (by decide) (by decide) hk1 hFc hB ht hvm
  have hP : va_P (dC, dI) vwCl [(h0, .inr (4, [.null, .null, .null, .ref q_1, .ref q_6, .null, .null, .null, .null, .null, .null, .int 0, .int 0, .int 0, .int 0, .int 0, .long 0])), (q_11, .inr (8, [.ref q_12, .ref q_14, .ref q_15, .int 0])), (q_12, .inl (cA_13, 16, .inl (fun _ => 0)))] _ := hP
  have hD : va_D A [(h0, .inr (4, [.null, .null, .null, .ref q_1, .ref q_6, .null, .null, .null, .null, .null, .null, .int 0, .int 0, .int 0, .int 0, .int 0, .long 0])), (q_11, .inr (8, [.ref q_12, .ref q_14, .ref q_15, .int 0])), (q_12, .inl (cA_13, 16, .inl (fun _ => 0)))] := hD
  have hK : va_K (dC, dI) vwCl [(cA_3, .int), (cA_8, .int), (cA_13, .int)] s := hK
  refine W.widen (k := 12) (n := 444) (Nat.le_of_ble_eq_true rfl) (Nat.le_of_ble_eq_true rfl) ?_
  refine va_putF (D := (dC, dI)) (ci := 4) (v := .ref q_11) (ty := .object "FourTongues$Row") (C := RX4) (T := TX4) (N := 17) hx hb hts in_X4_init_RX4 tyX4 tyX4_ok nmX4 hown hK hP hD hS 0 rfl rfl 5 (by decide) (hts (.fieldLink RX4 23 "FourTongues$Machine" "marks" "LFourTongues$Row;") (by decide +kernel)) (fun _ h9 => h9) rfl hin rfl (by decide +kernel) rfl rfl (Nat.le_of_ble_eq_true rfl) dX4_init_40 (fun H locs hP hD hS => ?_)
  have hP : va_P (dC, dI) vwCl [(h0, .inr (4, [.null, .null, .null, .ref q_1, .ref q_6, .ref q_11, .null, .null, .null, .null, .null, .int 0, .int 0, .int 0, .int 0, .int 0, .long 0])), (q_11, .inr (8, [.ref q_12, .ref q_14, .ref q_15, .int 0])), (q_12, .inl (cA_13, 16, .inl (fun _ => 0)))] _ := hP
  have hD : va_D A [(h0, .inr (4, [.null, .null, .null, .ref q_1, .ref q_6, .ref q_11, .null, .null, .null, .null, .null, .int 0, .int 0, .int 0, .int 0, .int 0, .long 0])), (q_11, .inr (8, [.ref q_12, .ref q_14, .ref q_15, .int 0])), (q_12, .inl (cA_13, 16, .inl (fun _ => 0)))] := hD
  have hP := hP.sub (ws' := [(h0, .inr (4, [.null, .null, .null, .ref q_1, .ref q_6, .ref q_11, .null, .null, .null, .null, .null, .int 0, .int 0, .int 0, .int 0, .int 0, .long 0])), (q_11, .inr (8, [.ref q_12, .ref q_14, .ref q_15, .int 0]))]) [0, 1] rfl
  have hD := hD.sub (ws' := [(h0, .inr (4, [.null, .null, .null, .ref q_1, .ref q_6, .ref q_11, .null, .null, .null, .null, .null, .int 0, .int 0, .int 0, .int 0, .int 0, .long 0])), (q_11, .inr (8, [.ref q_12, .ref q_14, .ref q_15, .int 0]))]) [0, 1] (by decide) rfl
  refine lv_aload_n hx hb dX4_init_43 rfl (lv_at hl 0 rfl) ?_
  refine va_new (ci := 1) (fs := [.null, .int 0, .null, .null, .int 0]) (C := RX1) (T := TX1) (N := 5) hx hb hts in_X4_init_RX1 tyX1 tyX1_ok hown (hts (.classLink RX4 26 RX1) (by decide +kernel)) (hts (.instantiable RX1 5) (by decide +kernel)) (hts (.initialized RX1) (by decide +kernel)) hK hP hD hS hA rfl df_X1 (Nat.le_of_ble_eq_true rfl) (Nat.le_of_ble_eq_true rfl) dX4_init_44 (fun q_16 H hP hD hS => ?_)
  have hP : va_P (dC, dI) vwCl [(h0, .inr (4, [.null, .null, .null, .ref q_1, .ref q_6, .ref q_11, .null, .null, .null, .null, .null, .int 0, .int 0, .int 0, .int 0, .int 0, .long 0])), (q_11, .inr (8, [.ref q_12, .ref q_14, .ref q_15, .int 0])), (q_16, .inr (1, [.null, .int 0, .null, .null, .int 0]))] _ := hP
  have hD : va_D A [(h0, .inr (4, [.null, .null, .null, .ref q_1, .ref q_6, .ref q_11, .null, .null, .null, .null, .null, .int 0, .int 0, .int 0, .int 0, .int 0, .long 0])), (q_11, .inr (8, [.ref q_12, .ref q_14, .ref q_15, .int 0])), (q_16, .inr (1, [.null, .int 0, .null, .null, .int 0]))] := hD
  refine W.widen (k := 13) (n := 449) (Nat.le_of_ble_eq_true rfl) (Nat.le_of_ble_eq_true rfl) ?_
  refine lv_dup hx hb dX4_init_47 rfl ?_
  have hPc := hP.sub (ws' := [(q_16, .inr (1, [.null, .int 0, .null, .null, .int 0]))]) [2] rfl
  have hDc := hD.sub (ws' := [(q_16, .inr (1, [.null, .int 0, .null, .null, .int 0]))]) [2] (by decide) rfl
  have hKc := hK.sub (tys' := []) [] rfl
  have hFc := va_free (wc := [(q_16, .inr (1, [.null, .int 0, .null, .null, .int 0]))]) hD hS hA [2] rfl
  refine va_callv (va_runIN (As := []) (rest := [.ref q_16, .ref h0]) ⟨hx, hb, hml, hown, hts⟩ (c_X1_init l dC dI H.size q_16 ) ⟨va_cnB 0 hts gX4_init_X1_init_n28 rfl rfl rfl hN1 (hts (.initialized RX1) (by decide +kernel)) (by decide +kernel) ⟨Nat.le_of_ble_eq_true rfl, Nat.le_of_ble_eq_true rfl⟩, rfl, (hts (.instanceMethod yX1_init) (by decide +kernel))⟩ ⟨fb_M, fun U hU hW => ⟨rfl, xM.at hPc hKc hDc hU hW⟩⟩ rfl rfl hl.1 rfl (lv_room (Nat.le_of_ble_eq_true rfl)) dX4_init_48 ⟨Nat.le_of_ble_eq_true rfl, Nat.le_of_ble_eq_true rfl⟩) hS (fun q _ h => hFc q h) hFc (fun u t H locs ht hvm hw hB hz1 hk1 hS => ?_)
  obtain ⟨q_17, q_18, q_19, hB⟩ := hB
  obtain ⟨hP, hD, hK⟩ := xB.join (wr := [(h0, .inr (4, [.null, .null, .null, .ref q_1, .ref q_6, .ref q_11, .null, .null, .null, .null, .null, .int 0, .int 0, .int 0, .int 0, .int 0, .long 0])), (q_11, .inr (8, [.ref q_12, .ref q_14, .ref q_15, .int 0]))]) (w1 := [(q_16, .inr (1, [.ref q_17, .int 0, .ref q_18, .ref q_19, .int 0]))]) hP hD hK [2] [0, 1] rfl rfl (by decide) (by decide) hk1 hFc hB ht hvm
  have hP : va_P (dC, dI) vwCl [(h0, .inr (4, [.null, .null, .null, .ref q_1, .ref q_6, .ref q_11, .null, .null, .null, .null, .null, .int 0, .int 0, .int 0, .int 0, .int 0, .long 0])), (q_11, .inr (8, [.ref q_12, .ref q_14, .ref q_15, .int 0])), (q_16, .inr (1, [.ref q_17, .int 0, .ref q_18, .ref q_19, .int 0]))] _ := hP
  have hD : va_D A [(h0, .inr (4, [.null, .null, .null, .ref q_1, .ref q_6, .ref q_11, .null, .null, .null, .null, .null, .int 0, .int 0, .int 0, .int 0, .int 0, .long 0])), (q_11, .inr (8, [.ref q_12, .ref q_14, .ref q_15, .int 0])), (q_16, .inr (1, [.ref q_17, .int 0, .ref q_18, .ref q_19, .int 0]))] := hD
  have hK : va_K (dC, dI) vwCl [(cA_3, .int), (cA_8, .int), (cA_13, .int)] s := hK
  refine W.widen (k := 19) (n := 901) (Nat.le_of_ble_eq_true rfl) (Nat.le_of_ble_eq_true rfl) ?_
  refine va_putF (D := (dC, dI)) (ci := 4) (v := .ref q_16) (ty := .object "FourTongues$Failures") (C := RX4) (T := TX4) (N := 17) hx hb hts in_X4_init_RX4 tyX4 tyX4_ok nmX4 hown hK hP hD hS 0 rfl rfl 6 (by decide) (hts (.fieldLink RX4 29 "FourTongues$Machine" "failures" "LFourTongues$Failures;") (by decide +kernel)) (fun _ h9 => h9) rfl hin rfl (by decide +kernel) rfl rfl (Nat.le_of_ble_eq_true rfl) dX4_init_51 (fun H locs hP hD hS => ?_)
  have hP : va_P (dC, dI) vwCl [(h0, .inr (4, [.null, .null, .null, .ref q_1, .ref q_6, .ref q_11, .ref q_16, .null, .null, .null, .null, .int 0, .int 0, .int 0, .int 0, .int 0, .long 0])), (q_11, .inr (8, [.ref q_12, .ref q_14, .ref q_15, .int 0])), (q_16, .inr (1, [.ref q_17, .int 0, .ref q_18, .ref q_19, .int 0]))] _ := hP
  have hD : va_D A [(h0, .inr (4, [.null, .null, .null, .ref q_1, .ref q_6, .ref q_11, .ref q_16, .null, .null, .null, .null, .int 0, .int 0, .int 0, .int 0, .int 0, .long 0])), (q_11, .inr (8, [.ref q_12, .ref q_14, .ref q_15, .int 0])), (q_16, .inr (1, [.ref q_17, .int 0, .ref q_18, .ref q_19, .int 0]))] := hD
  refine lv_aload_n hx hb dX4_init_54 rfl (lv_at hl 0 rfl) ?_
  refine va_new (ci := 2) (fs := [.null, .null, .null, .null, .null, .null, .null, .int 0]) (C := RX2) (T := TX2) (N := 8) hx hb hts in_X4_init_RX2 tyX2 tyX2_ok hown (hts (.classLink RX4 33 RX2) (by decide +kernel)) (hts (.instantiable RX2 8) (by decide +kernel)) (hts (.initialized RX2) (by decide +kernel)) hK hP hD hS hA rfl df_X2 (Nat.le_of_ble_eq_true rfl) (Nat.le_of_ble_eq_true rfl) dX4_init_55 (fun q_20 H hP hD hS => ?_)
  have hP : va_P (dC, dI) vwCl [(h0, .inr (4, [.null, .null, .null, .ref q_1, .ref q_6, .ref q_11, .ref q_16, .null, .null, .null, .null, .int 0, .int 0, .int 0, .int 0, .int 0, .long 0])), (q_11, .inr (8, [.ref q_12, .ref q_14, .ref q_15, .int 0])), (q_16, .inr (1, [.ref q_17, .int 0, .ref q_18, .ref q_19, .int 0])), (q_20, .inr (2, [.null, .null, .null, .null, .null, .null, .null, .int 0]))] _ := hP
  have hD : va_D A [(h0, .inr (4, [.null, .null, .null, .ref q_1, .ref q_6, .ref q_11, .ref q_16, .null, .null, .null, .null, .int 0, .int 0, .int 0, .int 0, .int 0, .long 0])), (q_11, .inr (8, [.ref q_12, .ref q_14, .ref q_15, .int 0])), (q_16, .inr (1, [.ref q_17, .int 0, .ref q_18, .ref q_19, .int 0])), (q_20, .inr (2, [.null, .null, .null, .null, .null, .null, .null, .int 0]))] := hD
  refine W.widen (k := 20) (n := 909) (Nat.le_of_ble_eq_true rfl) (Nat.le_of_ble_eq_true rfl) ?_
  refine lv_dup hx hb dX4_init_58 rfl ?_
  have hPc := hP.sub (ws' := [(q_20, .inr (2, [.null, .null, .null, .null, .null, .null, .null, .int 0]))]) [3] rfl
  have hDc := hD.sub (ws' := [(q_20, .inr (2, [.null, .null, .null, .null, .null, .null, .null, .int 0]))]) [3] (by decide) rfl
  have hKc := hK.sub (tys' := []) [] rfl
  have hFc := va_free (wc := [(q_20, .inr (2, [.null, .null, .null, .null, .null, .null, .null, .int 0]))]) hD hS hA [3] rfl
  refine va_callv (va_runIN (As := []) (rest := [.ref q_20, .ref h0]) ⟨hx, hb, hml, hown, hts⟩ (c_X2_init l dC dI H.size q_20 ) ⟨va_cnB 0 hts gX4_init_X2_init_n35 rfl rfl rfl hN2 (hts (.initialized RX2) (by decide +kernel)) (by decide +kernel) ⟨Nat.le_of_ble_eq_true rfl, Nat.le_of_ble_eq_true rfl⟩, rfl, (hts (.instanceMethod yX2_init) (by decide +kernel))⟩ ⟨fb_M, fun U hU hW => ⟨rfl, xM.at hPc hKc hDc hU hW⟩⟩ rfl rfl hl.1 rfl (lv_room (Nat.le_of_ble_eq_true rfl)) dX4_init_59 ⟨Nat.le_of_ble_eq_true rfl, Nat.le_of_ble_eq_true rfl⟩) hS (fun q _ h => hFc q h) hFc (fun u t H locs ht hvm hw hB hz1 hk1 hS => ?_)
  obtain ⟨q_21, q_22, q_23, q_24, q_25, q_26, q_27, hB⟩ := hB
  obtain ⟨hP, hD, hK⟩ := xB.join (wr := [(h0, .inr (4, [.null, .null, .null, .ref q_1, .ref q_6, .ref q_11, .ref q_16, .null, .null, .null, .null, .int 0, .int 0, .int 0, .int 0, .int 0, .long 0])), (q_11, .inr (8, [.ref q_12, .ref q_14, .ref q_15, .int 0])), (q_16, .inr (1, [.ref q_17, .int 0, .ref q_18, .ref q_19, .int 0]))]) (w1 := [(q_20, .inr (2, [.ref q_21, .ref q_22, .ref q_23, .ref q_24, .ref q_25, .ref q_26, .ref q_27, .int 0]))]) hP hD hK [3] [0, 1, 2] rfl rfl (by decide) (by decide) hk1 hFc hB ht hvm
  have hP : va_P (dC, dI) vwCl [(h0, .inr (4, [.null, .null, .null, .ref q_1, .ref q_6, .ref q_11, .ref q_16, .null, .null, .null, .null, .int 0, .int 0, .int 0, .int 0, .int 0, .long 0])), (q_11, .inr (8, [.ref q_12, .ref q_14, .ref q_15, .int 0])), (q_16, .inr (1, [.ref q_17, .int 0, .ref q_18, .ref q_19, .int 0])), (q_20, .inr (2, [.ref q_21, .ref q_22, .ref q_23, .ref q_24, .ref q_25, .ref q_26, .ref q_27, .int 0]))] _ := hP
  have hD : va_D A [(h0, .inr (4, [.null, .null, .null, .ref q_1, .ref q_6, .ref q_11, .ref q_16, .null, .null, .null, .null, .int 0, .int 0, .int 0, .int 0, .int 0, .long 0])), (q_11, .inr (8, [.ref q_12, .ref q_14, .ref q_15, .int 0])), (q_16, .inr (1, [.ref q_17, .int 0, .ref q_18, .ref q_19, .int 0])), (q_20, .inr (2, [.ref q_21, .ref q_22, .ref q_23, .ref q_24, .ref q_25, .ref q_26, .ref q_27, .int 0]))] := hD
  have hK : va_K (dC, dI) vwCl [(cA_3, .int), (cA_8, .int), (cA_13, .int)] s := hK
  refine W.widen (k := 27) (n := 1077) (Nat.le_of_ble_eq_true rfl) (Nat.le_of_ble_eq_true rfl) ?_
  refine va_putF (D := (dC, dI)) (ci := 4) (v := .ref q_20) (ty := .object "FourTongues$Frames") (C := RX4) (T := TX4) (N := 17) hx hb hts in_X4_init_RX4 tyX4 tyX4_ok nmX4 hown hK hP hD hS 0 rfl rfl 7 (by decide) (hts (.fieldLink RX4 36 "FourTongues$Machine" "frames" "LFourTongues$Frames;") (by decide +kernel)) (fun _ h9 => h9) rfl hin rfl (by decide +kernel) rfl rfl (Nat.le_of_ble_eq_true rfl) dX4_init_62 (fun H locs hP hD hS => ?_)
  have hP : va_P (dC, dI) vwCl [(h0, .inr (4, [.null, .null, .null, .ref q_1, .ref q_6, .ref q_11, .ref q_16, .ref q_20, .null, .null, .null, .int 0, .int 0, .int 0, .int 0, .int 0, .long 0])), (q_11, .inr (8, [.ref q_12, .ref q_14, .ref q_15, .int 0])), (q_16, .inr (1, [.ref q_17, .int 0, .ref q_18, .ref q_19, .int 0])), (q_20, .inr (2, [.ref q_21, .ref q_22, .ref q_23, .ref q_24, .ref q_25, .ref q_26, .ref q_27, .int 0]))] _ := hP
  have hD : va_D A [(h0, .inr (4, [.null, .null, .null, .ref q_1, .ref q_6, .ref q_11, .ref q_16, .ref q_20, .null, .null, .null, .int 0, .int 0, .int 0, .int 0, .int 0, .long 0])), (q_11, .inr (8, [.ref q_12, .ref q_14, .ref q_15, .int 0])), (q_16, .inr (1, [.ref q_17, .int 0, .ref q_18, .ref q_19, .int 0])), (q_20, .inr (2, [.ref q_21, .ref q_22, .ref q_23, .ref q_24, .ref q_25, .ref q_26, .ref q_27, .int 0]))] := hD
  have hP := hP.sub (ws' := [(h0, .inr (4, [.null, .null, .null, .ref q_1, .ref q_6, .ref q_11, .ref q_16, .ref q_20, .null, .null, .null, .int 0, .int 0, .int 0, .int 0, .int 0, .long 0])), (q_11, .inr (8, [.ref q_12, .ref q_14, .ref q_15, .int 0])), (q_16, .inr (1, [.ref q_17, .int 0, .ref q_18, .ref q_19, .int 0]))]) [0, 1, 2] rfl
  have hD := hD.sub (ws' := [(h0, .inr (4, [.null, .null, .null, .ref q_1, .ref q_6, .ref q_11, .ref q_16, .ref q_20, .null, .null, .null, .int 0, .int 0, .int 0, .int 0, .int 0, .long 0])), (q_11, .inr (8, [.ref q_12, .ref q_14, .ref q_15, .int 0])), (q_16, .inr (1, [.ref q_17, .int 0, .ref q_18, .ref q_19, .int 0]))]) [0, 1, 2] (by decide) rfl
  refine lv_aload_n hx hb dX4_init_65 rfl (lv_at hl 0 rfl) ?_
  refine va_new (ci := 3) (fs := [.null, .null, .null, .null, .null, .null, .int 0]) (C := RX3) (T := TX3) (N := 7) hx hb hts in_X4_init_RX3 tyX3 tyX3_ok hown (hts (.classLink RX4 40 RX3) (by decide +kernel)) (hts (.instantiable RX3 7) (by decide +kernel)) (hts (.initialized RX3) (by decide +kernel)) hK hP hD hS hA rfl df_X3 (Nat.le_of_ble_eq_true rfl) (Nat.le_of_ble_eq_true rfl) dX4_init_66 (fun q_28 H hP hD hS => ?_)
  have hP : va_P (dC, dI) vwCl [(h0, .inr (4, [.null, .null, .null, .ref q_1, .ref q_6, .ref q_11, .ref q_16, .ref q_20, .null, .null, .null, .int 0, .int 0, .int 0, .int 0, .int 0, .long 0])), (q_11, .inr (8, [.ref q_12, .ref q_14, .ref q_15, .int 0])), (q_16, .inr (1, [.ref q_17, .int 0, .ref q_18, .ref q_19, .int 0])), (q_28, .inr (3, [.null, .null, .null, .null, .null, .null, .int 0]))] _ := hP
  have hD : va_D A [(h0, .inr (4, [.null, .null, .null, .ref q_1, .ref q_6, .ref q_11, .ref q_16, .ref q_20, .null, .null, .null, .int 0, .int 0, .int 0, .int 0, .int 0, .long 0])), (q_11, .inr (8, [.ref q_12, .ref q_14, .ref q_15, .int 0])), (q_16, .inr (1, [.ref q_17, .int 0, .ref q_18, .ref q_19, .int 0])), (q_28, .inr (3, [.null, .null, .null, .null, .null, .null, .int 0]))] := hD
  refine W.widen (k := 28) (n := 1084) (Nat.le_of_ble_eq_true rfl) (Nat.le_of_ble_eq_true rfl) ?_
  refine lv_dup hx hb dX4_init_69 rfl ?_
  have hPc := hP.sub (ws' := [(q_28, .inr (3, [.null, .null, .null, .null, .null, .null, .int 0]))]) [3] rfl
  have hDc := hD.sub (ws' := [(q_28, .inr (3, [.null, .null, .null, .null, .null, .null, .int 0]))]) [3] (by decide) rfl
  have hKc := hK.sub (tys' := []) [] rfl
  have hFc := va_free (wc := [(q_28, .inr (3, [.null, .null, .null, .null, .null, .null, .int 0]))]) hD hS hA [3] rfl
  refine va_callv (va_runIN (As := []) (rest := [.ref q_28, .ref h0]) ⟨hx, hb, hml, hown, hts⟩ (c_X3_init l dC dI H.size q_28 ) ⟨va_cnB 0 hts gX4_init_X3_init_n42 rfl rfl rfl hN3 (hts (.initialized RX3) (by decide +kernel)) (by decide +kernel) ⟨Nat.le_of_ble_eq_true rfl, Nat.le_of_ble_eq_true rfl⟩, rfl, (hts (.instanceMethod yX3_init) (by decide +kernel))⟩ ⟨fb_M, fun U hU hW => ⟨rfl, xM.at hPc hKc hDc hU hW⟩⟩ rfl rfl hl.1 rfl (lv_room (Nat.le_of_ble_eq_true rfl)) dX4_init_70 ⟨Nat.le_of_ble_eq_true rfl, Nat.le_of_ble_eq_true rfl⟩) hS (fun q _ h => hFc q h) hFc (fun u t H locs ht hvm hw hB hz1 hk1 hS => ?_)
  obtain ⟨q_29, q_30, q_31, q_32, q_33, q_34, hB⟩ := hB
  obtain ⟨hP, hD, hK⟩ := xB.join (wr := [(h0, .inr (4, [.null, .null, .null, .ref q_1, .ref q_6, .ref q_11, .ref q_16, .ref q_20, .null, .null, .null, .int 0, .int 0, .int 0, .int 0, .int 0, .long 0])), (q_11, .inr (8, [.ref q_12, .ref q_14, .ref q_15, .int 0])), (q_16, .inr (1, [.ref q_17, .int 0, .ref q_18, .ref q_19, .int 0]))]) (w1 := [(q_28, .inr (3, [.ref q_29, .ref q_30, .ref q_31, .ref q_32, .ref q_33, .ref q_34, .int 0]))]) hP hD hK [3] [0, 1, 2] rfl rfl (by decide) (by decide) hk1 hFc hB ht hvm
  have hP : va_P (dC, dI) vwCl [(h0, .inr (4, [.null, .null, .null, .ref q_1, .ref q_6, .ref q_11, .ref q_16, .ref q_20, .null, .null, .null, .int 0, .int 0, .int 0, .int 0, .int 0, .long 0])), (q_11, .inr (8, [.ref q_12, .ref q_14, .ref q_15, .int 0])), (q_16, .inr (1, [.ref q_17, .int 0, .ref q_18, .ref q_19, .int 0])), (q_28, .inr (3, [.ref q_29, .ref q_30, .ref q_31, .ref q_32, .ref q_33, .ref q_34, .int 0]))] _ := hP
  have hD : va_D A [(h0, .inr (4, [.null, .null, .null, .ref q_1, .ref q_6, .ref q_11, .ref q_16, .ref q_20, .null, .null, .null, .int 0, .int 0, .int 0, .int 0, .int 0, .long 0])), (q_11, .inr (8, [.ref q_12, .ref q_14, .ref q_15, .int 0])), (q_16, .inr (1, [.ref q_17, .int 0, .ref q_18, .ref q_19, .int 0])), (q_28, .inr (3, [.ref q_29, .ref q_30, .ref q_31, .ref q_32, .ref q_33, .ref q_34, .int 0]))] := hD
  have hK : va_K (dC, dI) vwCl [(cA_3, .int), (cA_8, .int), (cA_13, .int)] s := hK
  refine W.widen (k := 37) (n := 3136) (Nat.le_of_ble_eq_true rfl) (Nat.le_of_ble_eq_true rfl) ?_
  refine va_putF (D := (dC, dI)) (ci := 4) (v := .ref q_28) (ty := .object "FourTongues$Guards") (C := RX4) (T := TX4) (N := 17) hx hb hts in_X4_init_RX4 tyX4 tyX4_ok nmX4 hown hK hP hD hS 0 rfl rfl 8 (by decide) (hts (.fieldLink RX4 43 "FourTongues$Machine" "guards" "LFourTongues$Guards;") (by decide +kernel)) (fun _ h9 => h9) rfl hin rfl (by decide +kernel) rfl rfl (Nat.le_of_ble_eq_true rfl) dX4_init_73 (fun H locs hP hD hS => ?_)
  have hP : va_P (dC, dI) vwCl [(h0, .inr (4, [.null, .null, .null, .ref q_1, .ref q_6, .ref q_11, .ref q_16, .ref q_20, .ref q_28, .null, .null, .int 0, .int 0, .int 0, .int 0, .int 0, .long 0])), (q_11, .inr (8, [.ref q_12, .ref q_14, .ref q_15, .int 0])), (q_16, .inr (1, [.ref q_17, .int 0, .ref q_18, .ref q_19, .int 0])), (q_28, .inr (3, [.ref q_29, .ref q_30, .ref q_31, .ref q_32, .ref q_33, .ref q_34, .int 0]))] _ := hP
  have hD : va_D A [(h0, .inr (4, [.null, .null, .null, .ref q_1, .ref q_6, .ref q_11, .ref q_16, .ref q_20, .ref q_28, .null, .null, .int 0, .int 0, .int 0, .int 0, .int 0, .long 0])), (q_11, .inr (8, [.ref q_12, .ref q_14, .ref q_15, .int 0])), (q_16, .inr (1, [.ref q_17, .int 0, .ref q_18, .ref q_19, .int 0])), (q_28, .inr (3, [.ref q_29, .ref q_30, .ref q_31, .ref q_32, .ref q_33, .ref q_34, .int 0]))] := hD
  have hP := hP.sub (ws' := [(h0, .inr (4, [.null, .null, .null, .ref q_1, .ref q_6, .ref q_11, .ref q_16, .ref q_20, .ref q_28, .null, .null, .int 0, .int 0, .int 0, .int 0, .int 0, .long 0])), (q_11, .inr (8, [.ref q_12, .ref q_14, .ref q_15, .int 0])), (q_16, .inr (1, [.ref q_17, .int 0, .ref q_18, .ref q_19, .int 0]))]) [0, 1, 2] rfl
  have hD := hD.sub (ws' := [(h0, .inr (4, [.null, .null, .null, .ref q_1, .ref q_6, .ref q_11, .ref q_16, .ref q_20, .ref q_28, .null, .null, .int 0, .int 0, .int 0, .int 0, .int 0, .long 0])), (q_11, .inr (8, [.ref q_12, .ref q_14, .ref q_15, .int 0])), (q_16, .inr (1, [.ref q_17, .int 0, .ref q_18, .ref q_19, .int 0]))]) [0, 1, 2] (by decide) rfl
  refine lv_aload_n hx hb dX4_init_76 rfl (lv_at hl 0 rfl) ?_
  refine lv_bipush (v := 10) hx hb dX4_init_77 (by decide) ?_
  refine va_newa (atype := .int) (ty := .int) (a0 := (10, .inl (fun _ => 0))) (N' := 10) hx hb (hts (.arrayClass .int) (by decide +kernel)) rfl hK hP hD hS hA (cz_int 10) (by decide +kernel) (by decide +kernel) (by decide +kernel) (Nat.le_of_ble_eq_true rfl) (Nat.le_of_ble_eq_true rfl) dX4_init_79 (fun q_35 cA_36 H hK hP hD hS => ?_)
  have hP : va_P (dC, dI) vwCl [(h0, .inr (4, [.null, .null, .null, .ref q_1, .ref q_6, .ref q_11, .ref q_16, .ref q_20, .ref q_28, .null, .null, .int 0, .int 0, .int 0, .int 0, .int 0, .long 0])), (q_11, .inr (8, [.ref q_12, .ref q_14, .ref q_15, .int 0])), (q_16, .inr (1, [.ref q_17, .int 0, .ref q_18, .ref q_19, .int 0])), (q_35, .inl (cA_36, 10, .inl (fun _ => 0)))] _ := hP
  have hD : va_D A [(h0, .inr (4, [.null, .null, .null, .ref q_1, .ref q_6, .ref q_11, .ref q_16, .ref q_20, .ref q_28, .null, .null, .int 0, .int 0, .int 0, .int 0, .int 0, .long 0])), (q_11, .inr (8, [.ref q_12, .ref q_14, .ref q_15, .int 0])), (q_16, .inr (1, [.ref q_17, .int 0, .ref q_18, .ref q_19, .int 0])), (q_35, .inl (cA_36, 10, .inl (fun _ => 0)))] := hD
  have hK : va_K (dC, dI) vwCl [(cA_3, .int), (cA_8, .int), (cA_13, .int), (cA_36, .int)] s := hK
  refine W.widen (k := 38) (n := 3146) (Nat.le_of_ble_eq_true rfl) (Nat.le_of_ble_eq_true rfl) ?_
  refine va_putF (D := (dC, dI)) (ci := 4) (v := .ref q_35) (ty := .array .int) (C := RX4) (T := TX4) (N := 17) hx hb hts in_X4_init_RX4 tyX4 tyX4_ok nmX4 hown hK hP hD hS 0 rfl rfl 9 (by decide) (hts (.fieldLink RX4 47 "FourTongues$Machine" "tally" "[I") (by decide +kernel)) (fun _ h9 => h9) rfl hin rfl (by decide +kernel) rfl rfl (Nat.le_of_ble_eq_true rfl) dX4_init_81 (fun H locs hP hD hS => ?_)
  have hP : va_P (dC, dI) vwCl [(h0, .inr (4, [.null, .null, .null, .ref q_1, .ref q_6, .ref q_11, .ref q_16, .ref q_20, .ref q_28, .ref q_35, .null, .int 0, .int 0, .int 0, .int 0, .int 0, .long 0])), (q_11, .inr (8, [.ref q_12, .ref q_14, .ref q_15, .int 0])), (q_16, .inr (1, [.ref q_17, .int 0, .ref q_18, .ref q_19, .int 0])), (q_35, .inl (cA_36, 10, .inl (fun _ => 0)))] _ := hP
  have hD : va_D A [(h0, .inr (4, [.null, .null, .null, .ref q_1, .ref q_6, .ref q_11, .ref q_16, .ref q_20, .ref q_28, .ref q_35, .null, .int 0, .int 0, .int 0, .int 0, .int 0, .long 0])), (q_11, .inr (8, [.ref q_12, .ref q_14, .ref q_15, .int 0])), (q_16, .inr (1, [.ref q_17, .int 0, .ref q_18, .ref q_19, .int 0])), (q_35, .inl (cA_36, 10, .inl (fun _ => 0)))] := hD
  refine lv_aload_n hx hb dX4_init_84 rfl (lv_at hl 0 rfl) ?_
  refine lv_iconst (v := 0) hx hb dX4_init_85 (by decide) ?_
  refine va_put (D := (dC, dI)) (ci := 4) (v := .int 0) (ty := .int) (C := RX4) (T := TX4) (N := 17) hx hb hts in_X4_init_RX4 tyX4 tyX4_ok nmX4 hown hK hP hD hS 0 rfl rfl 11 (by decide) (hts (.fieldLink RX4 51 "FourTongues$Machine" "at" "I") (by decide +kernel)) (fun _ h9 => h9) rfl (by decide +kernel) rfl rfl (Nat.le_of_ble_eq_true rfl) dX4_init_86 (fun H locs hP hD hS => ?_)
  have hP : va_P (dC, dI) vwCl [(h0, .inr (4, [.null, .null, .null, .ref q_1, .ref q_6, .ref q_11, .ref q_16, .ref q_20, .ref q_28, .ref q_35, .null, .int 0, .int 0, .int 0, .int 0, .int 0, .long 0])), (q_11, .inr (8, [.ref q_12, .ref q_14, .ref q_15, .int 0])), (q_16, .inr (1, [.ref q_17, .int 0, .ref q_18, .ref q_19, .int 0])), (q_35, .inl (cA_36, 10, .inl (fun _ => 0)))] _ := hP
  have hD : va_D A [(h0, .inr (4, [.null, .null, .null, .ref q_1, .ref q_6, .ref q_11, .ref q_16, .ref q_20, .ref q_28, .ref q_35, .null, .int 0, .int 0, .int 0, .int 0, .int 0, .long 0])), (q_11, .inr (8, [.ref q_12, .ref q_14, .ref q_15, .int 0])), (q_16, .inr (1, [.ref q_17, .int 0, .ref q_18, .ref q_19, .int 0])), (q_35, .inl (cA_36, 10, .inl (fun _ => 0)))] := hD
  refine lv_aload_n hx hb dX4_init_89 rfl (lv_at hl 0 rfl) ?_
  refine lv_iconst (v := 0) hx hb dX4_init_90 (by decide) ?_
  refine va_put (D := (dC, dI)) (ci := 4) (v := .int 0) (ty := .int) (C := RX4) (T := TX4) (N := 17) hx hb hts in_X4_init_RX4 tyX4 tyX4_ok nmX4 hown hK hP hD hS 0 rfl rfl 12 (by decide) (hts (.fieldLink RX4 55 "FourTongues$Machine" "pc" "I") (by decide +kernel)) (fun _ h9 => h9) rfl (by decide +kernel) rfl rfl (Nat.le_of_ble_eq_true rfl) dX4_init_91 (fun H locs hP hD hS => ?_)
  have hP : va_P (dC, dI) vwCl [(h0, .inr (4, [.null, .null, .null, .ref q_1, .ref q_6, .ref q_11, .ref q_16, .ref q_20, .ref q_28, .ref q_35, .null, .int 0, .int 0, .int 0, .int 0, .int 0, .long 0])), (q_11, .inr (8, [.ref q_12, .ref q_14, .ref q_15, .int 0])), (q_16, .inr (1, [.ref q_17, .int 0, .ref q_18, .ref q_19, .int 0])), (q_35, .inl (cA_36, 10, .inl (fun _ => 0)))] _ := hP
  have hD : va_D A [(h0, .inr (4, [.null, .null, .null, .ref q_1, .ref q_6, .ref q_11, .ref q_16, .ref q_20, .ref q_28, .ref q_35, .null, .int 0, .int 0, .int 0, .int 0, .int 0, .long 0])), (q_11, .inr (8, [.ref q_12, .ref q_14, .ref q_15, .int 0])), (q_16, .inr (1, [.ref q_17, .int 0, .ref q_18, .ref q_19, .int 0])), (q_35, .inl (cA_36, 10, .inl (fun _ => 0)))] := hD
  refine lv_aload_n hx hb dX4_init_94 rfl (lv_at hl 0 rfl) ?_
  refine lv_iconst (v := 4) hx hb dX4_init_95 (by decide) ?_
  refine va_put (D := (dC, dI)) (ci := 4) (v := .int 4) (ty := .int) (C := RX4) (T := TX4) (N := 17) hx hb hts in_X4_init_RX4 tyX4 tyX4_ok nmX4 hown hK hP hD hS 0 rfl rfl 13 (by decide) (hts (.fieldLink RX4 58 "FourTongues$Machine" "state" "I") (by decide +kernel)) (fun _ h9 => h9) rfl (by decide +kernel) rfl rfl (Nat.le_of_ble_eq_true rfl) dX4_init_96 (fun H locs hP hD hS => ?_)
  have hP : va_P (dC, dI) vwCl [(h0, .inr (4, [.null, .null, .null, .ref q_1, .ref q_6, .ref q_11, .ref q_16, .ref q_20, .ref q_28, .ref q_35, .null, .int 0, .int 0, .int 4, .int 0, .int 0, .long 0])), (q_11, .inr (8, [.ref q_12, .ref q_14, .ref q_15, .int 0])), (q_16, .inr (1, [.ref q_17, .int 0, .ref q_18, .ref q_19, .int 0])), (q_35, .inl (cA_36, 10, .inl (fun _ => 0)))] _ := hP
  have hD : va_D A [(h0, .inr (4, [.null, .null, .null, .ref q_1, .ref q_6, .ref q_11, .ref q_16, .ref q_20, .ref q_28, .ref q_35, .null, .int 0, .int 0, .int 4, .int 0, .int 0, .long 0])), (q_11, .inr (8, [.ref q_12, .ref q_14, .ref q_15, .int 0])), (q_16, .inr (1, [.ref q_17, .int 0, .ref q_18, .ref q_19, .int 0])), (q_35, .inl (cA_36, 10, .inl (fun _ => 0)))] := hD
  refine lv_aload_n hx hb dX4_init_99 rfl (lv_at hl 0 rfl) ?_
  refine lv_iconst (v := (-1)) hx hb dX4_init_100 (by decide) ?_
  refine va_put (D := (dC, dI)) (ci := 4) (v := .int (-1)) (ty := .int) (C := RX4) (T := TX4) (N := 17) hx hb hts in_X4_init_RX4 tyX4 tyX4_ok nmX4 hown hK hP hD hS 0 rfl rfl 14 (by decide) (hts (.fieldLink RX4 61 "FourTongues$Machine" "carried" "I") (by decide +kernel)) (fun _ h9 => h9) rfl (by decide +kernel) rfl rfl (Nat.le_of_ble_eq_true rfl) dX4_init_101 (fun H locs hP hD hS => ?_)
  have hP : va_P (dC, dI) vwCl [(h0, .inr (4, [.null, .null, .null, .ref q_1, .ref q_6, .ref q_11, .ref q_16, .ref q_20, .ref q_28, .ref q_35, .null, .int 0, .int 0, .int 4, .int (-1), .int 0, .long 0])), (q_11, .inr (8, [.ref q_12, .ref q_14, .ref q_15, .int 0])), (q_16, .inr (1, [.ref q_17, .int 0, .ref q_18, .ref q_19, .int 0])), (q_35, .inl (cA_36, 10, .inl (fun _ => 0)))] _ := hP
  have hD : va_D A [(h0, .inr (4, [.null, .null, .null, .ref q_1, .ref q_6, .ref q_11, .ref q_16, .ref q_20, .ref q_28, .ref q_35, .null, .int 0, .int 0, .int 4, .int (-1), .int 0, .long 0])), (q_11, .inr (8, [.ref q_12, .ref q_14, .ref q_15, .int 0])), (q_16, .inr (1, [.ref q_17, .int 0, .ref q_18, .ref q_19, .int 0])), (q_35, .inl (cA_36, 10, .inl (fun _ => 0)))] := hD
  refine lv_aload_n hx hb dX4_init_104 rfl (lv_at hl 0 rfl) ?_
  refine lv_iconst (v := (-1)) hx hb dX4_init_105 (by decide) ?_
  refine va_put (D := (dC, dI)) (ci := 4) (v := .int (-1)) (ty := .int) (C := RX4) (T := TX4) (N := 17) hx hb hts in_X4_init_RX4 tyX4 tyX4_ok nmX4 hown hK hP hD hS 0 rfl rfl 15 (by decide) (hts (.fieldLink RX4 64 "FourTongues$Machine" "cameOut" "I") (by decide +kernel)) (fun _ h9 => h9) rfl (by decide +kernel) rfl rfl (Nat.le_of_ble_eq_true rfl) dX4_init_106 (fun H locs hP hD hS => ?_)
  have hP : va_P (dC, dI) vwCl [(h0, .inr (4, [.null, .null, .null, .ref q_1, .ref q_6, .ref q_11, .ref q_16, .ref q_20, .ref q_28, .ref q_35, .null, .int 0, .int 0, .int 4, .int (-1), .int (-1), .long 0])), (q_11, .inr (8, [.ref q_12, .ref q_14, .ref q_15, .int 0])), (q_16, .inr (1, [.ref q_17, .int 0, .ref q_18, .ref q_19, .int 0])), (q_35, .inl (cA_36, 10, .inl (fun _ => 0)))] _ := hP
  have hD : va_D A [(h0, .inr (4, [.null, .null, .null, .ref q_1, .ref q_6, .ref q_11, .ref q_16, .ref q_20, .ref q_28, .ref q_35, .null, .int 0, .int 0, .int 4, .int (-1), .int (-1), .long 0])), (q_11, .inr (8, [.ref q_12, .ref q_14, .ref q_15, .int 0])), (q_16, .inr (1, [.ref q_17, .int 0, .ref q_18, .ref q_19, .int 0])), (q_35, .inl (cA_36, 10, .inl (fun _ => 0)))] := hD
  refine lv_aload_n hx hb dX4_init_109 rfl (lv_at hl 0 rfl) ?_
  refine lv_lconst (v := 0) hx hb dX4_init_110 (by decide) ?_
  refine va_put (D := (dC, dI)) (ci := 4) (v := .long 0) (ty := .long) (C := RX4) (T := TX4) (N := 17) hx hb hts in_X4_init_RX4 tyX4 tyX4_ok nmX4 hown hK hP hD hS 0 rfl rfl 16 (by decide) (hts (.fieldLink RX4 67 "FourTongues$Machine" "answer" "J") (by decide +kernel)) (fun _ h9 => h9) rfl (by decide +kernel) rfl rfl (Nat.le_of_ble_eq_true rfl) dX4_init_111 (fun H locs hP hD hS => ?_)
  have hP : va_P (dC, dI) vwCl [(h0, .inr (4, [.null, .null, .null, .ref q_1, .ref q_6, .ref q_11, .ref q_16, .ref q_20, .ref q_28, .ref q_35, .null, .int 0, .int 0, .int 4, .int (-1), .int (-1), .long 0])), (q_11, .inr (8, [.ref q_12, .ref q_14, .ref q_15, .int 0])), (q_16, .inr (1, [.ref q_17, .int 0, .ref q_18, .ref q_19, .int 0])), (q_35, .inl (cA_36, 10, .inl (fun _ => 0)))] _ := hP
  have hD : va_D A [(h0, .inr (4, [.null, .null, .null, .ref q_1, .ref q_6, .ref q_11, .ref q_16, .ref q_20, .ref q_28, .ref q_35, .null, .int 0, .int 0, .int 4, .int (-1), .int (-1), .long 0])), (q_11, .inr (8, [.ref q_12, .ref q_14, .ref q_15, .int 0])), (q_16, .inr (1, [.ref q_17, .int 0, .ref q_18, .ref q_19, .int 0])), (q_35, .inl (cA_36, 10, .inl (fun _ => 0)))] := hD
  refine lv_aload_n hx hb dX4_init_114 rfl (lv_at hl 0 rfl) ?_
  refine lv_aload_n hx hb dX4_init_115 rfl (lv_at hl 1 rfl) ?_
  refine va_putF (D := (dC, dI)) (ci := 4) (v := .ref aQ) (ty := .array (.object "FourTongues$Program")) (C := RX4) (T := TX4) (N := 17) hx hb hts in_X4_init_RX4 tyX4 tyX4_ok nmX4 hown hK hP hD hS 0 rfl rfl 0 (by decide) (hts (.fieldLink RX4 71 "FourTongues$Machine" "programs" "[LFourTongues$Program;") (by decide +kernel)) (fun _ h9 => h9) rfl hin rfl (by decide +kernel) rfl rfl (Nat.le_of_ble_eq_true rfl) dX4_init_116 (fun H locs hP hD hS => ?_)
  have hP : va_P (dC, dI) vwCl [(h0, .inr (4, [.ref aQ, .null, .null, .ref q_1, .ref q_6, .ref q_11, .ref q_16, .ref q_20, .ref q_28, .ref q_35, .null, .int 0, .int 0, .int 4, .int (-1), .int (-1), .long 0])), (q_11, .inr (8, [.ref q_12, .ref q_14, .ref q_15, .int 0])), (q_16, .inr (1, [.ref q_17, .int 0, .ref q_18, .ref q_19, .int 0])), (q_35, .inl (cA_36, 10, .inl (fun _ => 0)))] _ := hP
  have hD : va_D A [(h0, .inr (4, [.ref aQ, .null, .null, .ref q_1, .ref q_6, .ref q_11, .ref q_16, .ref q_20, .ref q_28, .ref q_35, .null, .int 0, .int 0, .int 4, .int (-1), .int (-1), .long 0])), (q_11, .inr (8, [.ref q_12, .ref q_14, .ref q_15, .int 0])), (q_16, .inr (1, [.ref q_17, .int 0, .ref q_18, .ref q_19, .int 0])), (q_35, .inl (cA_36, 10, .inl (fun _ => 0)))] := hD
  refine lv_aload_n hx hb dX4_init_119 rfl (lv_at hl 0 rfl) ?_
  refine lv_aload_n hx hb dX4_init_120 rfl (lv_at hl 2 rfl) ?_
  refine va_putF (D := (dC, dI)) (ci := 4) (v := .ref aN) (ty := .object "FourTongues$Names") (C := RX4) (T := TX4) (N := 17) hx hb hts in_X4_init_RX4 tyX4 tyX4_ok nmX4 hown hK hP hD hS 0 rfl rfl 1 (by decide) (hts (.fieldLink RX4 75 "FourTongues$Machine" "names" "LFourTongues$Names;") (by decide +kernel)) (fun _ h9 => h9) rfl hin rfl (by decide +kernel) rfl rfl (Nat.le_of_ble_eq_true rfl) dX4_init_121 (fun H locs hP hD hS => ?_)
  have hP : va_P (dC, dI) vwCl [(h0, .inr (4, [.ref aQ, .ref aN, .null, .ref q_1, .ref q_6, .ref q_11, .ref q_16, .ref q_20, .ref q_28, .ref q_35, .null, .int 0, .int 0, .int 4, .int (-1), .int (-1), .long 0])), (q_11, .inr (8, [.ref q_12, .ref q_14, .ref q_15, .int 0])), (q_16, .inr (1, [.ref q_17, .int 0, .ref q_18, .ref q_19, .int 0])), (q_35, .inl (cA_36, 10, .inl (fun _ => 0)))] _ := hP
  have hD : va_D A [(h0, .inr (4, [.ref aQ, .ref aN, .null, .ref q_1, .ref q_6, .ref q_11, .ref q_16, .ref q_20, .ref q_28, .ref q_35, .null, .int 0, .int 0, .int 4, .int (-1), .int (-1), .long 0])), (q_11, .inr (8, [.ref q_12, .ref q_14, .ref q_15, .int 0])), (q_16, .inr (1, [.ref q_17, .int 0, .ref q_18, .ref q_19, .int 0])), (q_35, .inl (cA_36, 10, .inl (fun _ => 0)))] := hD
  refine lv_aload_n hx hb dX4_init_124 rfl (lv_at hl 0 rfl) ?_
  refine lv_aload_n hx hb dX4_init_125 rfl (lv_at hl 3 rfl) ?_
  refine va_putF (D := (dC, dI)) (ci := 4) (v := .ref aB) (ty := .object "FourTongues$Borders") (C := RX4) (T := TX4) (N := 17) hx hb hts in_X4_init_RX4 tyX4 tyX4_ok nmX4 hown hK hP hD hS 0 rfl rfl 2 (by decide) (hts (.fieldLink RX4 79 "FourTongues$Machine" "borders" "LFourTongues$Borders;") (by decide +kernel)) (fun _ h9 => h9) rfl hin rfl (by decide +kernel) rfl rfl (Nat.le_of_ble_eq_true rfl) dX4_init_126 (fun H locs hP hD hS => ?_)
  have hP : va_P (dC, dI) vwCl [(h0, .inr (4, [.ref aQ, .ref aN, .ref aB, .ref q_1, .ref q_6, .ref q_11, .ref q_16, .ref q_20, .ref q_28, .ref q_35, .null, .int 0, .int 0, .int 4, .int (-1), .int (-1), .long 0])), (q_11, .inr (8, [.ref q_12, .ref q_14, .ref q_15, .int 0])), (q_16, .inr (1, [.ref q_17, .int 0, .ref q_18, .ref q_19, .int 0])), (q_35, .inl (cA_36, 10, .inl (fun _ => 0)))] _ := hP
  have hD : va_D A [(h0, .inr (4, [.ref aQ, .ref aN, .ref aB, .ref q_1, .ref q_6, .ref q_11, .ref q_16, .ref q_20, .ref q_28, .ref q_35, .null, .int 0, .int 0, .int 4, .int (-1), .int (-1), .long 0])), (q_11, .inr (8, [.ref q_12, .ref q_14, .ref q_15, .int 0])), (q_16, .inr (1, [.ref q_17, .int 0, .ref q_18, .ref q_19, .int 0])), (q_35, .inl (cA_36, 10, .inl (fun _ => 0)))] := hD
  refine lv_aload_n hx hb dX4_init_129 rfl (lv_at hl 0 rfl) ?_
  refine lv_aload hx hb dX4_init_130 (lv_at hl 4 rfl) ?_
  refine va_put (D := (dC, dI)) (ci := 4) (v := .ref aP) (ty := .object "FourTongues$Program") (C := RX4) (T := TX4) (N := 17) hx hb hts in_X4_init_RX4 tyX4 tyX4_ok nmX4 hown hK hP hD hS 0 rfl rfl 10 (by decide) (hts (.fieldLink RX4 83 "FourTongues$Machine" "program" "LFourTongues$Program;") (by decide +kernel)) (fun _ h9 => h9) rfl (by decide +kernel) rfl rfl (Nat.le_of_ble_eq_true rfl) dX4_init_132 (fun H locs hP hD hS => ?_)
  have hP : va_P (dC, dI) vwCl [(h0, .inr (4, [.ref aQ, .ref aN, .ref aB, .ref q_1, .ref q_6, .ref q_11, .ref q_16, .ref q_20, .ref q_28, .ref q_35, .ref aP, .int 0, .int 0, .int 4, .int (-1), .int (-1), .long 0])), (q_11, .inr (8, [.ref q_12, .ref q_14, .ref q_15, .int 0])), (q_16, .inr (1, [.ref q_17, .int 0, .ref q_18, .ref q_19, .int 0])), (q_35, .inl (cA_36, 10, .inl (fun _ => 0)))] _ := hP
  have hD : va_D A [(h0, .inr (4, [.ref aQ, .ref aN, .ref aB, .ref q_1, .ref q_6, .ref q_11, .ref q_16, .ref q_20, .ref q_28, .ref q_35, .ref aP, .int 0, .int 0, .int 4, .int (-1), .int (-1), .long 0])), (q_11, .inr (8, [.ref q_12, .ref q_14, .ref q_15, .int 0])), (q_16, .inr (1, [.ref q_17, .int 0, .ref q_18, .ref q_19, .int 0])), (q_35, .inl (cA_36, 10, .inl (fun _ => 0)))] := hD
  have hP9 := hP.sub (ws' := [(h0, .inr (4, [.ref aQ, .ref aN, .ref aB, .ref q_1, .ref q_6, .ref q_11, .ref q_16, .ref q_20, .ref q_28, .ref q_35, .ref aP, .int 0, .int 0, .int 4, .int (-1), .int (-1), .long 0])), (q_11, .inr (8, [.ref q_12, .ref q_14, .ref q_15, .int 0])), (q_16, .inr (1, [.ref q_17, .int 0, .ref q_18, .ref q_19, .int 0])), (q_35, .inl (cA_36, 10, .inl (fun _ => 0)))]) [0, 1, 2, 3] rfl
  have hD9 := hD.sub (ws' := [(h0, .inr (4, [.ref aQ, .ref aN, .ref aB, .ref q_1, .ref q_6, .ref q_11, .ref q_16, .ref q_20, .ref q_28, .ref q_35, .ref aP, .int 0, .int 0, .int 4, .int (-1), .int (-1), .long 0])), (q_11, .inr (8, [.ref q_12, .ref q_14, .ref q_15, .int 0])), (q_16, .inr (1, [.ref q_17, .int 0, .ref q_18, .ref q_19, .int 0])), (q_35, .inl (cA_36, 10, .inl (fun _ => 0)))]) [0, 1, 2, 3] (by decide) rfl
  have hK9 := hK.sub (tys' := [(cA_36, .int)]) [3] rfl
  exact W.vret hx hb hr (fun t ht hW => ⟨⟨(), rfl, trivial, ⟨q_1, q_6, q_11, q_12, q_14, q_15, q_16, q_17, q_18, q_19, q_20, q_28, q_35, cA_36, by rw [ht]; exact hP9, va_K.moved hW.alike hK9, hD9⟩⟩, hS.F ht⟩) hS.2.2 dX4_init_135

set_option maxHeartbeats 4000000 in
set_option maxRecDepth 100000 in
theorem c_X11_init (l : Launch) (dC : Nat → ClassId) (dI : Nat → Nat → Nat) (sz : Nat) (h0 : Nat) (aK : Nat) (aV : Nat) (bK : Nat) (bV : Nat) : Met l yX11_init wsX11_init ({ frames := 6, cells := 110, slots := 26194, locals := 134 }) (va_Pc [.ref h0] (fun U => xM (dC, dI) sz [(h0, .inr (10, [.null, .int 0, .int 0, .null, .null, .null, .null, .null, .null]))] [] U ∧ eS RX5 29 "zero index nothing sort size deep trap lost border any machine " 63 nmB aK aV (va_A [(h0, .inr (10, [.null, .int 0, .int 0, .null, .null, .null, .null, .null, .null]))] sz) U ∧ eS RX10 67 "kind under fn let if else while return mark throw try catch finally fail on go with end exit open then clean do none new size cell tag bad throws codes values exits " 165 wdB bK bV (va_A [(h0, .inr (10, [.null, .int 0, .int 0, .null, .null, .null, .null, .null, .null]))] sz) U ∧ (va_Nw (.methodLinkNest RX4 28 yX1_init RX11) U ∧ va_Nw (.methodLinkNest RX4 35 yX2_init RX11) U ∧ va_Nw (.methodLinkNest RX4 42 yX3_init RX11) U) ∧ va_Nw (.methodLinkNest RX11 40 yX8_init RX11) U ∧ va_AO RX8 U)) (va_Qv (fun _ : Unit => True) (fun (_ : Unit) t => ∃ (q_1 : Nat), ∃ (cA_2 : ClassId), ∃ (q_3 : Nat), ∃ (q_4 : Nat), ∃ (cA_5 : ClassId), ∃ (q_6 : Nat), ∃ (cA_7 : ClassId), ∃ (q_8 : Nat), ∃ (cA_9 : ClassId), ∃ (f_10 : Nat → Int64), ∃ (f_11 : Nat → Int32), ∃ (q_13 : Nat), ∃ (q_14 : Nat), ∃ (cA_15 : ClassId), ∃ (q_16 : Nat), ∃ (cA_17 : ClassId), ∃ (q_18 : Nat), ∃ (cA_19 : ClassId), ∃ (q_20 : Nat), ∃ (cA_21 : ClassId), ∃ (q_22 : Nat), ∃ (cA_23 : ClassId), ∃ (f_24 : Nat → Int32), ∃ (q_25 : Nat), ∃ (cA_26 : ClassId), ∃ (q_27 : Nat), ∃ (q_28 : Nat), ∃ (q_29 : Nat), ∃ (q_30 : Nat), ∃ (cA_31 : ClassId), ∃ (q_32 : Nat), ∃ (q_33 : Nat), ∃ (q_34 : Nat), ∃ (q_35 : Nat), ∃ (q_36 : Nat), ∃ (q_37 : Nat), ∃ (q_38 : Nat), ∃ (q_39 : Nat), ∃ (cA_40 : ClassId), ∃ (q_41 : Nat), ∃ (q_42 : Nat), ∃ (q_43 : Nat), ∃ (q_44 : Nat), ∃ (cA_45 : ClassId), ∃ (q_46 : Nat), ∃ (cA_47 : ClassId), ∃ (q_48 : Nat), ∃ (cA_49 : ClassId), ∃ (q_50 : Nat), ∃ (cA_51 : ClassId), ∃ (q_52 : Nat), ∃ (q_53 : Nat), ∃ (q_54 : Nat), ∃ (q_55 : Nat), ∃ (q_56 : Nat), ∃ (q_57 : Nat), ∃ (q_58 : Nat), ∃ (q_59 : Nat), ∃ (q_60 : Nat), ∃ (q_61 : Nat), ∃ (q_62 : Nat), ∃ (q_63 : Nat), ∃ (q_64 : Nat), ∃ (q_65 : Nat), ∃ (cA_66 : ClassId), ∃ (q_67 : Nat), ∃ (q_68 : Nat), ∃ (q_69 : Nat), ∃ (q_74 : Nat), ∃ (q_75 : Nat), ∃ (q_76 : Nat), ∃ (q_77 : Nat), ∃ (q_79 : Nat), ∃ (q_80 : Nat), ∃ (q_81 : Nat), ∃ (q_86 : Nat), ∃ (q_87 : Nat), ∃ (q_88 : Nat), ∃ (q_89 : Nat), ∃ (q_91 : Nat), ∃ (q_92 : Nat), ∃ (q_93 : Nat), ∃ (q_98 : Nat), ∃ (q_99 : Nat), ∃ (q_100 : Nat), ∃ (q_101 : Nat), ∃ (q_103 : Nat), ∃ (q_104 : Nat), ∃ (q_105 : Nat), ∃ (q_110 : Nat), ∃ (q_111 : Nat), ∃ (q_112 : Nat), ∃ (q_113 : Nat), ∃ (f_114 : Nat → Option Nat), (f_10 = (nmS 63).2.2) ∧ (f_114 0 = some q_67) ∧ (f_114 1 = some q_79) ∧ (f_114 2 = some q_91) ∧ (f_114 3 = some q_103) ∧ xB (dC, dI) [(h0, .inr (10, [.ref q_1, .int 0, .int 0, .ref q_3, .ref q_13, .ref q_25, .ref q_27, .ref q_38, .ref q_52])), (q_1, .inl (cA_2, 3000, .inl (fun _ => 0))), (q_3, .inr (5, [.ref q_4, .ref q_6, .ref q_8, .int 11, .int 0])), (q_4, .inl (cA_5, 52, .inr (.inl f_10))), (q_6, .inl (cA_7, 52, .inl f_11)), (q_8, .inl (cA_9, 52, .inl (fun _ => 0))), (q_13, .inr (0, [.ref q_14, .ref q_16, .ref q_18, .ref q_20, .ref q_22, .int 0])), (q_14, .inl (cA_15, 16, .inl (fun _ => 0))), (q_18, .inl (cA_19, 100, .inl (fun _ => 0))), (q_20, .inl (cA_21, 100, .inl (fun _ => 0))), (q_22, .inl (cA_23, 100, .inl (fun _ => 0))), (q_16, .inl (cA_17, 16, .inl f_24)), (q_25, .inl (cA_26, 4, .inr (.inr (.inr (.inr f_114))))), (q_27, .inr (7, [.ref q_28, .int 0, .ref q_29, .ref q_34, .ref q_35, .ref q_36, .ref q_37, .int 0])), (q_29, .inr (8, [.ref q_30, .ref q_32, .ref q_33, .int 0])), (q_30, .inl (cA_31, 32, .inl (fun _ => 0))), (q_38, .inr (6, [.ref q_42, .ref q_3, .ref q_27, .ref q_39, .ref q_41, .int 0, .int 0, .int 0, .int 0, .int 0, .int 0])), (q_39, .inl (cA_40, 4, .inl (fun _ => 0))), (q_42, .inr (9, [.ref q_1, .ref q_43, .ref q_44, .ref q_46, .ref q_48, .ref q_50, .int 0, .int 0, .int 0, .int 0, .int 0, .int 0, .int 0, .int 0, .long 0, .double FP.dconst0])), (q_44, .inl (cA_45, 3001, .inl (fun _ => 0))), (q_46, .inl (cA_47, 3001, .inl (fun _ => 0))), (q_48, .inl (cA_49, 3001, .inr (.inl (fun _ => 0)))), (q_50, .inl (cA_51, 3001, .inr (.inr (.inr (.inl (fun _ => 0)))))), (q_52, .inr (4, [.ref q_25, .ref q_3, .ref q_13, .ref q_53, .ref q_54, .ref q_55, .ref q_59, .ref q_63, .ref q_64, .ref q_65, .ref q_27, .int 0, .int 0, .int 4, .int (-1), .int (-1), .long 0])), (q_55, .inr (8, [.ref q_56, .ref q_57, .ref q_58, .int 0])), (q_59, .inr (1, [.ref q_60, .int 0, .ref q_61, .ref q_62, .int 0])), (q_65, .inl (cA_66, 10, .inl (fun _ => 0))), (q_67, .inr (7, [.ref q_68, .int 0, .ref q_69, .ref q_74, .ref q_75, .ref q_76, .ref q_77, .int 0])), (q_79, .inr (7, [.ref q_80, .int 0, .ref q_81, .ref q_86, .ref q_87, .ref q_88, .ref q_89, .int 0])), (q_91, .inr (7, [.ref q_92, .int 0, .ref q_93, .ref q_98, .ref q_99, .ref q_100, .ref q_101, .int 0])), (q_103, .inr (7, [.ref q_104, .int 0, .ref q_105, .ref q_110, .ref q_111, .ref q_112, .ref q_113, .int 0]))] [(cA_2, .byte), (cA_5, .long), (cA_7, .int), (cA_9, .int), (cA_15, .int), (cA_17, .int), (cA_19, .int), (cA_21, .int), (cA_23, .int), (cA_17, .int), (cA_26, .object RX8), (cA_31, .int), (cA_40, .int), (cA_45, .int), (cA_47, .int), (cA_49, .long), (cA_51, .double), (cA_66, .int)] (va_A [(h0, .inr (10, [.null, .int 0, .int 0, .null, .null, .null, .null, .null, .null]))] sz) t) (va_A [(h0, .inr (10, [.null, .int 0, .int 0, .null, .null, .null, .null, .null, .null]))] sz)) 110 26194 (va_A [(h0, .inr (10, [.null, .int 0, .int 0, .null, .null, .null, .null, .null, .null]))] sz) := by
  refine Met.ofW (cc := cX11_init) (maxL := 2) (ret := none) (by decide) rfl ?_
  intro p e s m args below meth c s₁ B hml hv
  obtain ⟨rfl, ⟨hsz, hP, hK, hD0⟩, hE1, hE2, ⟨hN1, hN2, hN3⟩, hN4, hAO⟩ := hv
  have hx := B.exec
  have hb := B.bytes
  have hr := B.returns
  have hts := atoms_spec (ws := wsX11_init) B.pre
  have hown : s.vm.findClass RX11 = some m.cls := findClass_of_methodNamed B.named
  have hlocks := B.notSynchronized
  have hin : meth.name = "<init>" := (name_of_methodNamed B.named B.method).1
  subst hsz
  have hD := hD0.self (sz := s.heap.size)
  generalize hAe : va_A [(h0, .inr (10, [.null, .int 0, .int 0, .null, .null, .null, .null, .null, .null]))] s.heap.size = A at hD hE1 hE2 ⊢
  have hA : ∀ q : Nat, s.heap.size ≤ q → A q := fun q h => by rw [← hAe]; exact Or.inr h
  have hS : va_S A s.heap s.heap [] := va_S.rf
  have hl := lv_entry ([.ref h0]) (n := 2) (Nat.le_of_ble_eq_true rfl)
  rw [lg_entry_eq]
  generalize (lg_sl ([.ref h0]) ++ List.replicate (2 - (lg_sl ([.ref h0])).length) Slot.unset).toArray = ls at hl ⊢
  have hl : lv_has ls 2 [(0, .ref h0)] := hl
  refine lv_aload_n hx hb dX11_init_0 rfl (lv_at hl 0 rfl) ?_
  refine W.objInit hx hb hown (hts (.methodLink RX11 1 objectInit) (by decide +kernel)) (hts (.instanceMethod objectInit) (by decide +kernel)) (hts (.code objectInit ⟨#[0xb1]⟩ 1 none) (by decide +kernel)) rfl (by rw [hml]; exact hl.1) rfl dX11_init_1 (Nat.le_of_ble_eq_true rfl) (Nat.le_of_ble_eq_true rfl) ?_
  refine W.eq (g2 := F0 m 4 ls []) rfl ?_
  refine lv_aload_n hx hb dX11_init_4 rfl (lv_at hl 0 rfl) ?_
  refine lv_sipush (v := 3000) hx hb dX11_init_5 (by decide) ?_
  refine va_newa (atype := .byte) (ty := .byte) (a0 := (3000, .inl (fun _ => 0))) (N' := 3000) hx hb (hts (.arrayClass .byte) (by decide +kernel)) rfl hK hP hD hS hA (cz_byte 3000) (by decide +kernel) (by decide +kernel) (by decide +kernel) (Nat.le_of_ble_eq_true rfl) (Nat.le_of_ble_eq_true rfl) dX11_init_8 (fun q_1 cA_2 H hK hP hD hS => ?_)
  have hP : va_P (dC, dI) vwCl [(h0, .inr (10, [.null, .int 0, .int 0, .null, .null, .null, .null, .null, .null])), (q_1, .inl (cA_2, 3000, .inl (fun _ => 0)))] _ := hP
  have hD : va_D A [(h0, .inr (10, [.null, .int 0, .int 0, .null, .null, .null, .null, .null, .null])), (q_1, .inl (cA_2, 3000, .inl (fun _ => 0)))] := hD
  have hK : va_K (dC, dI) vwCl [(cA_2, .byte)] s := hK
  refine W.widen (k := 1) (n := 3000) (Nat.le_of_ble_eq_true rfl) (Nat.le_of_ble_eq_true rfl) ?_
  refine va_putF (D := (dC, dI)) (ci := 10) (v := .ref q_1) (ty := .array .byte) (C := RX11) (T := TX11) (N := 9) hx hb hts in_X11_init_RX11 tyX11 tyX11_ok nmX11 hown hK hP hD hS 0 rfl rfl 0 (by decide) (hts (.fieldLink RX11 9 "FourTongues" "tape" "[B") (by decide +kernel)) (fun _ h9 => h9) rfl hin rfl (by decide +kernel) rfl rfl (Nat.le_of_ble_eq_true rfl) dX11_init_10 (fun H locs hP hD hS => ?_)
  have hP : va_P (dC, dI) vwCl [(h0, .inr (10, [.ref q_1, .int 0, .int 0, .null, .null, .null, .null, .null, .null])), (q_1, .inl (cA_2, 3000, .inl (fun _ => 0)))] _ := hP
  have hD : va_D A [(h0, .inr (10, [.ref q_1, .int 0, .int 0, .null, .null, .null, .null, .null, .null])), (q_1, .inl (cA_2, 3000, .inl (fun _ => 0)))] := hD
  refine lv_aload_n hx hb dX11_init_13 rfl (lv_at hl 0 rfl) ?_
  refine lv_iconst (v := 0) hx hb dX11_init_14 (by decide) ?_
  refine va_put (D := (dC, dI)) (ci := 10) (v := .int 0) (ty := .int) (C := RX11) (T := TX11) (N := 9) hx hb hts in_X11_init_RX11 tyX11 tyX11_ok nmX11 hown hK hP hD hS 0 rfl rfl 1 (by decide) (hts (.fieldLink RX11 13 "FourTongues" "taped" "I") (by decide +kernel)) (fun _ h9 => h9) rfl (by decide +kernel) rfl rfl (Nat.le_of_ble_eq_true rfl) dX11_init_15 (fun H locs hP hD hS => ?_)
  have hP : va_P (dC, dI) vwCl [(h0, .inr (10, [.ref q_1, .int 0, .int 0, .null, .null, .null, .null, .null, .null])), (q_1, .inl (cA_2, 3000, .inl (fun _ => 0)))] _ := hP
  have hD : va_D A [(h0, .inr (10, [.ref q_1, .int 0, .int 0, .null, .null, .null, .null, .null, .null])), (q_1, .inl (cA_2, 3000, .inl (fun _ => 0)))] := hD
  refine lv_aload_n hx hb dX11_init_18 rfl (lv_at hl 0 rfl) ?_
  refine lv_iconst (v := 0) hx hb dX11_init_19 (by decide) ?_
  refine va_put (D := (dC, dI)) (ci := 10) (v := .int 0) (ty := .int) (C := RX11) (T := TX11) (N := 9) hx hb hts in_X11_init_RX11 tyX11 tyX11_ok nmX11 hown hK hP hD hS 0 rfl rfl 2 (by decide) (hts (.fieldLink RX11 17 "FourTongues" "faultKind" "I") (by decide +kernel)) (fun _ h9 => h9) rfl (by decide +kernel) rfl rfl (Nat.le_of_ble_eq_true rfl) dX11_init_20 (fun H locs hP hD hS => ?_)
  have hP : va_P (dC, dI) vwCl [(h0, .inr (10, [.ref q_1, .int 0, .int 0, .null, .null, .null, .null, .null, .null])), (q_1, .inl (cA_2, 3000, .inl (fun _ => 0)))] _ := hP
  have hD : va_D A [(h0, .inr (10, [.ref q_1, .int 0, .int 0, .null, .null, .null, .null, .null, .null])), (q_1, .inl (cA_2, 3000, .inl (fun _ => 0)))] := hD
  refine lv_aload_n hx hb dX11_init_23 rfl (lv_at hl 0 rfl) ?_
  refine va_new (ci := 5) (fs := [.null, .null, .null, .int 0, .int 0]) (C := RX5) (T := TX5) (N := 5) hx hb hts in_X11_init_RX5 tyX5 tyX5_ok hown (hts (.classLink RX11 20 RX5) (by decide +kernel)) (hts (.instantiable RX5 5) (by decide +kernel)) (hts (.initialized RX5) (by decide +kernel)) hK hP hD hS hA rfl df_X5 (Nat.le_of_ble_eq_true rfl) (Nat.le_of_ble_eq_true rfl) dX11_init_24 (fun q_3 H hP hD hS => ?_)
  have hP : va_P (dC, dI) vwCl [(h0, .inr (10, [.ref q_1, .int 0, .int 0, .null, .null, .null, .null, .null, .null])), (q_1, .inl (cA_2, 3000, .inl (fun _ => 0))), (q_3, .inr (5, [.null, .null, .null, .int 0, .int 0]))] _ := hP
  have hD : va_D A [(h0, .inr (10, [.ref q_1, .int 0, .int 0, .null, .null, .null, .null, .null, .null])), (q_1, .inl (cA_2, 3000, .inl (fun _ => 0))), (q_3, .inr (5, [.null, .null, .null, .int 0, .int 0]))] := hD
  refine W.widen (k := 2) (n := 3005) (Nat.le_of_ble_eq_true rfl) (Nat.le_of_ble_eq_true rfl) ?_
  refine lv_dup hx hb dX11_init_27 rfl ?_
  have hPc := hP.sub (ws' := [(q_3, .inr (5, [.null, .null, .null, .int 0, .int 0]))]) [2] rfl
  have hDc := hD.sub (ws' := [(q_3, .inr (5, [.null, .null, .null, .int 0, .int 0]))]) [2] (by decide) rfl
  have hKc := hK.sub (tys' := []) [] rfl
  have hFc := va_free (wc := [(q_3, .inr (5, [.null, .null, .null, .int 0, .int 0]))]) hD hS hA [2] rfl
  refine va_callv (va_runI (As := []) (rest := [.ref q_3, .ref h0]) ⟨hx, hb, hml, hown, hts⟩ (c_X5_init l dC dI H.size q_3 aK aV ) (cwI 0 hts gX11_init_X5_init rfl rfl rfl (hts (.initialized RX5) (by decide +kernel)) (hts (.methodLink RX11 22 yX5_init) (by decide +kernel)) (hts (.instanceMethod yX5_init) (by decide +kernel)) rfl (by decide +kernel) ⟨Nat.le_of_ble_eq_true rfl, Nat.le_of_ble_eq_true rfl⟩) ⟨(fb_ME eS.fb), fun U hU hW => ⟨rfl, ⟨xM.at hPc hKc hDc hU hW, hE1.at hS hFc hU hW⟩⟩⟩ rfl rfl hl.1 rfl (lv_room (Nat.le_of_ble_eq_true rfl)) dX11_init_28 ⟨Nat.le_of_ble_eq_true rfl, Nat.le_of_ble_eq_true rfl⟩) hS (fun q _ h => hFc q h) hFc (fun u t H locs ht hvm hw hB hz1 hk1 hS => ?_)
  obtain ⟨q_4, cA_5, q_6, cA_7, q_8, cA_9, f_10, f_11, hf_12, hB⟩ := hB
  obtain ⟨hP, hD, hK⟩ := xB.join (wr := [(h0, .inr (10, [.ref q_1, .int 0, .int 0, .null, .null, .null, .null, .null, .null])), (q_1, .inl (cA_2, 3000, .inl (fun _ => 0)))]) (w1 := [(q_3, .inr (5, [.ref q_4, .ref q_6, .ref q_8, .int 11, .int 0])), (q_4, .inl (cA_5, 52, .inr (.inl f_10))), (q_6, .inl (cA_7, 52, .inl f_11)), (q_8, .inl (cA_9, 52, .inl (fun _ => 0)))]) hP hD hK [2] [0, 1] rfl rfl (by decide) (by decide) hk1 hFc hB ht hvm
  have hP : va_P (dC, dI) vwCl [(h0, .inr (10, [.ref q_1, .int 0, .int 0, .null, .null, .null, .null, .null, .null])), (q_1, .inl (cA_2, 3000, .inl (fun _ => 0))), (q_3, .inr (5, [.ref q_4, .ref q_6, .ref q_8, .int 11, .int 0])), (q_4, .inl (cA_5, 52, .inr (.inl f_10))), (q_6, .inl (cA_7, 52, .inl f_11)), (q_8, .inl (cA_9, 52, .inl (fun _ => 0)))] _ := hP
  have hD : va_D A [(h0, .inr (10, [.ref q_1, .int 0, .int 0, .null, .null, .null, .null, .null, .null])), (q_1, .inl (cA_2, 3000, .inl (fun _ => 0))), (q_3, .inr (5, [.ref q_4, .ref q_6, .ref q_8, .int 11, .int 0])), (q_4, .inl (cA_5, 52, .inr (.inl f_10))), (q_6, .inl (cA_7, 52, .inl f_11)), (q_8, .inl (cA_9, 52, .inl (fun _ => 0)))] := hD
  have hK : va_K (dC, dI) vwCl [(cA_2, .byte), (cA_5, .long), (cA_7, .int), (cA_9, .int)] s := hK
  refine W.widen (k := 5) (n := 3161) (Nat.le_of_ble_eq_true rfl) (Nat.le_of_ble_eq_true rfl) ?_
  refine va_putF (D := (dC, dI)) (ci := 10) (v := .ref q_3) (ty := .object "FourTongues$Names") (C := RX11) (T := TX11) (N := 9) hx hb hts in_X11_init_RX11 tyX11 tyX11_ok nmX11 hown hK hP hD hS 0 rfl rfl 3 (by decide) (hts (.fieldLink RX11 23 "FourTongues" "names" "LFourTongues$Names;") (by decide +kernel)) (fun _ h9 => h9) rfl hin rfl (by decide +kernel) rfl rfl (Nat.le_of_ble_eq_true rfl) dX11_init_31 (fun H locs hP hD hS => ?_)
  have hP : va_P (dC, dI) vwCl [(h0, .inr (10, [.ref q_1, .int 0, .int 0, .ref q_3, .null, .null, .null, .null, .null])), (q_1, .inl (cA_2, 3000, .inl (fun _ => 0))), (q_3, .inr (5, [.ref q_4, .ref q_6, .ref q_8, .int 11, .int 0])), (q_4, .inl (cA_5, 52, .inr (.inl f_10))), (q_6, .inl (cA_7, 52, .inl f_11)), (q_8, .inl (cA_9, 52, .inl (fun _ => 0)))] _ := hP
  have hD : va_D A [(h0, .inr (10, [.ref q_1, .int 0, .int 0, .ref q_3, .null, .null, .null, .null, .null])), (q_1, .inl (cA_2, 3000, .inl (fun _ => 0))), (q_3, .inr (5, [.ref q_4, .ref q_6, .ref q_8, .int 11, .int 0])), (q_4, .inl (cA_5, 52, .inr (.inl f_10))), (q_6, .inl (cA_7, 52, .inl f_11)), (q_8, .inl (cA_9, 52, .inl (fun _ => 0)))] := hD
  refine lv_aload_n hx hb dX11_init_34 rfl (lv_at hl 0 rfl) ?_
  refine va_new (ci := 0) (fs := [.null, .null, .null, .null, .null, .int 0]) (C := RX0) (T := TX0) (N := 6) hx hb hts in_X11_init_RX0 tyX0 tyX0_ok hown (hts (.classLink RX11 27 RX0) (by decide +kernel)) (hts (.instantiable RX0 6) (by decide +kernel)) (hts (.initialized RX0) (by decide +kernel)) hK hP hD hS hA rfl df_X0 (Nat.le_of_ble_eq_true rfl) (Nat.le_of_ble_eq_true rfl) dX11_init_35 (fun q_13 H hP hD hS => ?_)
  have hP : va_P (dC, dI) vwCl [(h0, .inr (10, [.ref q_1, .int 0, .int 0, .ref q_3, .null, .null, .null, .null, .null])), (q_1, .inl (cA_2, 3000, .inl (fun _ => 0))), (q_3, .inr (5, [.ref q_4, .ref q_6, .ref q_8, .int 11, .int 0])), (q_4, .inl (cA_5, 52, .inr (.inl f_10))), (q_6, .inl (cA_7, 52, .inl f_11)), (q_8, .inl (cA_9, 52, .inl (fun _ => 0))), (q_13, .inr (0, [.null, .null, .null, .null, .null, .int 0]))] _ := hP
  have hD : va_D A [(h0, .inr (10, [.ref q_1, .int 0, .int 0, .ref q_3, .null, .null, .null, .null, .null])), (q_1, .inl (cA_2, 3000, .inl (fun _ => 0))), (q_3, .inr (5, [.ref q_4, .ref q_6, .ref q_8, .int 11, .int 0])), (q_4, .inl (cA_5, 52, .inr (.inl f_10))), (q_6, .inl (cA_7, 52, .inl f_11)), (q_8, .inl (cA_9, 52, .inl (fun _ => 0))), (q_13, .inr (0, [.null, .null, .null, .null, .null, .int 0]))] := hD
  refine W.widen (k := 6) (n := 3167) (Nat.le_of_ble_eq_true rfl) (Nat.le_of_ble_eq_true rfl) ?_
  refine lv_dup hx hb dX11_init_38 rfl ?_
  have hPc := hP.sub (ws' := [(q_13, .inr (0, [.null, .null, .null, .null, .null, .int 0]))]) [6] rfl
  have hDc := hD.sub (ws' := [(q_13, .inr (0, [.null, .null, .null, .null, .null, .int 0]))]) [6] (by decide) rfl
  have hKc := hK.sub (tys' := []) [] rfl
  have hFc := va_free (wc := [(q_13, .inr (0, [.null, .null, .null, .null, .null, .int 0]))]) hD hS hA [6] rfl
  refine va_callv (va_runI (As := []) (rest := [.ref q_13, .ref h0]) ⟨hx, hb, hml, hown, hts⟩ (c_X0_init l dC dI H.size q_13 ) (cwI 0 hts gX11_init_X0_init rfl rfl rfl (hts (.initialized RX0) (by decide +kernel)) (hts (.methodLink RX11 29 yX0_init) (by decide +kernel)) (hts (.instanceMethod yX0_init) (by decide +kernel)) rfl (by decide +kernel) ⟨Nat.le_of_ble_eq_true rfl, Nat.le_of_ble_eq_true rfl⟩) ⟨fb_M, fun U hU hW => ⟨rfl, xM.at hPc hKc hDc hU hW⟩⟩ rfl rfl hl.1 rfl (lv_room (Nat.le_of_ble_eq_true rfl)) dX11_init_39 ⟨Nat.le_of_ble_eq_true rfl, Nat.le_of_ble_eq_true rfl⟩) hS (fun q _ h => hFc q h) hFc (fun u t H locs ht hvm hw hB hz1 hk1 hS => ?_)
  obtain ⟨q_14, cA_15, q_16, cA_17, q_18, cA_19, q_20, cA_21, q_22, cA_23, f_24, hB⟩ := hB
  obtain ⟨hP, hD, hK⟩ := xB.join (wr := [(h0, .inr (10, [.ref q_1, .int 0, .int 0, .ref q_3, .null, .null, .null, .null, .null])), (q_1, .inl (cA_2, 3000, .inl (fun _ => 0))), (q_3, .inr (5, [.ref q_4, .ref q_6, .ref q_8, .int 11, .int 0])), (q_4, .inl (cA_5, 52, .inr (.inl f_10))), (q_6, .inl (cA_7, 52, .inl f_11)), (q_8, .inl (cA_9, 52, .inl (fun _ => 0)))]) (w1 := [(q_13, .inr (0, [.ref q_14, .ref q_16, .ref q_18, .ref q_20, .ref q_22, .int 0])), (q_14, .inl (cA_15, 16, .inl (fun _ => 0))), (q_18, .inl (cA_19, 100, .inl (fun _ => 0))), (q_20, .inl (cA_21, 100, .inl (fun _ => 0))), (q_22, .inl (cA_23, 100, .inl (fun _ => 0))), (q_16, .inl (cA_17, 16, .inl f_24))]) hP hD hK [6] [0, 1, 2, 3, 4, 5] rfl rfl (by decide) (by decide) hk1 hFc hB ht hvm
  have hP : va_P (dC, dI) vwCl [(h0, .inr (10, [.ref q_1, .int 0, .int 0, .ref q_3, .null, .null, .null, .null, .null])), (q_1, .inl (cA_2, 3000, .inl (fun _ => 0))), (q_3, .inr (5, [.ref q_4, .ref q_6, .ref q_8, .int 11, .int 0])), (q_4, .inl (cA_5, 52, .inr (.inl f_10))), (q_6, .inl (cA_7, 52, .inl f_11)), (q_8, .inl (cA_9, 52, .inl (fun _ => 0))), (q_13, .inr (0, [.ref q_14, .ref q_16, .ref q_18, .ref q_20, .ref q_22, .int 0])), (q_14, .inl (cA_15, 16, .inl (fun _ => 0))), (q_18, .inl (cA_19, 100, .inl (fun _ => 0))), (q_20, .inl (cA_21, 100, .inl (fun _ => 0))), (q_22, .inl (cA_23, 100, .inl (fun _ => 0))), (q_16, .inl (cA_17, 16, .inl f_24))] _ := hP
  have hD : va_D A [(h0, .inr (10, [.ref q_1, .int 0, .int 0, .ref q_3, .null, .null, .null, .null, .null])), (q_1, .inl (cA_2, 3000, .inl (fun _ => 0))), (q_3, .inr (5, [.ref q_4, .ref q_6, .ref q_8, .int 11, .int 0])), (q_4, .inl (cA_5, 52, .inr (.inl f_10))), (q_6, .inl (cA_7, 52, .inl f_11)), (q_8, .inl (cA_9, 52, .inl (fun _ => 0))), (q_13, .inr (0, [.ref q_14, .ref q_16, .ref q_18, .ref q_20, .ref q_22, .int 0])), (q_14, .inl (cA_15, 16, .inl (fun _ => 0))), (q_18, .inl (cA_19, 100, .inl (fun _ => 0))), (q_20, .inl (cA_21, 100, .inl (fun _ => 0))), (q_22, .inl (cA_23, 100, .inl (fun _ => 0))), (q_16, .inl (cA_17, 16, .inl f_24))] := hD
  have hK : va_K (dC, dI) vwCl [(cA_2, .byte), (cA_5, .long), (cA_7, .int), (cA_9, .int), (cA_15, .int), (cA_17, .int), (cA_19, .int), (cA_21, .int), (cA_23, .int), (cA_17, .int)] s := hK
  refine W.widen (k := 11) (n := 3499) (Nat.le_of_ble_eq_true rfl) (Nat.le_of_ble_eq_true rfl) ?_
  refine va_putF (D := (dC, dI)) (ci := 10) (v := .ref q_13) (ty := .object "FourTongues$Borders") (C := RX11) (T := TX11) (N := 9) hx hb hts in_X11_init_RX11 tyX11 tyX11_ok nmX11 hown hK hP hD hS 0 rfl rfl 4 (by decide) (hts (.fieldLink RX11 30 "FourTongues" "borders" "LFourTongues$Borders;") (by decide +kernel)) (fun _ h9 => h9) rfl hin rfl (by decide +kernel) rfl rfl (Nat.le_of_ble_eq_true rfl) dX11_init_42 (fun H locs hP hD hS => ?_)
  have hP : va_P (dC, dI) vwCl [(h0, .inr (10, [.ref q_1, .int 0, .int 0, .ref q_3, .ref q_13, .null, .null, .null, .null])), (q_1, .inl (cA_2, 3000, .inl (fun _ => 0))), (q_3, .inr (5, [.ref q_4, .ref q_6, .ref q_8, .int 11, .int 0])), (q_4, .inl (cA_5, 52, .inr (.inl f_10))), (q_6, .inl (cA_7, 52, .inl f_11)), (q_8, .inl (cA_9, 52, .inl (fun _ => 0))), (q_13, .inr (0, [.ref q_14, .ref q_16, .ref q_18, .ref q_20, .ref q_22, .int 0])), (q_14, .inl (cA_15, 16, .inl (fun _ => 0))), (q_18, .inl (cA_19, 100, .inl (fun _ => 0))), (q_20, .inl (cA_21, 100, .inl (fun _ => 0))), (q_22, .inl (cA_23, 100, .inl (fun _ => 0))), (q_16, .inl (cA_17, 16, .inl f_24))] _ := hP
  have hD : va_D A [(h0, .inr (10, [.ref q_1, .int 0, .int 0, .ref q_3, .ref q_13, .null, .null, .null, .null])), (q_1, .inl (cA_2, 3000, .inl (fun _ => 0))), (q_3, .inr (5, [.ref q_4, .ref q_6, .ref q_8, .int 11, .int 0])), (q_4, .inl (cA_5, 52, .inr (.inl f_10))), (q_6, .inl (cA_7, 52, .inl f_11)), (q_8, .inl (cA_9, 52, .inl (fun _ => 0))), (q_13, .inr (0, [.ref q_14, .ref q_16, .ref q_18, .ref q_20, .ref q_22, .int 0])), (q_14, .inl (cA_15, 16, .inl (fun _ => 0))), (q_18, .inl (cA_19, 100, .inl (fun _ => 0))), (q_20, .inl (cA_21, 100, .inl (fun _ => 0))), (q_22, .inl (cA_23, 100, .inl (fun _ => 0))), (q_16, .inl (cA_17, 16, .inl f_24))] := hD
  refine lv_aload_n hx hb dX11_init_45 rfl (lv_at hl 0 rfl) ?_
  refine lv_iconst (v := 4) hx hb dX11_init_46 (by decide) ?_
  refine va_newq (C := RX8) (N' := 4) hx hb hown (hts (.classLink RX11 34 RX8) (by decide +kernel)) hAO hK hP hD hS hA (by decide +kernel) (by decide +kernel) (by decide +kernel) (Nat.le_of_ble_eq_true rfl) (Nat.le_of_ble_eq_true rfl) dX11_init_47 (fun q_25 cA_26 H hK hP hD hS => ?_)
  have hP : va_P (dC, dI) vwCl [(h0, .inr (10, [.ref q_1, .int 0, .int 0, .ref q_3, .ref q_13, .null, .null, .null, .null])), (q_1, .inl (cA_2, 3000, .inl (fun _ => 0))), (q_3, .inr (5, [.ref q_4, .ref q_6, .ref q_8, .int 11, .int 0])), (q_4, .inl (cA_5, 52, .inr (.inl f_10))), (q_6, .inl (cA_7, 52, .inl f_11)), (q_8, .inl (cA_9, 52, .inl (fun _ => 0))), (q_13, .inr (0, [.ref q_14, .ref q_16, .ref q_18, .ref q_20, .ref q_22, .int 0])), (q_14, .inl (cA_15, 16, .inl (fun _ => 0))), (q_18, .inl (cA_19, 100, .inl (fun _ => 0))), (q_20, .inl (cA_21, 100, .inl (fun _ => 0))), (q_22, .inl (cA_23, 100, .inl (fun _ => 0))), (q_16, .inl (cA_17, 16, .inl f_24)), (q_25, .inl (cA_26, 4, .inr (.inr (.inr (.inr (fun _ => none))))))] _ := hP
  have hD : va_D A [(h0, .inr (10, [.ref q_1, .int 0, .int 0, .ref q_3, .ref q_13, .null, .null, .null, .null])), (q_1, .inl (cA_2, 3000, .inl (fun _ => 0))), (q_3, .inr (5, [.ref q_4, .ref q_6, .ref q_8, .int 11, .int 0])), (q_4, .inl (cA_5, 52, .inr (.inl f_10))), (q_6, .inl (cA_7, 52, .inl f_11)), (q_8, .inl (cA_9, 52, .inl (fun _ => 0))), (q_13, .inr (0, [.ref q_14, .ref q_16, .ref q_18, .ref q_20, .ref q_22, .int 0])), (q_14, .inl (cA_15, 16, .inl (fun _ => 0))), (q_18, .inl (cA_19, 100, .inl (fun _ => 0))), (q_20, .inl (cA_21, 100, .inl (fun _ => 0))), (q_22, .inl (cA_23, 100, .inl (fun _ => 0))), (q_16, .inl (cA_17, 16, .inl f_24)), (q_25, .inl (cA_26, 4, .inr (.inr (.inr (.inr (fun _ => none))))))] := hD
  have hK : va_K (dC, dI) vwCl [(cA_2, .byte), (cA_5, .long), (cA_7, .int), (cA_9, .int), (cA_15, .int), (cA_17, .int), (cA_19, .int), (cA_21, .int), (cA_23, .int), (cA_17, .int), (cA_26, .object RX8)] s := hK
  refine W.widen (k := 12) (n := 3503) (Nat.le_of_ble_eq_true rfl) (Nat.le_of_ble_eq_true rfl) ?_
  refine va_putF (D := (dC, dI)) (ci := 10) (v := .ref q_25) (ty := .array (.object "FourTongues$Program")) (C := RX11) (T := TX11) (N := 9) hx hb hts in_X11_init_RX11 tyX11 tyX11_ok nmX11 hown hK hP hD hS 0 rfl rfl 5 (by decide) (hts (.fieldLink RX11 36 "FourTongues" "programs" "[LFourTongues$Program;") (by decide +kernel)) (fun _ h9 => h9) rfl hin rfl (by decide +kernel) rfl rfl (Nat.le_of_ble_eq_true rfl) dX11_init_50 (fun H locs hP hD hS => ?_)
  have hP : va_P (dC, dI) vwCl [(h0, .inr (10, [.ref q_1, .int 0, .int 0, .ref q_3, .ref q_13, .ref q_25, .null, .null, .null])), (q_1, .inl (cA_2, 3000, .inl (fun _ => 0))), (q_3, .inr (5, [.ref q_4, .ref q_6, .ref q_8, .int 11, .int 0])), (q_4, .inl (cA_5, 52, .inr (.inl f_10))), (q_6, .inl (cA_7, 52, .inl f_11)), (q_8, .inl (cA_9, 52, .inl (fun _ => 0))), (q_13, .inr (0, [.ref q_14, .ref q_16, .ref q_18, .ref q_20, .ref q_22, .int 0])), (q_14, .inl (cA_15, 16, .inl (fun _ => 0))), (q_18, .inl (cA_19, 100, .inl (fun _ => 0))), (q_20, .inl (cA_21, 100, .inl (fun _ => 0))), (q_22, .inl (cA_23, 100, .inl (fun _ => 0))), (q_16, .inl (cA_17, 16, .inl f_24)), (q_25, .inl (cA_26, 4, .inr (.inr (.inr (.inr (fun _ => none))))))] _ := hP
  have hD : va_D A [(h0, .inr (10, [.ref q_1, .int 0, .int 0, .ref q_3, .ref q_13, .ref q_25, .null, .null, .null])), (q_1, .inl (cA_2, 3000, .inl (fun _ => 0))), (q_3, .inr (5, [.ref q_4, .ref q_6, .ref q_8, .int 11, .int 0])), (q_4, .inl (cA_5, 52, .inr (.inl f_10))), (q_6, .inl (cA_7, 52, .inl f_11)), (q_8, .inl (cA_9, 52, .inl (fun _ => 0))), (q_13, .inr (0, [.ref q_14, .ref q_16, .ref q_18, .ref q_20, .ref q_22, .int 0])), (q_14, .inl (cA_15, 16, .inl (fun _ => 0))), (q_18, .inl (cA_19, 100, .inl (fun _ => 0))), (q_20, .inl (cA_21, 100, .inl (fun _ => 0))), (q_22, .inl (cA_23, 100, .inl (fun _ => 0))), (q_16, .inl (cA_17, 16, .inl f_24)), (q_25, .inl (cA_26, 4, .inr (.inr (.inr (.inr (fun _ => none))))))] := hD
  refine lv_aload_n hx hb dX11_init_53 rfl (lv_at hl 0 rfl) ?_
  refine va_new (ci := 7) (fs := [.null, .int 0, .null, .null, .null, .null, .null, .int 0]) (C := RX8) (T := TX8) (N := 8) hx hb hts in_X11_init_RX8 tyX8 tyX8_ok hown (hts (.classLink RX11 34 RX8) (by decide +kernel)) (hts (.instantiable RX8 8) (by decide +kernel)) (hts (.initialized RX8) (by decide +kernel)) hK hP hD hS hA rfl df_X8 (Nat.le_of_ble_eq_true rfl) (Nat.le_of_ble_eq_true rfl) dX11_init_54 (fun q_27 H hP hD hS => ?_)
  have hP : va_P (dC, dI) vwCl [(h0, .inr (10, [.ref q_1, .int 0, .int 0, .ref q_3, .ref q_13, .ref q_25, .null, .null, .null])), (q_1, .inl (cA_2, 3000, .inl (fun _ => 0))), (q_3, .inr (5, [.ref q_4, .ref q_6, .ref q_8, .int 11, .int 0])), (q_4, .inl (cA_5, 52, .inr (.inl f_10))), (q_6, .inl (cA_7, 52, .inl f_11)), (q_8, .inl (cA_9, 52, .inl (fun _ => 0))), (q_13, .inr (0, [.ref q_14, .ref q_16, .ref q_18, .ref q_20, .ref q_22, .int 0])), (q_14, .inl (cA_15, 16, .inl (fun _ => 0))), (q_18, .inl (cA_19, 100, .inl (fun _ => 0))), (q_20, .inl (cA_21, 100, .inl (fun _ => 0))), (q_22, .inl (cA_23, 100, .inl (fun _ => 0))), (q_16, .inl (cA_17, 16, .inl f_24)), (q_25, .inl (cA_26, 4, .inr (.inr (.inr (.inr (fun _ => none)))))), (q_27, .inr (7, [.null, .int 0, .null, .null, .null, .null, .null, .int 0]))] _ := hP
  have hD : va_D A [(h0, .inr (10, [.ref q_1, .int 0, .int 0, .ref q_3, .ref q_13, .ref q_25, .null, .null, .null])), (q_1, .inl (cA_2, 3000, .inl (fun _ => 0))), (q_3, .inr (5, [.ref q_4, .ref q_6, .ref q_8, .int 11, .int 0])), (q_4, .inl (cA_5, 52, .inr (.inl f_10))), (q_6, .inl (cA_7, 52, .inl f_11)), (q_8, .inl (cA_9, 52, .inl (fun _ => 0))), (q_13, .inr (0, [.ref q_14, .ref q_16, .ref q_18, .ref q_20, .ref q_22, .int 0])), (q_14, .inl (cA_15, 16, .inl (fun _ => 0))), (q_18, .inl (cA_19, 100, .inl (fun _ => 0))), (q_20, .inl (cA_21, 100, .inl (fun _ => 0))), (q_22, .inl (cA_23, 100, .inl (fun _ => 0))), (q_16, .inl (cA_17, 16, .inl f_24)), (q_25, .inl (cA_26, 4, .inr (.inr (.inr (.inr (fun _ => none)))))), (q_27, .inr (7, [.null, .int 0, .null, .null, .null, .null, .null, .int 0]))] := hD
  refine W.widen (k := 13) (n := 3511) (Nat.le_of_ble_eq_true rfl) (Nat.le_of_ble_eq_true rfl) ?_
  refine lv_dup hx hb dX11_init_57 rfl ?_
  have hPc := hP.sub (ws' := [(q_27, .inr (7, [.null, .int 0, .null, .null, .null, .null, .null, .int 0]))]) [13] rfl
  have hDc := hD.sub (ws' := [(q_27, .inr (7, [.null, .int 0, .null, .null, .null, .null, .null, .int 0]))]) [13] (by decide) rfl
  have hKc := hK.sub (tys' := []) [] rfl
  have hFc := va_free (wc := [(q_27, .inr (7, [.null, .int 0, .null, .null, .null, .null, .null, .int 0]))]) hD hS hA [13] rfl
  refine va_callv (va_runIN (As := []) (rest := [.ref q_27, .ref h0]) ⟨hx, hb, hml, hown, hts⟩ (c_X8_init l dC dI H.size q_27 ) ⟨va_cnB 0 hts gX11_init_X8_init_n40 rfl rfl rfl hN4 (hts (.initialized RX8) (by decide +kernel)) (by decide +kernel) ⟨Nat.le_of_ble_eq_true rfl, Nat.le_of_ble_eq_true rfl⟩, rfl, (hts (.instanceMethod yX8_init) (by decide +kernel))⟩ ⟨fb_M, fun U hU hW => ⟨rfl, xM.at hPc hKc hDc hU hW⟩⟩ rfl rfl hl.1 rfl (lv_room (Nat.le_of_ble_eq_true rfl)) dX11_init_58 ⟨Nat.le_of_ble_eq_true rfl, Nat.le_of_ble_eq_true rfl⟩) hS (fun q _ h => hFc q h) hFc (fun u t H locs ht hvm hw hB hz1 hk1 hS => ?_)
  obtain ⟨q_28, q_29, q_30, cA_31, q_32, q_33, q_34, q_35, q_36, q_37, hB⟩ := hB
  obtain ⟨hP, hD, hK⟩ := xB.join (wr := [(h0, .inr (10, [.ref q_1, .int 0, .int 0, .ref q_3, .ref q_13, .ref q_25, .null, .null, .null])), (q_1, .inl (cA_2, 3000, .inl (fun _ => 0))), (q_3, .inr (5, [.ref q_4, .ref q_6, .ref q_8, .int 11, .int 0])), (q_4, .inl (cA_5, 52, .inr (.inl f_10))), (q_6, .inl (cA_7, 52, .inl f_11)), (q_8, .inl (cA_9, 52, .inl (fun _ => 0))), (q_13, .inr (0, [.ref q_14, .ref q_16, .ref q_18, .ref q_20, .ref q_22, .int 0])), (q_14, .inl (cA_15, 16, .inl (fun _ => 0))), (q_18, .inl (cA_19, 100, .inl (fun _ => 0))), (q_20, .inl (cA_21, 100, .inl (fun _ => 0))), (q_22, .inl (cA_23, 100, .inl (fun _ => 0))), (q_16, .inl (cA_17, 16, .inl f_24)), (q_25, .inl (cA_26, 4, .inr (.inr (.inr (.inr (fun _ => none))))))]) (w1 := [(q_27, .inr (7, [.ref q_28, .int 0, .ref q_29, .ref q_34, .ref q_35, .ref q_36, .ref q_37, .int 0])), (q_29, .inr (8, [.ref q_30, .ref q_32, .ref q_33, .int 0])), (q_30, .inl (cA_31, 32, .inl (fun _ => 0)))]) hP hD hK [13] [0, 1, 2, 3, 4, 5, 6, 7, 8, 9, 10, 11, 12] rfl rfl (by decide) (by decide) hk1 hFc hB ht hvm
  have hP : va_P (dC, dI) vwCl [(h0, .inr (10, [.ref q_1, .int 0, .int 0, .ref q_3, .ref q_13, .ref q_25, .null, .null, .null])), (q_1, .inl (cA_2, 3000, .inl (fun _ => 0))), (q_3, .inr (5, [.ref q_4, .ref q_6, .ref q_8, .int 11, .int 0])), (q_4, .inl (cA_5, 52, .inr (.inl f_10))), (q_6, .inl (cA_7, 52, .inl f_11)), (q_8, .inl (cA_9, 52, .inl (fun _ => 0))), (q_13, .inr (0, [.ref q_14, .ref q_16, .ref q_18, .ref q_20, .ref q_22, .int 0])), (q_14, .inl (cA_15, 16, .inl (fun _ => 0))), (q_18, .inl (cA_19, 100, .inl (fun _ => 0))), (q_20, .inl (cA_21, 100, .inl (fun _ => 0))), (q_22, .inl (cA_23, 100, .inl (fun _ => 0))), (q_16, .inl (cA_17, 16, .inl f_24)), (q_25, .inl (cA_26, 4, .inr (.inr (.inr (.inr (fun _ => none)))))), (q_27, .inr (7, [.ref q_28, .int 0, .ref q_29, .ref q_34, .ref q_35, .ref q_36, .ref q_37, .int 0])), (q_29, .inr (8, [.ref q_30, .ref q_32, .ref q_33, .int 0])), (q_30, .inl (cA_31, 32, .inl (fun _ => 0)))] _ := hP
  have hD : va_D A [(h0, .inr (10, [.ref q_1, .int 0, .int 0, .ref q_3, .ref q_13, .ref q_25, .null, .null, .null])), (q_1, .inl (cA_2, 3000, .inl (fun _ => 0))), (q_3, .inr (5, [.ref q_4, .ref q_6, .ref q_8, .int 11, .int 0])), (q_4, .inl (cA_5, 52, .inr (.inl f_10))), (q_6, .inl (cA_7, 52, .inl f_11)), (q_8, .inl (cA_9, 52, .inl (fun _ => 0))), (q_13, .inr (0, [.ref q_14, .ref q_16, .ref q_18, .ref q_20, .ref q_22, .int 0])), (q_14, .inl (cA_15, 16, .inl (fun _ => 0))), (q_18, .inl (cA_19, 100, .inl (fun _ => 0))), (q_20, .inl (cA_21, 100, .inl (fun _ => 0))), (q_22, .inl (cA_23, 100, .inl (fun _ => 0))), (q_16, .inl (cA_17, 16, .inl f_24)), (q_25, .inl (cA_26, 4, .inr (.inr (.inr (.inr (fun _ => none)))))), (q_27, .inr (7, [.ref q_28, .int 0, .ref q_29, .ref q_34, .ref q_35, .ref q_36, .ref q_37, .int 0])), (q_29, .inr (8, [.ref q_30, .ref q_32, .ref q_33, .int 0])), (q_30, .inl (cA_31, 32, .inl (fun _ => 0)))] := hD
  have hK : va_K (dC, dI) vwCl [(cA_2, .byte), (cA_5, .long), (cA_7, .int), (cA_9, .int), (cA_15, .int), (cA_17, .int), (cA_19, .int), (cA_21, .int), (cA_23, .int), (cA_17, .int), (cA_26, .object RX8), (cA_31, .int)] s := hK
  refine W.widen (k := 22) (n := 4795) (Nat.le_of_ble_eq_true rfl) (Nat.le_of_ble_eq_true rfl) ?_
  refine va_put (D := (dC, dI)) (ci := 10) (v := .ref q_27) (ty := .object "FourTongues$Program") (C := RX11) (T := TX11) (N := 9) hx hb hts in_X11_init_RX11 tyX11 tyX11_ok nmX11 hown hK hP hD hS 0 rfl rfl 6 (by decide) (hts (.fieldLink RX11 41 "FourTongues" "draft" "LFourTongues$Program;") (by decide +kernel)) (fun _ h9 => h9) rfl (by decide +kernel) rfl rfl (Nat.le_of_ble_eq_true rfl) dX11_init_61 (fun H locs hP hD hS => ?_)
  have hP : va_P (dC, dI) vwCl [(h0, .inr (10, [.ref q_1, .int 0, .int 0, .ref q_3, .ref q_13, .ref q_25, .ref q_27, .null, .null])), (q_1, .inl (cA_2, 3000, .inl (fun _ => 0))), (q_3, .inr (5, [.ref q_4, .ref q_6, .ref q_8, .int 11, .int 0])), (q_4, .inl (cA_5, 52, .inr (.inl f_10))), (q_6, .inl (cA_7, 52, .inl f_11)), (q_8, .inl (cA_9, 52, .inl (fun _ => 0))), (q_13, .inr (0, [.ref q_14, .ref q_16, .ref q_18, .ref q_20, .ref q_22, .int 0])), (q_14, .inl (cA_15, 16, .inl (fun _ => 0))), (q_18, .inl (cA_19, 100, .inl (fun _ => 0))), (q_20, .inl (cA_21, 100, .inl (fun _ => 0))), (q_22, .inl (cA_23, 100, .inl (fun _ => 0))), (q_16, .inl (cA_17, 16, .inl f_24)), (q_25, .inl (cA_26, 4, .inr (.inr (.inr (.inr (fun _ => none)))))), (q_27, .inr (7, [.ref q_28, .int 0, .ref q_29, .ref q_34, .ref q_35, .ref q_36, .ref q_37, .int 0])), (q_29, .inr (8, [.ref q_30, .ref q_32, .ref q_33, .int 0])), (q_30, .inl (cA_31, 32, .inl (fun _ => 0)))] _ := hP
  have hD : va_D A [(h0, .inr (10, [.ref q_1, .int 0, .int 0, .ref q_3, .ref q_13, .ref q_25, .ref q_27, .null, .null])), (q_1, .inl (cA_2, 3000, .inl (fun _ => 0))), (q_3, .inr (5, [.ref q_4, .ref q_6, .ref q_8, .int 11, .int 0])), (q_4, .inl (cA_5, 52, .inr (.inl f_10))), (q_6, .inl (cA_7, 52, .inl f_11)), (q_8, .inl (cA_9, 52, .inl (fun _ => 0))), (q_13, .inr (0, [.ref q_14, .ref q_16, .ref q_18, .ref q_20, .ref q_22, .int 0])), (q_14, .inl (cA_15, 16, .inl (fun _ => 0))), (q_18, .inl (cA_19, 100, .inl (fun _ => 0))), (q_20, .inl (cA_21, 100, .inl (fun _ => 0))), (q_22, .inl (cA_23, 100, .inl (fun _ => 0))), (q_16, .inl (cA_17, 16, .inl f_24)), (q_25, .inl (cA_26, 4, .inr (.inr (.inr (.inr (fun _ => none)))))), (q_27, .inr (7, [.ref q_28, .int 0, .ref q_29, .ref q_34, .ref q_35, .ref q_36, .ref q_37, .int 0])), (q_29, .inr (8, [.ref q_30, .ref q_32, .ref q_33, .int 0])), (q_30, .inl (cA_31, 32, .inl (fun _ => 0)))] := hD
  refine lv_aload_n hx hb dX11_init_64 rfl (lv_at hl 0 rfl) ?_
  refine va_new (ci := 6) (fs := [.null, .null, .null, .null, .null, .int 0, .int 0, .int 0, .int 0, .int 0, .int 0]) (C := RX7) (T := TX7) (N := 11) hx hb hts in_X11_init_RX7 tyX7 tyX7_ok hown (hts (.classLink RX11 45 RX7) (by decide +kernel)) (hts (.instantiable RX7 11) (by decide +kernel)) (hts (.initialized RX7) (by decide +kernel)) hK hP hD hS hA rfl df_X7 (Nat.le_of_ble_eq_true rfl) (Nat.le_of_ble_eq_true rfl) dX11_init_65 (fun q_38 H hP hD hS => ?_)
  have hP : va_P (dC, dI) vwCl [(h0, .inr (10, [.ref q_1, .int 0, .int 0, .ref q_3, .ref q_13, .ref q_25, .ref q_27, .null, .null])), (q_1, .inl (cA_2, 3000, .inl (fun _ => 0))), (q_3, .inr (5, [.ref q_4, .ref q_6, .ref q_8, .int 11, .int 0])), (q_4, .inl (cA_5, 52, .inr (.inl f_10))), (q_6, .inl (cA_7, 52, .inl f_11)), (q_8, .inl (cA_9, 52, .inl (fun _ => 0))), (q_13, .inr (0, [.ref q_14, .ref q_16, .ref q_18, .ref q_20, .ref q_22, .int 0])), (q_14, .inl (cA_15, 16, .inl (fun _ => 0))), (q_18, .inl (cA_19, 100, .inl (fun _ => 0))), (q_20, .inl (cA_21, 100, .inl (fun _ => 0))), (q_22, .inl (cA_23, 100, .inl (fun _ => 0))), (q_16, .inl (cA_17, 16, .inl f_24)), (q_25, .inl (cA_26, 4, .inr (.inr (.inr (.inr (fun _ => none)))))), (q_27, .inr (7, [.ref q_28, .int 0, .ref q_29, .ref q_34, .ref q_35, .ref q_36, .ref q_37, .int 0])), (q_29, .inr (8, [.ref q_30, .ref q_32, .ref q_33, .int 0])), (q_30, .inl (cA_31, 32, .inl (fun _ => 0))), (q_38, .inr (6, [.null, .null, .null, .null, .null, .int 0, .int 0, .int 0, .int 0, .int 0, .int 0]))] _ := hP
  have hD : va_D A [(h0, .inr (10, [.ref q_1, .int 0, .int 0, .ref q_3, .ref q_13, .ref q_25, .ref q_27, .null, .null])), (q_1, .inl (cA_2, 3000, .inl (fun _ => 0))), (q_3, .inr (5, [.ref q_4, .ref q_6, .ref q_8, .int 11, .int 0])), (q_4, .inl (cA_5, 52, .inr (.inl f_10))), (q_6, .inl (cA_7, 52, .inl f_11)), (q_8, .inl (cA_9, 52, .inl (fun _ => 0))), (q_13, .inr (0, [.ref q_14, .ref q_16, .ref q_18, .ref q_20, .ref q_22, .int 0])), (q_14, .inl (cA_15, 16, .inl (fun _ => 0))), (q_18, .inl (cA_19, 100, .inl (fun _ => 0))), (q_20, .inl (cA_21, 100, .inl (fun _ => 0))), (q_22, .inl (cA_23, 100, .inl (fun _ => 0))), (q_16, .inl (cA_17, 16, .inl f_24)), (q_25, .inl (cA_26, 4, .inr (.inr (.inr (.inr (fun _ => none)))))), (q_27, .inr (7, [.ref q_28, .int 0, .ref q_29, .ref q_34, .ref q_35, .ref q_36, .ref q_37, .int 0])), (q_29, .inr (8, [.ref q_30, .ref q_32, .ref q_33, .int 0])), (q_30, .inl (cA_31, 32, .inl (fun _ => 0))), (q_38, .inr (6, [.null, .null, .null, .null, .null, .int 0, .int 0, .int 0, .int 0, .int 0, .int 0]))] := hD
  refine W.widen (k := 23) (n := 4806) (Nat.le_of_ble_eq_true rfl) (Nat.le_of_ble_eq_true rfl) ?_
  refine lv_dup hx hb dX11_init_68 rfl ?_
  refine lv_aload_n hx hb dX11_init_69 rfl (lv_at hl 0 rfl) ?_
  refine va_get (D := (dC, dI)) (ci := 10) (v := .ref q_1) (C := RX11) (T := TX11) (N := 9) hx hb hts in_X11_init_RX11 hown hK hP 0 rfl rfl 0 (by decide) (hts (.fieldLink RX11 9 "FourTongues" "tape" "[B") (by decide +kernel)) (fun _ h9 => h9) rfl dX11_init_70 ?_
  refine lv_aload_n hx hb dX11_init_73 rfl (lv_at hl 0 rfl) ?_
  refine va_get (D := (dC, dI)) (ci := 10) (v := .ref q_3) (C := RX11) (T := TX11) (N := 9) hx hb hts in_X11_init_RX11 hown hK hP 0 rfl rfl 3 (by decide) (hts (.fieldLink RX11 23 "FourTongues" "names" "LFourTongues$Names;") (by decide +kernel)) (fun _ h9 => h9) rfl dX11_init_74 ?_
  refine lv_aload_n hx hb dX11_init_77 rfl (lv_at hl 0 rfl) ?_
  refine va_get (D := (dC, dI)) (ci := 10) (v := .ref q_27) (C := RX11) (T := TX11) (N := 9) hx hb hts in_X11_init_RX11 hown hK hP 0 rfl rfl 6 (by decide) (hts (.fieldLink RX11 41 "FourTongues" "draft" "LFourTongues$Program;") (by decide +kernel)) (fun _ h9 => h9) rfl dX11_init_78 ?_
  have hPc := hP.sub (ws' := [(q_38, .inr (6, [.null, .null, .null, .null, .null, .int 0, .int 0, .int 0, .int 0, .int 0, .int 0]))]) [16] rfl
  have hDc := hD.sub (ws' := [(q_38, .inr (6, [.null, .null, .null, .null, .null, .int 0, .int 0, .int 0, .int 0, .int 0, .int 0]))]) [16] (by decide) rfl
  have hKc := hK.sub (tys' := []) [] rfl
  have hFc := va_free (wc := [(q_38, .inr (6, [.null, .null, .null, .null, .null, .int 0, .int 0, .int 0, .int 0, .int 0, .int 0]))]) hD hS hA [16] rfl
  refine va_callv (va_runI (As := [.ref q_1, .ref q_3, .ref q_27]) (rest := [.ref q_38, .ref h0]) ⟨hx, hb, hml, hown, hts⟩ (c_X7_init l dC dI H.size q_38 q_1 q_3 q_27 bK bV ) (cwI 3 hts gX11_init_X7_init rfl rfl rfl (hts (.initialized RX7) (by decide +kernel)) (hts (.methodLink RX11 47 yX7_init) (by decide +kernel)) (hts (.instanceMethod yX7_init) (by decide +kernel)) rfl (by decide +kernel) ⟨Nat.le_of_ble_eq_true rfl, Nat.le_of_ble_eq_true rfl⟩) ⟨(fb_ME eS.fb), fun U hU hW => ⟨rfl, ⟨xM.at hPc hKc hDc hU hW, hE2.at hS hFc hU hW⟩⟩⟩ rfl rfl hl.1 rfl (lv_room (Nat.le_of_ble_eq_true rfl)) dX11_init_81 ⟨Nat.le_of_ble_eq_true rfl, Nat.le_of_ble_eq_true rfl⟩) hS (fun q _ h => hFc q h) hFc (fun u t H locs ht hvm hw hB hz1 hk1 hS => ?_)
  obtain ⟨q_39, cA_40, q_41, q_42, q_43, q_44, cA_45, q_46, cA_47, q_48, cA_49, q_50, cA_51, hB⟩ := hB
  obtain ⟨hP, hD, hK⟩ := xB.join (wr := [(h0, .inr (10, [.ref q_1, .int 0, .int 0, .ref q_3, .ref q_13, .ref q_25, .ref q_27, .null, .null])), (q_1, .inl (cA_2, 3000, .inl (fun _ => 0))), (q_3, .inr (5, [.ref q_4, .ref q_6, .ref q_8, .int 11, .int 0])), (q_4, .inl (cA_5, 52, .inr (.inl f_10))), (q_6, .inl (cA_7, 52, .inl f_11)), (q_8, .inl (cA_9, 52, .inl (fun _ => 0))), (q_13, .inr (0, [.ref q_14, .ref q_16, .ref q_18, .ref q_20, .ref q_22, .int 0])), (q_14, .inl (cA_15, 16, .inl (fun _ => 0))), (q_18, .inl (cA_19, 100, .inl (fun _ => 0))), (q_20, .inl (cA_21, 100, .inl (fun _ => 0))), (q_22, .inl (cA_23, 100, .inl (fun _ => 0))), (q_16, .inl (cA_17, 16, .inl f_24)), (q_25, .inl (cA_26, 4, .inr (.inr (.inr (.inr (fun _ => none)))))), (q_27, .inr (7, [.ref q_28, .int 0, .ref q_29, .ref q_34, .ref q_35, .ref q_36, .ref q_37, .int 0])), (q_29, .inr (8, [.ref q_30, .ref q_32, .ref q_33, .int 0])), (q_30, .inl (cA_31, 32, .inl (fun _ => 0)))]) (w1 := [(q_38, .inr (6, [.ref q_42, .ref q_3, .ref q_27, .ref q_39, .ref q_41, .int 0, .int 0, .int 0, .int 0, .int 0, .int 0])), (q_39, .inl (cA_40, 4, .inl (fun _ => 0))), (q_42, .inr (9, [.ref q_1, .ref q_43, .ref q_44, .ref q_46, .ref q_48, .ref q_50, .int 0, .int 0, .int 0, .int 0, .int 0, .int 0, .int 0, .int 0, .long 0, .double FP.dconst0])), (q_44, .inl (cA_45, 3001, .inl (fun _ => 0))), (q_46, .inl (cA_47, 3001, .inl (fun _ => 0))), (q_48, .inl (cA_49, 3001, .inr (.inl (fun _ => 0)))), (q_50, .inl (cA_51, 3001, .inr (.inr (.inr (.inl (fun _ => 0))))))]) hP hD hK [16] [0, 1, 2, 3, 4, 5, 6, 7, 8, 9, 10, 11, 12, 13, 14, 15] rfl rfl (by decide) (by decide) hk1 hFc hB ht hvm
  have hP : va_P (dC, dI) vwCl [(h0, .inr (10, [.ref q_1, .int 0, .int 0, .ref q_3, .ref q_13, .ref q_25, .ref q_27, .null, .null])), (q_1, .inl (cA_2, 3000, .inl (fun _ => 0))), (q_3, .inr (5, [.ref q_4, .ref q_6, .ref q_8, .int 11, .int 0])), (q_4, .inl (cA_5, 52, .inr (.inl f_10))), (q_6, .inl (cA_7, 52, .inl f_11)), (q_8, .inl (cA_9, 52, .inl (fun _ => 0))), (q_13, .inr (0, [.ref q_14, .ref q_16, .ref q_18, .ref q_20, .ref q_22, .int 0])), (q_14, .inl (cA_15, 16, .inl (fun _ => 0))), (q_18, .inl (cA_19, 100, .inl (fun _ => 0))), (q_20, .inl (cA_21, 100, .inl (fun _ => 0))), (q_22, .inl (cA_23, 100, .inl (fun _ => 0))), (q_16, .inl (cA_17, 16, .inl f_24)), (q_25, .inl (cA_26, 4, .inr (.inr (.inr (.inr (fun _ => none)))))), (q_27, .inr (7, [.ref q_28, .int 0, .ref q_29, .ref q_34, .ref q_35, .ref q_36, .ref q_37, .int 0])), (q_29, .inr (8, [.ref q_30, .ref q_32, .ref q_33, .int 0])), (q_30, .inl (cA_31, 32, .inl (fun _ => 0))), (q_38, .inr (6, [.ref q_42, .ref q_3, .ref q_27, .ref q_39, .ref q_41, .int 0, .int 0, .int 0, .int 0, .int 0, .int 0])), (q_39, .inl (cA_40, 4, .inl (fun _ => 0))), (q_42, .inr (9, [.ref q_1, .ref q_43, .ref q_44, .ref q_46, .ref q_48, .ref q_50, .int 0, .int 0, .int 0, .int 0, .int 0, .int 0, .int 0, .int 0, .long 0, .double FP.dconst0])), (q_44, .inl (cA_45, 3001, .inl (fun _ => 0))), (q_46, .inl (cA_47, 3001, .inl (fun _ => 0))), (q_48, .inl (cA_49, 3001, .inr (.inl (fun _ => 0)))), (q_50, .inl (cA_51, 3001, .inr (.inr (.inr (.inl (fun _ => 0))))))] _ := hP
  have hD : va_D A [(h0, .inr (10, [.ref q_1, .int 0, .int 0, .ref q_3, .ref q_13, .ref q_25, .ref q_27, .null, .null])), (q_1, .inl (cA_2, 3000, .inl (fun _ => 0))), (q_3, .inr (5, [.ref q_4, .ref q_6, .ref q_8, .int 11, .int 0])), (q_4, .inl (cA_5, 52, .inr (.inl f_10))), (q_6, .inl (cA_7, 52, .inl f_11)), (q_8, .inl (cA_9, 52, .inl (fun _ => 0))), (q_13, .inr (0, [.ref q_14, .ref q_16, .ref q_18, .ref q_20, .ref q_22, .int 0])), (q_14, .inl (cA_15, 16, .inl (fun _ => 0))), (q_18, .inl (cA_19, 100, .inl (fun _ => 0))), (q_20, .inl (cA_21, 100, .inl (fun _ => 0))), (q_22, .inl (cA_23, 100, .inl (fun _ => 0))), (q_16, .inl (cA_17, 16, .inl f_24)), (q_25, .inl (cA_26, 4, .inr (.inr (.inr (.inr (fun _ => none)))))), (q_27, .inr (7, [.ref q_28, .int 0, .ref q_29, .ref q_34, .ref q_35, .ref q_36, .ref q_37, .int 0])), (q_29, .inr (8, [.ref q_30, .ref q_32, .ref q_33, .int 0])), (q_30, .inl (cA_31, 32, .inl (fun _ => 0))), (q_38, .inr (6, [.ref q_42, .ref q_3, .ref q_27, .ref q_39, .ref q_41, .int 0, .int 0, .int 0, .int 0, .int 0, .int 0])), (q_39, .inl (cA_40, 4, .inl (fun _ => 0))), (q_42, .inr (9, [.ref q_1, .ref q_43, .ref q_44, .ref q_46, .ref q_48, .ref q_50, .int 0, .int 0, .int 0, .int 0, .int 0, .int 0, .int 0, .int 0, .long 0, .double FP.dconst0])), (q_44, .inl (cA_45, 3001, .inl (fun _ => 0))), (q_46, .inl (cA_47, 3001, .inl (fun _ => 0))), (q_48, .inl (cA_49, 3001, .inr (.inl (fun _ => 0)))), (q_50, .inl (cA_51, 3001, .inr (.inr (.inr (.inl (fun _ => 0))))))] := hD
  have hK : va_K (dC, dI) vwCl [(cA_2, .byte), (cA_5, .long), (cA_7, .int), (cA_9, .int), (cA_15, .int), (cA_17, .int), (cA_19, .int), (cA_21, .int), (cA_23, .int), (cA_17, .int), (cA_26, .object RX8), (cA_31, .int), (cA_40, .int), (cA_45, .int), (cA_47, .int), (cA_49, .long), (cA_51, .double)] s := hK
  refine W.widen (k := 31) (n := 17863) (Nat.le_of_ble_eq_true rfl) (Nat.le_of_ble_eq_true rfl) ?_
  refine va_putF (D := (dC, dI)) (ci := 10) (v := .ref q_38) (ty := .object "FourTongues$Parser") (C := RX11) (T := TX11) (N := 9) hx hb hts in_X11_init_RX11 tyX11 tyX11_ok nmX11 hown hK hP hD hS 0 rfl rfl 7 (by decide) (hts (.fieldLink RX11 50 "FourTongues" "parser" "LFourTongues$Parser;") (by decide +kernel)) (fun _ h9 => h9) rfl hin rfl (by decide +kernel) rfl rfl (Nat.le_of_ble_eq_true rfl) dX11_init_84 (fun H locs hP hD hS => ?_)
  have hP : va_P (dC, dI) vwCl [(h0, .inr (10, [.ref q_1, .int 0, .int 0, .ref q_3, .ref q_13, .ref q_25, .ref q_27, .ref q_38, .null])), (q_1, .inl (cA_2, 3000, .inl (fun _ => 0))), (q_3, .inr (5, [.ref q_4, .ref q_6, .ref q_8, .int 11, .int 0])), (q_4, .inl (cA_5, 52, .inr (.inl f_10))), (q_6, .inl (cA_7, 52, .inl f_11)), (q_8, .inl (cA_9, 52, .inl (fun _ => 0))), (q_13, .inr (0, [.ref q_14, .ref q_16, .ref q_18, .ref q_20, .ref q_22, .int 0])), (q_14, .inl (cA_15, 16, .inl (fun _ => 0))), (q_18, .inl (cA_19, 100, .inl (fun _ => 0))), (q_20, .inl (cA_21, 100, .inl (fun _ => 0))), (q_22, .inl (cA_23, 100, .inl (fun _ => 0))), (q_16, .inl (cA_17, 16, .inl f_24)), (q_25, .inl (cA_26, 4, .inr (.inr (.inr (.inr (fun _ => none)))))), (q_27, .inr (7, [.ref q_28, .int 0, .ref q_29, .ref q_34, .ref q_35, .ref q_36, .ref q_37, .int 0])), (q_29, .inr (8, [.ref q_30, .ref q_32, .ref q_33, .int 0])), (q_30, .inl (cA_31, 32, .inl (fun _ => 0))), (q_38, .inr (6, [.ref q_42, .ref q_3, .ref q_27, .ref q_39, .ref q_41, .int 0, .int 0, .int 0, .int 0, .int 0, .int 0])), (q_39, .inl (cA_40, 4, .inl (fun _ => 0))), (q_42, .inr (9, [.ref q_1, .ref q_43, .ref q_44, .ref q_46, .ref q_48, .ref q_50, .int 0, .int 0, .int 0, .int 0, .int 0, .int 0, .int 0, .int 0, .long 0, .double FP.dconst0])), (q_44, .inl (cA_45, 3001, .inl (fun _ => 0))), (q_46, .inl (cA_47, 3001, .inl (fun _ => 0))), (q_48, .inl (cA_49, 3001, .inr (.inl (fun _ => 0)))), (q_50, .inl (cA_51, 3001, .inr (.inr (.inr (.inl (fun _ => 0))))))] _ := hP
  have hD : va_D A [(h0, .inr (10, [.ref q_1, .int 0, .int 0, .ref q_3, .ref q_13, .ref q_25, .ref q_27, .ref q_38, .null])), (q_1, .inl (cA_2, 3000, .inl (fun _ => 0))), (q_3, .inr (5, [.ref q_4, .ref q_6, .ref q_8, .int 11, .int 0])), (q_4, .inl (cA_5, 52, .inr (.inl f_10))), (q_6, .inl (cA_7, 52, .inl f_11)), (q_8, .inl (cA_9, 52, .inl (fun _ => 0))), (q_13, .inr (0, [.ref q_14, .ref q_16, .ref q_18, .ref q_20, .ref q_22, .int 0])), (q_14, .inl (cA_15, 16, .inl (fun _ => 0))), (q_18, .inl (cA_19, 100, .inl (fun _ => 0))), (q_20, .inl (cA_21, 100, .inl (fun _ => 0))), (q_22, .inl (cA_23, 100, .inl (fun _ => 0))), (q_16, .inl (cA_17, 16, .inl f_24)), (q_25, .inl (cA_26, 4, .inr (.inr (.inr (.inr (fun _ => none)))))), (q_27, .inr (7, [.ref q_28, .int 0, .ref q_29, .ref q_34, .ref q_35, .ref q_36, .ref q_37, .int 0])), (q_29, .inr (8, [.ref q_30, .ref q_32, .ref q_33, .int 0])), (q_30, .inl (cA_31, 32, .inl (fun _ => 0))), (q_38, .inr (6, [.ref q_42, .ref q_3, .ref q_27, .ref q_39, .ref q_41, .int 0, .int 0, .int 0, .int 0, .int 0, .int 0])), (q_39, .inl (cA_40, 4, .inl (fun _ => 0))), (q_42, .inr (9, [.ref q_1, .ref q_43, .ref q_44, .ref q_46, .ref q_48, .ref q_50, .int 0, .int 0, .int 0, .int 0, .int 0, .int 0, .int 0, .int 0, .long 0, .double FP.dconst0])), (q_44, .inl (cA_45, 3001, .inl (fun _ => 0))), (q_46, .inl (cA_47, 3001, .inl (fun _ => 0))), (q_48, .inl (cA_49, 3001, .inr (.inl (fun _ => 0)))), (q_50, .inl (cA_51, 3001, .inr (.inr (.inr (.inl (fun _ => 0))))))] := hD
  refine lv_aload_n hx hb dX11_init_87 rfl (lv_at hl 0 rfl) ?_
  refine va_new (ci := 4) (fs := [.null, .null, .null, .null, .null, .null, .null, .null, .null, .null, .null, .int 0, .int 0, .int 0, .int 0, .int 0, .long 0]) (C := RX4) (T := TX4) (N := 17) hx hb hts in_X11_init_RX4 tyX4 tyX4_ok hown (hts (.classLink RX11 54 RX4) (by decide +kernel)) (hts (.instantiable RX4 17) (by decide +kernel)) (hts (.initialized RX4) (by decide +kernel)) hK hP hD hS hA rfl df_X4 (Nat.le_of_ble_eq_true rfl) (Nat.le_of_ble_eq_true rfl) dX11_init_88 (fun q_52 H hP hD hS => ?_)
  have hP : va_P (dC, dI) vwCl [(h0, .inr (10, [.ref q_1, .int 0, .int 0, .ref q_3, .ref q_13, .ref q_25, .ref q_27, .ref q_38, .null])), (q_1, .inl (cA_2, 3000, .inl (fun _ => 0))), (q_3, .inr (5, [.ref q_4, .ref q_6, .ref q_8, .int 11, .int 0])), (q_4, .inl (cA_5, 52, .inr (.inl f_10))), (q_6, .inl (cA_7, 52, .inl f_11)), (q_8, .inl (cA_9, 52, .inl (fun _ => 0))), (q_13, .inr (0, [.ref q_14, .ref q_16, .ref q_18, .ref q_20, .ref q_22, .int 0])), (q_14, .inl (cA_15, 16, .inl (fun _ => 0))), (q_18, .inl (cA_19, 100, .inl (fun _ => 0))), (q_20, .inl (cA_21, 100, .inl (fun _ => 0))), (q_22, .inl (cA_23, 100, .inl (fun _ => 0))), (q_16, .inl (cA_17, 16, .inl f_24)), (q_25, .inl (cA_26, 4, .inr (.inr (.inr (.inr (fun _ => none)))))), (q_27, .inr (7, [.ref q_28, .int 0, .ref q_29, .ref q_34, .ref q_35, .ref q_36, .ref q_37, .int 0])), (q_29, .inr (8, [.ref q_30, .ref q_32, .ref q_33, .int 0])), (q_30, .inl (cA_31, 32, .inl (fun _ => 0))), (q_38, .inr (6, [.ref q_42, .ref q_3, .ref q_27, .ref q_39, .ref q_41, .int 0, .int 0, .int 0, .int 0, .int 0, .int 0])), (q_39, .inl (cA_40, 4, .inl (fun _ => 0))), (q_42, .inr (9, [.ref q_1, .ref q_43, .ref q_44, .ref q_46, .ref q_48, .ref q_50, .int 0, .int 0, .int 0, .int 0, .int 0, .int 0, .int 0, .int 0, .long 0, .double FP.dconst0])), (q_44, .inl (cA_45, 3001, .inl (fun _ => 0))), (q_46, .inl (cA_47, 3001, .inl (fun _ => 0))), (q_48, .inl (cA_49, 3001, .inr (.inl (fun _ => 0)))), (q_50, .inl (cA_51, 3001, .inr (.inr (.inr (.inl (fun _ => 0)))))), (q_52, .inr (4, [.null, .null, .null, .null, .null, .null, .null, .null, .null, .null, .null, .int 0, .int 0, .int 0, .int 0, .int 0, .long 0]))] _ := hP
  have hD : va_D A [(h0, .inr (10, [.ref q_1, .int 0, .int 0, .ref q_3, .ref q_13, .ref q_25, .ref q_27, .ref q_38, .null])), (q_1, .inl (cA_2, 3000, .inl (fun _ => 0))), (q_3, .inr (5, [.ref q_4, .ref q_6, .ref q_8, .int 11, .int 0])), (q_4, .inl (cA_5, 52, .inr (.inl f_10))), (q_6, .inl (cA_7, 52, .inl f_11)), (q_8, .inl (cA_9, 52, .inl (fun _ => 0))), (q_13, .inr (0, [.ref q_14, .ref q_16, .ref q_18, .ref q_20, .ref q_22, .int 0])), (q_14, .inl (cA_15, 16, .inl (fun _ => 0))), (q_18, .inl (cA_19, 100, .inl (fun _ => 0))), (q_20, .inl (cA_21, 100, .inl (fun _ => 0))), (q_22, .inl (cA_23, 100, .inl (fun _ => 0))), (q_16, .inl (cA_17, 16, .inl f_24)), (q_25, .inl (cA_26, 4, .inr (.inr (.inr (.inr (fun _ => none)))))), (q_27, .inr (7, [.ref q_28, .int 0, .ref q_29, .ref q_34, .ref q_35, .ref q_36, .ref q_37, .int 0])), (q_29, .inr (8, [.ref q_30, .ref q_32, .ref q_33, .int 0])), (q_30, .inl (cA_31, 32, .inl (fun _ => 0))), (q_38, .inr (6, [.ref q_42, .ref q_3, .ref q_27, .ref q_39, .ref q_41, .int 0, .int 0, .int 0, .int 0, .int 0, .int 0])), (q_39, .inl (cA_40, 4, .inl (fun _ => 0))), (q_42, .inr (9, [.ref q_1, .ref q_43, .ref q_44, .ref q_46, .ref q_48, .ref q_50, .int 0, .int 0, .int 0, .int 0, .int 0, .int 0, .int 0, .int 0, .long 0, .double FP.dconst0])), (q_44, .inl (cA_45, 3001, .inl (fun _ => 0))), (q_46, .inl (cA_47, 3001, .inl (fun _ => 0))), (q_48, .inl (cA_49, 3001, .inr (.inl (fun _ => 0)))), (q_50, .inl (cA_51, 3001, .inr (.inr (.inr (.inl (fun _ => 0)))))), (q_52, .inr (4, [.null, .null, .null, .null, .null, .null, .null, .null, .null, .null, .null, .int 0, .int 0, .int 0, .int 0, .int 0, .long 0]))] := hD
  refine W.widen (k := 32) (n := 17880) (Nat.le_of_ble_eq_true rfl) (Nat.le_of_ble_eq_true rfl) ?_
  refine lv_dup hx hb dX11_init_91 rfl ?_
  refine lv_aload_n hx hb dX11_init_92 rfl (lv_at hl 0 rfl) ?_
  refine va_get (D := (dC, dI)) (ci := 10) (v := .ref q_25) (C := RX11) (T := TX11) (N := 9) hx hb hts in_X11_init_RX11 hown hK hP 0 rfl rfl 5 (by decide) (hts (.fieldLink RX11 36 "FourTongues" "programs" "[LFourTongues$Program;") (by decide +kernel)) (fun _ h9 => h9) rfl dX11_init_93 ?_
  refine lv_aload_n hx hb dX11_init_96 rfl (lv_at hl 0 rfl) ?_
  refine va_get (D := (dC, dI)) (ci := 10) (v := .ref q_3) (C := RX11) (T := TX11) (N := 9) hx hb hts in_X11_init_RX11 hown hK hP 0 rfl rfl 3 (by decide) (hts (.fieldLink RX11 23 "FourTongues" "names" "LFourTongues$Names;") (by decide +kernel)) (fun _ h9 => h9) rfl dX11_init_97 ?_
  refine lv_aload_n hx hb dX11_init_100 rfl (lv_at hl 0 rfl) ?_
  refine va_get (D := (dC, dI)) (ci := 10) (v := .ref q_13) (C := RX11) (T := TX11) (N := 9) hx hb hts in_X11_init_RX11 hown hK hP 0 rfl rfl 4 (by decide) (hts (.fieldLink RX11 30 "FourTongues" "borders" "LFourTongues$Borders;") (by decide +kernel)) (fun _ h9 => h9) rfl dX11_init_101 ?_
  refine lv_aload_n hx hb dX11_init_104 rfl (lv_at hl 0 rfl) ?_
  refine va_get (D := (dC, dI)) (ci := 10) (v := .ref q_27) (C := RX11) (T := TX11) (N := 9) hx hb hts in_X11_init_RX11 hown hK hP 0 rfl rfl 6 (by decide) (hts (.fieldLink RX11 41 "FourTongues" "draft" "LFourTongues$Program;") (by decide +kernel)) (fun _ h9 => h9) rfl dX11_init_105 ?_
  have hPc := hP.sub (ws' := [(q_52, .inr (4, [.null, .null, .null, .null, .null, .null, .null, .null, .null, .null, .null, .int 0, .int 0, .int 0, .int 0, .int 0, .long 0]))]) [23] rfl
  have hDc := hD.sub (ws' := [(q_52, .inr (4, [.null, .null, .null, .null, .null, .null, .null, .null, .null, .null, .null, .int 0, .int 0, .int 0, .int 0, .int 0, .long 0]))]) [23] (by decide) rfl
  have hKc := hK.sub (tys' := []) [] rfl
  have hFc := va_free (wc := [(q_52, .inr (4, [.null, .null, .null, .null, .null, .null, .null, .null, .null, .null, .null, .int 0, .int 0, .int 0, .int 0, .int 0, .long 0]))]) hD hS hA [23] rfl
  refine va_callv (va_runI (As := [.ref q_25, .ref q_3, .ref q_13, .ref q_27]) (rest := [.ref q_52, .ref h0]) ⟨hx, hb, hml, hown, hts⟩ (c_X4_init l dC dI H.size q_52 q_25 q_3 q_13 q_27 ) (cwI 4 hts gX11_init_X4_init rfl rfl rfl (hts (.initialized RX4) (by decide +kernel)) (hts (.methodLink RX11 56 yX4_init) (by decide +kernel)) (hts (.instanceMethod yX4_init) (by decide +kernel)) rfl (by decide +kernel) ⟨Nat.le_of_ble_eq_true rfl, Nat.le_of_ble_eq_true rfl⟩) ⟨(fb_ME (fun U g mk a h => ⟨eN_fb U g mk a h.1, eN_fb U g mk a h.2.1, eN_fb U g mk a h.2.2⟩)), fun U hU hW => ⟨rfl, ⟨xM.at hPc hKc hDc hU hW, ⟨eN_at hN1 hW, eN_at hN2 hW, eN_at hN3 hW⟩⟩⟩⟩ rfl rfl hl.1 rfl (lv_room (Nat.le_of_ble_eq_true rfl)) dX11_init_108 ⟨Nat.le_of_ble_eq_true rfl, Nat.le_of_ble_eq_true rfl⟩) hS (fun q _ h => hFc q h) hFc (fun u t H locs ht hvm hw hB hz1 hk1 hS => ?_)
  obtain ⟨q_53, q_54, q_55, q_56, q_57, q_58, q_59, q_60, q_61, q_62, q_63, q_64, q_65, cA_66, hB⟩ := hB
  obtain ⟨hP, hD, hK⟩ := xB.join (wr := [(h0, .inr (10, [.ref q_1, .int 0, .int 0, .ref q_3, .ref q_13, .ref q_25, .ref q_27, .ref q_38, .null])), (q_1, .inl (cA_2, 3000, .inl (fun _ => 0))), (q_3, .inr (5, [.ref q_4, .ref q_6, .ref q_8, .int 11, .int 0])), (q_4, .inl (cA_5, 52, .inr (.inl f_10))), (q_6, .inl (cA_7, 52, .inl f_11)), (q_8, .inl (cA_9, 52, .inl (fun _ => 0))), (q_13, .inr (0, [.ref q_14, .ref q_16, .ref q_18, .ref q_20, .ref q_22, .int 0])), (q_14, .inl (cA_15, 16, .inl (fun _ => 0))), (q_18, .inl (cA_19, 100, .inl (fun _ => 0))), (q_20, .inl (cA_21, 100, .inl (fun _ => 0))), (q_22, .inl (cA_23, 100, .inl (fun _ => 0))), (q_16, .inl (cA_17, 16, .inl f_24)), (q_25, .inl (cA_26, 4, .inr (.inr (.inr (.inr (fun _ => none)))))), (q_27, .inr (7, [.ref q_28, .int 0, .ref q_29, .ref q_34, .ref q_35, .ref q_36, .ref q_37, .int 0])), (q_29, .inr (8, [.ref q_30, .ref q_32, .ref q_33, .int 0])), (q_30, .inl (cA_31, 32, .inl (fun _ => 0))), (q_38, .inr (6, [.ref q_42, .ref q_3, .ref q_27, .ref q_39, .ref q_41, .int 0, .int 0, .int 0, .int 0, .int 0, .int 0])), (q_39, .inl (cA_40, 4, .inl (fun _ => 0))), (q_42, .inr (9, [.ref q_1, .ref q_43, .ref q_44, .ref q_46, .ref q_48, .ref q_50, .int 0, .int 0, .int 0, .int 0, .int 0, .int 0, .int 0, .int 0, .long 0, .double FP.dconst0])), (q_44, .inl (cA_45, 3001, .inl (fun _ => 0))), (q_46, .inl (cA_47, 3001, .inl (fun _ => 0))), (q_48, .inl (cA_49, 3001, .inr (.inl (fun _ => 0)))), (q_50, .inl (cA_51, 3001, .inr (.inr (.inr (.inl (fun _ => 0))))))]) (w1 := [(q_52, .inr (4, [.ref q_25, .ref q_3, .ref q_13, .ref q_53, .ref q_54, .ref q_55, .ref q_59, .ref q_63, .ref q_64, .ref q_65, .ref q_27, .int 0, .int 0, .int 4, .int (-1), .int (-1), .long 0])), (q_55, .inr (8, [.ref q_56, .ref q_57, .ref q_58, .int 0])), (q_59, .inr (1, [.ref q_60, .int 0, .ref q_61, .ref q_62, .int 0])), (q_65, .inl (cA_66, 10, .inl (fun _ => 0)))]) hP hD hK [23] [0, 1, 2, 3, 4, 5, 6, 7, 8, 9, 10, 11, 12, 13, 14, 15, 16, 17, 18, 19, 20, 21, 22] rfl rfl (by decide) (by decide) hk1 hFc hB ht hvm
  have hP : va_P (dC, dI) vwCl [(h0, .inr (10, [.ref q_1, .int 0, .int 0, .ref q_3, .ref q_13, .ref q_25, .ref q_27, .ref q_38, .null])), (q_1, .inl (cA_2, 3000, .inl (fun _ => 0))), (q_3, .inr (5, [.ref q_4, .ref q_6, .ref q_8, .int 11, .int 0])), (q_4, .inl (cA_5, 52, .inr (.inl f_10))), (q_6, .inl (cA_7, 52, .inl f_11)), (q_8, .inl (cA_9, 52, .inl (fun _ => 0))), (q_13, .inr (0, [.ref q_14, .ref q_16, .ref q_18, .ref q_20, .ref q_22, .int 0])), (q_14, .inl (cA_15, 16, .inl (fun _ => 0))), (q_18, .inl (cA_19, 100, .inl (fun _ => 0))), (q_20, .inl (cA_21, 100, .inl (fun _ => 0))), (q_22, .inl (cA_23, 100, .inl (fun _ => 0))), (q_16, .inl (cA_17, 16, .inl f_24)), (q_25, .inl (cA_26, 4, .inr (.inr (.inr (.inr (fun _ => none)))))), (q_27, .inr (7, [.ref q_28, .int 0, .ref q_29, .ref q_34, .ref q_35, .ref q_36, .ref q_37, .int 0])), (q_29, .inr (8, [.ref q_30, .ref q_32, .ref q_33, .int 0])), (q_30, .inl (cA_31, 32, .inl (fun _ => 0))), (q_38, .inr (6, [.ref q_42, .ref q_3, .ref q_27, .ref q_39, .ref q_41, .int 0, .int 0, .int 0, .int 0, .int 0, .int 0])), (q_39, .inl (cA_40, 4, .inl (fun _ => 0))), (q_42, .inr (9, [.ref q_1, .ref q_43, .ref q_44, .ref q_46, .ref q_48, .ref q_50, .int 0, .int 0, .int 0, .int 0, .int 0, .int 0, .int 0, .int 0, .long 0, .double FP.dconst0])), (q_44, .inl (cA_45, 3001, .inl (fun _ => 0))), (q_46, .inl (cA_47, 3001, .inl (fun _ => 0))), (q_48, .inl (cA_49, 3001, .inr (.inl (fun _ => 0)))), (q_50, .inl (cA_51, 3001, .inr (.inr (.inr (.inl (fun _ => 0)))))), (q_52, .inr (4, [.ref q_25, .ref q_3, .ref q_13, .ref q_53, .ref q_54, .ref q_55, .ref q_59, .ref q_63, .ref q_64, .ref q_65, .ref q_27, .int 0, .int 0, .int 4, .int (-1), .int (-1), .long 0])), (q_55, .inr (8, [.ref q_56, .ref q_57, .ref q_58, .int 0])), (q_59, .inr (1, [.ref q_60, .int 0, .ref q_61, .ref q_62, .int 0])), (q_65, .inl (cA_66, 10, .inl (fun _ => 0)))] _ := hP
  have hD : va_D A [(h0, .inr (10, [.ref q_1, .int 0, .int 0, .ref q_3, .ref q_13, .ref q_25, .ref q_27, .ref q_38, .null])), (q_1, .inl (cA_2, 3000, .inl (fun _ => 0))), (q_3, .inr (5, [.ref q_4, .ref q_6, .ref q_8, .int 11, .int 0])), (q_4, .inl (cA_5, 52, .inr (.inl f_10))), (q_6, .inl (cA_7, 52, .inl f_11)), (q_8, .inl (cA_9, 52, .inl (fun _ => 0))), (q_13, .inr (0, [.ref q_14, .ref q_16, .ref q_18, .ref q_20, .ref q_22, .int 0])), (q_14, .inl (cA_15, 16, .inl (fun _ => 0))), (q_18, .inl (cA_19, 100, .inl (fun _ => 0))), (q_20, .inl (cA_21, 100, .inl (fun _ => 0))), (q_22, .inl (cA_23, 100, .inl (fun _ => 0))), (q_16, .inl (cA_17, 16, .inl f_24)), (q_25, .inl (cA_26, 4, .inr (.inr (.inr (.inr (fun _ => none)))))), (q_27, .inr (7, [.ref q_28, .int 0, .ref q_29, .ref q_34, .ref q_35, .ref q_36, .ref q_37, .int 0])), (q_29, .inr (8, [.ref q_30, .ref q_32, .ref q_33, .int 0])), (q_30, .inl (cA_31, 32, .inl (fun _ => 0))), (q_38, .inr (6, [.ref q_42, .ref q_3, .ref q_27, .ref q_39, .ref q_41, .int 0, .int 0, .int 0, .int 0, .int 0, .int 0])), (q_39, .inl (cA_40, 4, .inl (fun _ => 0))), (q_42, .inr (9, [.ref q_1, .ref q_43, .ref q_44, .ref q_46, .ref q_48, .ref q_50, .int 0, .int 0, .int 0, .int 0, .int 0, .int 0, .int 0, .int 0, .long 0, .double FP.dconst0])), (q_44, .inl (cA_45, 3001, .inl (fun _ => 0))), (q_46, .inl (cA_47, 3001, .inl (fun _ => 0))), (q_48, .inl (cA_49, 3001, .inr (.inl (fun _ => 0)))), (q_50, .inl (cA_51, 3001, .inr (.inr (.inr (.inl (fun _ => 0)))))), (q_52, .inr (4, [.ref q_25, .ref q_3, .ref q_13, .ref q_53, .ref q_54, .ref q_55, .ref q_59, .ref q_63, .ref q_64, .ref q_65, .ref q_27, .int 0, .int 0, .int 4, .int (-1), .int (-1), .long 0])), (q_55, .inr (8, [.ref q_56, .ref q_57, .ref q_58, .int 0])), (q_59, .inr (1, [.ref q_60, .int 0, .ref q_61, .ref q_62, .int 0])), (q_65, .inl (cA_66, 10, .inl (fun _ => 0)))] := hD
  have hK : va_K (dC, dI) vwCl [(cA_2, .byte), (cA_5, .long), (cA_7, .int), (cA_9, .int), (cA_15, .int), (cA_17, .int), (cA_19, .int), (cA_21, .int), (cA_23, .int), (cA_17, .int), (cA_26, .object RX8), (cA_31, .int), (cA_40, .int), (cA_45, .int), (cA_47, .int), (cA_49, .long), (cA_51, .double), (cA_66, .int)] s := hK
  refine W.widen (k := 70) (n := 21026) (Nat.le_of_ble_eq_true rfl) (Nat.le_of_ble_eq_true rfl) ?_
  refine va_putF (D := (dC, dI)) (ci := 10) (v := .ref q_52) (ty := .object "FourTongues$Machine") (C := RX11) (T := TX11) (N := 9) hx hb hts in_X11_init_RX11 tyX11 tyX11_ok nmX11 hown hK hP hD hS 0 rfl rfl 8 (by decide) (hts (.fieldLink RX11 59 "FourTongues" "machine" "LFourTongues$Machine;") (by decide +kernel)) (fun _ h9 => h9) rfl hin rfl (by decide +kernel) rfl rfl (Nat.le_of_ble_eq_true rfl) dX11_init_111 (fun H locs hP hD hS => ?_)
  have hP : va_P (dC, dI) vwCl [(h0, .inr (10, [.ref q_1, .int 0, .int 0, .ref q_3, .ref q_13, .ref q_25, .ref q_27, .ref q_38, .ref q_52])), (q_1, .inl (cA_2, 3000, .inl (fun _ => 0))), (q_3, .inr (5, [.ref q_4, .ref q_6, .ref q_8, .int 11, .int 0])), (q_4, .inl (cA_5, 52, .inr (.inl f_10))), (q_6, .inl (cA_7, 52, .inl f_11)), (q_8, .inl (cA_9, 52, .inl (fun _ => 0))), (q_13, .inr (0, [.ref q_14, .ref q_16, .ref q_18, .ref q_20, .ref q_22, .int 0])), (q_14, .inl (cA_15, 16, .inl (fun _ => 0))), (q_18, .inl (cA_19, 100, .inl (fun _ => 0))), (q_20, .inl (cA_21, 100, .inl (fun _ => 0))), (q_22, .inl (cA_23, 100, .inl (fun _ => 0))), (q_16, .inl (cA_17, 16, .inl f_24)), (q_25, .inl (cA_26, 4, .inr (.inr (.inr (.inr (fun _ => none)))))), (q_27, .inr (7, [.ref q_28, .int 0, .ref q_29, .ref q_34, .ref q_35, .ref q_36, .ref q_37, .int 0])), (q_29, .inr (8, [.ref q_30, .ref q_32, .ref q_33, .int 0])), (q_30, .inl (cA_31, 32, .inl (fun _ => 0))), (q_38, .inr (6, [.ref q_42, .ref q_3, .ref q_27, .ref q_39, .ref q_41, .int 0, .int 0, .int 0, .int 0, .int 0, .int 0])), (q_39, .inl (cA_40, 4, .inl (fun _ => 0))), (q_42, .inr (9, [.ref q_1, .ref q_43, .ref q_44, .ref q_46, .ref q_48, .ref q_50, .int 0, .int 0, .int 0, .int 0, .int 0, .int 0, .int 0, .int 0, .long 0, .double FP.dconst0])), (q_44, .inl (cA_45, 3001, .inl (fun _ => 0))), (q_46, .inl (cA_47, 3001, .inl (fun _ => 0))), (q_48, .inl (cA_49, 3001, .inr (.inl (fun _ => 0)))), (q_50, .inl (cA_51, 3001, .inr (.inr (.inr (.inl (fun _ => 0)))))), (q_52, .inr (4, [.ref q_25, .ref q_3, .ref q_13, .ref q_53, .ref q_54, .ref q_55, .ref q_59, .ref q_63, .ref q_64, .ref q_65, .ref q_27, .int 0, .int 0, .int 4, .int (-1), .int (-1), .long 0])), (q_55, .inr (8, [.ref q_56, .ref q_57, .ref q_58, .int 0])), (q_59, .inr (1, [.ref q_60, .int 0, .ref q_61, .ref q_62, .int 0])), (q_65, .inl (cA_66, 10, .inl (fun _ => 0)))] _ := hP
  have hD : va_D A [(h0, .inr (10, [.ref q_1, .int 0, .int 0, .ref q_3, .ref q_13, .ref q_25, .ref q_27, .ref q_38, .ref q_52])), (q_1, .inl (cA_2, 3000, .inl (fun _ => 0))), (q_3, .inr (5, [.ref q_4, .ref q_6, .ref q_8, .int 11, .int 0])), (q_4, .inl (cA_5, 52, .inr (.inl f_10))), (q_6, .inl (cA_7, 52, .inl f_11)), (q_8, .inl (cA_9, 52, .inl (fun _ => 0))), (q_13, .inr (0, [.ref q_14, .ref q_16, .ref q_18, .ref q_20, .ref q_22, .int 0])), (q_14, .inl (cA_15, 16, .inl (fun _ => 0))), (q_18, .inl (cA_19, 100, .inl (fun _ => 0))), (q_20, .inl (cA_21, 100, .inl (fun _ => 0))), (q_22, .inl (cA_23, 100, .inl (fun _ => 0))), (q_16, .inl (cA_17, 16, .inl f_24)), (q_25, .inl (cA_26, 4, .inr (.inr (.inr (.inr (fun _ => none)))))), (q_27, .inr (7, [.ref q_28, .int 0, .ref q_29, .ref q_34, .ref q_35, .ref q_36, .ref q_37, .int 0])), (q_29, .inr (8, [.ref q_30, .ref q_32, .ref q_33, .int 0])), (q_30, .inl (cA_31, 32, .inl (fun _ => 0))), (q_38, .inr (6, [.ref q_42, .ref q_3, .ref q_27, .ref q_39, .ref q_41, .int 0, .int 0, .int 0, .int 0, .int 0, .int 0])), (q_39, .inl (cA_40, 4, .inl (fun _ => 0))), (q_42, .inr (9, [.ref q_1, .ref q_43, .ref q_44, .ref q_46, .ref q_48, .ref q_50, .int 0, .int 0, .int 0, .int 0, .int 0, .int 0, .int 0, .int 0, .long 0, .double FP.dconst0])), (q_44, .inl (cA_45, 3001, .inl (fun _ => 0))), (q_46, .inl (cA_47, 3001, .inl (fun _ => 0))), (q_48, .inl (cA_49, 3001, .inr (.inl (fun _ => 0)))), (q_50, .inl (cA_51, 3001, .inr (.inr (.inr (.inl (fun _ => 0)))))), (q_52, .inr (4, [.ref q_25, .ref q_3, .ref q_13, .ref q_53, .ref q_54, .ref q_55, .ref q_59, .ref q_63, .ref q_64, .ref q_65, .ref q_27, .int 0, .int 0, .int 4, .int (-1), .int (-1), .long 0])), (q_55, .inr (8, [.ref q_56, .ref q_57, .ref q_58, .int 0])), (q_59, .inr (1, [.ref q_60, .int 0, .ref q_61, .ref q_62, .int 0])), (q_65, .inl (cA_66, 10, .inl (fun _ => 0)))] := hD
  refine lv_iconst (v := 0) hx hb dX11_init_114 (by decide) ?_
  refine lv_istore_n (lv' := [(1, .int 0), (0, .ref h0)]) hx hb dX11_init_115 rfl hl (by decide) rfl (fun ls hl => ?_)
  refine lv_iload_n hx hb dX11_init_116 rfl (lv_at hl 0 rfl) ?_
  refine lv_iconst (v := 4) hx hb dX11_init_117 (by decide) ?_
  refine lv_icmp_ge (tgt := 140) hx hb dX11_init_118 (by decide) (fun c_118 => absurd c_118 (by decide)) (fun c_118 => ?_)
  refine lv_aload_n hx hb dX11_init_121 rfl (lv_at hl 1 rfl) ?_
  refine va_get (D := (dC, dI)) (ci := 10) (v := .ref q_25) (C := RX11) (T := TX11) (N := 9) hx hb hts in_X11_init_RX11 hown hK hP 0 rfl rfl 5 (by decide) (hts (.fieldLink RX11 36 "FourTongues" "programs" "[LFourTongues$Program;") (by decide +kernel)) (fun _ h9 => h9) rfl dX11_init_122 ?_
  refine lv_iload_n hx hb dX11_init_125 rfl (lv_at hl 0 rfl) ?_
  refine va_new (ci := 7) (fs := [.null, .int 0, .null, .null, .null, .null, .null, .int 0]) (C := RX8) (T := TX8) (N := 8) hx hb hts in_X11_init_RX8 tyX8 tyX8_ok hown (hts (.classLink RX11 34 RX8) (by decide +kernel)) (hts (.instantiable RX8 8) (by decide +kernel)) (hts (.initialized RX8) (by decide +kernel)) hK hP hD hS hA rfl df_X8 (Nat.le_of_ble_eq_true rfl) (Nat.le_of_ble_eq_true rfl) dX11_init_126 (fun q_67 H hP hD hS => ?_)
  have hP : va_P (dC, dI) vwCl [(h0, .inr (10, [.ref q_1, .int 0, .int 0, .ref q_3, .ref q_13, .ref q_25, .ref q_27, .ref q_38, .ref q_52])), (q_1, .inl (cA_2, 3000, .inl (fun _ => 0))), (q_3, .inr (5, [.ref q_4, .ref q_6, .ref q_8, .int 11, .int 0])), (q_4, .inl (cA_5, 52, .inr (.inl f_10))), (q_6, .inl (cA_7, 52, .inl f_11)), (q_8, .inl (cA_9, 52, .inl (fun _ => 0))), (q_13, .inr (0, [.ref q_14, .ref q_16, .ref q_18, .ref q_20, .ref q_22, .int 0])), (q_14, .inl (cA_15, 16, .inl (fun _ => 0))), (q_18, .inl (cA_19, 100, .inl (fun _ => 0))), (q_20, .inl (cA_21, 100, .inl (fun _ => 0))), (q_22, .inl (cA_23, 100, .inl (fun _ => 0))), (q_16, .inl (cA_17, 16, .inl f_24)), (q_25, .inl (cA_26, 4, .inr (.inr (.inr (.inr (fun _ => none)))))), (q_27, .inr (7, [.ref q_28, .int 0, .ref q_29, .ref q_34, .ref q_35, .ref q_36, .ref q_37, .int 0])), (q_29, .inr (8, [.ref q_30, .ref q_32, .ref q_33, .int 0])), (q_30, .inl (cA_31, 32, .inl (fun _ => 0))), (q_38, .inr (6, [.ref q_42, .ref q_3, .ref q_27, .ref q_39, .ref q_41, .int 0, .int 0, .int 0, .int 0, .int 0, .int 0])), (q_39, .inl (cA_40, 4, .inl (fun _ => 0))), (q_42, .inr (9, [.ref q_1, .ref q_43, .ref q_44, .ref q_46, .ref q_48, .ref q_50, .int 0, .int 0, .int 0, .int 0, .int 0, .int 0, .int 0, .int 0, .long 0, .double FP.dconst0])), (q_44, .inl (cA_45, 3001, .inl (fun _ => 0))), (q_46, .inl (cA_47, 3001, .inl (fun _ => 0))), (q_48, .inl (cA_49, 3001, .inr (.inl (fun _ => 0)))), (q_50, .inl (cA_51, 3001, .inr (.inr (.inr (.inl (fun _ => 0)))))), (q_52, .inr (4, [.ref q_25, .ref q_3, .ref q_13, .ref q_53, .ref q_54, .ref q_55, .ref q_59, .ref q_63, .ref q_64, .ref q_65, .ref q_27, .int 0, .int 0, .int 4, .int (-1), .int (-1), .long 0])), (q_55, .inr (8, [.ref q_56, .ref q_57, .ref q_58, .int 0])), (q_59, .inr (1, [.ref q_60, .int 0, .ref q_61, .ref q_62, .int 0])), (q_65, .inl (cA_66, 10, .inl (fun _ => 0))), (q_67, .inr (7, [.null, .int 0, .null, .null, .null, .null, .null, .int 0]))] _ := hP
  have hD : va_D A [(h0, .inr (10, [.ref q_1, .int 0, .int 0, .ref q_3, .ref q_13, .ref q_25, .ref q_27, .ref q_38, .ref q_52])), (q_1, .inl (cA_2, 3000, .inl (fun _ => 0))), (q_3, .inr (5, [.ref q_4, .ref q_6, .ref q_8, .int 11, .int 0])), (q_4, .inl (cA_5, 52, .inr (.inl f_10))), (q_6, .inl (cA_7, 52, .inl f_11)), (q_8, .inl (cA_9, 52, .inl (fun _ => 0))), (q_13, .inr (0, [.ref q_14, .ref q_16, .ref q_18, .ref q_20, .ref q_22, .int 0])), (q_14, .inl (cA_15, 16, .inl (fun _ => 0))), (q_18, .inl (cA_19, 100, .inl (fun _ => 0))), (q_20, .inl (cA_21, 100, .inl (fun _ => 0))), (q_22, .inl (cA_23, 100, .inl (fun _ => 0))), (q_16, .inl (cA_17, 16, .inl f_24)), (q_25, .inl (cA_26, 4, .inr (.inr (.inr (.inr (fun _ => none)))))), (q_27, .inr (7, [.ref q_28, .int 0, .ref q_29, .ref q_34, .ref q_35, .ref q_36, .ref q_37, .int 0])), (q_29, .inr (8, [.ref q_30, .ref q_32, .ref q_33, .int 0])), (q_30, .inl (cA_31, 32, .inl (fun _ => 0))), (q_38, .inr (6, [.ref q_42, .ref q_3, .ref q_27, .ref q_39, .ref q_41, .int 0, .int 0, .int 0, .int 0, .int 0, .int 0])), (q_39, .inl (cA_40, 4, .inl (fun _ => 0))), (q_42, .inr (9, [.ref q_1, .ref q_43, .ref q_44, .ref q_46, .ref q_48, .ref q_50, .int 0, .int 0, .int 0, .int 0, .int 0, .int 0, .int 0, .int 0, .long 0, .double FP.dconst0])), (q_44, .inl (cA_45, 3001, .inl (fun _ => 0))), (q_46, .inl (cA_47, 3001, .inl (fun _ => 0))), (q_48, .inl (cA_49, 3001, .inr (.inl (fun _ => 0)))), (q_50, .inl (cA_51, 3001, .inr (.inr (.inr (.inl (fun _ => 0)))))), (q_52, .inr (4, [.ref q_25, .ref q_3, .ref q_13, .ref q_53, .ref q_54, .ref q_55, .ref q_59, .ref q_63, .ref q_64, .ref q_65, .ref q_27, .int 0, .int 0, .int 4, .int (-1), .int (-1), .long 0])), (q_55, .inr (8, [.ref q_56, .ref q_57, .ref q_58, .int 0])), (q_59, .inr (1, [.ref q_60, .int 0, .ref q_61, .ref q_62, .int 0])), (q_65, .inl (cA_66, 10, .inl (fun _ => 0))), (q_67, .inr (7, [.null, .int 0, .null, .null, .null, .null, .null, .int 0]))] := hD
  refine W.widen (k := 71) (n := 21034) (Nat.le_of_ble_eq_true rfl) (Nat.le_of_ble_eq_true rfl) ?_
  refine lv_dup hx hb dX11_init_129 rfl ?_
  have hPc := hP.sub (ws' := [(q_67, .inr (7, [.null, .int 0, .null, .null, .null, .null, .null, .int 0]))]) [27] rfl
  have hDc := hD.sub (ws' := [(q_67, .inr (7, [.null, .int 0, .null, .null, .null, .null, .null, .int 0]))]) [27] (by decide) rfl
  have hKc := hK.sub (tys' := []) [] rfl
  have hFc := va_free (wc := [(q_67, .inr (7, [.null, .int 0, .null, .null, .null, .null, .null, .int 0]))]) hD hS hA [27] rfl
  refine va_callv (va_runIN (As := []) (rest := [.ref q_67, .int 0, .ref q_25]) ⟨hx, hb, hml, hown, hts⟩ (c_X8_init l dC dI H.size q_67 ) ⟨va_cnB 0 hts gX11_init_X8_init_n40 rfl rfl rfl hN4 (hts (.initialized RX8) (by decide +kernel)) (by decide +kernel) ⟨Nat.le_of_ble_eq_true rfl, Nat.le_of_ble_eq_true rfl⟩, rfl, (hts (.instanceMethod yX8_init) (by decide +kernel))⟩ ⟨fb_M, fun U hU hW => ⟨rfl, xM.at hPc hKc hDc hU hW⟩⟩ rfl rfl hl.1 rfl (lv_room (Nat.le_of_ble_eq_true rfl)) dX11_init_130 ⟨Nat.le_of_ble_eq_true rfl, Nat.le_of_ble_eq_true rfl⟩) hS (fun q _ h => hFc q h) hFc (fun u t H locs ht hvm hw hB hz1 hk1 hS => ?_)
  obtain ⟨q_68, q_69, q_70, cA_71, q_72, q_73, q_74, q_75, q_76, q_77, hB⟩ := hB
  obtain ⟨hP, hD, hK⟩ := xB.join (wr := [(h0, .inr (10, [.ref q_1, .int 0, .int 0, .ref q_3, .ref q_13, .ref q_25, .ref q_27, .ref q_38, .ref q_52])), (q_1, .inl (cA_2, 3000, .inl (fun _ => 0))), (q_3, .inr (5, [.ref q_4, .ref q_6, .ref q_8, .int 11, .int 0])), (q_4, .inl (cA_5, 52, .inr (.inl f_10))), (q_6, .inl (cA_7, 52, .inl f_11)), (q_8, .inl (cA_9, 52, .inl (fun _ => 0))), (q_13, .inr (0, [.ref q_14, .ref q_16, .ref q_18, .ref q_20, .ref q_22, .int 0])), (q_14, .inl (cA_15, 16, .inl (fun _ => 0))), (q_18, .inl (cA_19, 100, .inl (fun _ => 0))), (q_20, .inl (cA_21, 100, .inl (fun _ => 0))), (q_22, .inl (cA_23, 100, .inl (fun _ => 0))), (q_16, .inl (cA_17, 16, .inl f_24)), (q_25, .inl (cA_26, 4, .inr (.inr (.inr (.inr (fun _ => none)))))), (q_27, .inr (7, [.ref q_28, .int 0, .ref q_29, .ref q_34, .ref q_35, .ref q_36, .ref q_37, .int 0])), (q_29, .inr (8, [.ref q_30, .ref q_32, .ref q_33, .int 0])), (q_30, .inl (cA_31, 32, .inl (fun _ => 0))), (q_38, .inr (6, [.ref q_42, .ref q_3, .ref q_27, .ref q_39, .ref q_41, .int 0, .int 0, .int 0, .int 0, .int 0, .int 0])), (q_39, .inl (cA_40, 4, .inl (fun _ => 0))), (q_42, .inr (9, [.ref q_1, .ref q_43, .ref q_44, .ref q_46, .ref q_48, .ref q_50, .int 0, .int 0, .int 0, .int 0, .int 0, .int 0, .int 0, .int 0, .long 0, .double FP.dconst0])), (q_44, .inl (cA_45, 3001, .inl (fun _ => 0))), (q_46, .inl (cA_47, 3001, .inl (fun _ => 0))), (q_48, .inl (cA_49, 3001, .inr (.inl (fun _ => 0)))), (q_50, .inl (cA_51, 3001, .inr (.inr (.inr (.inl (fun _ => 0)))))), (q_52, .inr (4, [.ref q_25, .ref q_3, .ref q_13, .ref q_53, .ref q_54, .ref q_55, .ref q_59, .ref q_63, .ref q_64, .ref q_65, .ref q_27, .int 0, .int 0, .int 4, .int (-1), .int (-1), .long 0])), (q_55, .inr (8, [.ref q_56, .ref q_57, .ref q_58, .int 0])), (q_59, .inr (1, [.ref q_60, .int 0, .ref q_61, .ref q_62, .int 0])), (q_65, .inl (cA_66, 10, .inl (fun _ => 0)))]) (w1 := [(q_67, .inr (7, [.ref q_68, .int 0, .ref q_69, .ref q_74, .ref q_75, .ref q_76, .ref q_77, .int 0])), (q_69, .inr (8, [.ref q_70, .ref q_72, .ref q_73, .int 0])), (q_70, .inl (cA_71, 32, .inl (fun _ => 0)))]) hP hD hK [27] [0, 1, 2, 3, 4, 5, 6, 7, 8, 9, 10, 11, 12, 13, 14, 15, 16, 17, 18, 19, 20, 21, 22, 23, 24, 25, 26] rfl rfl (by decide) (by decide) hk1 hFc hB ht hvm
  have hP : va_P (dC, dI) vwCl [(h0, .inr (10, [.ref q_1, .int 0, .int 0, .ref q_3, .ref q_13, .ref q_25, .ref q_27, .ref q_38, .ref q_52])), (q_1, .inl (cA_2, 3000, .inl (fun _ => 0))), (q_3, .inr (5, [.ref q_4, .ref q_6, .ref q_8, .int 11, .int 0])), (q_4, .inl (cA_5, 52, .inr (.inl f_10))), (q_6, .inl (cA_7, 52, .inl f_11)), (q_8, .inl (cA_9, 52, .inl (fun _ => 0))), (q_13, .inr (0, [.ref q_14, .ref q_16, .ref q_18, .ref q_20, .ref q_22, .int 0])), (q_14, .inl (cA_15, 16, .inl (fun _ => 0))), (q_18, .inl (cA_19, 100, .inl (fun _ => 0))), (q_20, .inl (cA_21, 100, .inl (fun _ => 0))), (q_22, .inl (cA_23, 100, .inl (fun _ => 0))), (q_16, .inl (cA_17, 16, .inl f_24)), (q_25, .inl (cA_26, 4, .inr (.inr (.inr (.inr (fun _ => none)))))), (q_27, .inr (7, [.ref q_28, .int 0, .ref q_29, .ref q_34, .ref q_35, .ref q_36, .ref q_37, .int 0])), (q_29, .inr (8, [.ref q_30, .ref q_32, .ref q_33, .int 0])), (q_30, .inl (cA_31, 32, .inl (fun _ => 0))), (q_38, .inr (6, [.ref q_42, .ref q_3, .ref q_27, .ref q_39, .ref q_41, .int 0, .int 0, .int 0, .int 0, .int 0, .int 0])), (q_39, .inl (cA_40, 4, .inl (fun _ => 0))), (q_42, .inr (9, [.ref q_1, .ref q_43, .ref q_44, .ref q_46, .ref q_48, .ref q_50, .int 0, .int 0, .int 0, .int 0, .int 0, .int 0, .int 0, .int 0, .long 0, .double FP.dconst0])), (q_44, .inl (cA_45, 3001, .inl (fun _ => 0))), (q_46, .inl (cA_47, 3001, .inl (fun _ => 0))), (q_48, .inl (cA_49, 3001, .inr (.inl (fun _ => 0)))), (q_50, .inl (cA_51, 3001, .inr (.inr (.inr (.inl (fun _ => 0)))))), (q_52, .inr (4, [.ref q_25, .ref q_3, .ref q_13, .ref q_53, .ref q_54, .ref q_55, .ref q_59, .ref q_63, .ref q_64, .ref q_65, .ref q_27, .int 0, .int 0, .int 4, .int (-1), .int (-1), .long 0])), (q_55, .inr (8, [.ref q_56, .ref q_57, .ref q_58, .int 0])), (q_59, .inr (1, [.ref q_60, .int 0, .ref q_61, .ref q_62, .int 0])), (q_65, .inl (cA_66, 10, .inl (fun _ => 0))), (q_67, .inr (7, [.ref q_68, .int 0, .ref q_69, .ref q_74, .ref q_75, .ref q_76, .ref q_77, .int 0])), (q_69, .inr (8, [.ref q_70, .ref q_72, .ref q_73, .int 0])), (q_70, .inl (cA_71, 32, .inl (fun _ => 0)))] _ := hP
  have hD : va_D A [(h0, .inr (10, [.ref q_1, .int 0, .int 0, .ref q_3, .ref q_13, .ref q_25, .ref q_27, .ref q_38, .ref q_52])), (q_1, .inl (cA_2, 3000, .inl (fun _ => 0))), (q_3, .inr (5, [.ref q_4, .ref q_6, .ref q_8, .int 11, .int 0])), (q_4, .inl (cA_5, 52, .inr (.inl f_10))), (q_6, .inl (cA_7, 52, .inl f_11)), (q_8, .inl (cA_9, 52, .inl (fun _ => 0))), (q_13, .inr (0, [.ref q_14, .ref q_16, .ref q_18, .ref q_20, .ref q_22, .int 0])), (q_14, .inl (cA_15, 16, .inl (fun _ => 0))), (q_18, .inl (cA_19, 100, .inl (fun _ => 0))), (q_20, .inl (cA_21, 100, .inl (fun _ => 0))), (q_22, .inl (cA_23, 100, .inl (fun _ => 0))), (q_16, .inl (cA_17, 16, .inl f_24)), (q_25, .inl (cA_26, 4, .inr (.inr (.inr (.inr (fun _ => none)))))), (q_27, .inr (7, [.ref q_28, .int 0, .ref q_29, .ref q_34, .ref q_35, .ref q_36, .ref q_37, .int 0])), (q_29, .inr (8, [.ref q_30, .ref q_32, .ref q_33, .int 0])), (q_30, .inl (cA_31, 32, .inl (fun _ => 0))), (q_38, .inr (6, [.ref q_42, .ref q_3, .ref q_27, .ref q_39, .ref q_41, .int 0, .int 0, .int 0, .int 0, .int 0, .int 0])), (q_39, .inl (cA_40, 4, .inl (fun _ => 0))), (q_42, .inr (9, [.ref q_1, .ref q_43, .ref q_44, .ref q_46, .ref q_48, .ref q_50, .int 0, .int 0, .int 0, .int 0, .int 0, .int 0, .int 0, .int 0, .long 0, .double FP.dconst0])), (q_44, .inl (cA_45, 3001, .inl (fun _ => 0))), (q_46, .inl (cA_47, 3001, .inl (fun _ => 0))), (q_48, .inl (cA_49, 3001, .inr (.inl (fun _ => 0)))), (q_50, .inl (cA_51, 3001, .inr (.inr (.inr (.inl (fun _ => 0)))))), (q_52, .inr (4, [.ref q_25, .ref q_3, .ref q_13, .ref q_53, .ref q_54, .ref q_55, .ref q_59, .ref q_63, .ref q_64, .ref q_65, .ref q_27, .int 0, .int 0, .int 4, .int (-1), .int (-1), .long 0])), (q_55, .inr (8, [.ref q_56, .ref q_57, .ref q_58, .int 0])), (q_59, .inr (1, [.ref q_60, .int 0, .ref q_61, .ref q_62, .int 0])), (q_65, .inl (cA_66, 10, .inl (fun _ => 0))), (q_67, .inr (7, [.ref q_68, .int 0, .ref q_69, .ref q_74, .ref q_75, .ref q_76, .ref q_77, .int 0])), (q_69, .inr (8, [.ref q_70, .ref q_72, .ref q_73, .int 0])), (q_70, .inl (cA_71, 32, .inl (fun _ => 0)))] := hD
  have hK : va_K (dC, dI) vwCl [(cA_2, .byte), (cA_5, .long), (cA_7, .int), (cA_9, .int), (cA_15, .int), (cA_17, .int), (cA_19, .int), (cA_21, .int), (cA_23, .int), (cA_17, .int), (cA_26, .object RX8), (cA_31, .int), (cA_40, .int), (cA_45, .int), (cA_47, .int), (cA_49, .long), (cA_51, .double), (cA_66, .int), (cA_71, .int)] s := hK
  refine W.widen (k := 80) (n := 22318) (Nat.le_of_ble_eq_true rfl) (Nat.le_of_ble_eq_true rfl) ?_
  have hP := hP.sub (ws' := [(h0, .inr (10, [.ref q_1, .int 0, .int 0, .ref q_3, .ref q_13, .ref q_25, .ref q_27, .ref q_38, .ref q_52])), (q_1, .inl (cA_2, 3000, .inl (fun _ => 0))), (q_3, .inr (5, [.ref q_4, .ref q_6, .ref q_8, .int 11, .int 0])), (q_4, .inl (cA_5, 52, .inr (.inl f_10))), (q_6, .inl (cA_7, 52, .inl f_11)), (q_8, .inl (cA_9, 52, .inl (fun _ => 0))), (q_13, .inr (0, [.ref q_14, .ref q_16, .ref q_18, .ref q_20, .ref q_22, .int 0])), (q_14, .inl (cA_15, 16, .inl (fun _ => 0))), (q_18, .inl (cA_19, 100, .inl (fun _ => 0))), (q_20, .inl (cA_21, 100, .inl (fun _ => 0))), (q_22, .inl (cA_23, 100, .inl (fun _ => 0))), (q_16, .inl (cA_17, 16, .inl f_24)), (q_25, .inl (cA_26, 4, .inr (.inr (.inr (.inr (fun _ => none)))))), (q_27, .inr (7, [.ref q_28, .int 0, .ref q_29, .ref q_34, .ref q_35, .ref q_36, .ref q_37, .int 0])), (q_29, .inr (8, [.ref q_30, .ref q_32, .ref q_33, .int 0])), (q_30, .inl (cA_31, 32, .inl (fun _ => 0))), (q_38, .inr (6, [.ref q_42, .ref q_3, .ref q_27, .ref q_39, .ref q_41, .int 0, .int 0, .int 0, .int 0, .int 0, .int 0])), (q_39, .inl (cA_40, 4, .inl (fun _ => 0))), (q_42, .inr (9, [.ref q_1, .ref q_43, .ref q_44, .ref q_46, .ref q_48, .ref q_50, .int 0, .int 0, .int 0, .int 0, .int 0, .int 0, .int 0, .int 0, .long 0, .double FP.dconst0])), (q_44, .inl (cA_45, 3001, .inl (fun _ => 0))), (q_46, .inl (cA_47, 3001, .inl (fun _ => 0))), (q_48, .inl (cA_49, 3001, .inr (.inl (fun _ => 0)))), (q_50, .inl (cA_51, 3001, .inr (.inr (.inr (.inl (fun _ => 0)))))), (q_52, .inr (4, [.ref q_25, .ref q_3, .ref q_13, .ref q_53, .ref q_54, .ref q_55, .ref q_59, .ref q_63, .ref q_64, .ref q_65, .ref q_27, .int 0, .int 0, .int 4, .int (-1), .int (-1), .long 0])), (q_55, .inr (8, [.ref q_56, .ref q_57, .ref q_58, .int 0])), (q_59, .inr (1, [.ref q_60, .int 0, .ref q_61, .ref q_62, .int 0])), (q_65, .inl (cA_66, 10, .inl (fun _ => 0))), (q_67, .inr (7, [.ref q_68, .int 0, .ref q_69, .ref q_74, .ref q_75, .ref q_76, .ref q_77, .int 0]))]) [0, 1, 2, 3, 4, 5, 6, 7, 8, 9, 10, 11, 12, 13, 14, 15, 16, 17, 18, 19, 20, 21, 22, 23, 24, 25, 26, 27] rfl
  have hD := hD.sub (ws' := [(h0, .inr (10, [.ref q_1, .int 0, .int 0, .ref q_3, .ref q_13, .ref q_25, .ref q_27, .ref q_38, .ref q_52])), (q_1, .inl (cA_2, 3000, .inl (fun _ => 0))), (q_3, .inr (5, [.ref q_4, .ref q_6, .ref q_8, .int 11, .int 0])), (q_4, .inl (cA_5, 52, .inr (.inl f_10))), (q_6, .inl (cA_7, 52, .inl f_11)), (q_8, .inl (cA_9, 52, .inl (fun _ => 0))), (q_13, .inr (0, [.ref q_14, .ref q_16, .ref q_18, .ref q_20, .ref q_22, .int 0])), (q_14, .inl (cA_15, 16, .inl (fun _ => 0))), (q_18, .inl (cA_19, 100, .inl (fun _ => 0))), (q_20, .inl (cA_21, 100, .inl (fun _ => 0))), (q_22, .inl (cA_23, 100, .inl (fun _ => 0))), (q_16, .inl (cA_17, 16, .inl f_24)), (q_25, .inl (cA_26, 4, .inr (.inr (.inr (.inr (fun _ => none)))))), (q_27, .inr (7, [.ref q_28, .int 0, .ref q_29, .ref q_34, .ref q_35, .ref q_36, .ref q_37, .int 0])), (q_29, .inr (8, [.ref q_30, .ref q_32, .ref q_33, .int 0])), (q_30, .inl (cA_31, 32, .inl (fun _ => 0))), (q_38, .inr (6, [.ref q_42, .ref q_3, .ref q_27, .ref q_39, .ref q_41, .int 0, .int 0, .int 0, .int 0, .int 0, .int 0])), (q_39, .inl (cA_40, 4, .inl (fun _ => 0))), (q_42, .inr (9, [.ref q_1, .ref q_43, .ref q_44, .ref q_46, .ref q_48, .ref q_50, .int 0, .int 0, .int 0, .int 0, .int 0, .int 0, .int 0, .int 0, .long 0, .double FP.dconst0])), (q_44, .inl (cA_45, 3001, .inl (fun _ => 0))), (q_46, .inl (cA_47, 3001, .inl (fun _ => 0))), (q_48, .inl (cA_49, 3001, .inr (.inl (fun _ => 0)))), (q_50, .inl (cA_51, 3001, .inr (.inr (.inr (.inl (fun _ => 0)))))), (q_52, .inr (4, [.ref q_25, .ref q_3, .ref q_13, .ref q_53, .ref q_54, .ref q_55, .ref q_59, .ref q_63, .ref q_64, .ref q_65, .ref q_27, .int 0, .int 0, .int 4, .int (-1), .int (-1), .long 0])), (q_55, .inr (8, [.ref q_56, .ref q_57, .ref q_58, .int 0])), (q_59, .inr (1, [.ref q_60, .int 0, .ref q_61, .ref q_62, .int 0])), (q_65, .inl (cA_66, 10, .inl (fun _ => 0))), (q_67, .inr (7, [.ref q_68, .int 0, .ref q_69, .ref q_74, .ref q_75, .ref q_76, .ref q_77, .int 0]))]) [0, 1, 2, 3, 4, 5, 6, 7, 8, 9, 10, 11, 12, 13, 14, 15, 16, 17, 18, 19, 20, 21, 22, 23, 24, 25, 26, 27] (by decide) rfl
  refine va_astq hx hb hK hP hD hS 12 10 27 7 rfl rfl rfl rfl (by unfold vp_in; decide) dX11_init_133 (fun H locs hP hD hS => ?_)
  obtain ⟨f_78, ef_78⟩ : ∃ y : Nat → Option Nat, y = va_up (fun _ => none) ((0 : Int32).toNatClampNeg) (some q_67) := ⟨_, rfl⟩
  rw [← ef_78] at hP hD
  have hP : va_P (dC, dI) vwCl [(h0, .inr (10, [.ref q_1, .int 0, .int 0, .ref q_3, .ref q_13, .ref q_25, .ref q_27, .ref q_38, .ref q_52])), (q_1, .inl (cA_2, 3000, .inl (fun _ => 0))), (q_3, .inr (5, [.ref q_4, .ref q_6, .ref q_8, .int 11, .int 0])), (q_4, .inl (cA_5, 52, .inr (.inl f_10))), (q_6, .inl (cA_7, 52, .inl f_11)), (q_8, .inl (cA_9, 52, .inl (fun _ => 0))), (q_13, .inr (0, [.ref q_14, .ref q_16, .ref q_18, .ref q_20, .ref q_22, .int 0])), (q_14, .inl (cA_15, 16, .inl (fun _ => 0))), (q_18, .inl (cA_19, 100, .inl (fun _ => 0))), (q_20, .inl (cA_21, 100, .inl (fun _ => 0))), (q_22, .inl (cA_23, 100, .inl (fun _ => 0))), (q_16, .inl (cA_17, 16, .inl f_24)), (q_25, .inl (cA_26, 4, .inr (.inr (.inr (.inr f_78))))), (q_27, .inr (7, [.ref q_28, .int 0, .ref q_29, .ref q_34, .ref q_35, .ref q_36, .ref q_37, .int 0])), (q_29, .inr (8, [.ref q_30, .ref q_32, .ref q_33, .int 0])), (q_30, .inl (cA_31, 32, .inl (fun _ => 0))), (q_38, .inr (6, [.ref q_42, .ref q_3, .ref q_27, .ref q_39, .ref q_41, .int 0, .int 0, .int 0, .int 0, .int 0, .int 0])), (q_39, .inl (cA_40, 4, .inl (fun _ => 0))), (q_42, .inr (9, [.ref q_1, .ref q_43, .ref q_44, .ref q_46, .ref q_48, .ref q_50, .int 0, .int 0, .int 0, .int 0, .int 0, .int 0, .int 0, .int 0, .long 0, .double FP.dconst0])), (q_44, .inl (cA_45, 3001, .inl (fun _ => 0))), (q_46, .inl (cA_47, 3001, .inl (fun _ => 0))), (q_48, .inl (cA_49, 3001, .inr (.inl (fun _ => 0)))), (q_50, .inl (cA_51, 3001, .inr (.inr (.inr (.inl (fun _ => 0)))))), (q_52, .inr (4, [.ref q_25, .ref q_3, .ref q_13, .ref q_53, .ref q_54, .ref q_55, .ref q_59, .ref q_63, .ref q_64, .ref q_65, .ref q_27, .int 0, .int 0, .int 4, .int (-1), .int (-1), .long 0])), (q_55, .inr (8, [.ref q_56, .ref q_57, .ref q_58, .int 0])), (q_59, .inr (1, [.ref q_60, .int 0, .ref q_61, .ref q_62, .int 0])), (q_65, .inl (cA_66, 10, .inl (fun _ => 0))), (q_67, .inr (7, [.ref q_68, .int 0, .ref q_69, .ref q_74, .ref q_75, .ref q_76, .ref q_77, .int 0]))] _ := hP
  have hD : va_D A [(h0, .inr (10, [.ref q_1, .int 0, .int 0, .ref q_3, .ref q_13, .ref q_25, .ref q_27, .ref q_38, .ref q_52])), (q_1, .inl (cA_2, 3000, .inl (fun _ => 0))), (q_3, .inr (5, [.ref q_4, .ref q_6, .ref q_8, .int 11, .int 0])), (q_4, .inl (cA_5, 52, .inr (.inl f_10))), (q_6, .inl (cA_7, 52, .inl f_11)), (q_8, .inl (cA_9, 52, .inl (fun _ => 0))), (q_13, .inr (0, [.ref q_14, .ref q_16, .ref q_18, .ref q_20, .ref q_22, .int 0])), (q_14, .inl (cA_15, 16, .inl (fun _ => 0))), (q_18, .inl (cA_19, 100, .inl (fun _ => 0))), (q_20, .inl (cA_21, 100, .inl (fun _ => 0))), (q_22, .inl (cA_23, 100, .inl (fun _ => 0))), (q_16, .inl (cA_17, 16, .inl f_24)), (q_25, .inl (cA_26, 4, .inr (.inr (.inr (.inr f_78))))), (q_27, .inr (7, [.ref q_28, .int 0, .ref q_29, .ref q_34, .ref q_35, .ref q_36, .ref q_37, .int 0])), (q_29, .inr (8, [.ref q_30, .ref q_32, .ref q_33, .int 0])), (q_30, .inl (cA_31, 32, .inl (fun _ => 0))), (q_38, .inr (6, [.ref q_42, .ref q_3, .ref q_27, .ref q_39, .ref q_41, .int 0, .int 0, .int 0, .int 0, .int 0, .int 0])), (q_39, .inl (cA_40, 4, .inl (fun _ => 0))), (q_42, .inr (9, [.ref q_1, .ref q_43, .ref q_44, .ref q_46, .ref q_48, .ref q_50, .int 0, .int 0, .int 0, .int 0, .int 0, .int 0, .int 0, .int 0, .long 0, .double FP.dconst0])), (q_44, .inl (cA_45, 3001, .inl (fun _ => 0))), (q_46, .inl (cA_47, 3001, .inl (fun _ => 0))), (q_48, .inl (cA_49, 3001, .inr (.inl (fun _ => 0)))), (q_50, .inl (cA_51, 3001, .inr (.inr (.inr (.inl (fun _ => 0)))))), (q_52, .inr (4, [.ref q_25, .ref q_3, .ref q_13, .ref q_53, .ref q_54, .ref q_55, .ref q_59, .ref q_63, .ref q_64, .ref q_65, .ref q_27, .int 0, .int 0, .int 4, .int (-1), .int (-1), .long 0])), (q_55, .inr (8, [.ref q_56, .ref q_57, .ref q_58, .int 0])), (q_59, .inr (1, [.ref q_60, .int 0, .ref q_61, .ref q_62, .int 0])), (q_65, .inl (cA_66, 10, .inl (fun _ => 0))), (q_67, .inr (7, [.ref q_68, .int 0, .ref q_69, .ref q_74, .ref q_75, .ref q_76, .ref q_77, .int 0]))] := hD
  refine lv_iinc (v := 1) (lv' := [(1, .int 1), (0, .ref h0)]) hx hb dX11_init_134 hl (k := 0) rfl (by decide) (by decide) rfl (fun ls hl => ?_)
  refine lv_goto (tgt := 116) hx hb dX11_init_137 (by decide) ?_
  refine lv_iload_n hx hb dX11_init_116 rfl (lv_at hl 0 rfl) ?_
  refine lv_iconst (v := 4) hx hb dX11_init_117 (by decide) ?_
  refine lv_icmp_ge (tgt := 140) hx hb dX11_init_118 (by decide) (fun c_118 => absurd c_118 (by decide)) (fun c_118 => ?_)
  refine lv_aload_n hx hb dX11_init_121 rfl (lv_at hl 1 rfl) ?_
  refine va_get (D := (dC, dI)) (ci := 10) (v := .ref q_25) (C := RX11) (T := TX11) (N := 9) hx hb hts in_X11_init_RX11 hown hK hP 0 rfl rfl 5 (by decide) (hts (.fieldLink RX11 36 "FourTongues" "programs" "[LFourTongues$Program;") (by decide +kernel)) (fun _ h9 => h9) rfl dX11_init_122 ?_
  refine lv_iload_n hx hb dX11_init_125 rfl (lv_at hl 0 rfl) ?_
  refine va_new (ci := 7) (fs := [.null, .int 0, .null, .null, .null, .null, .null, .int 0]) (C := RX8) (T := TX8) (N := 8) hx hb hts in_X11_init_RX8 tyX8 tyX8_ok hown (hts (.classLink RX11 34 RX8) (by decide +kernel)) (hts (.instantiable RX8 8) (by decide +kernel)) (hts (.initialized RX8) (by decide +kernel)) hK hP hD hS hA rfl df_X8 (Nat.le_of_ble_eq_true rfl) (Nat.le_of_ble_eq_true rfl) dX11_init_126 (fun q_79 H hP hD hS => ?_)
  have hP : va_P (dC, dI) vwCl [(h0, .inr (10, [.ref q_1, .int 0, .int 0, .ref q_3, .ref q_13, .ref q_25, .ref q_27, .ref q_38, .ref q_52])), (q_1, .inl (cA_2, 3000, .inl (fun _ => 0))), (q_3, .inr (5, [.ref q_4, .ref q_6, .ref q_8, .int 11, .int 0])), (q_4, .inl (cA_5, 52, .inr (.inl f_10))), (q_6, .inl (cA_7, 52, .inl f_11)), (q_8, .inl (cA_9, 52, .inl (fun _ => 0))), (q_13, .inr (0, [.ref q_14, .ref q_16, .ref q_18, .ref q_20, .ref q_22, .int 0])), (q_14, .inl (cA_15, 16, .inl (fun _ => 0))), (q_18, .inl (cA_19, 100, .inl (fun _ => 0))), (q_20, .inl (cA_21, 100, .inl (fun _ => 0))), (q_22, .inl (cA_23, 100, .inl (fun _ => 0))), (q_16, .inl (cA_17, 16, .inl f_24)), (q_25, .inl (cA_26, 4, .inr (.inr (.inr (.inr f_78))))), (q_27, .inr (7, [.ref q_28, .int 0, .ref q_29, .ref q_34, .ref q_35, .ref q_36, .ref q_37, .int 0])), (q_29, .inr (8, [.ref q_30, .ref q_32, .ref q_33, .int 0])), (q_30, .inl (cA_31, 32, .inl (fun _ => 0))), (q_38, .inr (6, [.ref q_42, .ref q_3, .ref q_27, .ref q_39, .ref q_41, .int 0, .int 0, .int 0, .int 0, .int 0, .int 0])), (q_39, .inl (cA_40, 4, .inl (fun _ => 0))), (q_42, .inr (9, [.ref q_1, .ref q_43, .ref q_44, .ref q_46, .ref q_48, .ref q_50, .int 0, .int 0, .int 0, .int 0, .int 0, .int 0, .int 0, .int 0, .long 0, .double FP.dconst0])), (q_44, .inl (cA_45, 3001, .inl (fun _ => 0))), (q_46, .inl (cA_47, 3001, .inl (fun _ => 0))), (q_48, .inl (cA_49, 3001, .inr (.inl (fun _ => 0)))), (q_50, .inl (cA_51, 3001, .inr (.inr (.inr (.inl (fun _ => 0)))))), (q_52, .inr (4, [.ref q_25, .ref q_3, .ref q_13, .ref q_53, .ref q_54, .ref q_55, .ref q_59, .ref q_63, .ref q_64, .ref q_65, .ref q_27, .int 0, .int 0, .int 4, .int (-1), .int (-1), .long 0])), (q_55, .inr (8, [.ref q_56, .ref q_57, .ref q_58, .int 0])), (q_59, .inr (1, [.ref q_60, .int 0, .ref q_61, .ref q_62, .int 0])), (q_65, .inl (cA_66, 10, .inl (fun _ => 0))), (q_67, .inr (7, [.ref q_68, .int 0, .ref q_69, .ref q_74, .ref q_75, .ref q_76, .ref q_77, .int 0])), (q_79, .inr (7, [.null, .int 0, .null, .null, .null, .null, .null, .int 0]))] _ := hP
  have hD : va_D A [(h0, .inr (10, [.ref q_1, .int 0, .int 0, .ref q_3, .ref q_13, .ref q_25, .ref q_27, .ref q_38, .ref q_52])), (q_1, .inl (cA_2, 3000, .inl (fun _ => 0))), (q_3, .inr (5, [.ref q_4, .ref q_6, .ref q_8, .int 11, .int 0])), (q_4, .inl (cA_5, 52, .inr (.inl f_10))), (q_6, .inl (cA_7, 52, .inl f_11)), (q_8, .inl (cA_9, 52, .inl (fun _ => 0))), (q_13, .inr (0, [.ref q_14, .ref q_16, .ref q_18, .ref q_20, .ref q_22, .int 0])), (q_14, .inl (cA_15, 16, .inl (fun _ => 0))), (q_18, .inl (cA_19, 100, .inl (fun _ => 0))), (q_20, .inl (cA_21, 100, .inl (fun _ => 0))), (q_22, .inl (cA_23, 100, .inl (fun _ => 0))), (q_16, .inl (cA_17, 16, .inl f_24)), (q_25, .inl (cA_26, 4, .inr (.inr (.inr (.inr f_78))))), (q_27, .inr (7, [.ref q_28, .int 0, .ref q_29, .ref q_34, .ref q_35, .ref q_36, .ref q_37, .int 0])), (q_29, .inr (8, [.ref q_30, .ref q_32, .ref q_33, .int 0])), (q_30, .inl (cA_31, 32, .inl (fun _ => 0))), (q_38, .inr (6, [.ref q_42, .ref q_3, .ref q_27, .ref q_39, .ref q_41, .int 0, .int 0, .int 0, .int 0, .int 0, .int 0])), (q_39, .inl (cA_40, 4, .inl (fun _ => 0))), (q_42, .inr (9, [.ref q_1, .ref q_43, .ref q_44, .ref q_46, .ref q_48, .ref q_50, .int 0, .int 0, .int 0, .int 0, .int 0, .int 0, .int 0, .int 0, .long 0, .double FP.dconst0])), (q_44, .inl (cA_45, 3001, .inl (fun _ => 0))), (q_46, .inl (cA_47, 3001, .inl (fun _ => 0))), (q_48, .inl (cA_49, 3001, .inr (.inl (fun _ => 0)))), (q_50, .inl (cA_51, 3001, .inr (.inr (.inr (.inl (fun _ => 0)))))), (q_52, .inr (4, [.ref q_25, .ref q_3, .ref q_13, .ref q_53, .ref q_54, .ref q_55, .ref q_59, .ref q_63, .ref q_64, .ref q_65, .ref q_27, .int 0, .int 0, .int 4, .int (-1), .int (-1), .long 0])), (q_55, .inr (8, [.ref q_56, .ref q_57, .ref q_58, .int 0])), (q_59, .inr (1, [.ref q_60, .int 0, .ref q_61, .ref q_62, .int 0])), (q_65, .inl (cA_66, 10, .inl (fun _ => 0))), (q_67, .inr (7, [.ref q_68, .int 0, .ref q_69, .ref q_74, .ref q_75, .ref q_76, .ref q_77, .int 0])), (q_79, .inr (7, [.null, .int 0, .null, .null, .null, .null, .null, .int 0]))] := hD
  refine W.widen (k := 81) (n := 22326) (Nat.le_of_ble_eq_true rfl) (Nat.le_of_ble_eq_true rfl) ?_
  refine lv_dup hx hb dX11_init_129 rfl ?_
  have hPc := hP.sub (ws' := [(q_79, .inr (7, [.null, .int 0, .null, .null, .null, .null, .null, .int 0]))]) [28] rfl
  have hDc := hD.sub (ws' := [(q_79, .inr (7, [.null, .int 0, .null, .null, .null, .null, .null, .int 0]))]) [28] (by decide) rfl
  have hKc := hK.sub (tys' := []) [] rfl
  have hFc := va_free (wc := [(q_79, .inr (7, [.null, .int 0, .null, .null, .null, .null, .null, .int 0]))]) hD hS hA [28] rfl
  refine va_callv (va_runIN (As := []) (rest := [.ref q_79, .int 1, .ref q_25]) ⟨hx, hb, hml, hown, hts⟩ (c_X8_init l dC dI H.size q_79 ) ⟨va_cnB 0 hts gX11_init_X8_init_n40 rfl rfl rfl hN4 (hts (.initialized RX8) (by decide +kernel)) (by decide +kernel) ⟨Nat.le_of_ble_eq_true rfl, Nat.le_of_ble_eq_true rfl⟩, rfl, (hts (.instanceMethod yX8_init) (by decide +kernel))⟩ ⟨fb_M, fun U hU hW => ⟨rfl, xM.at hPc hKc hDc hU hW⟩⟩ rfl rfl hl.1 rfl (lv_room (Nat.le_of_ble_eq_true rfl)) dX11_init_130 ⟨Nat.le_of_ble_eq_true rfl, Nat.le_of_ble_eq_true rfl⟩) hS (fun q _ h => hFc q h) hFc (fun u t H locs ht hvm hw hB hz1 hk1 hS => ?_)
  obtain ⟨q_80, q_81, q_82, cA_83, q_84, q_85, q_86, q_87, q_88, q_89, hB⟩ := hB
  obtain ⟨hP, hD, hK⟩ := xB.join (wr := [(h0, .inr (10, [.ref q_1, .int 0, .int 0, .ref q_3, .ref q_13, .ref q_25, .ref q_27, .ref q_38, .ref q_52])), (q_1, .inl (cA_2, 3000, .inl (fun _ => 0))), (q_3, .inr (5, [.ref q_4, .ref q_6, .ref q_8, .int 11, .int 0])), (q_4, .inl (cA_5, 52, .inr (.inl f_10))), (q_6, .inl (cA_7, 52, .inl f_11)), (q_8, .inl (cA_9, 52, .inl (fun _ => 0))), (q_13, .inr (0, [.ref q_14, .ref q_16, .ref q_18, .ref q_20, .ref q_22, .int 0])), (q_14, .inl (cA_15, 16, .inl (fun _ => 0))), (q_18, .inl (cA_19, 100, .inl (fun _ => 0))), (q_20, .inl (cA_21, 100, .inl (fun _ => 0))), (q_22, .inl (cA_23, 100, .inl (fun _ => 0))), (q_16, .inl (cA_17, 16, .inl f_24)), (q_25, .inl (cA_26, 4, .inr (.inr (.inr (.inr f_78))))), (q_27, .inr (7, [.ref q_28, .int 0, .ref q_29, .ref q_34, .ref q_35, .ref q_36, .ref q_37, .int 0])), (q_29, .inr (8, [.ref q_30, .ref q_32, .ref q_33, .int 0])), (q_30, .inl (cA_31, 32, .inl (fun _ => 0))), (q_38, .inr (6, [.ref q_42, .ref q_3, .ref q_27, .ref q_39, .ref q_41, .int 0, .int 0, .int 0, .int 0, .int 0, .int 0])), (q_39, .inl (cA_40, 4, .inl (fun _ => 0))), (q_42, .inr (9, [.ref q_1, .ref q_43, .ref q_44, .ref q_46, .ref q_48, .ref q_50, .int 0, .int 0, .int 0, .int 0, .int 0, .int 0, .int 0, .int 0, .long 0, .double FP.dconst0])), (q_44, .inl (cA_45, 3001, .inl (fun _ => 0))), (q_46, .inl (cA_47, 3001, .inl (fun _ => 0))), (q_48, .inl (cA_49, 3001, .inr (.inl (fun _ => 0)))), (q_50, .inl (cA_51, 3001, .inr (.inr (.inr (.inl (fun _ => 0)))))), (q_52, .inr (4, [.ref q_25, .ref q_3, .ref q_13, .ref q_53, .ref q_54, .ref q_55, .ref q_59, .ref q_63, .ref q_64, .ref q_65, .ref q_27, .int 0, .int 0, .int 4, .int (-1), .int (-1), .long 0])), (q_55, .inr (8, [.ref q_56, .ref q_57, .ref q_58, .int 0])), (q_59, .inr (1, [.ref q_60, .int 0, .ref q_61, .ref q_62, .int 0])), (q_65, .inl (cA_66, 10, .inl (fun _ => 0))), (q_67, .inr (7, [.ref q_68, .int 0, .ref q_69, .ref q_74, .ref q_75, .ref q_76, .ref q_77, .int 0]))]) (w1 := [(q_79, .inr (7, [.ref q_80, .int 0, .ref q_81, .ref q_86, .ref q_87, .ref q_88, .ref q_89, .int 0])), (q_81, .inr (8, [.ref q_82, .ref q_84, .ref q_85, .int 0])), (q_82, .inl (cA_83, 32, .inl (fun _ => 0)))]) hP hD hK [28] [0, 1, 2, 3, 4, 5, 6, 7, 8, 9, 10, 11, 12, 13, 14, 15, 16, 17, 18, 19, 20, 21, 22, 23, 24, 25, 26, 27] rfl rfl (by decide) (by decide) hk1 hFc hB ht hvm
  have hP : va_P (dC, dI) vwCl [(h0, .inr (10, [.ref q_1, .int 0, .int 0, .ref q_3, .ref q_13, .ref q_25, .ref q_27, .ref q_38, .ref q_52])), (q_1, .inl (cA_2, 3000, .inl (fun _ => 0))), (q_3, .inr (5, [.ref q_4, .ref q_6, .ref q_8, .int 11, .int 0])), (q_4, .inl (cA_5, 52, .inr (.inl f_10))), (q_6, .inl (cA_7, 52, .inl f_11)), (q_8, .inl (cA_9, 52, .inl (fun _ => 0))), (q_13, .inr (0, [.ref q_14, .ref q_16, .ref q_18, .ref q_20, .ref q_22, .int 0])), (q_14, .inl (cA_15, 16, .inl (fun _ => 0))), (q_18, .inl (cA_19, 100, .inl (fun _ => 0))), (q_20, .inl (cA_21, 100, .inl (fun _ => 0))), (q_22, .inl (cA_23, 100, .inl (fun _ => 0))), (q_16, .inl (cA_17, 16, .inl f_24)), (q_25, .inl (cA_26, 4, .inr (.inr (.inr (.inr f_78))))), (q_27, .inr (7, [.ref q_28, .int 0, .ref q_29, .ref q_34, .ref q_35, .ref q_36, .ref q_37, .int 0])), (q_29, .inr (8, [.ref q_30, .ref q_32, .ref q_33, .int 0])), (q_30, .inl (cA_31, 32, .inl (fun _ => 0))), (q_38, .inr (6, [.ref q_42, .ref q_3, .ref q_27, .ref q_39, .ref q_41, .int 0, .int 0, .int 0, .int 0, .int 0, .int 0])), (q_39, .inl (cA_40, 4, .inl (fun _ => 0))), (q_42, .inr (9, [.ref q_1, .ref q_43, .ref q_44, .ref q_46, .ref q_48, .ref q_50, .int 0, .int 0, .int 0, .int 0, .int 0, .int 0, .int 0, .int 0, .long 0, .double FP.dconst0])), (q_44, .inl (cA_45, 3001, .inl (fun _ => 0))), (q_46, .inl (cA_47, 3001, .inl (fun _ => 0))), (q_48, .inl (cA_49, 3001, .inr (.inl (fun _ => 0)))), (q_50, .inl (cA_51, 3001, .inr (.inr (.inr (.inl (fun _ => 0)))))), (q_52, .inr (4, [.ref q_25, .ref q_3, .ref q_13, .ref q_53, .ref q_54, .ref q_55, .ref q_59, .ref q_63, .ref q_64, .ref q_65, .ref q_27, .int 0, .int 0, .int 4, .int (-1), .int (-1), .long 0])), (q_55, .inr (8, [.ref q_56, .ref q_57, .ref q_58, .int 0])), (q_59, .inr (1, [.ref q_60, .int 0, .ref q_61, .ref q_62, .int 0])), (q_65, .inl (cA_66, 10, .inl (fun _ => 0))), (q_67, .inr (7, [.ref q_68, .int 0, .ref q_69, .ref q_74, .ref q_75, .ref q_76, .ref q_77, .int 0])), (q_79, .inr (7, [.ref q_80, .int 0, .ref q_81, .ref q_86, .ref q_87, .ref q_88, .ref q_89, .int 0])), (q_81, .inr (8, [.ref q_82, .ref q_84, .ref q_85, .int 0])), (q_82, .inl (cA_83, 32, .inl (fun _ => 0)))] _ := hP
  have hD : va_D A [(h0, .inr (10, [.ref q_1, .int 0, .int 0, .ref q_3, .ref q_13, .ref q_25, .ref q_27, .ref q_38, .ref q_52])), (q_1, .inl (cA_2, 3000, .inl (fun _ => 0))), (q_3, .inr (5, [.ref q_4, .ref q_6, .ref q_8, .int 11, .int 0])), (q_4, .inl (cA_5, 52, .inr (.inl f_10))), (q_6, .inl (cA_7, 52, .inl f_11)), (q_8, .inl (cA_9, 52, .inl (fun _ => 0))), (q_13, .inr (0, [.ref q_14, .ref q_16, .ref q_18, .ref q_20, .ref q_22, .int 0])), (q_14, .inl (cA_15, 16, .inl (fun _ => 0))), (q_18, .inl (cA_19, 100, .inl (fun _ => 0))), (q_20, .inl (cA_21, 100, .inl (fun _ => 0))), (q_22, .inl (cA_23, 100, .inl (fun _ => 0))), (q_16, .inl (cA_17, 16, .inl f_24)), (q_25, .inl (cA_26, 4, .inr (.inr (.inr (.inr f_78))))), (q_27, .inr (7, [.ref q_28, .int 0, .ref q_29, .ref q_34, .ref q_35, .ref q_36, .ref q_37, .int 0])), (q_29, .inr (8, [.ref q_30, .ref q_32, .ref q_33, .int 0])), (q_30, .inl (cA_31, 32, .inl (fun _ => 0))), (q_38, .inr (6, [.ref q_42, .ref q_3, .ref q_27, .ref q_39, .ref q_41, .int 0, .int 0, .int 0, .int 0, .int 0, .int 0])), (q_39, .inl (cA_40, 4, .inl (fun _ => 0))), (q_42, .inr (9, [.ref q_1, .ref q_43, .ref q_44, .ref q_46, .ref q_48, .ref q_50, .int 0, .int 0, .int 0, .int 0, .int 0, .int 0, .int 0, .int 0, .long 0, .double FP.dconst0])), (q_44, .inl (cA_45, 3001, .inl (fun _ => 0))), (q_46, .inl (cA_47, 3001, .inl (fun _ => 0))), (q_48, .inl (cA_49, 3001, .inr (.inl (fun _ => 0)))), (q_50, .inl (cA_51, 3001, .inr (.inr (.inr (.inl (fun _ => 0)))))), (q_52, .inr (4, [.ref q_25, .ref q_3, .ref q_13, .ref q_53, .ref q_54, .ref q_55, .ref q_59, .ref q_63, .ref q_64, .ref q_65, .ref q_27, .int 0, .int 0, .int 4, .int (-1), .int (-1), .long 0])), (q_55, .inr (8, [.ref q_56, .ref q_57, .ref q_58, .int 0])), (q_59, .inr (1, [.ref q_60, .int 0, .ref q_61, .ref q_62, .int 0])), (q_65, .inl (cA_66, 10, .inl (fun _ => 0))), (q_67, .inr (7, [.ref q_68, .int 0, .ref q_69, .ref q_74, .ref q_75, .ref q_76, .ref q_77, .int 0])), (q_79, .inr (7, [.ref q_80, .int 0, .ref q_81, .ref q_86, .ref q_87, .ref q_88, .ref q_89, .int 0])), (q_81, .inr (8, [.ref q_82, .ref q_84, .ref q_85, .int 0])), (q_82, .inl (cA_83, 32, .inl (fun _ => 0)))] := hD
  have hK : va_K (dC, dI) vwCl [(cA_2, .byte), (cA_5, .long), (cA_7, .int), (cA_9, .int), (cA_15, .int), (cA_17, .int), (cA_19, .int), (cA_21, .int), (cA_23, .int), (cA_17, .int), (cA_26, .object RX8), (cA_31, .int), (cA_40, .int), (cA_45, .int), (cA_47, .int), (cA_49, .long), (cA_51, .double), (cA_66, .int), (cA_71, .int), (cA_83, .int)] s := hK
  refine W.widen (k := 90) (n := 23610) (Nat.le_of_ble_eq_true rfl) (Nat.le_of_ble_eq_true rfl) ?_
  have hP := hP.sub (ws' := [(h0, .inr (10, [.ref q_1, .int 0, .int 0, .ref q_3, .ref q_13, .ref q_25, .ref q_27, .ref q_38, .ref q_52])), (q_1, .inl (cA_2, 3000, .inl (fun _ => 0))), (q_3, .inr (5, [.ref q_4, .ref q_6, .ref q_8, .int 11, .int 0])), (q_4, .inl (cA_5, 52, .inr (.inl f_10))), (q_6, .inl (cA_7, 52, .inl f_11)), (q_8, .inl (cA_9, 52, .inl (fun _ => 0))), (q_13, .inr (0, [.ref q_14, .ref q_16, .ref q_18, .ref q_20, .ref q_22, .int 0])), (q_14, .inl (cA_15, 16, .inl (fun _ => 0))), (q_18, .inl (cA_19, 100, .inl (fun _ => 0))), (q_20, .inl (cA_21, 100, .inl (fun _ => 0))), (q_22, .inl (cA_23, 100, .inl (fun _ => 0))), (q_16, .inl (cA_17, 16, .inl f_24)), (q_25, .inl (cA_26, 4, .inr (.inr (.inr (.inr f_78))))), (q_27, .inr (7, [.ref q_28, .int 0, .ref q_29, .ref q_34, .ref q_35, .ref q_36, .ref q_37, .int 0])), (q_29, .inr (8, [.ref q_30, .ref q_32, .ref q_33, .int 0])), (q_30, .inl (cA_31, 32, .inl (fun _ => 0))), (q_38, .inr (6, [.ref q_42, .ref q_3, .ref q_27, .ref q_39, .ref q_41, .int 0, .int 0, .int 0, .int 0, .int 0, .int 0])), (q_39, .inl (cA_40, 4, .inl (fun _ => 0))), (q_42, .inr (9, [.ref q_1, .ref q_43, .ref q_44, .ref q_46, .ref q_48, .ref q_50, .int 0, .int 0, .int 0, .int 0, .int 0, .int 0, .int 0, .int 0, .long 0, .double FP.dconst0])), (q_44, .inl (cA_45, 3001, .inl (fun _ => 0))), (q_46, .inl (cA_47, 3001, .inl (fun _ => 0))), (q_48, .inl (cA_49, 3001, .inr (.inl (fun _ => 0)))), (q_50, .inl (cA_51, 3001, .inr (.inr (.inr (.inl (fun _ => 0)))))), (q_52, .inr (4, [.ref q_25, .ref q_3, .ref q_13, .ref q_53, .ref q_54, .ref q_55, .ref q_59, .ref q_63, .ref q_64, .ref q_65, .ref q_27, .int 0, .int 0, .int 4, .int (-1), .int (-1), .long 0])), (q_55, .inr (8, [.ref q_56, .ref q_57, .ref q_58, .int 0])), (q_59, .inr (1, [.ref q_60, .int 0, .ref q_61, .ref q_62, .int 0])), (q_65, .inl (cA_66, 10, .inl (fun _ => 0))), (q_67, .inr (7, [.ref q_68, .int 0, .ref q_69, .ref q_74, .ref q_75, .ref q_76, .ref q_77, .int 0])), (q_79, .inr (7, [.ref q_80, .int 0, .ref q_81, .ref q_86, .ref q_87, .ref q_88, .ref q_89, .int 0]))]) [0, 1, 2, 3, 4, 5, 6, 7, 8, 9, 10, 11, 12, 13, 14, 15, 16, 17, 18, 19, 20, 21, 22, 23, 24, 25, 26, 27, 28] rfl
  have hD := hD.sub (ws' := [(h0, .inr (10, [.ref q_1, .int 0, .int 0, .ref q_3, .ref q_13, .ref q_25, .ref q_27, .ref q_38, .ref q_52])), (q_1, .inl (cA_2, 3000, .inl (fun _ => 0))), (q_3, .inr (5, [.ref q_4, .ref q_6, .ref q_8, .int 11, .int 0])), (q_4, .inl (cA_5, 52, .inr (.inl f_10))), (q_6, .inl (cA_7, 52, .inl f_11)), (q_8, .inl (cA_9, 52, .inl (fun _ => 0))), (q_13, .inr (0, [.ref q_14, .ref q_16, .ref q_18, .ref q_20, .ref q_22, .int 0])), (q_14, .inl (cA_15, 16, .inl (fun _ => 0))), (q_18, .inl (cA_19, 100, .inl (fun _ => 0))), (q_20, .inl (cA_21, 100, .inl (fun _ => 0))), (q_22, .inl (cA_23, 100, .inl (fun _ => 0))), (q_16, .inl (cA_17, 16, .inl f_24)), (q_25, .inl (cA_26, 4, .inr (.inr (.inr (.inr f_78))))), (q_27, .inr (7, [.ref q_28, .int 0, .ref q_29, .ref q_34, .ref q_35, .ref q_36, .ref q_37, .int 0])), (q_29, .inr (8, [.ref q_30, .ref q_32, .ref q_33, .int 0])), (q_30, .inl (cA_31, 32, .inl (fun _ => 0))), (q_38, .inr (6, [.ref q_42, .ref q_3, .ref q_27, .ref q_39, .ref q_41, .int 0, .int 0, .int 0, .int 0, .int 0, .int 0])), (q_39, .inl (cA_40, 4, .inl (fun _ => 0))), (q_42, .inr (9, [.ref q_1, .ref q_43, .ref q_44, .ref q_46, .ref q_48, .ref q_50, .int 0, .int 0, .int 0, .int 0, .int 0, .int 0, .int 0, .int 0, .long 0, .double FP.dconst0])), (q_44, .inl (cA_45, 3001, .inl (fun _ => 0))), (q_46, .inl (cA_47, 3001, .inl (fun _ => 0))), (q_48, .inl (cA_49, 3001, .inr (.inl (fun _ => 0)))), (q_50, .inl (cA_51, 3001, .inr (.inr (.inr (.inl (fun _ => 0)))))), (q_52, .inr (4, [.ref q_25, .ref q_3, .ref q_13, .ref q_53, .ref q_54, .ref q_55, .ref q_59, .ref q_63, .ref q_64, .ref q_65, .ref q_27, .int 0, .int 0, .int 4, .int (-1), .int (-1), .long 0])), (q_55, .inr (8, [.ref q_56, .ref q_57, .ref q_58, .int 0])), (q_59, .inr (1, [.ref q_60, .int 0, .ref q_61, .ref q_62, .int 0])), (q_65, .inl (cA_66, 10, .inl (fun _ => 0))), (q_67, .inr (7, [.ref q_68, .int 0, .ref q_69, .ref q_74, .ref q_75, .ref q_76, .ref q_77, .int 0])), (q_79, .inr (7, [.ref q_80, .int 0, .ref q_81, .ref q_86, .ref q_87, .ref q_88, .ref q_89, .int 0]))]) [0, 1, 2, 3, 4, 5, 6, 7, 8, 9, 10, 11, 12, 13, 14, 15, 16, 17, 18, 19, 20, 21, 22, 23, 24, 25, 26, 27, 28] (by decide) rfl
  refine va_astq hx hb hK hP hD hS 12 10 28 7 rfl rfl rfl rfl (by unfold vp_in; decide) dX11_init_133 (fun H locs hP hD hS => ?_)
  obtain ⟨f_90, ef_90⟩ : ∃ y : Nat → Option Nat, y = va_up f_78 ((1 : Int32).toNatClampNeg) (some q_79) := ⟨_, rfl⟩
  rw [← ef_90] at hP hD
  have hP : va_P (dC, dI) vwCl [(h0, .inr (10, [.ref q_1, .int 0, .int 0, .ref q_3, .ref q_13, .ref q_25, .ref q_27, .ref q_38, .ref q_52])), (q_1, .inl (cA_2, 3000, .inl (fun _ => 0))), (q_3, .inr (5, [.ref q_4, .ref q_6, .ref q_8, .int 11, .int 0])), (q_4, .inl (cA_5, 52, .inr (.inl f_10))), (q_6, .inl (cA_7, 52, .inl f_11)), (q_8, .inl (cA_9, 52, .inl (fun _ => 0))), (q_13, .inr (0, [.ref q_14, .ref q_16, .ref q_18, .ref q_20, .ref q_22, .int 0])), (q_14, .inl (cA_15, 16, .inl (fun _ => 0))), (q_18, .inl (cA_19, 100, .inl (fun _ => 0))), (q_20, .inl (cA_21, 100, .inl (fun _ => 0))), (q_22, .inl (cA_23, 100, .inl (fun _ => 0))), (q_16, .inl (cA_17, 16, .inl f_24)), (q_25, .inl (cA_26, 4, .inr (.inr (.inr (.inr f_90))))), (q_27, .inr (7, [.ref q_28, .int 0, .ref q_29, .ref q_34, .ref q_35, .ref q_36, .ref q_37, .int 0])), (q_29, .inr (8, [.ref q_30, .ref q_32, .ref q_33, .int 0])), (q_30, .inl (cA_31, 32, .inl (fun _ => 0))), (q_38, .inr (6, [.ref q_42, .ref q_3, .ref q_27, .ref q_39, .ref q_41, .int 0, .int 0, .int 0, .int 0, .int 0, .int 0])), (q_39, .inl (cA_40, 4, .inl (fun _ => 0))), (q_42, .inr (9, [.ref q_1, .ref q_43, .ref q_44, .ref q_46, .ref q_48, .ref q_50, .int 0, .int 0, .int 0, .int 0, .int 0, .int 0, .int 0, .int 0, .long 0, .double FP.dconst0])), (q_44, .inl (cA_45, 3001, .inl (fun _ => 0))), (q_46, .inl (cA_47, 3001, .inl (fun _ => 0))), (q_48, .inl (cA_49, 3001, .inr (.inl (fun _ => 0)))), (q_50, .inl (cA_51, 3001, .inr (.inr (.inr (.inl (fun _ => 0)))))), (q_52, .inr (4, [.ref q_25, .ref q_3, .ref q_13, .ref q_53, .ref q_54, .ref q_55, .ref q_59, .ref q_63, .ref q_64, .ref q_65, .ref q_27, .int 0, .int 0, .int 4, .int (-1), .int (-1), .long 0])), (q_55, .inr (8, [.ref q_56, .ref q_57, .ref q_58, .int 0])), (q_59, .inr (1, [.ref q_60, .int 0, .ref q_61, .ref q_62, .int 0])), (q_65, .inl (cA_66, 10, .inl (fun _ => 0))), (q_67, .inr (7, [.ref q_68, .int 0, .ref q_69, .ref q_74, .ref q_75, .ref q_76, .ref q_77, .int 0])), (q_79, .inr (7, [.ref q_80, .int 0, .ref q_81, .ref q_86, .ref q_87, .ref q_88, .ref q_89, .int 0]))] _ := hP
  have hD : va_D A [(h0, .inr (10, [.ref q_1, .int 0, .int 0, .ref q_3, .ref q_13, .ref q_25, .ref q_27, .ref q_38, .ref q_52])), (q_1, .inl (cA_2, 3000, .inl (fun _ => 0))), (q_3, .inr (5, [.ref q_4, .ref q_6, .ref q_8, .int 11, .int 0])), (q_4, .inl (cA_5, 52, .inr (.inl f_10))), (q_6, .inl (cA_7, 52, .inl f_11)), (q_8, .inl (cA_9, 52, .inl (fun _ => 0))), (q_13, .inr (0, [.ref q_14, .ref q_16, .ref q_18, .ref q_20, .ref q_22, .int 0])), (q_14, .inl (cA_15, 16, .inl (fun _ => 0))), (q_18, .inl (cA_19, 100, .inl (fun _ => 0))), (q_20, .inl (cA_21, 100, .inl (fun _ => 0))), (q_22, .inl (cA_23, 100, .inl (fun _ => 0))), (q_16, .inl (cA_17, 16, .inl f_24)), (q_25, .inl (cA_26, 4, .inr (.inr (.inr (.inr f_90))))), (q_27, .inr (7, [.ref q_28, .int 0, .ref q_29, .ref q_34, .ref q_35, .ref q_36, .ref q_37, .int 0])), (q_29, .inr (8, [.ref q_30, .ref q_32, .ref q_33, .int 0])), (q_30, .inl (cA_31, 32, .inl (fun _ => 0))), (q_38, .inr (6, [.ref q_42, .ref q_3, .ref q_27, .ref q_39, .ref q_41, .int 0, .int 0, .int 0, .int 0, .int 0, .int 0])), (q_39, .inl (cA_40, 4, .inl (fun _ => 0))), (q_42, .inr (9, [.ref q_1, .ref q_43, .ref q_44, .ref q_46, .ref q_48, .ref q_50, .int 0, .int 0, .int 0, .int 0, .int 0, .int 0, .int 0, .int 0, .long 0, .double FP.dconst0])), (q_44, .inl (cA_45, 3001, .inl (fun _ => 0))), (q_46, .inl (cA_47, 3001, .inl (fun _ => 0))), (q_48, .inl (cA_49, 3001, .inr (.inl (fun _ => 0)))), (q_50, .inl (cA_51, 3001, .inr (.inr (.inr (.inl (fun _ => 0)))))), (q_52, .inr (4, [.ref q_25, .ref q_3, .ref q_13, .ref q_53, .ref q_54, .ref q_55, .ref q_59, .ref q_63, .ref q_64, .ref q_65, .ref q_27, .int 0, .int 0, .int 4, .int (-1), .int (-1), .long 0])), (q_55, .inr (8, [.ref q_56, .ref q_57, .ref q_58, .int 0])), (q_59, .inr (1, [.ref q_60, .int 0, .ref q_61, .ref q_62, .int 0])), (q_65, .inl (cA_66, 10, .inl (fun _ => 0))), (q_67, .inr (7, [.ref q_68, .int 0, .ref q_69, .ref q_74, .ref q_75, .ref q_76, .ref q_77, .int 0])), (q_79, .inr (7, [.ref q_80, .int 0, .ref q_81, .ref q_86, .ref q_87, .ref q_88, .ref q_89, .int 0]))] := hD
  refine lv_iinc (v := 2) (lv' := [(1, .int 2), (0, .ref h0)]) hx hb dX11_init_134 hl (k := 0) rfl (by decide) (by decide) rfl (fun ls hl => ?_)
  refine lv_goto (tgt := 116) hx hb dX11_init_137 (by decide) ?_
  refine lv_iload_n hx hb dX11_init_116 rfl (lv_at hl 0 rfl) ?_
  refine lv_iconst (v := 4) hx hb dX11_init_117 (by decide) ?_
  refine lv_icmp_ge (tgt := 140) hx hb dX11_init_118 (by decide) (fun c_118 => absurd c_118 (by decide)) (fun c_118 => ?_)
  refine lv_aload_n hx hb dX11_init_121 rfl (lv_at hl 1 rfl) ?_
  refine va_get (D := (dC, dI)) (ci := 10) (v := .ref q_25) (C := RX11) (T := TX11) (N := 9) hx hb hts in_X11_init_RX11 hown hK hP 0 rfl rfl 5 (by decide) (hts (.fieldLink RX11 36 "FourTongues" "programs" "[LFourTongues$Program;") (by decide +kernel)) (fun _ h9 => h9) rfl dX11_init_122 ?_
  refine lv_iload_n hx hb dX11_init_125 rfl (lv_at hl 0 rfl) ?_
  refine va_new (ci := 7) (fs := [.null, .int 0, .null, .null, .null, .null, .null, .int 0]) (C := RX8) (T := TX8) (N := 8) hx hb hts in_X11_init_RX8 tyX8 tyX8_ok hown (hts (.classLink RX11 34 RX8) (by decide +kernel)) (hts (.instantiable RX8 8) (by decide +kernel)) (hts (.initialized RX8) (by decide +kernel)) hK hP hD hS hA rfl df_X8 (Nat.le_of_ble_eq_true rfl) (Nat.le_of_ble_eq_true rfl) dX11_init_126 (fun q_91 H hP hD hS => ?_)
  have hP : va_P (dC, dI) vwCl [(h0, .inr (10, [.ref q_1, .int 0, .int 0, .ref q_3, .ref q_13, .ref q_25, .ref q_27, .ref q_38, .ref q_52])), (q_1, .inl (cA_2, 3000, .inl (fun _ => 0))), (q_3, .inr (5, [.ref q_4, .ref q_6, .ref q_8, .int 11, .int 0])), (q_4, .inl (cA_5, 52, .inr (.inl f_10))), (q_6, .inl (cA_7, 52, .inl f_11)), (q_8, .inl (cA_9, 52, .inl (fun _ => 0))), (q_13, .inr (0, [.ref q_14, .ref q_16, .ref q_18, .ref q_20, .ref q_22, .int 0])), (q_14, .inl (cA_15, 16, .inl (fun _ => 0))), (q_18, .inl (cA_19, 100, .inl (fun _ => 0))), (q_20, .inl (cA_21, 100, .inl (fun _ => 0))), (q_22, .inl (cA_23, 100, .inl (fun _ => 0))), (q_16, .inl (cA_17, 16, .inl f_24)), (q_25, .inl (cA_26, 4, .inr (.inr (.inr (.inr f_90))))), (q_27, .inr (7, [.ref q_28, .int 0, .ref q_29, .ref q_34, .ref q_35, .ref q_36, .ref q_37, .int 0])), (q_29, .inr (8, [.ref q_30, .ref q_32, .ref q_33, .int 0])), (q_30, .inl (cA_31, 32, .inl (fun _ => 0))), (q_38, .inr (6, [.ref q_42, .ref q_3, .ref q_27, .ref q_39, .ref q_41, .int 0, .int 0, .int 0, .int 0, .int 0, .int 0])), (q_39, .inl (cA_40, 4, .inl (fun _ => 0))), (q_42, .inr (9, [.ref q_1, .ref q_43, .ref q_44, .ref q_46, .ref q_48, .ref q_50, .int 0, .int 0, .int 0, .int 0, .int 0, .int 0, .int 0, .int 0, .long 0, .double FP.dconst0])), (q_44, .inl (cA_45, 3001, .inl (fun _ => 0))), (q_46, .inl (cA_47, 3001, .inl (fun _ => 0))), (q_48, .inl (cA_49, 3001, .inr (.inl (fun _ => 0)))), (q_50, .inl (cA_51, 3001, .inr (.inr (.inr (.inl (fun _ => 0)))))), (q_52, .inr (4, [.ref q_25, .ref q_3, .ref q_13, .ref q_53, .ref q_54, .ref q_55, .ref q_59, .ref q_63, .ref q_64, .ref q_65, .ref q_27, .int 0, .int 0, .int 4, .int (-1), .int (-1), .long 0])), (q_55, .inr (8, [.ref q_56, .ref q_57, .ref q_58, .int 0])), (q_59, .inr (1, [.ref q_60, .int 0, .ref q_61, .ref q_62, .int 0])), (q_65, .inl (cA_66, 10, .inl (fun _ => 0))), (q_67, .inr (7, [.ref q_68, .int 0, .ref q_69, .ref q_74, .ref q_75, .ref q_76, .ref q_77, .int 0])), (q_79, .inr (7, [.ref q_80, .int 0, .ref q_81, .ref q_86, .ref q_87, .ref q_88, .ref q_89, .int 0])), (q_91, .inr (7, [.null, .int 0, .null, .null, .null, .null, .null, .int 0]))] _ := hP
  have hD : va_D A [(h0, .inr (10, [.ref q_1, .int 0, .int 0, .ref q_3, .ref q_13, .ref q_25, .ref q_27, .ref q_38, .ref q_52])), (q_1, .inl (cA_2, 3000, .inl (fun _ => 0))), (q_3, .inr (5, [.ref q_4, .ref q_6, .ref q_8, .int 11, .int 0])), (q_4, .inl (cA_5, 52, .inr (.inl f_10))), (q_6, .inl (cA_7, 52, .inl f_11)), (q_8, .inl (cA_9, 52, .inl (fun _ => 0))), (q_13, .inr (0, [.ref q_14, .ref q_16, .ref q_18, .ref q_20, .ref q_22, .int 0])), (q_14, .inl (cA_15, 16, .inl (fun _ => 0))), (q_18, .inl (cA_19, 100, .inl (fun _ => 0))), (q_20, .inl (cA_21, 100, .inl (fun _ => 0))), (q_22, .inl (cA_23, 100, .inl (fun _ => 0))), (q_16, .inl (cA_17, 16, .inl f_24)), (q_25, .inl (cA_26, 4, .inr (.inr (.inr (.inr f_90))))), (q_27, .inr (7, [.ref q_28, .int 0, .ref q_29, .ref q_34, .ref q_35, .ref q_36, .ref q_37, .int 0])), (q_29, .inr (8, [.ref q_30, .ref q_32, .ref q_33, .int 0])), (q_30, .inl (cA_31, 32, .inl (fun _ => 0))), (q_38, .inr (6, [.ref q_42, .ref q_3, .ref q_27, .ref q_39, .ref q_41, .int 0, .int 0, .int 0, .int 0, .int 0, .int 0])), (q_39, .inl (cA_40, 4, .inl (fun _ => 0))), (q_42, .inr (9, [.ref q_1, .ref q_43, .ref q_44, .ref q_46, .ref q_48, .ref q_50, .int 0, .int 0, .int 0, .int 0, .int 0, .int 0, .int 0, .int 0, .long 0, .double FP.dconst0])), (q_44, .inl (cA_45, 3001, .inl (fun _ => 0))), (q_46, .inl (cA_47, 3001, .inl (fun _ => 0))), (q_48, .inl (cA_49, 3001, .inr (.inl (fun _ => 0)))), (q_50, .inl (cA_51, 3001, .inr (.inr (.inr (.inl (fun _ => 0)))))), (q_52, .inr (4, [.ref q_25, .ref q_3, .ref q_13, .ref q_53, .ref q_54, .ref q_55, .ref q_59, .ref q_63, .ref q_64, .ref q_65, .ref q_27, .int 0, .int 0, .int 4, .int (-1), .int (-1), .long 0])), (q_55, .inr (8, [.ref q_56, .ref q_57, .ref q_58, .int 0])), (q_59, .inr (1, [.ref q_60, .int 0, .ref q_61, .ref q_62, .int 0])), (q_65, .inl (cA_66, 10, .inl (fun _ => 0))), (q_67, .inr (7, [.ref q_68, .int 0, .ref q_69, .ref q_74, .ref q_75, .ref q_76, .ref q_77, .int 0])), (q_79, .inr (7, [.ref q_80, .int 0, .ref q_81, .ref q_86, .ref q_87, .ref q_88, .ref q_89, .int 0])), (q_91, .inr (7, [.null, .int 0, .null, .null, .null, .null, .null, .int 0]))] := hD
  refine W.widen (k := 91) (n := 23618) (Nat.le_of_ble_eq_true rfl) (Nat.le_of_ble_eq_true rfl) ?_
  refine lv_dup hx hb dX11_init_129 rfl ?_
  have hPc := hP.sub (ws' := [(q_91, .inr (7, [.null, .int 0, .null, .null, .null, .null, .null, .int 0]))]) [29] rfl
  have hDc := hD.sub (ws' := [(q_91, .inr (7, [.null, .int 0, .null, .null, .null, .null, .null, .int 0]))]) [29] (by decide) rfl
  have hKc := hK.sub (tys' := []) [] rfl
  have hFc := va_free (wc := [(q_91, .inr (7, [.null, .int 0, .null, .null, .null, .null, .null, .int 0]))]) hD hS hA [29] rfl
  refine va_callv (va_runIN (As := []) (rest := [.ref q_91, .int 2, .ref q_25]) ⟨hx, hb, hml, hown, hts⟩ (c_X8_init l dC dI H.size q_91 ) ⟨va_cnB 0 hts gX11_init_X8_init_n40 rfl rfl rfl hN4 (hts (.initialized RX8) (by decide +kernel)) (by decide +kernel) ⟨Nat.le_of_ble_eq_true rfl, Nat.le_of_ble_eq_true rfl⟩, rfl, (hts (.instanceMethod yX8_init) (by decide +kernel))⟩ ⟨fb_M, fun U hU hW => ⟨rfl, xM.at hPc hKc hDc hU hW⟩⟩ rfl rfl hl.1 rfl (lv_room (Nat.le_of_ble_eq_true rfl)) dX11_init_130 ⟨Nat.le_of_ble_eq_true rfl, Nat.le_of_ble_eq_true rfl⟩) hS (fun q _ h => hFc q h) hFc (fun u t H locs ht hvm hw hB hz1 hk1 hS => ?_)
  obtain ⟨q_92, q_93, q_94, cA_95, q_96, q_97, q_98, q_99, q_100, q_101, hB⟩ := hB
  obtain ⟨hP, hD, hK⟩ := xB.join (wr := [(h0, .inr (10, [.ref q_1, .int 0, .int 0, .ref q_3, .ref q_13, .ref q_25, .ref q_27, .ref q_38, .ref q_52])), (q_1, .inl (cA_2, 3000, .inl (fun _ => 0))), (q_3, .inr (5, [.ref q_4, .ref q_6, .ref q_8, .int 11, .int 0])), (q_4, .inl (cA_5, 52, .inr (.inl f_10))), (q_6, .inl (cA_7, 52, .inl f_11)), (q_8, .inl (cA_9, 52, .inl (fun _ => 0))), (q_13, .inr (0, [.ref q_14, .ref q_16, .ref q_18, .ref q_20, .ref q_22, .int 0])), (q_14, .inl (cA_15, 16, .inl (fun _ => 0))), (q_18, .inl (cA_19, 100, .inl (fun _ => 0))), (q_20, .inl (cA_21, 100, .inl (fun _ => 0))), (q_22, .inl (cA_23, 100, .inl (fun _ => 0))), (q_16, .inl (cA_17, 16, .inl f_24)), (q_25, .inl (cA_26, 4, .inr (.inr (.inr (.inr f_90))))), (q_27, .inr (7, [.ref q_28, .int 0, .ref q_29, .ref q_34, .ref q_35, .ref q_36, .ref q_37, .int 0])), (q_29, .inr (8, [.ref q_30, .ref q_32, .ref q_33, .int 0])), (q_30, .inl (cA_31, 32, .inl (fun _ => 0))), (q_38, .inr (6, [.ref q_42, .ref q_3, .ref q_27, .ref q_39, .ref q_41, .int 0, .int 0, .int 0, .int 0, .int 0, .int 0])), (q_39, .inl (cA_40, 4, .inl (fun _ => 0))), (q_42, .inr (9, [.ref q_1, .ref q_43, .ref q_44, .ref q_46, .ref q_48, .ref q_50, .int 0, .int 0, .int 0, .int 0, .int 0, .int 0, .int 0, .int 0, .long 0, .double FP.dconst0])), (q_44, .inl (cA_45, 3001, .inl (fun _ => 0))), (q_46, .inl (cA_47, 3001, .inl (fun _ => 0))), (q_48, .inl (cA_49, 3001, .inr (.inl (fun _ => 0)))), (q_50, .inl (cA_51, 3001, .inr (.inr (.inr (.inl (fun _ => 0)))))), (q_52, .inr (4, [.ref q_25, .ref q_3, .ref q_13, .ref q_53, .ref q_54, .ref q_55, .ref q_59, .ref q_63, .ref q_64, .ref q_65, .ref q_27, .int 0, .int 0, .int 4, .int (-1), .int (-1), .long 0])), (q_55, .inr (8, [.ref q_56, .ref q_57, .ref q_58, .int 0])), (q_59, .inr (1, [.ref q_60, .int 0, .ref q_61, .ref q_62, .int 0])), (q_65, .inl (cA_66, 10, .inl (fun _ => 0))), (q_67, .inr (7, [.ref q_68, .int 0, .ref q_69, .ref q_74, .ref q_75, .ref q_76, .ref q_77, .int 0])), (q_79, .inr (7, [.ref q_80, .int 0, .ref q_81, .ref q_86, .ref q_87, .ref q_88, .ref q_89, .int 0]))]) (w1 := [(q_91, .inr (7, [.ref q_92, .int 0, .ref q_93, .ref q_98, .ref q_99, .ref q_100, .ref q_101, .int 0])), (q_93, .inr (8, [.ref q_94, .ref q_96, .ref q_97, .int 0])), (q_94, .inl (cA_95, 32, .inl (fun _ => 0)))]) hP hD hK [29] [0, 1, 2, 3, 4, 5, 6, 7, 8, 9, 10, 11, 12, 13, 14, 15, 16, 17, 18, 19, 20, 21, 22, 23, 24, 25, 26, 27, 28] rfl rfl (by decide) (by decide) hk1 hFc hB ht hvm
  have hP : va_P (dC, dI) vwCl [(h0, .inr (10, [.ref q_1, .int 0, .int 0, .ref q_3, .ref q_13, .ref q_25, .ref q_27, .ref q_38, .ref q_52])), (q_1, .inl (cA_2, 3000, .inl (fun _ => 0))), (q_3, .inr (5, [.ref q_4, .ref q_6, .ref q_8, .int 11, .int 0])), (q_4, .inl (cA_5, 52, .inr (.inl f_10))), (q_6, .inl (cA_7, 52, .inl f_11)), (q_8, .inl (cA_9, 52, .inl (fun _ => 0))), (q_13, .inr (0, [.ref q_14, .ref q_16, .ref q_18, .ref q_20, .ref q_22, .int 0])), (q_14, .inl (cA_15, 16, .inl (fun _ => 0))), (q_18, .inl (cA_19, 100, .inl (fun _ => 0))), (q_20, .inl (cA_21, 100, .inl (fun _ => 0))), (q_22, .inl (cA_23, 100, .inl (fun _ => 0))), (q_16, .inl (cA_17, 16, .inl f_24)), (q_25, .inl (cA_26, 4, .inr (.inr (.inr (.inr f_90))))), (q_27, .inr (7, [.ref q_28, .int 0, .ref q_29, .ref q_34, .ref q_35, .ref q_36, .ref q_37, .int 0])), (q_29, .inr (8, [.ref q_30, .ref q_32, .ref q_33, .int 0])), (q_30, .inl (cA_31, 32, .inl (fun _ => 0))), (q_38, .inr (6, [.ref q_42, .ref q_3, .ref q_27, .ref q_39, .ref q_41, .int 0, .int 0, .int 0, .int 0, .int 0, .int 0])), (q_39, .inl (cA_40, 4, .inl (fun _ => 0))), (q_42, .inr (9, [.ref q_1, .ref q_43, .ref q_44, .ref q_46, .ref q_48, .ref q_50, .int 0, .int 0, .int 0, .int 0, .int 0, .int 0, .int 0, .int 0, .long 0, .double FP.dconst0])), (q_44, .inl (cA_45, 3001, .inl (fun _ => 0))), (q_46, .inl (cA_47, 3001, .inl (fun _ => 0))), (q_48, .inl (cA_49, 3001, .inr (.inl (fun _ => 0)))), (q_50, .inl (cA_51, 3001, .inr (.inr (.inr (.inl (fun _ => 0)))))), (q_52, .inr (4, [.ref q_25, .ref q_3, .ref q_13, .ref q_53, .ref q_54, .ref q_55, .ref q_59, .ref q_63, .ref q_64, .ref q_65, .ref q_27, .int 0, .int 0, .int 4, .int (-1), .int (-1), .long 0])), (q_55, .inr (8, [.ref q_56, .ref q_57, .ref q_58, .int 0])), (q_59, .inr (1, [.ref q_60, .int 0, .ref q_61, .ref q_62, .int 0])), (q_65, .inl (cA_66, 10, .inl (fun _ => 0))), (q_67, .inr (7, [.ref q_68, .int 0, .ref q_69, .ref q_74, .ref q_75, .ref q_76, .ref q_77, .int 0])), (q_79, .inr (7, [.ref q_80, .int 0, .ref q_81, .ref q_86, .ref q_87, .ref q_88, .ref q_89, .int 0])), (q_91, .inr (7, [.ref q_92, .int 0, .ref q_93, .ref q_98, .ref q_99, .ref q_100, .ref q_101, .int 0])), (q_93, .inr (8, [.ref q_94, .ref q_96, .ref q_97, .int 0])), (q_94, .inl (cA_95, 32, .inl (fun _ => 0)))] _ := hP
  have hD : va_D A [(h0, .inr (10, [.ref q_1, .int 0, .int 0, .ref q_3, .ref q_13, .ref q_25, .ref q_27, .ref q_38, .ref q_52])), (q_1, .inl (cA_2, 3000, .inl (fun _ => 0))), (q_3, .inr (5, [.ref q_4, .ref q_6, .ref q_8, .int 11, .int 0])), (q_4, .inl (cA_5, 52, .inr (.inl f_10))), (q_6, .inl (cA_7, 52, .inl f_11)), (q_8, .inl (cA_9, 52, .inl (fun _ => 0))), (q_13, .inr (0, [.ref q_14, .ref q_16, .ref q_18, .ref q_20, .ref q_22, .int 0])), (q_14, .inl (cA_15, 16, .inl (fun _ => 0))), (q_18, .inl (cA_19, 100, .inl (fun _ => 0))), (q_20, .inl (cA_21, 100, .inl (fun _ => 0))), (q_22, .inl (cA_23, 100, .inl (fun _ => 0))), (q_16, .inl (cA_17, 16, .inl f_24)), (q_25, .inl (cA_26, 4, .inr (.inr (.inr (.inr f_90))))), (q_27, .inr (7, [.ref q_28, .int 0, .ref q_29, .ref q_34, .ref q_35, .ref q_36, .ref q_37, .int 0])), (q_29, .inr (8, [.ref q_30, .ref q_32, .ref q_33, .int 0])), (q_30, .inl (cA_31, 32, .inl (fun _ => 0))), (q_38, .inr (6, [.ref q_42, .ref q_3, .ref q_27, .ref q_39, .ref q_41, .int 0, .int 0, .int 0, .int 0, .int 0, .int 0])), (q_39, .inl (cA_40, 4, .inl (fun _ => 0))), (q_42, .inr (9, [.ref q_1, .ref q_43, .ref q_44, .ref q_46, .ref q_48, .ref q_50, .int 0, .int 0, .int 0, .int 0, .int 0, .int 0, .int 0, .int 0, .long 0, .double FP.dconst0])), (q_44, .inl (cA_45, 3001, .inl (fun _ => 0))), (q_46, .inl (cA_47, 3001, .inl (fun _ => 0))), (q_48, .inl (cA_49, 3001, .inr (.inl (fun _ => 0)))), (q_50, .inl (cA_51, 3001, .inr (.inr (.inr (.inl (fun _ => 0)))))), (q_52, .inr (4, [.ref q_25, .ref q_3, .ref q_13, .ref q_53, .ref q_54, .ref q_55, .ref q_59, .ref q_63, .ref q_64, .ref q_65, .ref q_27, .int 0, .int 0, .int 4, .int (-1), .int (-1), .long 0])), (q_55, .inr (8, [.ref q_56, .ref q_57, .ref q_58, .int 0])), (q_59, .inr (1, [.ref q_60, .int 0, .ref q_61, .ref q_62, .int 0])), (q_65, .inl (cA_66, 10, .inl (fun _ => 0))), (q_67, .inr (7, [.ref q_68, .int 0, .ref q_69, .ref q_74, .ref q_75, .ref q_76, .ref q_77, .int 0])), (q_79, .inr (7, [.ref q_80, .int 0, .ref q_81, .ref q_86, .ref q_87, .ref q_88, .ref q_89, .int 0])), (q_91, .inr (7, [.ref q_92, .int 0, .ref q_93, .ref q_98, .ref q_99, .ref q_100, .ref q_101, .int 0])), (q_93, .inr (8, [.ref q_94, .ref q_96, .ref q_97, .int 0])), (q_94, .inl (cA_95, 32, .inl (fun _ => 0)))] := hD
  have hK : va_K (dC, dI) vwCl [(cA_2, .byte), (cA_5, .long), (cA_7, .int), (cA_9, .int), (cA_15, .int), (cA_17, .int), (cA_19, .int), (cA_21, .int), (cA_23, .int), (cA_17, .int), (cA_26, .object RX8), (cA_31, .int), (cA_40, .int), (cA_45, .int), (cA_47, .int), (cA_49, .long), (cA_51, .double), (cA_66, .int), (cA_71, .int), (cA_83, .int), (cA_95, .int)] s := hK
  refine W.widen (k := 100) (n := 24902) (Nat.le_of_ble_eq_true rfl) (Nat.le_of_ble_eq_true rfl) ?_
  have hP := hP.sub (ws' := [(h0, .inr (10, [.ref q_1, .int 0, .int 0, .ref q_3, .ref q_13, .ref q_25, .ref q_27, .ref q_38, .ref q_52])), (q_1, .inl (cA_2, 3000, .inl (fun _ => 0))), (q_3, .inr (5, [.ref q_4, .ref q_6, .ref q_8, .int 11, .int 0])), (q_4, .inl (cA_5, 52, .inr (.inl f_10))), (q_6, .inl (cA_7, 52, .inl f_11)), (q_8, .inl (cA_9, 52, .inl (fun _ => 0))), (q_13, .inr (0, [.ref q_14, .ref q_16, .ref q_18, .ref q_20, .ref q_22, .int 0])), (q_14, .inl (cA_15, 16, .inl (fun _ => 0))), (q_18, .inl (cA_19, 100, .inl (fun _ => 0))), (q_20, .inl (cA_21, 100, .inl (fun _ => 0))), (q_22, .inl (cA_23, 100, .inl (fun _ => 0))), (q_16, .inl (cA_17, 16, .inl f_24)), (q_25, .inl (cA_26, 4, .inr (.inr (.inr (.inr f_90))))), (q_27, .inr (7, [.ref q_28, .int 0, .ref q_29, .ref q_34, .ref q_35, .ref q_36, .ref q_37, .int 0])), (q_29, .inr (8, [.ref q_30, .ref q_32, .ref q_33, .int 0])), (q_30, .inl (cA_31, 32, .inl (fun _ => 0))), (q_38, .inr (6, [.ref q_42, .ref q_3, .ref q_27, .ref q_39, .ref q_41, .int 0, .int 0, .int 0, .int 0, .int 0, .int 0])), (q_39, .inl (cA_40, 4, .inl (fun _ => 0))), (q_42, .inr (9, [.ref q_1, .ref q_43, .ref q_44, .ref q_46, .ref q_48, .ref q_50, .int 0, .int 0, .int 0, .int 0, .int 0, .int 0, .int 0, .int 0, .long 0, .double FP.dconst0])), (q_44, .inl (cA_45, 3001, .inl (fun _ => 0))), (q_46, .inl (cA_47, 3001, .inl (fun _ => 0))), (q_48, .inl (cA_49, 3001, .inr (.inl (fun _ => 0)))), (q_50, .inl (cA_51, 3001, .inr (.inr (.inr (.inl (fun _ => 0)))))), (q_52, .inr (4, [.ref q_25, .ref q_3, .ref q_13, .ref q_53, .ref q_54, .ref q_55, .ref q_59, .ref q_63, .ref q_64, .ref q_65, .ref q_27, .int 0, .int 0, .int 4, .int (-1), .int (-1), .long 0])), (q_55, .inr (8, [.ref q_56, .ref q_57, .ref q_58, .int 0])), (q_59, .inr (1, [.ref q_60, .int 0, .ref q_61, .ref q_62, .int 0])), (q_65, .inl (cA_66, 10, .inl (fun _ => 0))), (q_67, .inr (7, [.ref q_68, .int 0, .ref q_69, .ref q_74, .ref q_75, .ref q_76, .ref q_77, .int 0])), (q_79, .inr (7, [.ref q_80, .int 0, .ref q_81, .ref q_86, .ref q_87, .ref q_88, .ref q_89, .int 0])), (q_91, .inr (7, [.ref q_92, .int 0, .ref q_93, .ref q_98, .ref q_99, .ref q_100, .ref q_101, .int 0]))]) [0, 1, 2, 3, 4, 5, 6, 7, 8, 9, 10, 11, 12, 13, 14, 15, 16, 17, 18, 19, 20, 21, 22, 23, 24, 25, 26, 27, 28, 29] rfl
  have hD := hD.sub (ws' := [(h0, .inr (10, [.ref q_1, .int 0, .int 0, .ref q_3, .ref q_13, .ref q_25, .ref q_27, .ref q_38, .ref q_52])), (q_1, .inl (cA_2, 3000, .inl (fun _ => 0))), (q_3, .inr (5, [.ref q_4, .ref q_6, .ref q_8, .int 11, .int 0])), (q_4, .inl (cA_5, 52, .inr (.inl f_10))), (q_6, .inl (cA_7, 52, .inl f_11)), (q_8, .inl (cA_9, 52, .inl (fun _ => 0))), (q_13, .inr (0, [.ref q_14, .ref q_16, .ref q_18, .ref q_20, .ref q_22, .int 0])), (q_14, .inl (cA_15, 16, .inl (fun _ => 0))), (q_18, .inl (cA_19, 100, .inl (fun _ => 0))), (q_20, .inl (cA_21, 100, .inl (fun _ => 0))), (q_22, .inl (cA_23, 100, .inl (fun _ => 0))), (q_16, .inl (cA_17, 16, .inl f_24)), (q_25, .inl (cA_26, 4, .inr (.inr (.inr (.inr f_90))))), (q_27, .inr (7, [.ref q_28, .int 0, .ref q_29, .ref q_34, .ref q_35, .ref q_36, .ref q_37, .int 0])), (q_29, .inr (8, [.ref q_30, .ref q_32, .ref q_33, .int 0])), (q_30, .inl (cA_31, 32, .inl (fun _ => 0))), (q_38, .inr (6, [.ref q_42, .ref q_3, .ref q_27, .ref q_39, .ref q_41, .int 0, .int 0, .int 0, .int 0, .int 0, .int 0])), (q_39, .inl (cA_40, 4, .inl (fun _ => 0))), (q_42, .inr (9, [.ref q_1, .ref q_43, .ref q_44, .ref q_46, .ref q_48, .ref q_50, .int 0, .int 0, .int 0, .int 0, .int 0, .int 0, .int 0, .int 0, .long 0, .double FP.dconst0])), (q_44, .inl (cA_45, 3001, .inl (fun _ => 0))), (q_46, .inl (cA_47, 3001, .inl (fun _ => 0))), (q_48, .inl (cA_49, 3001, .inr (.inl (fun _ => 0)))), (q_50, .inl (cA_51, 3001, .inr (.inr (.inr (.inl (fun _ => 0)))))), (q_52, .inr (4, [.ref q_25, .ref q_3, .ref q_13, .ref q_53, .ref q_54, .ref q_55, .ref q_59, .ref q_63, .ref q_64, .ref q_65, .ref q_27, .int 0, .int 0, .int 4, .int (-1), .int (-1), .long 0])), (q_55, .inr (8, [.ref q_56, .ref q_57, .ref q_58, .int 0])), (q_59, .inr (1, [.ref q_60, .int 0, .ref q_61, .ref q_62, .int 0])), (q_65, .inl (cA_66, 10, .inl (fun _ => 0))), (q_67, .inr (7, [.ref q_68, .int 0, .ref q_69, .ref q_74, .ref q_75, .ref q_76, .ref q_77, .int 0])), (q_79, .inr (7, [.ref q_80, .int 0, .ref q_81, .ref q_86, .ref q_87, .ref q_88, .ref q_89, .int 0])), (q_91, .inr (7, [.ref q_92, .int 0, .ref q_93, .ref q_98, .ref q_99, .ref q_100, .ref q_101, .int 0]))]) [0, 1, 2, 3, 4, 5, 6, 7, 8, 9, 10, 11, 12, 13, 14, 15, 16, 17, 18, 19, 20, 21, 22, 23, 24, 25, 26, 27, 28, 29] (by decide) rfl
  refine va_astq hx hb hK hP hD hS 12 10 29 7 rfl rfl rfl rfl (by unfold vp_in; decide) dX11_init_133 (fun H locs hP hD hS => ?_)
  obtain ⟨f_102, ef_102⟩ : ∃ y : Nat → Option Nat, y = va_up f_90 ((2 : Int32).toNatClampNeg) (some q_91) := ⟨_, rfl⟩
  rw [← ef_102] at hP hD
  have hP : va_P (dC, dI) vwCl [(h0, .inr (10, [.ref q_1, .int 0, .int 0, .ref q_3, .ref q_13, .ref q_25, .ref q_27, .ref q_38, .ref q_52])), (q_1, .inl (cA_2, 3000, .inl (fun _ => 0))), (q_3, .inr (5, [.ref q_4, .ref q_6, .ref q_8, .int 11, .int 0])), (q_4, .inl (cA_5, 52, .inr (.inl f_10))), (q_6, .inl (cA_7, 52, .inl f_11)), (q_8, .inl (cA_9, 52, .inl (fun _ => 0))), (q_13, .inr (0, [.ref q_14, .ref q_16, .ref q_18, .ref q_20, .ref q_22, .int 0])), (q_14, .inl (cA_15, 16, .inl (fun _ => 0))), (q_18, .inl (cA_19, 100, .inl (fun _ => 0))), (q_20, .inl (cA_21, 100, .inl (fun _ => 0))), (q_22, .inl (cA_23, 100, .inl (fun _ => 0))), (q_16, .inl (cA_17, 16, .inl f_24)), (q_25, .inl (cA_26, 4, .inr (.inr (.inr (.inr f_102))))), (q_27, .inr (7, [.ref q_28, .int 0, .ref q_29, .ref q_34, .ref q_35, .ref q_36, .ref q_37, .int 0])), (q_29, .inr (8, [.ref q_30, .ref q_32, .ref q_33, .int 0])), (q_30, .inl (cA_31, 32, .inl (fun _ => 0))), (q_38, .inr (6, [.ref q_42, .ref q_3, .ref q_27, .ref q_39, .ref q_41, .int 0, .int 0, .int 0, .int 0, .int 0, .int 0])), (q_39, .inl (cA_40, 4, .inl (fun _ => 0))), (q_42, .inr (9, [.ref q_1, .ref q_43, .ref q_44, .ref q_46, .ref q_48, .ref q_50, .int 0, .int 0, .int 0, .int 0, .int 0, .int 0, .int 0, .int 0, .long 0, .double FP.dconst0])), (q_44, .inl (cA_45, 3001, .inl (fun _ => 0))), (q_46, .inl (cA_47, 3001, .inl (fun _ => 0))), (q_48, .inl (cA_49, 3001, .inr (.inl (fun _ => 0)))), (q_50, .inl (cA_51, 3001, .inr (.inr (.inr (.inl (fun _ => 0)))))), (q_52, .inr (4, [.ref q_25, .ref q_3, .ref q_13, .ref q_53, .ref q_54, .ref q_55, .ref q_59, .ref q_63, .ref q_64, .ref q_65, .ref q_27, .int 0, .int 0, .int 4, .int (-1), .int (-1), .long 0])), (q_55, .inr (8, [.ref q_56, .ref q_57, .ref q_58, .int 0])), (q_59, .inr (1, [.ref q_60, .int 0, .ref q_61, .ref q_62, .int 0])), (q_65, .inl (cA_66, 10, .inl (fun _ => 0))), (q_67, .inr (7, [.ref q_68, .int 0, .ref q_69, .ref q_74, .ref q_75, .ref q_76, .ref q_77, .int 0])), (q_79, .inr (7, [.ref q_80, .int 0, .ref q_81, .ref q_86, .ref q_87, .ref q_88, .ref q_89, .int 0])), (q_91, .inr (7, [.ref q_92, .int 0, .ref q_93, .ref q_98, .ref q_99, .ref q_100, .ref q_101, .int 0]))] _ := hP
  have hD : va_D A [(h0, .inr (10, [.ref q_1, .int 0, .int 0, .ref q_3, .ref q_13, .ref q_25, .ref q_27, .ref q_38, .ref q_52])), (q_1, .inl (cA_2, 3000, .inl (fun _ => 0))), (q_3, .inr (5, [.ref q_4, .ref q_6, .ref q_8, .int 11, .int 0])), (q_4, .inl (cA_5, 52, .inr (.inl f_10))), (q_6, .inl (cA_7, 52, .inl f_11)), (q_8, .inl (cA_9, 52, .inl (fun _ => 0))), (q_13, .inr (0, [.ref q_14, .ref q_16, .ref q_18, .ref q_20, .ref q_22, .int 0])), (q_14, .inl (cA_15, 16, .inl (fun _ => 0))), (q_18, .inl (cA_19, 100, .inl (fun _ => 0))), (q_20, .inl (cA_21, 100, .inl (fun _ => 0))), (q_22, .inl (cA_23, 100, .inl (fun _ => 0))), (q_16, .inl (cA_17, 16, .inl f_24)), (q_25, .inl (cA_26, 4, .inr (.inr (.inr (.inr f_102))))), (q_27, .inr (7, [.ref q_28, .int 0, .ref q_29, .ref q_34, .ref q_35, .ref q_36, .ref q_37, .int 0])), (q_29, .inr (8, [.ref q_30, .ref q_32, .ref q_33, .int 0])), (q_30, .inl (cA_31, 32, .inl (fun _ => 0))), (q_38, .inr (6, [.ref q_42, .ref q_3, .ref q_27, .ref q_39, .ref q_41, .int 0, .int 0, .int 0, .int 0, .int 0, .int 0])), (q_39, .inl (cA_40, 4, .inl (fun _ => 0))), (q_42, .inr (9, [.ref q_1, .ref q_43, .ref q_44, .ref q_46, .ref q_48, .ref q_50, .int 0, .int 0, .int 0, .int 0, .int 0, .int 0, .int 0, .int 0, .long 0, .double FP.dconst0])), (q_44, .inl (cA_45, 3001, .inl (fun _ => 0))), (q_46, .inl (cA_47, 3001, .inl (fun _ => 0))), (q_48, .inl (cA_49, 3001, .inr (.inl (fun _ => 0)))), (q_50, .inl (cA_51, 3001, .inr (.inr (.inr (.inl (fun _ => 0)))))), (q_52, .inr (4, [.ref q_25, .ref q_3, .ref q_13, .ref q_53, .ref q_54, .ref q_55, .ref q_59, .ref q_63, .ref q_64, .ref q_65, .ref q_27, .int 0, .int 0, .int 4, .int (-1), .int (-1), .long 0])), (q_55, .inr (8, [.ref q_56, .ref q_57, .ref q_58, .int 0])), (q_59, .inr (1, [.ref q_60, .int 0, .ref q_61, .ref q_62, .int 0])), (q_65, .inl (cA_66, 10, .inl (fun _ => 0))), (q_67, .inr (7, [.ref q_68, .int 0, .ref q_69, .ref q_74, .ref q_75, .ref q_76, .ref q_77, .int 0])), (q_79, .inr (7, [.ref q_80, .int 0, .ref q_81, .ref q_86, .ref q_87, .ref q_88, .ref q_89, .int 0])), (q_91, .inr (7, [.ref q_92, .int 0, .ref q_93, .ref q_98, .ref q_99, .ref q_100, .ref q_101, .int 0]))] := hD
  refine lv_iinc (v := 3) (lv' := [(1, .int 3), (0, .ref h0)]) hx hb dX11_init_134 hl (k := 0) rfl (by decide) (by decide) rfl (fun ls hl => ?_)
  refine lv_goto (tgt := 116) hx hb dX11_init_137 (by decide) ?_
  refine lv_iload_n hx hb dX11_init_116 rfl (lv_at hl 0 rfl) ?_
  refine lv_iconst (v := 4) hx hb dX11_init_117 (by decide) ?_
  refine lv_icmp_ge (tgt := 140) hx hb dX11_init_118 (by decide) (fun c_118 => absurd c_118 (by decide)) (fun c_118 => ?_)
  refine lv_aload_n hx hb dX11_init_121 rfl (lv_at hl 1 rfl) ?_
  refine va_get (D := (dC, dI)) (ci := 10) (v := .ref q_25) (C := RX11) (T := TX11) (N := 9) hx hb hts in_X11_init_RX11 hown hK hP 0 rfl rfl 5 (by decide) (hts (.fieldLink RX11 36 "FourTongues" "programs" "[LFourTongues$Program;") (by decide +kernel)) (fun _ h9 => h9) rfl dX11_init_122 ?_
  refine lv_iload_n hx hb dX11_init_125 rfl (lv_at hl 0 rfl) ?_
  refine va_new (ci := 7) (fs := [.null, .int 0, .null, .null, .null, .null, .null, .int 0]) (C := RX8) (T := TX8) (N := 8) hx hb hts in_X11_init_RX8 tyX8 tyX8_ok hown (hts (.classLink RX11 34 RX8) (by decide +kernel)) (hts (.instantiable RX8 8) (by decide +kernel)) (hts (.initialized RX8) (by decide +kernel)) hK hP hD hS hA rfl df_X8 (Nat.le_of_ble_eq_true rfl) (Nat.le_of_ble_eq_true rfl) dX11_init_126 (fun q_103 H hP hD hS => ?_)
  have hP : va_P (dC, dI) vwCl [(h0, .inr (10, [.ref q_1, .int 0, .int 0, .ref q_3, .ref q_13, .ref q_25, .ref q_27, .ref q_38, .ref q_52])), (q_1, .inl (cA_2, 3000, .inl (fun _ => 0))), (q_3, .inr (5, [.ref q_4, .ref q_6, .ref q_8, .int 11, .int 0])), (q_4, .inl (cA_5, 52, .inr (.inl f_10))), (q_6, .inl (cA_7, 52, .inl f_11)), (q_8, .inl (cA_9, 52, .inl (fun _ => 0))), (q_13, .inr (0, [.ref q_14, .ref q_16, .ref q_18, .ref q_20, .ref q_22, .int 0])), (q_14, .inl (cA_15, 16, .inl (fun _ => 0))), (q_18, .inl (cA_19, 100, .inl (fun _ => 0))), (q_20, .inl (cA_21, 100, .inl (fun _ => 0))), (q_22, .inl (cA_23, 100, .inl (fun _ => 0))), (q_16, .inl (cA_17, 16, .inl f_24)), (q_25, .inl (cA_26, 4, .inr (.inr (.inr (.inr f_102))))), (q_27, .inr (7, [.ref q_28, .int 0, .ref q_29, .ref q_34, .ref q_35, .ref q_36, .ref q_37, .int 0])), (q_29, .inr (8, [.ref q_30, .ref q_32, .ref q_33, .int 0])), (q_30, .inl (cA_31, 32, .inl (fun _ => 0))), (q_38, .inr (6, [.ref q_42, .ref q_3, .ref q_27, .ref q_39, .ref q_41, .int 0, .int 0, .int 0, .int 0, .int 0, .int 0])), (q_39, .inl (cA_40, 4, .inl (fun _ => 0))), (q_42, .inr (9, [.ref q_1, .ref q_43, .ref q_44, .ref q_46, .ref q_48, .ref q_50, .int 0, .int 0, .int 0, .int 0, .int 0, .int 0, .int 0, .int 0, .long 0, .double FP.dconst0])), (q_44, .inl (cA_45, 3001, .inl (fun _ => 0))), (q_46, .inl (cA_47, 3001, .inl (fun _ => 0))), (q_48, .inl (cA_49, 3001, .inr (.inl (fun _ => 0)))), (q_50, .inl (cA_51, 3001, .inr (.inr (.inr (.inl (fun _ => 0)))))), (q_52, .inr (4, [.ref q_25, .ref q_3, .ref q_13, .ref q_53, .ref q_54, .ref q_55, .ref q_59, .ref q_63, .ref q_64, .ref q_65, .ref q_27, .int 0, .int 0, .int 4, .int (-1), .int (-1), .long 0])), (q_55, .inr (8, [.ref q_56, .ref q_57, .ref q_58, .int 0])), (q_59, .inr (1, [.ref q_60, .int 0, .ref q_61, .ref q_62, .int 0])), (q_65, .inl (cA_66, 10, .inl (fun _ => 0))), (q_67, .inr (7, [.ref q_68, .int 0, .ref q_69, .ref q_74, .ref q_75, .ref q_76, .ref q_77, .int 0])), (q_79, .inr (7, [.ref q_80, .int 0, .ref q_81, .ref q_86, .ref q_87, .ref q_88, .ref q_89, .int 0])), (q_91, .inr (7, [.ref q_92, .int 0, .ref q_93, .ref q_98, .ref q_99, .ref q_100, .ref q_101, .int 0])), (q_103, .inr (7, [.null, .int 0, .null, .null, .null, .null, .null, .int 0]))] _ := hP
  have hD : va_D A [(h0, .inr (10, [.ref q_1, .int 0, .int 0, .ref q_3, .ref q_13, .ref q_25, .ref q_27, .ref q_38, .ref q_52])), (q_1, .inl (cA_2, 3000, .inl (fun _ => 0))), (q_3, .inr (5, [.ref q_4, .ref q_6, .ref q_8, .int 11, .int 0])), (q_4, .inl (cA_5, 52, .inr (.inl f_10))), (q_6, .inl (cA_7, 52, .inl f_11)), (q_8, .inl (cA_9, 52, .inl (fun _ => 0))), (q_13, .inr (0, [.ref q_14, .ref q_16, .ref q_18, .ref q_20, .ref q_22, .int 0])), (q_14, .inl (cA_15, 16, .inl (fun _ => 0))), (q_18, .inl (cA_19, 100, .inl (fun _ => 0))), (q_20, .inl (cA_21, 100, .inl (fun _ => 0))), (q_22, .inl (cA_23, 100, .inl (fun _ => 0))), (q_16, .inl (cA_17, 16, .inl f_24)), (q_25, .inl (cA_26, 4, .inr (.inr (.inr (.inr f_102))))), (q_27, .inr (7, [.ref q_28, .int 0, .ref q_29, .ref q_34, .ref q_35, .ref q_36, .ref q_37, .int 0])), (q_29, .inr (8, [.ref q_30, .ref q_32, .ref q_33, .int 0])), (q_30, .inl (cA_31, 32, .inl (fun _ => 0))), (q_38, .inr (6, [.ref q_42, .ref q_3, .ref q_27, .ref q_39, .ref q_41, .int 0, .int 0, .int 0, .int 0, .int 0, .int 0])), (q_39, .inl (cA_40, 4, .inl (fun _ => 0))), (q_42, .inr (9, [.ref q_1, .ref q_43, .ref q_44, .ref q_46, .ref q_48, .ref q_50, .int 0, .int 0, .int 0, .int 0, .int 0, .int 0, .int 0, .int 0, .long 0, .double FP.dconst0])), (q_44, .inl (cA_45, 3001, .inl (fun _ => 0))), (q_46, .inl (cA_47, 3001, .inl (fun _ => 0))), (q_48, .inl (cA_49, 3001, .inr (.inl (fun _ => 0)))), (q_50, .inl (cA_51, 3001, .inr (.inr (.inr (.inl (fun _ => 0)))))), (q_52, .inr (4, [.ref q_25, .ref q_3, .ref q_13, .ref q_53, .ref q_54, .ref q_55, .ref q_59, .ref q_63, .ref q_64, .ref q_65, .ref q_27, .int 0, .int 0, .int 4, .int (-1), .int (-1), .long 0])), (q_55, .inr (8, [.ref q_56, .ref q_57, .ref q_58, .int 0])), (q_59, .inr (1, [.ref q_60, .int 0, .ref q_61, .ref q_62, .int 0])), (q_65, .inl (cA_66, 10, .inl (fun _ => 0))), (q_67, .inr (7, [.ref q_68, .int 0, .ref q_69, .ref q_74, .ref q_75, .ref q_76, .ref q_77, .int 0])), (q_79, .inr (7, [.ref q_80, .int 0, .ref q_81, .ref q_86, .ref q_87, .ref q_88, .ref q_89, .int 0])), (q_91, .inr (7, [.ref q_92, .int 0, .ref q_93, .ref q_98, .ref q_99, .ref q_100, .ref q_101, .int 0])), (q_103, .inr (7, [.null, .int 0, .null, .null, .null, .null, .null, .int 0]))] := hD
  refine W.widen (k := 101) (n := 24910) (Nat.le_of_ble_eq_true rfl) (Nat.le_of_ble_eq_true rfl) ?_
  refine lv_dup hx hb dX11_init_129 rfl ?_
  have hPc := hP.sub (ws' := [(q_103, .inr (7, [.null, .int 0, .null, .null, .null, .null, .null, .int 0]))]) [30] rfl
  have hDc := hD.sub (ws' := [(q_103, .inr (7, [.null, .int 0, .null, .null, .null, .null, .null, .int 0]))]) [30] (by decide) rfl
  have hKc := hK.sub (tys' := []) [] rfl
  have hFc := va_free (wc := [(q_103, .inr (7, [.null, .int 0, .null, .null, .null, .null, .null, .int 0]))]) hD hS hA [30] rfl
  refine va_callv (va_runIN (As := []) (rest := [.ref q_103, .int 3, .ref q_25]) ⟨hx, hb, hml, hown, hts⟩ (c_X8_init l dC dI H.size q_103 ) ⟨va_cnB 0 hts gX11_init_X8_init_n40 rfl rfl rfl hN4 (hts (.initialized RX8) (by decide +kernel)) (by decide +kernel) ⟨Nat.le_of_ble_eq_true rfl, Nat.le_of_ble_eq_true rfl⟩, rfl, (hts (.instanceMethod yX8_init) (by decide +kernel))⟩ ⟨fb_M, fun U hU hW => ⟨rfl, xM.at hPc hKc hDc hU hW⟩⟩ rfl rfl hl.1 rfl (lv_room (Nat.le_of_ble_eq_true rfl)) dX11_init_130 ⟨Nat.le_of_ble_eq_true rfl, Nat.le_of_ble_eq_true rfl⟩) hS (fun q _ h => hFc q h) hFc (fun u t H locs ht hvm hw hB hz1 hk1 hS => ?_)
  obtain ⟨q_104, q_105, q_106, cA_107, q_108, q_109, q_110, q_111, q_112, q_113, hB⟩ := hB
  obtain ⟨hP, hD, hK⟩ := xB.join (wr := [(h0, .inr (10, [.ref q_1, .int 0, .int 0, .ref q_3, .ref q_13, .ref q_25, .ref q_27, .ref q_38, .ref q_52])), (q_1, .inl (cA_2, 3000, .inl (fun _ => 0))), (q_3, .inr (5, [.ref q_4, .ref q_6, .ref q_8, .int 11, .int 0])), (q_4, .inl (cA_5, 52, .inr (.inl f_10))), (q_6, .inl (cA_7, 52, .inl f_11)), (q_8, .inl (cA_9, 52, .inl (fun _ => 0))), (q_13, .inr (0, [.ref q_14, .ref q_16, .ref q_18, .ref q_20, .ref q_22, .int 0])), (q_14, .inl (cA_15, 16, .inl (fun _ => 0))), (q_18, .inl (cA_19, 100, .inl (fun _ => 0))), (q_20, .inl (cA_21, 100, .inl (fun _ => 0))), (q_22, .inl (cA_23, 100, .inl (fun _ => 0))), (q_16, .inl (cA_17, 16, .inl f_24)), (q_25, .inl (cA_26, 4, .inr (.inr (.inr (.inr f_102))))), (q_27, .inr (7, [.ref q_28, .int 0, .ref q_29, .ref q_34, .ref q_35, .ref q_36, .ref q_37, .int 0])), (q_29, .inr (8, [.ref q_30, .ref q_32, .ref q_33, .int 0])), (q_30, .inl (cA_31, 32, .inl (fun _ => 0))), (q_38, .inr (6, [.ref q_42, .ref q_3, .ref q_27, .ref q_39, .ref q_41, .int 0, .int 0, .int 0, .int 0, .int 0, .int 0])), (q_39, .inl (cA_40, 4, .inl (fun _ => 0))), (q_42, .inr (9, [.ref q_1, .ref q_43, .ref q_44, .ref q_46, .ref q_48, .ref q_50, .int 0, .int 0, .int 0, .int 0, .int 0, .int 0, .int 0, .int 0, .long 0, .double FP.dconst0])), (q_44, .inl (cA_45, 3001, .inl (fun _ => 0))), (q_46, .inl (cA_47, 3001, .inl (fun _ => 0))), (q_48, .inl (cA_49, 3001, .inr (.inl (fun _ => 0)))), (q_50, .inl (cA_51, 3001, .inr (.inr (.inr (.inl (fun _ => 0)))))), (q_52, .inr (4, [.ref q_25, .ref q_3, .ref q_13, .ref q_53, .ref q_54, .ref q_55, .ref q_59, .ref q_63, .ref q_64, .ref q_65, .ref q_27, .int 0, .int 0, .int 4, .int (-1), .int (-1), .long 0])), (q_55, .inr (8, [.ref q_56, .ref q_57, .ref q_58, .int 0])), (q_59, .inr (1, [.ref q_60, .int 0, .ref q_61, .ref q_62, .int 0])), (q_65, .inl (cA_66, 10, .inl (fun _ => 0))), (q_67, .inr (7, [.ref q_68, .int 0, .ref q_69, .ref q_74, .ref q_75, .ref q_76, .ref q_77, .int 0])), (q_79, .inr (7, [.ref q_80, .int 0, .ref q_81, .ref q_86, .ref q_87, .ref q_88, .ref q_89, .int 0])), (q_91, .inr (7, [.ref q_92, .int 0, .ref q_93, .ref q_98, .ref q_99, .ref q_100, .ref q_101, .int 0]))]) (w1 := [(q_103, .inr (7, [.ref q_104, .int 0, .ref q_105, .ref q_110, .ref q_111, .ref q_112, .ref q_113, .int 0])), (q_105, .inr (8, [.ref q_106, .ref q_108, .ref q_109, .int 0])), (q_106, .inl (cA_107, 32, .inl (fun _ => 0)))]) hP hD hK [30] [0, 1, 2, 3, 4, 5, 6, 7, 8, 9, 10, 11, 12, 13, 14, 15, 16, 17, 18, 19, 20, 21, 22, 23, 24, 25, 26, 27, 28, 29] rfl rfl (by decide) (by decide) hk1 hFc hB ht hvm
  have hP : va_P (dC, dI) vwCl [(h0, .inr (10, [.ref q_1, .int 0, .int 0, .ref q_3, .ref q_13, .ref q_25, .ref q_27, .ref q_38, .ref q_52])), (q_1, .inl (cA_2, 3000, .inl (fun _ => 0))), (q_3, .inr (5, [.ref q_4, .ref q_6, .ref q_8, .int 11, .int 0])), (q_4, .inl (cA_5, 52, .inr (.inl f_10))), (q_6, .inl (cA_7, 52, .inl f_11)), (q_8, .inl (cA_9, 52, .inl (fun _ => 0))), (q_13, .inr (0, [.ref q_14, .ref q_16, .ref q_18, .ref q_20, .ref q_22, .int 0])), (q_14, .inl (cA_15, 16, .inl (fun _ => 0))), (q_18, .inl (cA_19, 100, .inl (fun _ => 0))), (q_20, .inl (cA_21, 100, .inl (fun _ => 0))), (q_22, .inl (cA_23, 100, .inl (fun _ => 0))), (q_16, .inl (cA_17, 16, .inl f_24)), (q_25, .inl (cA_26, 4, .inr (.inr (.inr (.inr f_102))))), (q_27, .inr (7, [.ref q_28, .int 0, .ref q_29, .ref q_34, .ref q_35, .ref q_36, .ref q_37, .int 0])), (q_29, .inr (8, [.ref q_30, .ref q_32, .ref q_33, .int 0])), (q_30, .inl (cA_31, 32, .inl (fun _ => 0))), (q_38, .inr (6, [.ref q_42, .ref q_3, .ref q_27, .ref q_39, .ref q_41, .int 0, .int 0, .int 0, .int 0, .int 0, .int 0])), (q_39, .inl (cA_40, 4, .inl (fun _ => 0))), (q_42, .inr (9, [.ref q_1, .ref q_43, .ref q_44, .ref q_46, .ref q_48, .ref q_50, .int 0, .int 0, .int 0, .int 0, .int 0, .int 0, .int 0, .int 0, .long 0, .double FP.dconst0])), (q_44, .inl (cA_45, 3001, .inl (fun _ => 0))), (q_46, .inl (cA_47, 3001, .inl (fun _ => 0))), (q_48, .inl (cA_49, 3001, .inr (.inl (fun _ => 0)))), (q_50, .inl (cA_51, 3001, .inr (.inr (.inr (.inl (fun _ => 0)))))), (q_52, .inr (4, [.ref q_25, .ref q_3, .ref q_13, .ref q_53, .ref q_54, .ref q_55, .ref q_59, .ref q_63, .ref q_64, .ref q_65, .ref q_27, .int 0, .int 0, .int 4, .int (-1), .int (-1), .long 0])), (q_55, .inr (8, [.ref q_56, .ref q_57, .ref q_58, .int 0])), (q_59, .inr (1, [.ref q_60, .int 0, .ref q_61, .ref q_62, .int 0])), (q_65, .inl (cA_66, 10, .inl (fun _ => 0))), (q_67, .inr (7, [.ref q_68, .int 0, .ref q_69, .ref q_74, .ref q_75, .ref q_76, .ref q_77, .int 0])), (q_79, .inr (7, [.ref q_80, .int 0, .ref q_81, .ref q_86, .ref q_87, .ref q_88, .ref q_89, .int 0])), (q_91, .inr (7, [.ref q_92, .int 0, .ref q_93, .ref q_98, .ref q_99, .ref q_100, .ref q_101, .int 0])), (q_103, .inr (7, [.ref q_104, .int 0, .ref q_105, .ref q_110, .ref q_111, .ref q_112, .ref q_113, .int 0])), (q_105, .inr (8, [.ref q_106, .ref q_108, .ref q_109, .int 0])), (q_106, .inl (cA_107, 32, .inl (fun _ => 0)))] _ := hP
  have hD : va_D A [(h0, .inr (10, [.ref q_1, .int 0, .int 0, .ref q_3, .ref q_13, .ref q_25, .ref q_27, .ref q_38, .ref q_52])), (q_1, .inl (cA_2, 3000, .inl (fun _ => 0))), (q_3, .inr (5, [.ref q_4, .ref q_6, .ref q_8, .int 11, .int 0])), (q_4, .inl (cA_5, 52, .inr (.inl f_10))), (q_6, .inl (cA_7, 52, .inl f_11)), (q_8, .inl (cA_9, 52, .inl (fun _ => 0))), (q_13, .inr (0, [.ref q_14, .ref q_16, .ref q_18, .ref q_20, .ref q_22, .int 0])), (q_14, .inl (cA_15, 16, .inl (fun _ => 0))), (q_18, .inl (cA_19, 100, .inl (fun _ => 0))), (q_20, .inl (cA_21, 100, .inl (fun _ => 0))), (q_22, .inl (cA_23, 100, .inl (fun _ => 0))), (q_16, .inl (cA_17, 16, .inl f_24)), (q_25, .inl (cA_26, 4, .inr (.inr (.inr (.inr f_102))))), (q_27, .inr (7, [.ref q_28, .int 0, .ref q_29, .ref q_34, .ref q_35, .ref q_36, .ref q_37, .int 0])), (q_29, .inr (8, [.ref q_30, .ref q_32, .ref q_33, .int 0])), (q_30, .inl (cA_31, 32, .inl (fun _ => 0))), (q_38, .inr (6, [.ref q_42, .ref q_3, .ref q_27, .ref q_39, .ref q_41, .int 0, .int 0, .int 0, .int 0, .int 0, .int 0])), (q_39, .inl (cA_40, 4, .inl (fun _ => 0))), (q_42, .inr (9, [.ref q_1, .ref q_43, .ref q_44, .ref q_46, .ref q_48, .ref q_50, .int 0, .int 0, .int 0, .int 0, .int 0, .int 0, .int 0, .int 0, .long 0, .double FP.dconst0])), (q_44, .inl (cA_45, 3001, .inl (fun _ => 0))), (q_46, .inl (cA_47, 3001, .inl (fun _ => 0))), (q_48, .inl (cA_49, 3001, .inr (.inl (fun _ => 0)))), (q_50, .inl (cA_51, 3001, .inr (.inr (.inr (.inl (fun _ => 0)))))), (q_52, .inr (4, [.ref q_25, .ref q_3, .ref q_13, .ref q_53, .ref q_54, .ref q_55, .ref q_59, .ref q_63, .ref q_64, .ref q_65, .ref q_27, .int 0, .int 0, .int 4, .int (-1), .int (-1), .long 0])), (q_55, .inr (8, [.ref q_56, .ref q_57, .ref q_58, .int 0])), (q_59, .inr (1, [.ref q_60, .int 0, .ref q_61, .ref q_62, .int 0])), (q_65, .inl (cA_66, 10, .inl (fun _ => 0))), (q_67, .inr (7, [.ref q_68, .int 0, .ref q_69, .ref q_74, .ref q_75, .ref q_76, .ref q_77, .int 0])), (q_79, .inr (7, [.ref q_80, .int 0, .ref q_81, .ref q_86, .ref q_87, .ref q_88, .ref q_89, .int 0])), (q_91, .inr (7, [.ref q_92, .int 0, .ref q_93, .ref q_98, .ref q_99, .ref q_100, .ref q_101, .int 0])), (q_103, .inr (7, [.ref q_104, .int 0, .ref q_105, .ref q_110, .ref q_111, .ref q_112, .ref q_113, .int 0])), (q_105, .inr (8, [.ref q_106, .ref q_108, .ref q_109, .int 0])), (q_106, .inl (cA_107, 32, .inl (fun _ => 0)))] := hD
  have hK : va_K (dC, dI) vwCl [(cA_2, .byte), (cA_5, .long), (cA_7, .int), (cA_9, .int), (cA_15, .int), (cA_17, .int), (cA_19, .int), (cA_21, .int), (cA_23, .int), (cA_17, .int), (cA_26, .object RX8), (cA_31, .int), (cA_40, .int), (cA_45, .int), (cA_47, .int), (cA_49, .long), (cA_51, .double), (cA_66, .int), (cA_71, .int), (cA_83, .int), (cA_95, .int), (cA_107, .int)] s := hK
  refine W.widen (k := 110) (n := 26194) (Nat.le_of_ble_eq_true rfl) (Nat.le_of_ble_eq_true rfl) ?_
  have hP := hP.sub (ws' := [(h0, .inr (10, [.ref q_1, .int 0, .int 0, .ref q_3, .ref q_13, .ref q_25, .ref q_27, .ref q_38, .ref q_52])), (q_1, .inl (cA_2, 3000, .inl (fun _ => 0))), (q_3, .inr (5, [.ref q_4, .ref q_6, .ref q_8, .int 11, .int 0])), (q_4, .inl (cA_5, 52, .inr (.inl f_10))), (q_6, .inl (cA_7, 52, .inl f_11)), (q_8, .inl (cA_9, 52, .inl (fun _ => 0))), (q_13, .inr (0, [.ref q_14, .ref q_16, .ref q_18, .ref q_20, .ref q_22, .int 0])), (q_14, .inl (cA_15, 16, .inl (fun _ => 0))), (q_18, .inl (cA_19, 100, .inl (fun _ => 0))), (q_20, .inl (cA_21, 100, .inl (fun _ => 0))), (q_22, .inl (cA_23, 100, .inl (fun _ => 0))), (q_16, .inl (cA_17, 16, .inl f_24)), (q_25, .inl (cA_26, 4, .inr (.inr (.inr (.inr f_102))))), (q_27, .inr (7, [.ref q_28, .int 0, .ref q_29, .ref q_34, .ref q_35, .ref q_36, .ref q_37, .int 0])), (q_29, .inr (8, [.ref q_30, .ref q_32, .ref q_33, .int 0])), (q_30, .inl (cA_31, 32, .inl (fun _ => 0))), (q_38, .inr (6, [.ref q_42, .ref q_3, .ref q_27, .ref q_39, .ref q_41, .int 0, .int 0, .int 0, .int 0, .int 0, .int 0])), (q_39, .inl (cA_40, 4, .inl (fun _ => 0))), (q_42, .inr (9, [.ref q_1, .ref q_43, .ref q_44, .ref q_46, .ref q_48, .ref q_50, .int 0, .int 0, .int 0, .int 0, .int 0, .int 0, .int 0, .int 0, .long 0, .double FP.dconst0])), (q_44, .inl (cA_45, 3001, .inl (fun _ => 0))), (q_46, .inl (cA_47, 3001, .inl (fun _ => 0))), (q_48, .inl (cA_49, 3001, .inr (.inl (fun _ => 0)))), (q_50, .inl (cA_51, 3001, .inr (.inr (.inr (.inl (fun _ => 0)))))), (q_52, .inr (4, [.ref q_25, .ref q_3, .ref q_13, .ref q_53, .ref q_54, .ref q_55, .ref q_59, .ref q_63, .ref q_64, .ref q_65, .ref q_27, .int 0, .int 0, .int 4, .int (-1), .int (-1), .long 0])), (q_55, .inr (8, [.ref q_56, .ref q_57, .ref q_58, .int 0])), (q_59, .inr (1, [.ref q_60, .int 0, .ref q_61, .ref q_62, .int 0])), (q_65, .inl (cA_66, 10, .inl (fun _ => 0))), (q_67, .inr (7, [.ref q_68, .int 0, .ref q_69, .ref q_74, .ref q_75, .ref q_76, .ref q_77, .int 0])), (q_79, .inr (7, [.ref q_80, .int 0, .ref q_81, .ref q_86, .ref q_87, .ref q_88, .ref q_89, .int 0])), (q_91, .inr (7, [.ref q_92, .int 0, .ref q_93, .ref q_98, .ref q_99, .ref q_100, .ref q_101, .int 0])), (q_103, .inr (7, [.ref q_104, .int 0, .ref q_105, .ref q_110, .ref q_111, .ref q_112, .ref q_113, .int 0]))]) [0, 1, 2, 3, 4, 5, 6, 7, 8, 9, 10, 11, 12, 13, 14, 15, 16, 17, 18, 19, 20, 21, 22, 23, 24, 25, 26, 27, 28, 29, 30] rfl
  have hD := hD.sub (ws' := [(h0, .inr (10, [.ref q_1, .int 0, .int 0, .ref q_3, .ref q_13, .ref q_25, .ref q_27, .ref q_38, .ref q_52])), (q_1, .inl (cA_2, 3000, .inl (fun _ => 0))), (q_3, .inr (5, [.ref q_4, .ref q_6, .ref q_8, .int 11, .int 0])), (q_4, .inl (cA_5, 52, .inr (.inl f_10))), (q_6, .inl (cA_7, 52, .inl f_11)), (q_8, .inl (cA_9, 52, .inl (fun _ => 0))), (q_13, .inr (0, [.ref q_14, .ref q_16, .ref q_18, .ref q_20, .ref q_22, .int 0])), (q_14, .inl (cA_15, 16, .inl (fun _ => 0))), (q_18, .inl (cA_19, 100, .inl (fun _ => 0))), (q_20, .inl (cA_21, 100, .inl (fun _ => 0))), (q_22, .inl (cA_23, 100, .inl (fun _ => 0))), (q_16, .inl (cA_17, 16, .inl f_24)), (q_25, .inl (cA_26, 4, .inr (.inr (.inr (.inr f_102))))), (q_27, .inr (7, [.ref q_28, .int 0, .ref q_29, .ref q_34, .ref q_35, .ref q_36, .ref q_37, .int 0])), (q_29, .inr (8, [.ref q_30, .ref q_32, .ref q_33, .int 0])), (q_30, .inl (cA_31, 32, .inl (fun _ => 0))), (q_38, .inr (6, [.ref q_42, .ref q_3, .ref q_27, .ref q_39, .ref q_41, .int 0, .int 0, .int 0, .int 0, .int 0, .int 0])), (q_39, .inl (cA_40, 4, .inl (fun _ => 0))), (q_42, .inr (9, [.ref q_1, .ref q_43, .ref q_44, .ref q_46, .ref q_48, .ref q_50, .int 0, .int 0, .int 0, .int 0, .int 0, .int 0, .int 0, .int 0, .long 0, .double FP.dconst0])), (q_44, .inl (cA_45, 3001, .inl (fun _ => 0))), (q_46, .inl (cA_47, 3001, .inl (fun _ => 0))), (q_48, .inl (cA_49, 3001, .inr (.inl (fun _ => 0)))), (q_50, .inl (cA_51, 3001, .inr (.inr (.inr (.inl (fun _ => 0)))))), (q_52, .inr (4, [.ref q_25, .ref q_3, .ref q_13, .ref q_53, .ref q_54, .ref q_55, .ref q_59, .ref q_63, .ref q_64, .ref q_65, .ref q_27, .int 0, .int 0, .int 4, .int (-1), .int (-1), .long 0])), (q_55, .inr (8, [.ref q_56, .ref q_57, .ref q_58, .int 0])), (q_59, .inr (1, [.ref q_60, .int 0, .ref q_61, .ref q_62, .int 0])), (q_65, .inl (cA_66, 10, .inl (fun _ => 0))), (q_67, .inr (7, [.ref q_68, .int 0, .ref q_69, .ref q_74, .ref q_75, .ref q_76, .ref q_77, .int 0])), (q_79, .inr (7, [.ref q_80, .int 0, .ref q_81, .ref q_86, .ref q_87, .ref q_88, .ref q_89, .int 0])), (q_91, .inr (7, [.ref q_92, .int 0, .ref q_93, .ref q_98, .ref q_99, .ref q_100, .ref q_101, .int 0])), (q_103, .inr (7, [.ref q_104, .int 0, .ref q_105, .ref q_110, .ref q_111, .ref q_112, .ref q_113, .int 0]))]) [0, 1, 2, 3, 4, 5, 6, 7, 8, 9, 10, 11, 12, 13, 14, 15, 16, 17, 18, 19, 20, 21, 22, 23, 24, 25, 26, 27, 28, 29, 30] (by decide) rfl
  refine va_astq hx hb hK hP hD hS 12 10 30 7 rfl rfl rfl rfl (by unfold vp_in; decide) dX11_init_133 (fun H locs hP hD hS => ?_)
  obtain ⟨f_114, ef_114⟩ : ∃ y : Nat → Option Nat, y = va_up f_102 ((3 : Int32).toNatClampNeg) (some q_103) := ⟨_, rfl⟩
  rw [← ef_114] at hP hD
  have hP : va_P (dC, dI) vwCl [(h0, .inr (10, [.ref q_1, .int 0, .int 0, .ref q_3, .ref q_13, .ref q_25, .ref q_27, .ref q_38, .ref q_52])), (q_1, .inl (cA_2, 3000, .inl (fun _ => 0))), (q_3, .inr (5, [.ref q_4, .ref q_6, .ref q_8, .int 11, .int 0])), (q_4, .inl (cA_5, 52, .inr (.inl f_10))), (q_6, .inl (cA_7, 52, .inl f_11)), (q_8, .inl (cA_9, 52, .inl (fun _ => 0))), (q_13, .inr (0, [.ref q_14, .ref q_16, .ref q_18, .ref q_20, .ref q_22, .int 0])), (q_14, .inl (cA_15, 16, .inl (fun _ => 0))), (q_18, .inl (cA_19, 100, .inl (fun _ => 0))), (q_20, .inl (cA_21, 100, .inl (fun _ => 0))), (q_22, .inl (cA_23, 100, .inl (fun _ => 0))), (q_16, .inl (cA_17, 16, .inl f_24)), (q_25, .inl (cA_26, 4, .inr (.inr (.inr (.inr f_114))))), (q_27, .inr (7, [.ref q_28, .int 0, .ref q_29, .ref q_34, .ref q_35, .ref q_36, .ref q_37, .int 0])), (q_29, .inr (8, [.ref q_30, .ref q_32, .ref q_33, .int 0])), (q_30, .inl (cA_31, 32, .inl (fun _ => 0))), (q_38, .inr (6, [.ref q_42, .ref q_3, .ref q_27, .ref q_39, .ref q_41, .int 0, .int 0, .int 0, .int 0, .int 0, .int 0])), (q_39, .inl (cA_40, 4, .inl (fun _ => 0))), (q_42, .inr (9, [.ref q_1, .ref q_43, .ref q_44, .ref q_46, .ref q_48, .ref q_50, .int 0, .int 0, .int 0, .int 0, .int 0, .int 0, .int 0, .int 0, .long 0, .double FP.dconst0])), (q_44, .inl (cA_45, 3001, .inl (fun _ => 0))), (q_46, .inl (cA_47, 3001, .inl (fun _ => 0))), (q_48, .inl (cA_49, 3001, .inr (.inl (fun _ => 0)))), (q_50, .inl (cA_51, 3001, .inr (.inr (.inr (.inl (fun _ => 0)))))), (q_52, .inr (4, [.ref q_25, .ref q_3, .ref q_13, .ref q_53, .ref q_54, .ref q_55, .ref q_59, .ref q_63, .ref q_64, .ref q_65, .ref q_27, .int 0, .int 0, .int 4, .int (-1), .int (-1), .long 0])), (q_55, .inr (8, [.ref q_56, .ref q_57, .ref q_58, .int 0])), (q_59, .inr (1, [.ref q_60, .int 0, .ref q_61, .ref q_62, .int 0])), (q_65, .inl (cA_66, 10, .inl (fun _ => 0))), (q_67, .inr (7, [.ref q_68, .int 0, .ref q_69, .ref q_74, .ref q_75, .ref q_76, .ref q_77, .int 0])), (q_79, .inr (7, [.ref q_80, .int 0, .ref q_81, .ref q_86, .ref q_87, .ref q_88, .ref q_89, .int 0])), (q_91, .inr (7, [.ref q_92, .int 0, .ref q_93, .ref q_98, .ref q_99, .ref q_100, .ref q_101, .int 0])), (q_103, .inr (7, [.ref q_104, .int 0, .ref q_105, .ref q_110, .ref q_111, .ref q_112, .ref q_113, .int 0]))] _ := hP
  have hD : va_D A [(h0, .inr (10, [.ref q_1, .int 0, .int 0, .ref q_3, .ref q_13, .ref q_25, .ref q_27, .ref q_38, .ref q_52])), (q_1, .inl (cA_2, 3000, .inl (fun _ => 0))), (q_3, .inr (5, [.ref q_4, .ref q_6, .ref q_8, .int 11, .int 0])), (q_4, .inl (cA_5, 52, .inr (.inl f_10))), (q_6, .inl (cA_7, 52, .inl f_11)), (q_8, .inl (cA_9, 52, .inl (fun _ => 0))), (q_13, .inr (0, [.ref q_14, .ref q_16, .ref q_18, .ref q_20, .ref q_22, .int 0])), (q_14, .inl (cA_15, 16, .inl (fun _ => 0))), (q_18, .inl (cA_19, 100, .inl (fun _ => 0))), (q_20, .inl (cA_21, 100, .inl (fun _ => 0))), (q_22, .inl (cA_23, 100, .inl (fun _ => 0))), (q_16, .inl (cA_17, 16, .inl f_24)), (q_25, .inl (cA_26, 4, .inr (.inr (.inr (.inr f_114))))), (q_27, .inr (7, [.ref q_28, .int 0, .ref q_29, .ref q_34, .ref q_35, .ref q_36, .ref q_37, .int 0])), (q_29, .inr (8, [.ref q_30, .ref q_32, .ref q_33, .int 0])), (q_30, .inl (cA_31, 32, .inl (fun _ => 0))), (q_38, .inr (6, [.ref q_42, .ref q_3, .ref q_27, .ref q_39, .ref q_41, .int 0, .int 0, .int 0, .int 0, .int 0, .int 0])), (q_39, .inl (cA_40, 4, .inl (fun _ => 0))), (q_42, .inr (9, [.ref q_1, .ref q_43, .ref q_44, .ref q_46, .ref q_48, .ref q_50, .int 0, .int 0, .int 0, .int 0, .int 0, .int 0, .int 0, .int 0, .long 0, .double FP.dconst0])), (q_44, .inl (cA_45, 3001, .inl (fun _ => 0))), (q_46, .inl (cA_47, 3001, .inl (fun _ => 0))), (q_48, .inl (cA_49, 3001, .inr (.inl (fun _ => 0)))), (q_50, .inl (cA_51, 3001, .inr (.inr (.inr (.inl (fun _ => 0)))))), (q_52, .inr (4, [.ref q_25, .ref q_3, .ref q_13, .ref q_53, .ref q_54, .ref q_55, .ref q_59, .ref q_63, .ref q_64, .ref q_65, .ref q_27, .int 0, .int 0, .int 4, .int (-1), .int (-1), .long 0])), (q_55, .inr (8, [.ref q_56, .ref q_57, .ref q_58, .int 0])), (q_59, .inr (1, [.ref q_60, .int 0, .ref q_61, .ref q_62, .int 0])), (q_65, .inl (cA_66, 10, .inl (fun _ => 0))), (q_67, .inr (7, [.ref q_68, .int 0, .ref q_69, .ref q_74, .ref q_75, .ref q_76, .ref q_77, .int 0])), (q_79, .inr (7, [.ref q_80, .int 0, .ref q_81, .ref q_86, .ref q_87, .ref q_88, .ref q_89, .int 0])), (q_91, .inr (7, [.ref q_92, .int 0, .ref q_93, .ref q_98, .ref q_99, .ref q_100, .ref q_101, .int 0])), (q_103, .inr (7, [.ref q_104, .int 0, .ref q_105, .ref q_110, .ref q_111, .ref q_112, .ref q_113, .int 0]))] := hD
  refine lv_iinc (v := 4) (lv' := [(1, .int 4), (0, .ref h0)]) hx hb dX11_init_134 hl (k := 0) rfl (by decide) (by decide) rfl (fun ls hl => ?_)
  refine lv_goto (tgt := 116) hx hb dX11_init_137 (by decide) ?_
  refine lv_iload_n hx hb dX11_init_116 rfl (lv_at hl 0 rfl) ?_
  refine lv_iconst (v := 4) hx hb dX11_init_117 (by decide) ?_
  refine lv_icmp_ge (tgt := 140) hx hb dX11_init_118 (by decide) (fun c_118 => ?_) (fun c_118 => absurd c_118 (by decide))
  have hP9 := hP.sub (ws' := [(h0, .inr (10, [.ref q_1, .int 0, .int 0, .ref q_3, .ref q_13, .ref q_25, .ref q_27, .ref q_38, .ref q_52])), (q_1, .inl (cA_2, 3000, .inl (fun _ => 0))), (q_3, .inr (5, [.ref q_4, .ref q_6, .ref q_8, .int 11, .int 0])), (q_4, .inl (cA_5, 52, .inr (.inl f_10))), (q_6, .inl (cA_7, 52, .inl f_11)), (q_8, .inl (cA_9, 52, .inl (fun _ => 0))), (q_13, .inr (0, [.ref q_14, .ref q_16, .ref q_18, .ref q_20, .ref q_22, .int 0])), (q_14, .inl (cA_15, 16, .inl (fun _ => 0))), (q_18, .inl (cA_19, 100, .inl (fun _ => 0))), (q_20, .inl (cA_21, 100, .inl (fun _ => 0))), (q_22, .inl (cA_23, 100, .inl (fun _ => 0))), (q_16, .inl (cA_17, 16, .inl f_24)), (q_25, .inl (cA_26, 4, .inr (.inr (.inr (.inr f_114))))), (q_27, .inr (7, [.ref q_28, .int 0, .ref q_29, .ref q_34, .ref q_35, .ref q_36, .ref q_37, .int 0])), (q_29, .inr (8, [.ref q_30, .ref q_32, .ref q_33, .int 0])), (q_30, .inl (cA_31, 32, .inl (fun _ => 0))), (q_38, .inr (6, [.ref q_42, .ref q_3, .ref q_27, .ref q_39, .ref q_41, .int 0, .int 0, .int 0, .int 0, .int 0, .int 0])), (q_39, .inl (cA_40, 4, .inl (fun _ => 0))), (q_42, .inr (9, [.ref q_1, .ref q_43, .ref q_44, .ref q_46, .ref q_48, .ref q_50, .int 0, .int 0, .int 0, .int 0, .int 0, .int 0, .int 0, .int 0, .long 0, .double FP.dconst0])), (q_44, .inl (cA_45, 3001, .inl (fun _ => 0))), (q_46, .inl (cA_47, 3001, .inl (fun _ => 0))), (q_48, .inl (cA_49, 3001, .inr (.inl (fun _ => 0)))), (q_50, .inl (cA_51, 3001, .inr (.inr (.inr (.inl (fun _ => 0)))))), (q_52, .inr (4, [.ref q_25, .ref q_3, .ref q_13, .ref q_53, .ref q_54, .ref q_55, .ref q_59, .ref q_63, .ref q_64, .ref q_65, .ref q_27, .int 0, .int 0, .int 4, .int (-1), .int (-1), .long 0])), (q_55, .inr (8, [.ref q_56, .ref q_57, .ref q_58, .int 0])), (q_59, .inr (1, [.ref q_60, .int 0, .ref q_61, .ref q_62, .int 0])), (q_65, .inl (cA_66, 10, .inl (fun _ => 0))), (q_67, .inr (7, [.ref q_68, .int 0, .ref q_69, .ref q_74, .ref q_75, .ref q_76, .ref q_77, .int 0])), (q_79, .inr (7, [.ref q_80, .int 0, .ref q_81, .ref q_86, .ref q_87, .ref q_88, .ref q_89, .int 0])), (q_91, .inr (7, [.ref q_92, .int 0, .ref q_93, .ref q_98, .ref q_99, .ref q_100, .ref q_101, .int 0])), (q_103, .inr (7, [.ref q_104, .int 0, .ref q_105, .ref q_110, .ref q_111, .ref q_112, .ref q_113, .int 0]))]) [0, 1, 2, 3, 4, 5, 6, 7, 8, 9, 10, 11, 12, 13, 14, 15, 16, 17, 18, 19, 20, 21, 22, 23, 24, 25, 26, 27, 28, 29, 30] rfl
  have hD9 := hD.sub (ws' := [(h0, .inr (10, [.ref q_1, .int 0, .int 0, .ref q_3, .ref q_13, .ref q_25, .ref q_27, .ref q_38, .ref q_52])), (q_1, .inl (cA_2, 3000, .inl (fun _ => 0))), (q_3, .inr (5, [.ref q_4, .ref q_6, .ref q_8, .int 11, .int 0])), (q_4, .inl (cA_5, 52, .inr (.inl f_10))), (q_6, .inl (cA_7, 52, .inl f_11)), (q_8, .inl (cA_9, 52, .inl (fun _ => 0))), (q_13, .inr (0, [.ref q_14, .ref q_16, .ref q_18, .ref q_20, .ref q_22, .int 0])), (q_14, .inl (cA_15, 16, .inl (fun _ => 0))), (q_18, .inl (cA_19, 100, .inl (fun _ => 0))), (q_20, .inl (cA_21, 100, .inl (fun _ => 0))), (q_22, .inl (cA_23, 100, .inl (fun _ => 0))), (q_16, .inl (cA_17, 16, .inl f_24)), (q_25, .inl (cA_26, 4, .inr (.inr (.inr (.inr f_114))))), (q_27, .inr (7, [.ref q_28, .int 0, .ref q_29, .ref q_34, .ref q_35, .ref q_36, .ref q_37, .int 0])), (q_29, .inr (8, [.ref q_30, .ref q_32, .ref q_33, .int 0])), (q_30, .inl (cA_31, 32, .inl (fun _ => 0))), (q_38, .inr (6, [.ref q_42, .ref q_3, .ref q_27, .ref q_39, .ref q_41, .int 0, .int 0, .int 0, .int 0, .int 0, .int 0])), (q_39, .inl (cA_40, 4, .inl (fun _ => 0))), (q_42, .inr (9, [.ref q_1, .ref q_43, .ref q_44, .ref q_46, .ref q_48, .ref q_50, .int 0, .int 0, .int 0, .int 0, .int 0, .int 0, .int 0, .int 0, .long 0, .double FP.dconst0])), (q_44, .inl (cA_45, 3001, .inl (fun _ => 0))), (q_46, .inl (cA_47, 3001, .inl (fun _ => 0))), (q_48, .inl (cA_49, 3001, .inr (.inl (fun _ => 0)))), (q_50, .inl (cA_51, 3001, .inr (.inr (.inr (.inl (fun _ => 0)))))), (q_52, .inr (4, [.ref q_25, .ref q_3, .ref q_13, .ref q_53, .ref q_54, .ref q_55, .ref q_59, .ref q_63, .ref q_64, .ref q_65, .ref q_27, .int 0, .int 0, .int 4, .int (-1), .int (-1), .long 0])), (q_55, .inr (8, [.ref q_56, .ref q_57, .ref q_58, .int 0])), (q_59, .inr (1, [.ref q_60, .int 0, .ref q_61, .ref q_62, .int 0])), (q_65, .inl (cA_66, 10, .inl (fun _ => 0))), (q_67, .inr (7, [.ref q_68, .int 0, .ref q_69, .ref q_74, .ref q_75, .ref q_76, .ref q_77, .int 0])), (q_79, .inr (7, [.ref q_80, .int 0, .ref q_81, .ref q_86, .ref q_87, .ref q_88, .ref q_89, .int 0])), (q_91, .inr (7, [.ref q_92, .int 0, .ref q_93, .ref q_98, .ref q_99, .ref q_100, .ref q_101, .int 0])), (q_103, .inr (7, [.ref q_104, .int 0, .ref q_105, .ref q_110, .ref q_111, .ref q_112, .ref q_113, .int 0]))]) [0, 1, 2, 3, 4, 5, 6, 7, 8, 9, 10, 11, 12, 13, 14, 15, 16, 17, 18, 19, 20, 21, 22, 23, 24, 25, 26, 27, 28, 29, 30] (by decide) rfl
  have hK9 := hK.sub (tys' := [(cA_2, .byte), (cA_5, .long), (cA_7, .int), (cA_9, .int), (cA_15, .int), (cA_17, .int), (cA_19, .int), (cA_21, .int), (cA_23, .int), (cA_17, .int), (cA_26, .object RX8), (cA_31, .int), (cA_40, .int), (cA_45, .int), (cA_47, .int), (cA_49, .long), (cA_51, .double), (cA_66, .int)]) [0, 1, 2, 3, 4, 5, 6, 7, 8, 5, 10, 11, 12, 13, 14, 15, 16, 17] rfl
  exact W.vret hx hb hr (fun t ht hW => ⟨⟨(), rfl, trivial, ⟨q_1, cA_2, q_3, q_4, cA_5, q_6, cA_7, q_8, cA_9, f_10, f_11, q_13, q_14, cA_15, q_16, cA_17, q_18, cA_19, q_20, cA_21, q_22, cA_23, f_24, q_25, cA_26, q_27, q_28, q_29, q_30, cA_31, q_32, q_33, q_34, q_35, q_36, q_37, q_38, q_39, cA_40, q_41, q_42, q_43, q_44, cA_45, q_46, cA_47, q_48, cA_49, q_50, cA_51, q_52, q_53, q_54, q_55, q_56, q_57, q_58, q_59, q_60, q_61, q_62, q_63, q_64, q_65, cA_66, q_67, q_68, q_69, q_74, q_75, q_76, q_77, q_79, q_80, q_81, q_86, q_87, q_88, q_89, q_91, q_92, q_93, q_98, q_99, q_100, q_101, q_103, q_104, q_105, q_110, q_111, q_112, q_113, f_114, hf_12, by rw [ef_114, ef_102, ef_90, ef_78]; rfl, by rw [ef_114, ef_102, ef_90, ef_78]; rfl, by rw [ef_114, ef_102, ef_90, ef_78]; rfl, by rw [ef_114, ef_102, ef_90, ef_78]; rfl, by rw [ht]; exact hP9, va_K.moved hW.alike hK9, hD9⟩⟩, hS.F ht⟩) hS.2.2 dX11_init_140
end
section
set_option maxRecDepth 100000 in
theorem in_X11_addBytes_RX11 : ∀ w ∈ u_ws RX11 TX11 9, w ∈ wsX11_addBytes := by decide +kernel
set_option maxRecDepth 100000 in
theorem in_X11_feed_RX11 : ∀ w ∈ u_ws RX11 TX11 9, w ∈ wsX11_feed := by decide +kernel
set_option maxRecDepth 100000 in
theorem in_X11_fault_RX11 : ∀ w ∈ u_ws RX11 TX11 9, w ∈ wsX11_fault := by decide +kernel
set_option maxRecDepth 100000 in
theorem in_X4_answered_RX4 : ∀ w ∈ u_ws RX4 TX4 17, w ∈ wsX4_answered := by decide +kernel
set_option maxRecDepth 100000 in
theorem in_X11_answer_RX11 : ∀ w ∈ u_ws RX11 TX11 9, w ∈ wsX11_answer := by decide +kernel
set_option maxRecDepth 100000 in
theorem in_X4_told_RX4 : ∀ w ∈ u_ws RX4 TX4 17, w ∈ wsX4_told := by decide +kernel
set_option maxRecDepth 100000 in
theorem in_X5_inAll_RX5 : ∀ w ∈ u_ws RX5 TX5 5, w ∈ wsX5_inAll := by decide +kernel
set_option maxRecDepth 100000 in
theorem in_X11_look_RX11 : ∀ w ∈ u_ws RX11 TX11 9, w ∈ wsX11_look := by decide +kernel
set_option maxRecDepth 100000 in
theorem in_X9_kind_RX9 : ∀ w ∈ u_ws RX9 TX9 4, w ∈ wsX9_kind := by decide +kernel
set_option maxRecDepth 100000 in
theorem in_X9_whole_RX9 : ∀ w ∈ u_ws RX9 TX9 4, w ∈ wsX9_whole := by decide +kernel
set_option maxRecDepth 100000 in
theorem in_X9_count_RX9 : ∀ w ∈ u_ws RX9 TX9 4, w ∈ wsX9_count := by decide +kernel
set_option maxRecDepth 100000 in
theorem in_X4_markOf_RX4 : ∀ w ∈ u_ws RX4 TX4 17, w ∈ wsX4_markOf := by decide +kernel
set_option maxRecDepth 100000 in
theorem in_X11_mark_RX11 : ∀ w ∈ u_ws RX11 TX11 9, w ∈ wsX11_mark := by decide +kernel
set_option maxRecDepth 100000 in
theorem in_X4_tongueOfMark_RX4 : ∀ w ∈ u_ws RX4 TX4 17, w ∈ wsX4_tongueOfMark := by decide +kernel
set_option maxRecDepth 100000 in
theorem in_X11_markTongue_RX11 : ∀ w ∈ u_ws RX11 TX11 9, w ∈ wsX11_markTongue := by decide +kernel
set_option maxRecDepth 100000 in
theorem in_X4_factOf_RX4 : ∀ w ∈ u_ws RX4 TX4 17, w ∈ wsX4_factOf := by decide +kernel
set_option maxRecDepth 100000 in
theorem in_X11_failure_RX11 : ∀ w ∈ u_ws RX11 TX11 9, w ∈ wsX11_failure := by decide +kernel
set_option maxRecDepth 100000 in
theorem in_X4_factUnder_RX4 : ∀ w ∈ u_ws RX4 TX4 17, w ∈ wsX4_factUnder := by decide +kernel
set_option maxRecDepth 100000 in
theorem in_X11_under_RX11 : ∀ w ∈ u_ws RX11 TX11 9, w ∈ wsX11_under := by decide +kernel
/-- no TONGUE -/
def ng (x : Int32) : Prop := x < 0 ∨ 4 ≤ x
theorem ng_cases {x : Int32} (h : ¬ ng x) : x = 0 ∨ x = 1 ∨ x = 2 ∨ x = 3 := by
  have h1 : ¬ x < 0 := fun q => h (Or.inl q)
  have h2 : ¬ 4 ≤ x := fun q => h (Or.inr q)
  obtain ⟨j, hj, rfl⟩ := nI_of h1
  have h3 : j < 4 := Nat.lt_of_not_le (fun q => h2 (nI_le (a := 4) q hj))
  rcases (show j = 0 ∨ j = 1 ∨ j = 2 ∨ j = 3 by omega) with rfl | rfl | rfl | rfl
  · exact Or.inl rfl
  · exact Or.inr (Or.inl rfl)
  · exact Or.inr (Or.inr (Or.inl rfl))
  · exact Or.inr (Or.inr (Or.inr rfl))
theorem eq0_of {x : Int32} (h1 : ¬ x < 0) (h2 : x ≤ 0) : x = 0 := Int32.le_antisymm h2 (Int32.not_lt.mp h1)
theorem ne0_lt {x : Int32} (h : x < 0) : ¬ x = 0 := fun q => by subst q; exact absurd h (by decide)
theorem ne0_gt {x : Int32} (h : ¬ x ≤ 0) : ¬ x = 0 := fun q => by subst q; exact absurd h (by decide)
theorem my_vpin {x y : Int32} {n : Nat} (h1 : ¬ x < 0) (h2 : ¬ y ≤ x) (hn : n < 2 ^ 31) (hy : y = Int32.ofNat n) : vp_in x n := by
  subst hy
  obtain ⟨j, hj, rfl⟩ := nI_of h1
  exact vp_in_nI (Nat.lt_of_not_le (fun q => h2 (nI_le q hj))) hn
set_option maxHeartbeats 4000000 in
set_option maxRecDepth 100000 in
theorem c_X11_isTongue (l : Launch) (dC : Nat → ClassId) (dI : Nat → Nat → Nat) (x1 : Int32) : Met l yX11_isTongue wsX11_isTongue ({ frames := 0, cells := 0, slots := 0, locals := 0 }) (va_Pc [.int x1] (fun U => xR (dC, dI) [] [] U)) (va_Qi (fun (r : Int32) (_ : Unit) => (ng x1 ∧ r = 0) ∨ (¬ ng x1 ∧ r = 1)) (fun (_ : Unit) _ => True) (fun _ => False)) 0 0 (fun _ => False) := by
  refine Met.ofW (cc := cX11_isTongue) (maxL := 1) (ret := (some .boolean)) (by decide) rfl ?_
  intro p e s m args below meth c s₁ B hml hv
  obtain ⟨rfl, hP, hK⟩ := hv
  have hx := B.exec
  have hb := B.bytes
  have hr := B.returns
  have hts := atoms_spec (ws := wsX11_isTongue) B.pre
  have hown : s.vm.findClass RX11 = some m.cls := findClass_of_methodNamed B.named
  have hlocks := B.notSynchronized
  have hS : va_S (fun _ => False) s.heap s.heap [] := va_S.rf
  have hl := lv_entry ([.int x1]) (n := 1) (Nat.le_of_ble_eq_true rfl)
  rw [lg_entry_eq]
  generalize (lg_sl ([.int x1]) ++ List.replicate (1 - (lg_sl ([.int x1])).length) Slot.unset).toArray = ls at hl ⊢
  have hl : lv_has ls 1 [(0, .int x1)] := hl
  refine lv_iload_n hx hb dX11_isTongue_0 rfl (lv_at hl 0 rfl) ?_
  refine lv_if_lt (tgt := 13) hx hb dX11_isTongue_1 (by decide) (fun c_1 => ?_) (fun c_1 => ?_)
  · refine lv_iconst (v := 0) hx hb dX11_isTongue_13 (by decide) ?_
    exact W.zret (v := 0) hx hb hr rfl (fun t ht hW => ⟨⟨0, (), rfl, Or.inl ⟨Or.inl c_1, rfl⟩, trivial⟩, hS.F ht⟩) hS.2.2 dX11_isTongue_14
  · refine lv_iload_n hx hb dX11_isTongue_4 rfl (lv_at hl 0 rfl) ?_
    refine lv_iconst (v := 4) hx hb dX11_isTongue_5 (by decide) ?_
    refine lv_icmp_ge (tgt := 13) hx hb dX11_isTongue_6 (by decide) (fun c_6 => ?_) (fun c_6 => ?_)
    · refine lv_iconst (v := 0) hx hb dX11_isTongue_13 (by decide) ?_
      exact W.zret (v := 0) hx hb hr rfl (fun t ht hW => ⟨⟨0, (), rfl, Or.inl ⟨Or.inr c_6, rfl⟩, trivial⟩, hS.F ht⟩) hS.2.2 dX11_isTongue_14
    · refine lv_iconst (v := 1) hx hb dX11_isTongue_9 (by decide) ?_
      refine lv_goto (tgt := 14) hx hb dX11_isTongue_10 (by decide) ?_
      exact W.zret (v := 1) hx hb hr rfl (fun t ht hW => ⟨⟨1, (), rfl, Or.inr ⟨fun q => q.elim c_1 c_6, rfl⟩, trivial⟩, hS.F ht⟩) hS.2.2 dX11_isTongue_14

set_option maxHeartbeats 4000000 in
set_option maxRecDepth 100000 in
theorem c_X11_addBytes_0 (l : Launch) (dC : Nat → ClassId) (dI : Nat → Nat → Nat) (sz : Nat) (h0 : Nat) (v_tape : Nat) (v_names : Nat) (v_borders : Nat) (v_programs : Nat) (v_draft : Nat) (v_parser : Nat) (v_machine : Nat) (c_v_tape : ClassId) (f_tape : Nat → Int32) (x1 : Int32) : Met l yX11_addBytes wsX11_addBytes ({ frames := 0, cells := 0, slots := 0, locals := 0 }) (va_Pc [.ref h0, .int x1] (fun U => xM (dC, dI) sz [(h0, .inr (10, [.ref v_tape, .int 0, .int 0, .ref v_names, .ref v_borders, .ref v_programs, .ref v_draft, .ref v_parser, .ref v_machine])), (v_tape, .inl (c_v_tape, 3000, .inl f_tape))] [(c_v_tape, .byte)] U)) (va_Qv (fun _ : Unit => True) (fun (_ : Unit) t => ∃ (f_4 : Nat → Int32), xB (dC, dI) [(h0, .inr (10, [.ref v_tape, .int 4, .int 0, .ref v_names, .ref v_borders, .ref v_programs, .ref v_draft, .ref v_parser, .ref v_machine])), (v_tape, .inl (c_v_tape, 3000, .inl f_4))] [(c_v_tape, .byte)] (va_A [(h0, .inr (10, [.ref v_tape, .int 0, .int 0, .ref v_names, .ref v_borders, .ref v_programs, .ref v_draft, .ref v_parser, .ref v_machine])), (v_tape, .inl (c_v_tape, 3000, .inl f_tape))] sz) t) (va_A [(h0, .inr (10, [.ref v_tape, .int 0, .int 0, .ref v_names, .ref v_borders, .ref v_programs, .ref v_draft, .ref v_parser, .ref v_machine])), (v_tape, .inl (c_v_tape, 3000, .inl f_tape))] sz)) 0 0 (va_A [(h0, .inr (10, [.ref v_tape, .int 0, .int 0, .ref v_names, .ref v_borders, .ref v_programs, .ref v_draft, .ref v_parser, .ref v_machine])), (v_tape, .inl (c_v_tape, 3000, .inl f_tape))] sz) := by
  refine Met.ofW (cc := cX11_addBytes) (maxL := 3) (ret := none) (by decide) rfl ?_
  intro p e s m args below meth c s₁ B hml hv
  obtain ⟨rfl, hsz, hP, hK, hD0⟩ := hv
  have hx := B.exec
  have hb := B.bytes
  have hr := B.returns
  have hts := atoms_spec (ws := wsX11_addBytes) B.pre
  have hown : s.vm.findClass RX11 = some m.cls := findClass_of_methodNamed B.named
  have hlocks := B.notSynchronized
  subst hsz
  have hD := hD0.self (sz := s.heap.size)
  generalize hAe : va_A [(h0, .inr (10, [.ref v_tape, .int 0, .int 0, .ref v_names, .ref v_borders, .ref v_programs, .ref v_draft, .ref v_parser, .ref v_machine])), (v_tape, .inl (c_v_tape, 3000, .inl f_tape))] s.heap.size = A at hD ⊢
  have hA : ∀ q : Nat, s.heap.size ≤ q → A q := fun q h => by rw [← hAe]; exact Or.inr h
  have hS : va_S A s.heap s.heap [] := va_S.rf
  have hl := lv_entry ([.ref h0, .int x1]) (n := 3) (Nat.le_of_ble_eq_true rfl)
  rw [lg_entry_eq]
  generalize (lg_sl ([.ref h0, .int x1]) ++ List.replicate (3 - (lg_sl ([.ref h0, .int x1])).length) Slot.unset).toArray = ls at hl ⊢
  have hl : lv_has ls 3 [(0, .ref h0), (1, .int x1)] := hl
  refine lv_bipush (v := 24) hx hb dX11_addBytes_0 (by decide) ?_
  refine lv_istore_n (lv' := [(2, .int 24), (0, .ref h0), (1, .int x1)]) hx hb dX11_addBytes_2 rfl hl (by decide) rfl (fun ls hl => ?_)
  refine lv_iload_n hx hb dX11_addBytes_3 rfl (lv_at hl 0 rfl) ?_
  refine lv_if_lt (tgt := 46) hx hb dX11_addBytes_4 (by decide) (fun c_4 => absurd c_4 (by decide)) (fun c_4 => ?_)
  refine lv_aload_n hx hb dX11_addBytes_7 rfl (lv_at hl 1 rfl) ?_
  refine va_get (D := (dC, dI)) (ci := 10) (v := .int 0) (C := RX11) (T := TX11) (N := 9) hx hb hts in_X11_addBytes_RX11 hown hK hP 0 rfl rfl 1 (by decide) (hts (.fieldLink RX11 13 "FourTongues" "taped" "I") (by decide +kernel)) (fun _ h9 => h9) rfl dX11_addBytes_8 ?_
  refine lv_sipush (v := 3000) hx hb dX11_addBytes_11 (by decide) ?_
  refine lv_icmp_ge (tgt := 46) hx hb dX11_addBytes_14 (by decide) (fun c_14 => absurd c_14 (by decide)) (fun c_14 => ?_)
  refine lv_aload_n hx hb dX11_addBytes_17 rfl (lv_at hl 1 rfl) ?_
  refine va_get (D := (dC, dI)) (ci := 10) (v := .ref v_tape) (C := RX11) (T := TX11) (N := 9) hx hb hts in_X11_addBytes_RX11 hown hK hP 0 rfl rfl 0 (by decide) (hts (.fieldLink RX11 9 "FourTongues" "tape" "[B") (by decide +kernel)) (fun _ h9 => h9) rfl dX11_addBytes_18 ?_
  refine lv_aload_n hx hb dX11_addBytes_21 rfl (lv_at hl 1 rfl) ?_
  refine va_get (D := (dC, dI)) (ci := 10) (v := .int 0) (C := RX11) (T := TX11) (N := 9) hx hb hts in_X11_addBytes_RX11 hown hK hP 0 rfl rfl 1 (by decide) (hts (.fieldLink RX11 13 "FourTongues" "taped" "I") (by decide +kernel)) (fun _ h9 => h9) rfl dX11_addBytes_22 ?_
  refine lv_iload_n hx hb dX11_addBytes_25 rfl (lv_at hl 2 rfl) ?_
  refine lv_iload_n hx hb dX11_addBytes_26 rfl (lv_at hl 0 rfl) ?_
  refine lv_ishr hx hb dX11_addBytes_27 ?_
  refine lv_i2b (v := (x1 >>> (24 &&& 31)).toInt8.toInt32) hx hb dX11_addBytes_28 rfl ?_
  refine va_bast hx hb hK hP hD hS 1 0 rfl rfl (by unfold vp_in; decide) dX11_addBytes_29 (fun H locs hP hD hS => ?_)
  obtain ⟨f_1, ef_1⟩ : ∃ y : Nat → Int32, y = upd f_tape ((0 : Int32).toNatClampNeg) (vp_nar .byte ((x1 >>> (24 &&& 31)).toInt8.toInt32)) := ⟨_, rfl⟩
  rw [← ef_1] at hP hD
  have hP : va_P (dC, dI) vwCl [(h0, .inr (10, [.ref v_tape, .int 0, .int 0, .ref v_names, .ref v_borders, .ref v_programs, .ref v_draft, .ref v_parser, .ref v_machine])), (v_tape, .inl (c_v_tape, 3000, .inl f_1))] _ := hP
  have hD : va_D A [(h0, .inr (10, [.ref v_tape, .int 0, .int 0, .ref v_names, .ref v_borders, .ref v_programs, .ref v_draft, .ref v_parser, .ref v_machine])), (v_tape, .inl (c_v_tape, 3000, .inl f_1))] := hD
  refine lv_aload_n hx hb dX11_addBytes_30 rfl (lv_at hl 1 rfl) ?_
  refine lv_dup hx hb dX11_addBytes_31 rfl ?_
  refine va_get (D := (dC, dI)) (ci := 10) (v := .int 0) (C := RX11) (T := TX11) (N := 9) hx hb hts in_X11_addBytes_RX11 hown hK hP 0 rfl rfl 1 (by decide) (hts (.fieldLink RX11 13 "FourTongues" "taped" "I") (by decide +kernel)) (fun _ h9 => h9) rfl dX11_addBytes_32 ?_
  refine lv_iconst (v := 1) hx hb dX11_addBytes_35 (by decide) ?_
  refine lv_iadd hx hb dX11_addBytes_36 ?_
  refine my_ti (v := 1) (by decide) ?_
  refine va_put (D := (dC, dI)) (ci := 10) (v := .int 1) (ty := .int) (C := RX11) (T := TX11) (N := 9) hx hb hts in_X11_addBytes_RX11 tyX11 tyX11_ok nmX11 hown hK hP hD hS 0 rfl rfl 1 (by decide) (hts (.fieldLink RX11 13 "FourTongues" "taped" "I") (by decide +kernel)) (fun _ h9 => h9) rfl (by decide +kernel) rfl rfl (Nat.le_of_ble_eq_true rfl) dX11_addBytes_37 (fun H locs hP hD hS => ?_)
  have hP : va_P (dC, dI) vwCl [(h0, .inr (10, [.ref v_tape, .int 1, .int 0, .ref v_names, .ref v_borders, .ref v_programs, .ref v_draft, .ref v_parser, .ref v_machine])), (v_tape, .inl (c_v_tape, 3000, .inl f_1))] _ := hP
  have hD : va_D A [(h0, .inr (10, [.ref v_tape, .int 1, .int 0, .ref v_names, .ref v_borders, .ref v_programs, .ref v_draft, .ref v_parser, .ref v_machine])), (v_tape, .inl (c_v_tape, 3000, .inl f_1))] := hD
  refine lv_iinc (v := 16) (lv' := [(2, .int 16), (0, .ref h0), (1, .int x1)]) hx hb dX11_addBytes_40 hl (k := 0) rfl (by decide) (by decide) rfl (fun ls hl => ?_)
  refine lv_goto (tgt := 3) hx hb dX11_addBytes_43 (by decide) ?_
  refine lv_iload_n hx hb dX11_addBytes_3 rfl (lv_at hl 0 rfl) ?_
  refine lv_if_lt (tgt := 46) hx hb dX11_addBytes_4 (by decide) (fun c_4 => absurd c_4 (by decide)) (fun c_4 => ?_)
  refine lv_aload_n hx hb dX11_addBytes_7 rfl (lv_at hl 1 rfl) ?_
  refine va_get (D := (dC, dI)) (ci := 10) (v := .int 1) (C := RX11) (T := TX11) (N := 9) hx hb hts in_X11_addBytes_RX11 hown hK hP 0 rfl rfl 1 (by decide) (hts (.fieldLink RX11 13 "FourTongues" "taped" "I") (by decide +kernel)) (fun _ h9 => h9) rfl dX11_addBytes_8 ?_
  refine lv_sipush (v := 3000) hx hb dX11_addBytes_11 (by decide) ?_
  refine lv_icmp_ge (tgt := 46) hx hb dX11_addBytes_14 (by decide) (fun c_14 => absurd c_14 (by decide)) (fun c_14 => ?_)
  refine lv_aload_n hx hb dX11_addBytes_17 rfl (lv_at hl 1 rfl) ?_
  refine va_get (D := (dC, dI)) (ci := 10) (v := .ref v_tape) (C := RX11) (T := TX11) (N := 9) hx hb hts in_X11_addBytes_RX11 hown hK hP 0 rfl rfl 0 (by decide) (hts (.fieldLink RX11 9 "FourTongues" "tape" "[B") (by decide +kernel)) (fun _ h9 => h9) rfl dX11_addBytes_18 ?_
  refine lv_aload_n hx hb dX11_addBytes_21 rfl (lv_at hl 1 rfl) ?_
  refine va_get (D := (dC, dI)) (ci := 10) (v := .int 1) (C := RX11) (T := TX11) (N := 9) hx hb hts in_X11_addBytes_RX11 hown hK hP 0 rfl rfl 1 (by decide) (hts (.fieldLink RX11 13 "FourTongues" "taped" "I") (by decide +kernel)) (fun _ h9 => h9) rfl dX11_addBytes_22 ?_
  refine lv_iload_n hx hb dX11_addBytes_25 rfl (lv_at hl 2 rfl) ?_
  refine lv_iload_n hx hb dX11_addBytes_26 rfl (lv_at hl 0 rfl) ?_
  refine lv_ishr hx hb dX11_addBytes_27 ?_
  refine lv_i2b (v := (x1 >>> (16 &&& 31)).toInt8.toInt32) hx hb dX11_addBytes_28 rfl ?_
  refine va_bast hx hb hK hP hD hS 1 0 rfl rfl (by unfold vp_in; decide) dX11_addBytes_29 (fun H locs hP hD hS => ?_)
  obtain ⟨f_2, ef_2⟩ : ∃ y : Nat → Int32, y = upd f_1 ((1 : Int32).toNatClampNeg) (vp_nar .byte ((x1 >>> (16 &&& 31)).toInt8.toInt32)) := ⟨_, rfl⟩
  rw [← ef_2] at hP hD
  have hP : va_P (dC, dI) vwCl [(h0, .inr (10, [.ref v_tape, .int 1, .int 0, .ref v_names, .ref v_borders, .ref v_programs, .ref v_draft, .ref v_parser, .ref v_machine])), (v_tape, .inl (c_v_tape, 3000, .inl f_2))] _ := hP
  have hD : va_D A [(h0, .inr (10, [.ref v_tape, .int 1, .int 0, .ref v_names, .ref v_borders, .ref v_programs, .ref v_draft, .ref v_parser, .ref v_machine])), (v_tape, .inl (c_v_tape, 3000, .inl f_2))] := hD
  refine lv_aload_n hx hb dX11_addBytes_30 rfl (lv_at hl 1 rfl) ?_
  refine lv_dup hx hb dX11_addBytes_31 rfl ?_
  refine va_get (D := (dC, dI)) (ci := 10) (v := .int 1) (C := RX11) (T := TX11) (N := 9) hx hb hts in_X11_addBytes_RX11 hown hK hP 0 rfl rfl 1 (by decide) (hts (.fieldLink RX11 13 "FourTongues" "taped" "I") (by decide +kernel)) (fun _ h9 => h9) rfl dX11_addBytes_32 ?_
  refine lv_iconst (v := 1) hx hb dX11_addBytes_35 (by decide) ?_
  refine lv_iadd hx hb dX11_addBytes_36 ?_
  refine my_ti (v := 2) (by decide) ?_
  refine va_put (D := (dC, dI)) (ci := 10) (v := .int 2) (ty := .int) (C := RX11) (T := TX11) (N := 9) hx hb hts in_X11_addBytes_RX11 tyX11 tyX11_ok nmX11 hown hK hP hD hS 0 rfl rfl 1 (by decide) (hts (.fieldLink RX11 13 "FourTongues" "taped" "I") (by decide +kernel)) (fun _ h9 => h9) rfl (by decide +kernel) rfl rfl (Nat.le_of_ble_eq_true rfl) dX11_addBytes_37 (fun H locs hP hD hS => ?_)
  have hP : va_P (dC, dI) vwCl [(h0, .inr (10, [.ref v_tape, .int 2, .int 0, .ref v_names, .ref v_borders, .ref v_programs, .ref v_draft, .ref v_parser, .ref v_machine])), (v_tape, .inl (c_v_tape, 3000, .inl f_2))] _ := hP
  have hD : va_D A [(h0, .inr (10, [.ref v_tape, .int 2, .int 0, .ref v_names, .ref v_borders, .ref v_programs, .ref v_draft, .ref v_parser, .ref v_machine])), (v_tape, .inl (c_v_tape, 3000, .inl f_2))] := hD
  refine lv_iinc (v := 8) (lv' := [(2, .int 8), (0, .ref h0), (1, .int x1)]) hx hb dX11_addBytes_40 hl (k := 0) rfl (by decide) (by decide) rfl (fun ls hl => ?_)
  refine lv_goto (tgt := 3) hx hb dX11_addBytes_43 (by decide) ?_
  refine lv_iload_n hx hb dX11_addBytes_3 rfl (lv_at hl 0 rfl) ?_
  refine lv_if_lt (tgt := 46) hx hb dX11_addBytes_4 (by decide) (fun c_4 => absurd c_4 (by decide)) (fun c_4 => ?_)
  refine lv_aload_n hx hb dX11_addBytes_7 rfl (lv_at hl 1 rfl) ?_
  refine va_get (D := (dC, dI)) (ci := 10) (v := .int 2) (C := RX11) (T := TX11) (N := 9) hx hb hts in_X11_addBytes_RX11 hown hK hP 0 rfl rfl 1 (by decide) (hts (.fieldLink RX11 13 "FourTongues" "taped" "I") (by decide +kernel)) (fun _ h9 => h9) rfl dX11_addBytes_8 ?_
  refine lv_sipush (v := 3000) hx hb dX11_addBytes_11 (by decide) ?_
  refine lv_icmp_ge (tgt := 46) hx hb dX11_addBytes_14 (by decide) (fun c_14 => absurd c_14 (by decide)) (fun c_14 => ?_)
  refine lv_aload_n hx hb dX11_addBytes_17 rfl (lv_at hl 1 rfl) ?_
  refine va_get (D := (dC, dI)) (ci := 10) (v := .ref v_tape) (C := RX11) (T := TX11) (N := 9) hx hb hts in_X11_addBytes_RX11 hown hK hP 0 rfl rfl 0 (by decide) (hts (.fieldLink RX11 9 "FourTongues" "tape" "[B") (by decide +kernel)) (fun _ h9 => h9) rfl dX11_addBytes_18 ?_
  refine lv_aload_n hx hb dX11_addBytes_21 rfl (lv_at hl 1 rfl) ?_
  refine va_get (D := (dC, dI)) (ci := 10) (v := .int 2) (C := RX11) (T := TX11) (N := 9) hx hb hts in_X11_addBytes_RX11 hown hK hP 0 rfl rfl 1 (by decide) (hts (.fieldLink RX11 13 "FourTongues" "taped" "I") (by decide +kernel)) (fun _ h9 => h9) rfl dX11_addBytes_22 ?_
  refine lv_iload_n hx hb dX11_addBytes_25 rfl (lv_at hl 2 rfl) ?_
  refine lv_iload_n hx hb dX11_addBytes_26 rfl (lv_at hl 0 rfl) ?_
  refine lv_ishr hx hb dX11_addBytes_27 ?_
  refine lv_i2b (v := (x1 >>> (8 &&& 31)).toInt8.toInt32) hx hb dX11_addBytes_28 rfl ?_
  refine va_bast hx hb hK hP hD hS 1 0 rfl rfl (by unfold vp_in; decide) dX11_addBytes_29 (fun H locs hP hD hS => ?_)
  obtain ⟨f_3, ef_3⟩ : ∃ y : Nat → Int32, y = upd f_2 ((2 : Int32).toNatClampNeg) (vp_nar .byte ((x1 >>> (8 &&& 31)).toInt8.toInt32)) := ⟨_, rfl⟩
  rw [← ef_3] at hP hD
  have hP : va_P (dC, dI) vwCl [(h0, .inr (10, [.ref v_tape, .int 2, .int 0, .ref v_names, .ref v_borders, .ref v_programs, .ref v_draft, .ref v_parser, .ref v_machine])), (v_tape, .inl (c_v_tape, 3000, .inl f_3))] _ := hP
  have hD : va_D A [(h0, .inr (10, [.ref v_tape, .int 2, .int 0, .ref v_names, .ref v_borders, .ref v_programs, .ref v_draft, .ref v_parser, .ref v_machine])), (v_tape, .inl (c_v_tape, 3000, .inl f_3))] := hD
  refine lv_aload_n hx hb dX11_addBytes_30 rfl (lv_at hl 1 rfl) ?_
  refine lv_dup hx hb dX11_addBytes_31 rfl ?_
  refine va_get (D := (dC, dI)) (ci := 10) (v := .int 2) (C := RX11) (T := TX11) (N := 9) hx hb hts in_X11_addBytes_RX11 hown hK hP 0 rfl rfl 1 (by decide) (hts (.fieldLink RX11 13 "FourTongues" "taped" "I") (by decide +kernel)) (fun _ h9 => h9) rfl dX11_addBytes_32 ?_
  refine lv_iconst (v := 1) hx hb dX11_addBytes_35 (by decide) ?_
  refine lv_iadd hx hb dX11_addBytes_36 ?_
  refine my_ti (v := 3) (by decide) ?_
  refine va_put (D := (dC, dI)) (ci := 10) (v := .int 3) (ty := .int) (C := RX11) (T := TX11) (N := 9) hx hb hts in_X11_addBytes_RX11 tyX11 tyX11_ok nmX11 hown hK hP hD hS 0 rfl rfl 1 (by decide) (hts (.fieldLink RX11 13 "FourTongues" "taped" "I") (by decide +kernel)) (fun _ h9 => h9) rfl (by decide +kernel) rfl rfl (Nat.le_of_ble_eq_true rfl) dX11_addBytes_37 (fun H locs hP hD hS => ?_)
  have hP : va_P (dC, dI) vwCl [(h0, .inr (10, [.ref v_tape, .int 3, .int 0, .ref v_names, .ref v_borders, .ref v_programs, .ref v_draft, .ref v_parser, .ref v_machine])), (v_tape, .inl (c_v_tape, 3000, .inl f_3))] _ := hP
  have hD : va_D A [(h0, .inr (10, [.ref v_tape, .int 3, .int 0, .ref v_names, .ref v_borders, .ref v_programs, .ref v_draft, .ref v_parser, .ref v_machine])), (v_tape, .inl (c_v_tape, 3000, .inl f_3))] := hD
  refine lv_iinc (v := 0) (lv' := [(2, .int 0), (0, .ref h0), (1, .int x1)]) hx hb dX11_addBytes_40 hl (k := 0) rfl (by decide) (by decide) rfl (fun ls hl => ?_)
  refine lv_goto (tgt := 3) hx hb dX11_addBytes_43 (by decide) ?_
  refine lv_iload_n hx hb dX11_addBytes_3 rfl (lv_at hl 0 rfl) ?_
  refine lv_if_lt (tgt := 46) hx hb dX11_addBytes_4 (by decide) (fun c_4 => absurd c_4 (by decide)) (fun c_4 => ?_)
  refine lv_aload_n hx hb dX11_addBytes_7 rfl (lv_at hl 1 rfl) ?_
  refine va_get (D := (dC, dI)) (ci := 10) (v := .int 3) (C := RX11) (T := TX11) (N := 9) hx hb hts in_X11_addBytes_RX11 hown hK hP 0 rfl rfl 1 (by decide) (hts (.fieldLink RX11 13 "FourTongues" "taped" "I") (by decide +kernel)) (fun _ h9 => h9) rfl dX11_addBytes_8 ?_
  refine lv_sipush (v := 3000) hx hb dX11_addBytes_11 (by decide) ?_
  refine lv_icmp_ge (tgt := 46) hx hb dX11_addBytes_14 (by decide) (fun c_14 => absurd c_14 (by decide)) (fun c_14 => ?_)
  refine lv_aload_n hx hb dX11_addBytes_17 rfl (lv_at hl 1 rfl) ?_
  refine va_get (D := (dC, dI)) (ci := 10) (v := .ref v_tape) (C := RX11) (T := TX11) (N := 9) hx hb hts in_X11_addBytes_RX11 hown hK hP 0 rfl rfl 0 (by decide) (hts (.fieldLink RX11 9 "FourTongues" "tape" "[B") (by decide +kernel)) (fun _ h9 => h9) rfl dX11_addBytes_18 ?_
  refine lv_aload_n hx hb dX11_addBytes_21 rfl (lv_at hl 1 rfl) ?_
  refine va_get (D := (dC, dI)) (ci := 10) (v := .int 3) (C := RX11) (T := TX11) (N := 9) hx hb hts in_X11_addBytes_RX11 hown hK hP 0 rfl rfl 1 (by decide) (hts (.fieldLink RX11 13 "FourTongues" "taped" "I") (by decide +kernel)) (fun _ h9 => h9) rfl dX11_addBytes_22 ?_
  refine lv_iload_n hx hb dX11_addBytes_25 rfl (lv_at hl 2 rfl) ?_
  refine lv_iload_n hx hb dX11_addBytes_26 rfl (lv_at hl 0 rfl) ?_
  refine lv_ishr hx hb dX11_addBytes_27 ?_
  refine lv_i2b (v := (x1 >>> (0 &&& 31)).toInt8.toInt32) hx hb dX11_addBytes_28 rfl ?_
  refine va_bast hx hb hK hP hD hS 1 0 rfl rfl (by unfold vp_in; decide) dX11_addBytes_29 (fun H locs hP hD hS => ?_)
  obtain ⟨f_4, ef_4⟩ : ∃ y : Nat → Int32, y = upd f_3 ((3 : Int32).toNatClampNeg) (vp_nar .byte ((x1 >>> (0 &&& 31)).toInt8.toInt32)) := ⟨_, rfl⟩
  rw [← ef_4] at hP hD
  have hP : va_P (dC, dI) vwCl [(h0, .inr (10, [.ref v_tape, .int 3, .int 0, .ref v_names, .ref v_borders, .ref v_programs, .ref v_draft, .ref v_parser, .ref v_machine])), (v_tape, .inl (c_v_tape, 3000, .inl f_4))] _ := hP
  have hD : va_D A [(h0, .inr (10, [.ref v_tape, .int 3, .int 0, .ref v_names, .ref v_borders, .ref v_programs, .ref v_draft, .ref v_parser, .ref v_machine])), (v_tape, .inl (c_v_tape, 3000, .inl f_4))] := hD
  refine lv_aload_n hx hb dX11_addBytes_30 rfl (lv_at hl 1 rfl) ?_
  refine lv_dup hx hb dX11_addBytes_31 rfl ?_
  refine va_get (D := (dC, dI)) (ci := 10) (v := .int 3) (C := RX11) (T := TX11) (N := 9) hx hb hts in_X11_addBytes_RX11 hown hK hP 0 rfl rfl 1 (by decide) (hts (.fieldLink RX11 13 "FourTongues" "taped" "I") (by decide +kernel)) (fun _ h9 => h9) rfl dX11_addBytes_32 ?_
  refine lv_iconst (v := 1) hx hb dX11_addBytes_35 (by decide) ?_
  refine lv_iadd hx hb dX11_addBytes_36 ?_
  refine my_ti (v := 4) (by decide) ?_
  refine va_put (D := (dC, dI)) (ci := 10) (v := .int 4) (ty := .int) (C := RX11) (T := TX11) (N := 9) hx hb hts in_X11_addBytes_RX11 tyX11 tyX11_ok nmX11 hown hK hP hD hS 0 rfl rfl 1 (by decide) (hts (.fieldLink RX11 13 "FourTongues" "taped" "I") (by decide +kernel)) (fun _ h9 => h9) rfl (by decide +kernel) rfl rfl (Nat.le_of_ble_eq_true rfl) dX11_addBytes_37 (fun H locs hP hD hS => ?_)
  have hP : va_P (dC, dI) vwCl [(h0, .inr (10, [.ref v_tape, .int 4, .int 0, .ref v_names, .ref v_borders, .ref v_programs, .ref v_draft, .ref v_parser, .ref v_machine])), (v_tape, .inl (c_v_tape, 3000, .inl f_4))] _ := hP
  have hD : va_D A [(h0, .inr (10, [.ref v_tape, .int 4, .int 0, .ref v_names, .ref v_borders, .ref v_programs, .ref v_draft, .ref v_parser, .ref v_machine])), (v_tape, .inl (c_v_tape, 3000, .inl f_4))] := hD
  refine lv_iinc (v := (-8)) (lv' := [(2, .int (-8)), (0, .ref h0), (1, .int x1)]) hx hb dX11_addBytes_40 hl (k := 0) rfl (by decide) (by decide) rfl (fun ls hl => ?_)
  refine lv_goto (tgt := 3) hx hb dX11_addBytes_43 (by decide) ?_
  refine lv_iload_n hx hb dX11_addBytes_3 rfl (lv_at hl 0 rfl) ?_
  refine lv_if_lt (tgt := 46) hx hb dX11_addBytes_4 (by decide) (fun c_4 => ?_) (fun c_4 => absurd c_4 (by decide))
  have hP9 := hP.sub (ws' := [(h0, .inr (10, [.ref v_tape, .int 4, .int 0, .ref v_names, .ref v_borders, .ref v_programs, .ref v_draft, .ref v_parser, .ref v_machine])), (v_tape, .inl (c_v_tape, 3000, .inl f_4))]) [0, 1] rfl
  have hD9 := hD.sub (ws' := [(h0, .inr (10, [.ref v_tape, .int 4, .int 0, .ref v_names, .ref v_borders, .ref v_programs, .ref v_draft, .ref v_parser, .ref v_machine])), (v_tape, .inl (c_v_tape, 3000, .inl f_4))]) [0, 1] (by decide) rfl
  have hK9 := hK.sub (tys' := [(c_v_tape, .byte)]) [0] rfl
  exact W.vret hx hb hr (fun t ht hW => ⟨⟨(), rfl, trivial, ⟨f_4, by rw [ht]; exact hP9, va_K.moved hW.alike hK9, hD9⟩⟩, hS.F ht⟩) hS.2.2 dX11_addBytes_46

set_option maxHeartbeats 4000000 in
set_option maxRecDepth 100000 in
theorem c_X11_addBytes_4 (l : Launch) (dC : Nat → ClassId) (dI : Nat → Nat → Nat) (sz : Nat) (h0 : Nat) (v_tape : Nat) (v_names : Nat) (v_borders : Nat) (v_programs : Nat) (v_draft : Nat) (v_parser : Nat) (v_machine : Nat) (c_v_tape : ClassId) (f_tape : Nat → Int32) (x1 : Int32) : Met l yX11_addBytes wsX11_addBytes ({ frames := 0, cells := 0, slots := 0, locals := 0 }) (va_Pc [.ref h0, .int x1] (fun U => xM (dC, dI) sz [(h0, .inr (10, [.ref v_tape, .int 4, .int 0, .ref v_names, .ref v_borders, .ref v_programs, .ref v_draft, .ref v_parser, .ref v_machine])), (v_tape, .inl (c_v_tape, 3000, .inl f_tape))] [(c_v_tape, .byte)] U)) (va_Qv (fun _ : Unit => True) (fun (_ : Unit) t => ∃ (f_4 : Nat → Int32), xB (dC, dI) [(h0, .inr (10, [.ref v_tape, .int 8, .int 0, .ref v_names, .ref v_borders, .ref v_programs, .ref v_draft, .ref v_parser, .ref v_machine])), (v_tape, .inl (c_v_tape, 3000, .inl f_4))] [(c_v_tape, .byte)] (va_A [(h0, .inr (10, [.ref v_tape, .int 4, .int 0, .ref v_names, .ref v_borders, .ref v_programs, .ref v_draft, .ref v_parser, .ref v_machine])), (v_tape, .inl (c_v_tape, 3000, .inl f_tape))] sz) t) (va_A [(h0, .inr (10, [.ref v_tape, .int 4, .int 0, .ref v_names, .ref v_borders, .ref v_programs, .ref v_draft, .ref v_parser, .ref v_machine])), (v_tape, .inl (c_v_tape, 3000, .inl f_tape))] sz)) 0 0 (va_A [(h0, .inr (10, [.ref v_tape, .int 4, .int 0, .ref v_names, .ref v_borders, .ref v_programs, .ref v_draft, .ref v_parser, .ref v_machine])), (v_tape, .inl (c_v_tape, 3000, .inl f_tape))] sz) := by
  refine Met.ofW (cc := cX11_addBytes) (maxL := 3) (ret := none) (by decide) rfl ?_
  intro p e s m args below meth c s₁ B hml hv
  obtain ⟨rfl, hsz, hP, hK, hD0⟩ := hv
  have hx := B.exec
  have hb := B.bytes
  have hr := B.returns
  have hts := atoms_spec (ws := wsX11_addBytes) B.pre
  have hown : s.vm.findClass RX11 = some m.cls := findClass_of_methodNamed B.named
  have hlocks := B.notSynchronized
  subst hsz
  have hD := hD0.self (sz := s.heap.size)
  generalize hAe : va_A [(h0, .inr (10, [.ref v_tape, .int 4, .int 0, .ref v_names, .ref v_borders, .ref v_programs, .ref v_draft, .ref v_parser, .ref v_machine])), (v_tape, .inl (c_v_tape, 3000, .inl f_tape))] s.heap.size = A at hD ⊢
  have hA : ∀ q : Nat, s.heap.size ≤ q → A q := fun q h => by rw [← hAe]; exact Or.inr h
  have hS : va_S A s.heap s.heap [] := va_S.rf
  have hl := lv_entry ([.ref h0, .int x1]) (n := 3) (Nat.le_of_ble_eq_true rfl)
  rw [lg_entry_eq]
  generalize (lg_sl ([.ref h0, .int x1]) ++ List.replicate (3 - (lg_sl ([.ref h0, .int x1])).length) Slot.unset).toArray = ls at hl ⊢
  have hl : lv_has ls 3 [(0, .ref h0), (1, .int x1)] := hl
  refine lv_bipush (v := 24) hx hb dX11_addBytes_0 (by decide) ?_
  refine lv_istore_n (lv' := [(2, .int 24), (0, .ref h0), (1, .int x1)]) hx hb dX11_addBytes_2 rfl hl (by decide) rfl (fun ls hl => ?_)
  refine lv_iload_n hx hb dX11_addBytes_3 rfl (lv_at hl 0 rfl) ?_
  refine lv_if_lt (tgt := 46) hx hb dX11_addBytes_4 (by decide) (fun c_4 => absurd c_4 (by decide)) (fun c_4 => ?_)
  refine lv_aload_n hx hb dX11_addBytes_7 rfl (lv_at hl 1 rfl) ?_
  refine va_get (D := (dC, dI)) (ci := 10) (v := .int 4) (C := RX11) (T := TX11) (N := 9) hx hb hts in_X11_addBytes_RX11 hown hK hP 0 rfl rfl 1 (by decide) (hts (.fieldLink RX11 13 "FourTongues" "taped" "I") (by decide +kernel)) (fun _ h9 => h9) rfl dX11_addBytes_8 ?_
  refine lv_sipush (v := 3000) hx hb dX11_addBytes_11 (by decide) ?_
  refine lv_icmp_ge (tgt := 46) hx hb dX11_addBytes_14 (by decide) (fun c_14 => absurd c_14 (by decide)) (fun c_14 => ?_)
  refine lv_aload_n hx hb dX11_addBytes_17 rfl (lv_at hl 1 rfl) ?_
  refine va_get (D := (dC, dI)) (ci := 10) (v := .ref v_tape) (C := RX11) (T := TX11) (N := 9) hx hb hts in_X11_addBytes_RX11 hown hK hP 0 rfl rfl 0 (by decide) (hts (.fieldLink RX11 9 "FourTongues" "tape" "[B") (by decide +kernel)) (fun _ h9 => h9) rfl dX11_addBytes_18 ?_
  refine lv_aload_n hx hb dX11_addBytes_21 rfl (lv_at hl 1 rfl) ?_
  refine va_get (D := (dC, dI)) (ci := 10) (v := .int 4) (C := RX11) (T := TX11) (N := 9) hx hb hts in_X11_addBytes_RX11 hown hK hP 0 rfl rfl 1 (by decide) (hts (.fieldLink RX11 13 "FourTongues" "taped" "I") (by decide +kernel)) (fun _ h9 => h9) rfl dX11_addBytes_22 ?_
  refine lv_iload_n hx hb dX11_addBytes_25 rfl (lv_at hl 2 rfl) ?_
  refine lv_iload_n hx hb dX11_addBytes_26 rfl (lv_at hl 0 rfl) ?_
  refine lv_ishr hx hb dX11_addBytes_27 ?_
  refine lv_i2b (v := (x1 >>> (24 &&& 31)).toInt8.toInt32) hx hb dX11_addBytes_28 rfl ?_
  refine va_bast hx hb hK hP hD hS 1 0 rfl rfl (by unfold vp_in; decide) dX11_addBytes_29 (fun H locs hP hD hS => ?_)
  obtain ⟨f_1, ef_1⟩ : ∃ y : Nat → Int32, y = upd f_tape ((4 : Int32).toNatClampNeg) (vp_nar .byte ((x1 >>> (24 &&& 31)).toInt8.toInt32)) := ⟨_, rfl⟩
  rw [← ef_1] at hP hD
  have hP : va_P (dC, dI) vwCl [(h0, .inr (10, [.ref v_tape, .int 4, .int 0, .ref v_names, .ref v_borders, .ref v_programs, .ref v_draft, .ref v_parser, .ref v_machine])), (v_tape, .inl (c_v_tape, 3000, .inl f_1))] _ := hP
  have hD : va_D A [(h0, .inr (10, [.ref v_tape, .int 4, .int 0, .ref v_names, .ref v_borders, .ref v_programs, .ref v_draft, .ref v_parser, .ref v_machine])), (v_tape, .inl (c_v_tape, 3000, .inl f_1))] := hD
  refine lv_aload_n hx hb dX11_addBytes_30 rfl (lv_at hl 1 rfl) ?_
  refine lv_dup hx hb dX11_addBytes_31 rfl ?_
  refine va_get (D := (dC, dI)) (ci := 10) (v := .int 4) (C := RX11) (T := TX11) (N := 9) hx hb hts in_X11_addBytes_RX11 hown hK hP 0 rfl rfl 1 (by decide) (hts (.fieldLink RX11 13 "FourTongues" "taped" "I") (by decide +kernel)) (fun _ h9 => h9) rfl dX11_addBytes_32 ?_
  refine lv_iconst (v := 1) hx hb dX11_addBytes_35 (by decide) ?_
  refine lv_iadd hx hb dX11_addBytes_36 ?_
  refine my_ti (v := 5) (by decide) ?_
  refine va_put (D := (dC, dI)) (ci := 10) (v := .int 5) (ty := .int) (C := RX11) (T := TX11) (N := 9) hx hb hts in_X11_addBytes_RX11 tyX11 tyX11_ok nmX11 hown hK hP hD hS 0 rfl rfl 1 (by decide) (hts (.fieldLink RX11 13 "FourTongues" "taped" "I") (by decide +kernel)) (fun _ h9 => h9) rfl (by decide +kernel) rfl rfl (Nat.le_of_ble_eq_true rfl) dX11_addBytes_37 (fun H locs hP hD hS => ?_)
  have hP : va_P (dC, dI) vwCl [(h0, .inr (10, [.ref v_tape, .int 5, .int 0, .ref v_names, .ref v_borders, .ref v_programs, .ref v_draft, .ref v_parser, .ref v_machine])), (v_tape, .inl (c_v_tape, 3000, .inl f_1))] _ := hP
  have hD : va_D A [(h0, .inr (10, [.ref v_tape, .int 5, .int 0, .ref v_names, .ref v_borders, .ref v_programs, .ref v_draft, .ref v_parser, .ref v_machine])), (v_tape, .inl (c_v_tape, 3000, .inl f_1))] := hD
  refine lv_iinc (v := 16) (lv' := [(2, .int 16), (0, .ref h0), (1, .int x1)]) hx hb dX11_addBytes_40 hl (k := 0) rfl (by decide) (by decide) rfl (fun ls hl => ?_)
  refine lv_goto (tgt := 3) hx hb dX11_addBytes_43 (by decide) ?_
  refine lv_iload_n hx hb dX11_addBytes_3 rfl (lv_at hl 0 rfl) ?_
  refine lv_if_lt (tgt := 46) hx hb dX11_addBytes_4 (by decide) (fun c_4 => absurd c_4 (by decide)) (fun c_4 => ?_)
  refine lv_aload_n hx hb dX11_addBytes_7 rfl (lv_at hl 1 rfl) ?_
  refine va_get (D := (dC, dI)) (ci := 10) (v := .int 5) (C := RX11) (T := TX11) (N := 9) hx hb hts in_X11_addBytes_RX11 hown hK hP 0 rfl rfl 1 (by decide) (hts (.fieldLink RX11 13 "FourTongues" "taped" "I") (by decide +kernel)) (fun _ h9 => h9) rfl dX11_addBytes_8 ?_
  refine lv_sipush (v := 3000) hx hb dX11_addBytes_11 (by decide) ?_
  refine lv_icmp_ge (tgt := 46) hx hb dX11_addBytes_14 (by decide) (fun c_14 => absurd c_14 (by decide)) (fun c_14 => ?_)
  refine lv_aload_n hx hb dX11_addBytes_17 rfl (lv_at hl 1 rfl) ?_
  refine va_get (D := (dC, dI)) (ci := 10) (v := .ref v_tape) (C := RX11) (T := TX11) (N := 9) hx hb hts in_X11_addBytes_RX11 hown hK hP 0 rfl rfl 0 (by decide) (hts (.fieldLink RX11 9 "FourTongues" "tape" "[B") (by decide +kernel)) (fun _ h9 => h9) rfl dX11_addBytes_18 ?_
  refine lv_aload_n hx hb dX11_addBytes_21 rfl (lv_at hl 1 rfl) ?_
  refine va_get (D := (dC, dI)) (ci := 10) (v := .int 5) (C := RX11) (T := TX11) (N := 9) hx hb hts in_X11_addBytes_RX11 hown hK hP 0 rfl rfl 1 (by decide) (hts (.fieldLink RX11 13 "FourTongues" "taped" "I") (by decide +kernel)) (fun _ h9 => h9) rfl dX11_addBytes_22 ?_
  refine lv_iload_n hx hb dX11_addBytes_25 rfl (lv_at hl 2 rfl) ?_
  refine lv_iload_n hx hb dX11_addBytes_26 rfl (lv_at hl 0 rfl) ?_
  refine lv_ishr hx hb dX11_addBytes_27 ?_
  refine lv_i2b (v := (x1 >>> (16 &&& 31)).toInt8.toInt32) hx hb dX11_addBytes_28 rfl ?_
  refine va_bast hx hb hK hP hD hS 1 0 rfl rfl (by unfold vp_in; decide) dX11_addBytes_29 (fun H locs hP hD hS => ?_)
  obtain ⟨f_2, ef_2⟩ : ∃ y : Nat → Int32, y = upd f_1 ((5 : Int32).toNatClampNeg) (vp_nar .byte ((x1 >>> (16 &&& 31)).toInt8.toInt32)) := ⟨_, rfl⟩
  rw [← ef_2] at hP hD
  have hP : va_P (dC, dI) vwCl [(h0, .inr (10, [.ref v_tape, .int 5, .int 0, .ref v_names, .ref v_borders, .ref v_programs, .ref v_draft, .ref v_parser, .ref v_machine])), (v_tape, .inl (c_v_tape, 3000, .inl f_2))] _ := hP
  have hD : va_D A [(h0, .inr (10, [.ref v_tape, .int 5, .int 0, .ref v_names, .ref v_borders, .ref v_programs, .ref v_draft, .ref v_parser, .ref v_machine])), (v_tape, .inl (c_v_tape, 3000, .inl f_2))] := hD
  refine lv_aload_n hx hb dX11_addBytes_30 rfl (lv_at hl 1 rfl) ?_
  refine lv_dup hx hb dX11_addBytes_31 rfl ?_
  refine va_get (D := (dC, dI)) (ci := 10) (v := .int 5) (C := RX11) (T := TX11) (N := 9) hx hb hts in_X11_addBytes_RX11 hown hK hP 0 rfl rfl 1 (by decide) (hts (.fieldLink RX11 13 "FourTongues" "taped" "I") (by decide +kernel)) (fun _ h9 => h9) rfl dX11_addBytes_32 ?_
  refine lv_iconst (v := 1) hx hb dX11_addBytes_35 (by decide) ?_
  refine lv_iadd hx hb dX11_addBytes_36 ?_
  refine my_ti (v := 6) (by decide) ?_
  refine va_put (D := (dC, dI)) (ci := 10) (v := .int 6) (ty := .int) (C := RX11) (T := TX11) (N := 9) hx hb hts in_X11_addBytes_RX11 tyX11 tyX11_ok nmX11 hown hK hP hD hS 0 rfl rfl 1 (by decide) (hts (.fieldLink RX11 13 "FourTongues" "taped" "I") (by decide +kernel)) (fun _ h9 => h9) rfl (by decide +kernel) rfl rfl (Nat.le_of_ble_eq_true rfl) dX11_addBytes_37 (fun H locs hP hD hS => ?_)
  have hP : va_P (dC, dI) vwCl [(h0, .inr (10, [.ref v_tape, .int 6, .int 0, .ref v_names, .ref v_borders, .ref v_programs, .ref v_draft, .ref v_parser, .ref v_machine])), (v_tape, .inl (c_v_tape, 3000, .inl f_2))] _ := hP
  have hD : va_D A [(h0, .inr (10, [.ref v_tape, .int 6, .int 0, .ref v_names, .ref v_borders, .ref v_programs, .ref v_draft, .ref v_parser, .ref v_machine])), (v_tape, .inl (c_v_tape, 3000, .inl f_2))] := hD
  refine lv_iinc (v := 8) (lv' := [(2, .int 8), (0, .ref h0), (1, .int x1)]) hx hb dX11_addBytes_40 hl (k := 0) rfl (by decide) (by decide) rfl (fun ls hl => ?_)
  refine lv_goto (tgt := 3) hx hb dX11_addBytes_43 (by decide) ?_
  refine lv_iload_n hx hb dX11_addBytes_3 rfl (lv_at hl 0 rfl) ?_
  refine lv_if_lt (tgt := 46) hx hb dX11_addBytes_4 (by decide) (fun c_4 => absurd c_4 (by decide)) (fun c_4 => ?_)
  refine lv_aload_n hx hb dX11_addBytes_7 rfl (lv_at hl 1 rfl) ?_
  refine va_get (D := (dC, dI)) (ci := 10) (v := .int 6) (C := RX11) (T := TX11) (N := 9) hx hb hts in_X11_addBytes_RX11 hown hK hP 0 rfl rfl 1 (by decide) (hts (.fieldLink RX11 13 "FourTongues" "taped" "I") (by decide +kernel)) (fun _ h9 => h9) rfl dX11_addBytes_8 ?_
  refine lv_sipush (v := 3000) hx hb dX11_addBytes_11 (by decide) ?_
  refine lv_icmp_ge (tgt := 46) hx hb dX11_addBytes_14 (by decide) (fun c_14 => absurd c_14 (by decide)) (fun c_14 => ?_)
  refine lv_aload_n hx hb dX11_addBytes_17 rfl (lv_at hl 1 rfl) ?_
  refine va_get (D := (dC, dI)) (ci := 10) (v := .ref v_tape) (C := RX11) (T := TX11) (N := 9) hx hb hts in_X11_addBytes_RX11 hown hK hP 0 rfl rfl 0 (by decide) (hts (.fieldLink RX11 9 "FourTongues" "tape" "[B") (by decide +kernel)) (fun _ h9 => h9) rfl dX11_addBytes_18 ?_
  refine lv_aload_n hx hb dX11_addBytes_21 rfl (lv_at hl 1 rfl) ?_
  refine va_get (D := (dC, dI)) (ci := 10) (v := .int 6) (C := RX11) (T := TX11) (N := 9) hx hb hts in_X11_addBytes_RX11 hown hK hP 0 rfl rfl 1 (by decide) (hts (.fieldLink RX11 13 "FourTongues" "taped" "I") (by decide +kernel)) (fun _ h9 => h9) rfl dX11_addBytes_22 ?_
  refine lv_iload_n hx hb dX11_addBytes_25 rfl (lv_at hl 2 rfl) ?_
  refine lv_iload_n hx hb dX11_addBytes_26 rfl (lv_at hl 0 rfl) ?_
  refine lv_ishr hx hb dX11_addBytes_27 ?_
  refine lv_i2b (v := (x1 >>> (8 &&& 31)).toInt8.toInt32) hx hb dX11_addBytes_28 rfl ?_
  refine va_bast hx hb hK hP hD hS 1 0 rfl rfl (by unfold vp_in; decide) dX11_addBytes_29 (fun H locs hP hD hS => ?_)
  obtain ⟨f_3, ef_3⟩ : ∃ y : Nat → Int32, y = upd f_2 ((6 : Int32).toNatClampNeg) (vp_nar .byte ((x1 >>> (8 &&& 31)).toInt8.toInt32)) := ⟨_, rfl⟩
  rw [← ef_3] at hP hD
  have hP : va_P (dC, dI) vwCl [(h0, .inr (10, [.ref v_tape, .int 6, .int 0, .ref v_names, .ref v_borders, .ref v_programs, .ref v_draft, .ref v_parser, .ref v_machine])), (v_tape, .inl (c_v_tape, 3000, .inl f_3))] _ := hP
  have hD : va_D A [(h0, .inr (10, [.ref v_tape, .int 6, .int 0, .ref v_names, .ref v_borders, .ref v_programs, .ref v_draft, .ref v_parser, .ref v_machine])), (v_tape, .inl (c_v_tape, 3000, .inl f_3))] := hD
  refine lv_aload_n hx hb dX11_addBytes_30 rfl (lv_at hl 1 rfl) ?_
  refine lv_dup hx hb dX11_addBytes_31 rfl ?_
  refine va_get (D := (dC, dI)) (ci := 10) (v := .int 6) (C := RX11) (T := TX11) (N := 9) hx hb hts in_X11_addBytes_RX11 hown hK hP 0 rfl rfl 1 (by decide) (hts (.fieldLink RX11 13 "FourTongues" "taped" "I") (by decide +kernel)) (fun _ h9 => h9) rfl dX11_addBytes_32 ?_
  refine lv_iconst (v := 1) hx hb dX11_addBytes_35 (by decide) ?_
  refine lv_iadd hx hb dX11_addBytes_36 ?_
  refine my_ti (v := 7) (by decide) ?_
  refine va_put (D := (dC, dI)) (ci := 10) (v := .int 7) (ty := .int) (C := RX11) (T := TX11) (N := 9) hx hb hts in_X11_addBytes_RX11 tyX11 tyX11_ok nmX11 hown hK hP hD hS 0 rfl rfl 1 (by decide) (hts (.fieldLink RX11 13 "FourTongues" "taped" "I") (by decide +kernel)) (fun _ h9 => h9) rfl (by decide +kernel) rfl rfl (Nat.le_of_ble_eq_true rfl) dX11_addBytes_37 (fun H locs hP hD hS => ?_)
  have hP : va_P (dC, dI) vwCl [(h0, .inr (10, [.ref v_tape, .int 7, .int 0, .ref v_names, .ref v_borders, .ref v_programs, .ref v_draft, .ref v_parser, .ref v_machine])), (v_tape, .inl (c_v_tape, 3000, .inl f_3))] _ := hP
  have hD : va_D A [(h0, .inr (10, [.ref v_tape, .int 7, .int 0, .ref v_names, .ref v_borders, .ref v_programs, .ref v_draft, .ref v_parser, .ref v_machine])), (v_tape, .inl (c_v_tape, 3000, .inl f_3))] := hD
  refine lv_iinc (v := 0) (lv' := [(2, .int 0), (0, .ref h0), (1, .int x1)]) hx hb dX11_addBytes_40 hl (k := 0) rfl (by decide) (by decide) rfl (fun ls hl => ?_)
  refine lv_goto (tgt := 3) hx hb dX11_addBytes_43 (by decide) ?_
  refine lv_iload_n hx hb dX11_addBytes_3 rfl (lv_at hl 0 rfl) ?_
  refine lv_if_lt (tgt := 46) hx hb dX11_addBytes_4 (by decide) (fun c_4 => absurd c_4 (by decide)) (fun c_4 => ?_)
  refine lv_aload_n hx hb dX11_addBytes_7 rfl (lv_at hl 1 rfl) ?_
  refine va_get (D := (dC, dI)) (ci := 10) (v := .int 7) (C := RX11) (T := TX11) (N := 9) hx hb hts in_X11_addBytes_RX11 hown hK hP 0 rfl rfl 1 (by decide) (hts (.fieldLink RX11 13 "FourTongues" "taped" "I") (by decide +kernel)) (fun _ h9 => h9) rfl dX11_addBytes_8 ?_
  refine lv_sipush (v := 3000) hx hb dX11_addBytes_11 (by decide) ?_
  refine lv_icmp_ge (tgt := 46) hx hb dX11_addBytes_14 (by decide) (fun c_14 => absurd c_14 (by decide)) (fun c_14 => ?_)
  refine lv_aload_n hx hb dX11_addBytes_17 rfl (lv_at hl 1 rfl) ?_
  refine va_get (D := (dC, dI)) (ci := 10) (v := .ref v_tape) (C := RX11) (T := TX11) (N := 9) hx hb hts in_X11_addBytes_RX11 hown hK hP 0 rfl rfl 0 (by decide) (hts (.fieldLink RX11 9 "FourTongues" "tape" "[B") (by decide +kernel)) (fun _ h9 => h9) rfl dX11_addBytes_18 ?_
  refine lv_aload_n hx hb dX11_addBytes_21 rfl (lv_at hl 1 rfl) ?_
  refine va_get (D := (dC, dI)) (ci := 10) (v := .int 7) (C := RX11) (T := TX11) (N := 9) hx hb hts in_X11_addBytes_RX11 hown hK hP 0 rfl rfl 1 (by decide) (hts (.fieldLink RX11 13 "FourTongues" "taped" "I") (by decide +kernel)) (fun _ h9 => h9) rfl dX11_addBytes_22 ?_
  refine lv_iload_n hx hb dX11_addBytes_25 rfl (lv_at hl 2 rfl) ?_
  refine lv_iload_n hx hb dX11_addBytes_26 rfl (lv_at hl 0 rfl) ?_
  refine lv_ishr hx hb dX11_addBytes_27 ?_
  refine lv_i2b (v := (x1 >>> (0 &&& 31)).toInt8.toInt32) hx hb dX11_addBytes_28 rfl ?_
  refine va_bast hx hb hK hP hD hS 1 0 rfl rfl (by unfold vp_in; decide) dX11_addBytes_29 (fun H locs hP hD hS => ?_)
  obtain ⟨f_4, ef_4⟩ : ∃ y : Nat → Int32, y = upd f_3 ((7 : Int32).toNatClampNeg) (vp_nar .byte ((x1 >>> (0 &&& 31)).toInt8.toInt32)) := ⟨_, rfl⟩
  rw [← ef_4] at hP hD
  have hP : va_P (dC, dI) vwCl [(h0, .inr (10, [.ref v_tape, .int 7, .int 0, .ref v_names, .ref v_borders, .ref v_programs, .ref v_draft, .ref v_parser, .ref v_machine])), (v_tape, .inl (c_v_tape, 3000, .inl f_4))] _ := hP
  have hD : va_D A [(h0, .inr (10, [.ref v_tape, .int 7, .int 0, .ref v_names, .ref v_borders, .ref v_programs, .ref v_draft, .ref v_parser, .ref v_machine])), (v_tape, .inl (c_v_tape, 3000, .inl f_4))] := hD
  refine lv_aload_n hx hb dX11_addBytes_30 rfl (lv_at hl 1 rfl) ?_
  refine lv_dup hx hb dX11_addBytes_31 rfl ?_
  refine va_get (D := (dC, dI)) (ci := 10) (v := .int 7) (C := RX11) (T := TX11) (N := 9) hx hb hts in_X11_addBytes_RX11 hown hK hP 0 rfl rfl 1 (by decide) (hts (.fieldLink RX11 13 "FourTongues" "taped" "I") (by decide +kernel)) (fun _ h9 => h9) rfl dX11_addBytes_32 ?_
  refine lv_iconst (v := 1) hx hb dX11_addBytes_35 (by decide) ?_
  refine lv_iadd hx hb dX11_addBytes_36 ?_
  refine my_ti (v := 8) (by decide) ?_
  refine va_put (D := (dC, dI)) (ci := 10) (v := .int 8) (ty := .int) (C := RX11) (T := TX11) (N := 9) hx hb hts in_X11_addBytes_RX11 tyX11 tyX11_ok nmX11 hown hK hP hD hS 0 rfl rfl 1 (by decide) (hts (.fieldLink RX11 13 "FourTongues" "taped" "I") (by decide +kernel)) (fun _ h9 => h9) rfl (by decide +kernel) rfl rfl (Nat.le_of_ble_eq_true rfl) dX11_addBytes_37 (fun H locs hP hD hS => ?_)
  have hP : va_P (dC, dI) vwCl [(h0, .inr (10, [.ref v_tape, .int 8, .int 0, .ref v_names, .ref v_borders, .ref v_programs, .ref v_draft, .ref v_parser, .ref v_machine])), (v_tape, .inl (c_v_tape, 3000, .inl f_4))] _ := hP
  have hD : va_D A [(h0, .inr (10, [.ref v_tape, .int 8, .int 0, .ref v_names, .ref v_borders, .ref v_programs, .ref v_draft, .ref v_parser, .ref v_machine])), (v_tape, .inl (c_v_tape, 3000, .inl f_4))] := hD
  refine lv_iinc (v := (-8)) (lv' := [(2, .int (-8)), (0, .ref h0), (1, .int x1)]) hx hb dX11_addBytes_40 hl (k := 0) rfl (by decide) (by decide) rfl (fun ls hl => ?_)
  refine lv_goto (tgt := 3) hx hb dX11_addBytes_43 (by decide) ?_
  refine lv_iload_n hx hb dX11_addBytes_3 rfl (lv_at hl 0 rfl) ?_
  refine lv_if_lt (tgt := 46) hx hb dX11_addBytes_4 (by decide) (fun c_4 => ?_) (fun c_4 => absurd c_4 (by decide))
  have hP9 := hP.sub (ws' := [(h0, .inr (10, [.ref v_tape, .int 8, .int 0, .ref v_names, .ref v_borders, .ref v_programs, .ref v_draft, .ref v_parser, .ref v_machine])), (v_tape, .inl (c_v_tape, 3000, .inl f_4))]) [0, 1] rfl
  have hD9 := hD.sub (ws' := [(h0, .inr (10, [.ref v_tape, .int 8, .int 0, .ref v_names, .ref v_borders, .ref v_programs, .ref v_draft, .ref v_parser, .ref v_machine])), (v_tape, .inl (c_v_tape, 3000, .inl f_4))]) [0, 1] (by decide) rfl
  have hK9 := hK.sub (tys' := [(c_v_tape, .byte)]) [0] rfl
  exact W.vret hx hb hr (fun t ht hW => ⟨⟨(), rfl, trivial, ⟨f_4, by rw [ht]; exact hP9, va_K.moved hW.alike hK9, hD9⟩⟩, hS.F ht⟩) hS.2.2 dX11_addBytes_46

set_option maxHeartbeats 4000000 in
set_option maxRecDepth 100000 in
theorem c_X11_addBytes_8 (l : Launch) (dC : Nat → ClassId) (dI : Nat → Nat → Nat) (sz : Nat) (h0 : Nat) (v_tape : Nat) (v_names : Nat) (v_borders : Nat) (v_programs : Nat) (v_draft : Nat) (v_parser : Nat) (v_machine : Nat) (c_v_tape : ClassId) (f_tape : Nat → Int32) (x1 : Int32) : Met l yX11_addBytes wsX11_addBytes ({ frames := 0, cells := 0, slots := 0, locals := 0 }) (va_Pc [.ref h0, .int x1] (fun U => xM (dC, dI) sz [(h0, .inr (10, [.ref v_tape, .int 8, .int 0, .ref v_names, .ref v_borders, .ref v_programs, .ref v_draft, .ref v_parser, .ref v_machine])), (v_tape, .inl (c_v_tape, 3000, .inl f_tape))] [(c_v_tape, .byte)] U)) (va_Qv (fun _ : Unit => True) (fun (_ : Unit) t => ∃ (f_4 : Nat → Int32), xB (dC, dI) [(h0, .inr (10, [.ref v_tape, .int 12, .int 0, .ref v_names, .ref v_borders, .ref v_programs, .ref v_draft, .ref v_parser, .ref v_machine])), (v_tape, .inl (c_v_tape, 3000, .inl f_4))] [(c_v_tape, .byte)] (va_A [(h0, .inr (10, [.ref v_tape, .int 8, .int 0, .ref v_names, .ref v_borders, .ref v_programs, .ref v_draft, .ref v_parser, .ref v_machine])), (v_tape, .inl (c_v_tape, 3000, .inl f_tape))] sz) t) (va_A [(h0, .inr (10, [.ref v_tape, .int 8, .int 0, .ref v_names, .ref v_borders, .ref v_programs, .ref v_draft, .ref v_parser, .ref v_machine])), (v_tape, .inl (c_v_tape, 3000, .inl f_tape))] sz)) 0 0 (va_A [(h0, .inr (10, [.ref v_tape, .int 8, .int 0, .ref v_names, .ref v_borders, .ref v_programs, .ref v_draft, .ref v_parser, .ref v_machine])), (v_tape, .inl (c_v_tape, 3000, .inl f_tape))] sz) := by
  refine Met.ofW (cc := cX11_addBytes) (maxL := 3) (ret := none) (by decide) rfl ?_
  intro p e s m args below meth c s₁ B hml hv
  obtain ⟨rfl, hsz, hP, hK, hD0⟩ := hv
  have hx := B.exec
  have hb := B.bytes
  have hr := B.returns
  have hts := atoms_spec (ws := wsX11_addBytes) B.pre
  have hown : s.vm.findClass RX11 = some m.cls := findClass_of_methodNamed B.named
  have hlocks := B.notSynchronized
  subst hsz
  have hD := hD0.self (sz := s.heap.size)
  generalize hAe : va_A [(h0, .inr (10, [.ref v_tape, .int 8, .int 0, .ref v_names, .ref v_borders, .ref v_programs, .ref v_draft, .ref v_parser, .ref v_machine])), (v_tape, .inl (c_v_tape, 3000, .inl f_tape))] s.heap.size = A at hD ⊢
  have hA : ∀ q : Nat, s.heap.size ≤ q → A q := fun q h => by rw [← hAe]; exact Or.inr h
  have hS : va_S A s.heap s.heap [] := va_S.rf
  have hl := lv_entry ([.ref h0, .int x1]) (n := 3) (Nat.le_of_ble_eq_true rfl)
  rw [lg_entry_eq]
  generalize (lg_sl ([.ref h0, .int x1]) ++ List.replicate (3 - (lg_sl ([.ref h0, .int x1])).length) Slot.unset).toArray = ls at hl ⊢
  have hl : lv_has ls 3 [(0, .ref h0), (1, .int x1)] := hl
  refine lv_bipush (v := 24) hx hb dX11_addBytes_0 (by decide) ?_
  refine lv_istore_n (lv' := [(2, .int 24), (0, .ref h0), (1, .int x1)]) hx hb dX11_addBytes_2 rfl hl (by decide) rfl (fun ls hl => ?_)
  refine lv_iload_n hx hb dX11_addBytes_3 rfl (lv_at hl 0 rfl) ?_
  refine lv_if_lt (tgt := 46) hx hb dX11_addBytes_4 (by decide) (fun c_4 => absurd c_4 (by decide)) (fun c_4 => ?_)
  refine lv_aload_n hx hb dX11_addBytes_7 rfl (lv_at hl 1 rfl) ?_
  refine va_get (D := (dC, dI)) (ci := 10) (v := .int 8) (C := RX11) (T := TX11) (N := 9) hx hb hts in_X11_addBytes_RX11 hown hK hP 0 rfl rfl 1 (by decide) (hts (.fieldLink RX11 13 "FourTongues" "taped" "I") (by decide +kernel)) (fun _ h9 => h9) rfl dX11_addBytes_8 ?_
  refine lv_sipush (v := 3000) hx hb dX11_addBytes_11 (by decide) ?_
  refine lv_icmp_ge (tgt := 46) hx hb dX11_addBytes_14 (by decide) (fun c_14 => absurd c_14 (by decide)) (fun c_14 => ?_)
  refine lv_aload_n hx hb dX11_addBytes_17 rfl (lv_at hl 1 rfl) ?_
  refine va_get (D := (dC, dI)) (ci := 10) (v := .ref v_tape) (C := RX11) (T := TX11) (N := 9) hx hb hts in_X11_addBytes_RX11 hown hK hP 0 rfl rfl 0 (by decide) (hts (.fieldLink RX11 9 "FourTongues" "tape" "[B") (by decide +kernel)) (fun _ h9 => h9) rfl dX11_addBytes_18 ?_
  refine lv_aload_n hx hb dX11_addBytes_21 rfl (lv_at hl 1 rfl) ?_
  refine va_get (D := (dC, dI)) (ci := 10) (v := .int 8) (C := RX11) (T := TX11) (N := 9) hx hb hts in_X11_addBytes_RX11 hown hK hP 0 rfl rfl 1 (by decide) (hts (.fieldLink RX11 13 "FourTongues" "taped" "I") (by decide +kernel)) (fun _ h9 => h9) rfl dX11_addBytes_22 ?_
  refine lv_iload_n hx hb dX11_addBytes_25 rfl (lv_at hl 2 rfl) ?_
  refine lv_iload_n hx hb dX11_addBytes_26 rfl (lv_at hl 0 rfl) ?_
  refine lv_ishr hx hb dX11_addBytes_27 ?_
  refine lv_i2b (v := (x1 >>> (24 &&& 31)).toInt8.toInt32) hx hb dX11_addBytes_28 rfl ?_
  refine va_bast hx hb hK hP hD hS 1 0 rfl rfl (by unfold vp_in; decide) dX11_addBytes_29 (fun H locs hP hD hS => ?_)
  obtain ⟨f_1, ef_1⟩ : ∃ y : Nat → Int32, y = upd f_tape ((8 : Int32).toNatClampNeg) (vp_nar .byte ((x1 >>> (24 &&& 31)).toInt8.toInt32)) := ⟨_, rfl⟩
  rw [← ef_1] at hP hD
  have hP : va_P (dC, dI) vwCl [(h0, .inr (10, [.ref v_tape, .int 8, .int 0, .ref v_names, .ref v_borders, .ref v_programs, .ref v_draft, .ref v_parser, .ref v_machine])), (v_tape, .inl (c_v_tape, 3000, .inl f_1))] _ := hP
  have hD : va_D A [(h0, .inr (10, [.ref v_tape, .int 8, .int 0, .ref v_names, .ref v_borders, .ref v_programs, .ref v_draft, .ref v_parser, .ref v_machine])), (v_tape, .inl (c_v_tape, 3000, .inl f_1))] := hD
  refine lv_aload_n hx hb dX11_addBytes_30 rfl (lv_at hl 1 rfl) ?_
  refine lv_dup hx hb dX11_addBytes_31 rfl ?_
  refine va_get (D := (dC, dI)) (ci := 10) (v := .int 8) (C := RX11) (T := TX11) (N := 9) hx hb hts in_X11_addBytes_RX11 hown hK hP 0 rfl rfl 1 (by decide) (hts (.fieldLink RX11 13 "FourTongues" "taped" "I") (by decide +kernel)) (fun _ h9 => h9) rfl dX11_addBytes_32 ?_
  refine lv_iconst (v := 1) hx hb dX11_addBytes_35 (by decide) ?_
  refine lv_iadd hx hb dX11_addBytes_36 ?_
  refine my_ti (v := 9) (by decide) ?_
  refine va_put (D := (dC, dI)) (ci := 10) (v := .int 9) (ty := .int) (C := RX11) (T := TX11) (N := 9) hx hb hts in_X11_addBytes_RX11 tyX11 tyX11_ok nmX11 hown hK hP hD hS 0 rfl rfl 1 (by decide) (hts (.fieldLink RX11 13 "FourTongues" "taped" "I") (by decide +kernel)) (fun _ h9 => h9) rfl (by decide +kernel) rfl rfl (Nat.le_of_ble_eq_true rfl) dX11_addBytes_37 (fun H locs hP hD hS => ?_)
  have hP : va_P (dC, dI) vwCl [(h0, .inr (10, [.ref v_tape, .int 9, .int 0, .ref v_names, .ref v_borders, .ref v_programs, .ref v_draft, .ref v_parser, .ref v_machine])), (v_tape, .inl (c_v_tape, 3000, .inl f_1))] _ := hP
  have hD : va_D A [(h0, .inr (10, [.ref v_tape, .int 9, .int 0, .ref v_names, .ref v_borders, .ref v_programs, .ref v_draft, .ref v_parser, .ref v_machine])), (v_tape, .inl (c_v_tape, 3000, .inl f_1))] := hD
  refine lv_iinc (v := 16) (lv' := [(2, .int 16), (0, .ref h0), (1, .int x1)]) hx hb dX11_addBytes_40 hl (k := 0) rfl (by decide) (by decide) rfl (fun ls hl => ?_)
  refine lv_goto (tgt := 3) hx hb dX11_addBytes_43 (by decide) ?_
  refine lv_iload_n hx hb dX11_addBytes_3 rfl (lv_at hl 0 rfl) ?_
  refine lv_if_lt (tgt := 46) hx hb dX11_addBytes_4 (by decide) (fun c_4 => absurd c_4 (by decide)) (fun c_4 => ?_)
  refine lv_aload_n hx hb dX11_addBytes_7 rfl (lv_at hl 1 rfl) ?_
  refine va_get (D := (dC, dI)) (ci := 10) (v := .int 9) (C := RX11) (T := TX11) (N := 9) hx hb hts in_X11_addBytes_RX11 hown hK hP 0 rfl rfl 1 (by decide) (hts (.fieldLink RX11 13 "FourTongues" "taped" "I") (by decide +kernel)) (fun _ h9 => h9) rfl dX11_addBytes_8 ?_
  refine lv_sipush (v := 3000) hx hb dX11_addBytes_11 (by decide) ?_
  refine lv_icmp_ge (tgt := 46) hx hb dX11_addBytes_14 (by decide) (fun c_14 => absurd c_14 (by decide)) (fun c_14 => ?_)
  refine lv_aload_n hx hb dX11_addBytes_17 rfl (lv_at hl 1 rfl) ?_
  refine va_get (D := (dC, dI)) (ci := 10) (v := .ref v_tape) (C := RX11) (T := TX11) (N := 9) hx hb hts in_X11_addBytes_RX11 hown hK hP 0 rfl rfl 0 (by decide) (hts (.fieldLink RX11 9 "FourTongues" "tape" "[B") (by decide +kernel)) (fun _ h9 => h9) rfl dX11_addBytes_18 ?_
  refine lv_aload_n hx hb dX11_addBytes_21 rfl (lv_at hl 1 rfl) ?_
  refine va_get (D := (dC, dI)) (ci := 10) (v := .int 9) (C := RX11) (T := TX11) (N := 9) hx hb hts in_X11_addBytes_RX11 hown hK hP 0 rfl rfl 1 (by decide) (hts (.fieldLink RX11 13 "FourTongues" "taped" "I") (by decide +kernel)) (fun _ h9 => h9) rfl dX11_addBytes_22 ?_
  refine lv_iload_n hx hb dX11_addBytes_25 rfl (lv_at hl 2 rfl) ?_
  refine lv_iload_n hx hb dX11_addBytes_26 rfl (lv_at hl 0 rfl) ?_
  refine lv_ishr hx hb dX11_addBytes_27 ?_
  refine lv_i2b (v := (x1 >>> (16 &&& 31)).toInt8.toInt32) hx hb dX11_addBytes_28 rfl ?_
  refine va_bast hx hb hK hP hD hS 1 0 rfl rfl (by unfold vp_in; decide) dX11_addBytes_29 (fun H locs hP hD hS => ?_)
  obtain ⟨f_2, ef_2⟩ : ∃ y : Nat → Int32, y = upd f_1 ((9 : Int32).toNatClampNeg) (vp_nar .byte ((x1 >>> (16 &&& 31)).toInt8.toInt32)) := ⟨_, rfl⟩
  rw [← ef_2] at hP hD
  have hP : va_P (dC, dI) vwCl [(h0, .inr (10, [.ref v_tape, .int 9, .int 0, .ref v_names, .ref v_borders, .ref v_programs, .ref v_draft, .ref v_parser, .ref v_machine])), (v_tape, .inl (c_v_tape, 3000, .inl f_2))] _ := hP
  have hD : va_D A [(h0, .inr (10, [.ref v_tape, .int 9, .int 0, .ref v_names, .ref v_borders, .ref v_programs, .ref v_draft, .ref v_parser, .ref v_machine])), (v_tape, .inl (c_v_tape, 3000, .inl f_2))] := hD
  refine lv_aload_n hx hb dX11_addBytes_30 rfl (lv_at hl 1 rfl) ?_
  refine lv_dup hx hb dX11_addBytes_31 rfl ?_
  refine va_get (D := (dC, dI)) (ci := 10) (v := .int 9) (C := RX11) (T := TX11) (N := 9) hx hb hts in_X11_addBytes_RX11 hown hK hP 0 rfl rfl 1 (by decide) (hts (.fieldLink RX11 13 "FourTongues" "taped" "I") (by decide +kernel)) (fun _ h9 => h9) rfl dX11_addBytes_32 ?_
  refine lv_iconst (v := 1) hx hb dX11_addBytes_35 (by decide) ?_
  refine lv_iadd hx hb dX11_addBytes_36 ?_
  refine my_ti (v := 10) (by decide) ?_
  refine va_put (D := (dC, dI)) (ci := 10) (v := .int 10) (ty := .int) (C := RX11) (T := TX11) (N := 9) hx hb hts in_X11_addBytes_RX11 tyX11 tyX11_ok nmX11 hown hK hP hD hS 0 rfl rfl 1 (by decide) (hts (.fieldLink RX11 13 "FourTongues" "taped" "I") (by decide +kernel)) (fun _ h9 => h9) rfl (by decide +kernel) rfl rfl (Nat.le_of_ble_eq_true rfl) dX11_addBytes_37 (fun H locs hP hD hS => ?_)
  have hP : va_P (dC, dI) vwCl [(h0, .inr (10, [.ref v_tape, .int 10, .int 0, .ref v_names, .ref v_borders, .ref v_programs, .ref v_draft, .ref v_parser, .ref v_machine])), (v_tape, .inl (c_v_tape, 3000, .inl f_2))] _ := hP
  have hD : va_D A [(h0, .inr (10, [.ref v_tape, .int 10, .int 0, .ref v_names, .ref v_borders, .ref v_programs, .ref v_draft, .ref v_parser, .ref v_machine])), (v_tape, .inl (c_v_tape, 3000, .inl f_2))] := hD
  refine lv_iinc (v := 8) (lv' := [(2, .int 8), (0, .ref h0), (1, .int x1)]) hx hb dX11_addBytes_40 hl (k := 0) rfl (by decide) (by decide) rfl (fun ls hl => ?_)
  refine lv_goto (tgt := 3) hx hb dX11_addBytes_43 (by decide) ?_
  refine lv_iload_n hx hb dX11_addBytes_3 rfl (lv_at hl 0 rfl) ?_
  refine lv_if_lt (tgt := 46) hx hb dX11_addBytes_4 (by decide) (fun c_4 => absurd c_4 (by decide)) (fun c_4 => ?_)
  refine lv_aload_n hx hb dX11_addBytes_7 rfl (lv_at hl 1 rfl) ?_
  refine va_get (D := (dC, dI)) (ci := 10) (v := .int 10) (C := RX11) (T := TX11) (N := 9) hx hb hts in_X11_addBytes_RX11 hown hK hP 0 rfl rfl 1 (by decide) (hts (.fieldLink RX11 13 "FourTongues" "taped" "I") (by decide +kernel)) (fun _ h9 => h9) rfl dX11_addBytes_8 ?_
  refine lv_sipush (v := 3000) hx hb dX11_addBytes_11 (by decide) ?_
  refine lv_icmp_ge (tgt := 46) hx hb dX11_addBytes_14 (by decide) (fun c_14 => absurd c_14 (by decide)) (fun c_14 => ?_)
  refine lv_aload_n hx hb dX11_addBytes_17 rfl (lv_at hl 1 rfl) ?_
  refine va_get (D := (dC, dI)) (ci := 10) (v := .ref v_tape) (C := RX11) (T := TX11) (N := 9) hx hb hts in_X11_addBytes_RX11 hown hK hP 0 rfl rfl 0 (by decide) (hts (.fieldLink RX11 9 "FourTongues" "tape" "[B") (by decide +kernel)) (fun _ h9 => h9) rfl dX11_addBytes_18 ?_
  refine lv_aload_n hx hb dX11_addBytes_21 rfl (lv_at hl 1 rfl) ?_
  refine va_get (D := (dC, dI)) (ci := 10) (v := .int 10) (C := RX11) (T := TX11) (N := 9) hx hb hts in_X11_addBytes_RX11 hown hK hP 0 rfl rfl 1 (by decide) (hts (.fieldLink RX11 13 "FourTongues" "taped" "I") (by decide +kernel)) (fun _ h9 => h9) rfl dX11_addBytes_22 ?_
  refine lv_iload_n hx hb dX11_addBytes_25 rfl (lv_at hl 2 rfl) ?_
  refine lv_iload_n hx hb dX11_addBytes_26 rfl (lv_at hl 0 rfl) ?_
  refine lv_ishr hx hb dX11_addBytes_27 ?_
  refine lv_i2b (v := (x1 >>> (8 &&& 31)).toInt8.toInt32) hx hb dX11_addBytes_28 rfl ?_
  refine va_bast hx hb hK hP hD hS 1 0 rfl rfl (by unfold vp_in; decide) dX11_addBytes_29 (fun H locs hP hD hS => ?_)
  obtain ⟨f_3, ef_3⟩ : ∃ y : Nat → Int32, y = upd f_2 ((10 : Int32).toNatClampNeg) (vp_nar .byte ((x1 >>> (8 &&& 31)).toInt8.toInt32)) := ⟨_, rfl⟩
  rw [← ef_3] at hP hD
  have hP : va_P (dC, dI) vwCl [(h0, .inr (10, [.ref v_tape, .int 10, .int 0, .ref v_names, .ref v_borders, .ref v_programs, .ref v_draft, .ref v_parser, .ref v_machine])), (v_tape, .inl (c_v_tape, 3000, .inl f_3))] _ := hP
  have hD : va_D A [(h0, .inr (10, [.ref v_tape, .int 10, .int 0, .ref v_names, .ref v_borders, .ref v_programs, .ref v_draft, .ref v_parser, .ref v_machine])), (v_tape, .inl (c_v_tape, 3000, .inl f_3))] := hD
  refine lv_aload_n hx hb dX11_addBytes_30 rfl (lv_at hl 1 rfl) ?_
  refine lv_dup hx hb dX11_addBytes_31 rfl ?_
  refine va_get (D := (dC, dI)) (ci := 10) (v := .int 10) (C := RX11) (T := TX11) (N := 9) hx hb hts in_X11_addBytes_RX11 hown hK hP 0 rfl rfl 1 (by decide) (hts (.fieldLink RX11 13 "FourTongues" "taped" "I") (by decide +kernel)) (fun _ h9 => h9) rfl dX11_addBytes_32 ?_
  refine lv_iconst (v := 1) hx hb dX11_addBytes_35 (by decide) ?_
  refine lv_iadd hx hb dX11_addBytes_36 ?_
  refine my_ti (v := 11) (by decide) ?_
  refine va_put (D := (dC, dI)) (ci := 10) (v := .int 11) (ty := .int) (C := RX11) (T := TX11) (N := 9) hx hb hts in_X11_addBytes_RX11 tyX11 tyX11_ok nmX11 hown hK hP hD hS 0 rfl rfl 1 (by decide) (hts (.fieldLink RX11 13 "FourTongues" "taped" "I") (by decide +kernel)) (fun _ h9 => h9) rfl (by decide +kernel) rfl rfl (Nat.le_of_ble_eq_true rfl) dX11_addBytes_37 (fun H locs hP hD hS => ?_)
  have hP : va_P (dC, dI) vwCl [(h0, .inr (10, [.ref v_tape, .int 11, .int 0, .ref v_names, .ref v_borders, .ref v_programs, .ref v_draft, .ref v_parser, .ref v_machine])), (v_tape, .inl (c_v_tape, 3000, .inl f_3))] _ := hP
  have hD : va_D A [(h0, .inr (10, [.ref v_tape, .int 11, .int 0, .ref v_names, .ref v_borders, .ref v_programs, .ref v_draft, .ref v_parser, .ref v_machine])), (v_tape, .inl (c_v_tape, 3000, .inl f_3))] := hD
  refine lv_iinc (v := 0) (lv' := [(2, .int 0), (0, .ref h0), (1, .int x1)]) hx hb dX11_addBytes_40 hl (k := 0) rfl (by decide) (by decide) rfl (fun ls hl => ?_)
  refine lv_goto (tgt := 3) hx hb dX11_addBytes_43 (by decide) ?_
  refine lv_iload_n hx hb dX11_addBytes_3 rfl (lv_at hl 0 rfl) ?_
  refine lv_if_lt (tgt := 46) hx hb dX11_addBytes_4 (by decide) (fun c_4 => absurd c_4 (by decide)) (fun c_4 => ?_)
  refine lv_aload_n hx hb dX11_addBytes_7 rfl (lv_at hl 1 rfl) ?_
  refine va_get (D := (dC, dI)) (ci := 10) (v := .int 11) (C := RX11) (T := TX11) (N := 9) hx hb hts in_X11_addBytes_RX11 hown hK hP 0 rfl rfl 1 (by decide) (hts (.fieldLink RX11 13 "FourTongues" "taped" "I") (by decide +kernel)) (fun _ h9 => h9) rfl dX11_addBytes_8 ?_
  refine lv_sipush (v := 3000) hx hb dX11_addBytes_11 (by decide) ?_
  refine lv_icmp_ge (tgt := 46) hx hb dX11_addBytes_14 (by decide) (fun c_14 => absurd c_14 (by decide)) (fun c_14 => ?_)
  refine lv_aload_n hx hb dX11_addBytes_17 rfl (lv_at hl 1 rfl) ?_
  refine va_get (D := (dC, dI)) (ci := 10) (v := .ref v_tape) (C := RX11) (T := TX11) (N := 9) hx hb hts in_X11_addBytes_RX11 hown hK hP 0 rfl rfl 0 (by decide) (hts (.fieldLink RX11 9 "FourTongues" "tape" "[B") (by decide +kernel)) (fun _ h9 => h9) rfl dX11_addBytes_18 ?_
  refine lv_aload_n hx hb dX11_addBytes_21 rfl (lv_at hl 1 rfl) ?_
  refine va_get (D := (dC, dI)) (ci := 10) (v := .int 11) (C := RX11) (T := TX11) (N := 9) hx hb hts in_X11_addBytes_RX11 hown hK hP 0 rfl rfl 1 (by decide) (hts (.fieldLink RX11 13 "FourTongues" "taped" "I") (by decide +kernel)) (fun _ h9 => h9) rfl dX11_addBytes_22 ?_
  refine lv_iload_n hx hb dX11_addBytes_25 rfl (lv_at hl 2 rfl) ?_
  refine lv_iload_n hx hb dX11_addBytes_26 rfl (lv_at hl 0 rfl) ?_
  refine lv_ishr hx hb dX11_addBytes_27 ?_
  refine lv_i2b (v := (x1 >>> (0 &&& 31)).toInt8.toInt32) hx hb dX11_addBytes_28 rfl ?_
  refine va_bast hx hb hK hP hD hS 1 0 rfl rfl (by unfold vp_in; decide) dX11_addBytes_29 (fun H locs hP hD hS => ?_)
  obtain ⟨f_4, ef_4⟩ : ∃ y : Nat → Int32, y = upd f_3 ((11 : Int32).toNatClampNeg) (vp_nar .byte ((x1 >>> (0 &&& 31)).toInt8.toInt32)) := ⟨_, rfl⟩
  rw [← ef_4] at hP hD
  have hP : va_P (dC, dI) vwCl [(h0, .inr (10, [.ref v_tape, .int 11, .int 0, .ref v_names, .ref v_borders, .ref v_programs, .ref v_draft, .ref v_parser, .ref v_machine])), (v_tape, .inl (c_v_tape, 3000, .inl f_4))] _ := hP
  have hD : va_D A [(h0, .inr (10, [.ref v_tape, .int 11, .int 0, .ref v_names, .ref v_borders, .ref v_programs, .ref v_draft, .ref v_parser, .ref v_machine])), (v_tape, .inl (c_v_tape, 3000, .inl f_4))] := hD
  refine lv_aload_n hx hb dX11_addBytes_30 rfl (lv_at hl 1 rfl) ?_
  refine lv_dup hx hb dX11_addBytes_31 rfl ?_
  refine va_get (D := (dC, dI)) (ci := 10) (v := .int 11) (C := RX11) (T := TX11) (N := 9) hx hb hts in_X11_addBytes_RX11 hown hK hP 0 rfl rfl 1 (by decide) (hts (.fieldLink RX11 13 "FourTongues" "taped" "I") (by decide +kernel)) (fun _ h9 => h9) rfl dX11_addBytes_32 ?_
  refine lv_iconst (v := 1) hx hb dX11_addBytes_35 (by decide) ?_
  refine lv_iadd hx hb dX11_addBytes_36 ?_
  refine my_ti (v := 12) (by decide) ?_
  refine va_put (D := (dC, dI)) (ci := 10) (v := .int 12) (ty := .int) (C := RX11) (T := TX11) (N := 9) hx hb hts in_X11_addBytes_RX11 tyX11 tyX11_ok nmX11 hown hK hP hD hS 0 rfl rfl 1 (by decide) (hts (.fieldLink RX11 13 "FourTongues" "taped" "I") (by decide +kernel)) (fun _ h9 => h9) rfl (by decide +kernel) rfl rfl (Nat.le_of_ble_eq_true rfl) dX11_addBytes_37 (fun H locs hP hD hS => ?_)
  have hP : va_P (dC, dI) vwCl [(h0, .inr (10, [.ref v_tape, .int 12, .int 0, .ref v_names, .ref v_borders, .ref v_programs, .ref v_draft, .ref v_parser, .ref v_machine])), (v_tape, .inl (c_v_tape, 3000, .inl f_4))] _ := hP
  have hD : va_D A [(h0, .inr (10, [.ref v_tape, .int 12, .int 0, .ref v_names, .ref v_borders, .ref v_programs, .ref v_draft, .ref v_parser, .ref v_machine])), (v_tape, .inl (c_v_tape, 3000, .inl f_4))] := hD
  refine lv_iinc (v := (-8)) (lv' := [(2, .int (-8)), (0, .ref h0), (1, .int x1)]) hx hb dX11_addBytes_40 hl (k := 0) rfl (by decide) (by decide) rfl (fun ls hl => ?_)
  refine lv_goto (tgt := 3) hx hb dX11_addBytes_43 (by decide) ?_
  refine lv_iload_n hx hb dX11_addBytes_3 rfl (lv_at hl 0 rfl) ?_
  refine lv_if_lt (tgt := 46) hx hb dX11_addBytes_4 (by decide) (fun c_4 => ?_) (fun c_4 => absurd c_4 (by decide))
  have hP9 := hP.sub (ws' := [(h0, .inr (10, [.ref v_tape, .int 12, .int 0, .ref v_names, .ref v_borders, .ref v_programs, .ref v_draft, .ref v_parser, .ref v_machine])), (v_tape, .inl (c_v_tape, 3000, .inl f_4))]) [0, 1] rfl
  have hD9 := hD.sub (ws' := [(h0, .inr (10, [.ref v_tape, .int 12, .int 0, .ref v_names, .ref v_borders, .ref v_programs, .ref v_draft, .ref v_parser, .ref v_machine])), (v_tape, .inl (c_v_tape, 3000, .inl f_4))]) [0, 1] (by decide) rfl
  have hK9 := hK.sub (tys' := [(c_v_tape, .byte)]) [0] rfl
  exact W.vret hx hb hr (fun t ht hW => ⟨⟨(), rfl, trivial, ⟨f_4, by rw [ht]; exact hP9, va_K.moved hW.alike hK9, hD9⟩⟩, hS.F ht⟩) hS.2.2 dX11_addBytes_46

set_option maxHeartbeats 4000000 in
set_option maxRecDepth 100000 in
theorem c_X11_addBytes_12 (l : Launch) (dC : Nat → ClassId) (dI : Nat → Nat → Nat) (sz : Nat) (h0 : Nat) (v_tape : Nat) (v_names : Nat) (v_borders : Nat) (v_programs : Nat) (v_draft : Nat) (v_parser : Nat) (v_machine : Nat) (c_v_tape : ClassId) (f_tape : Nat → Int32) (x1 : Int32) : Met l yX11_addBytes wsX11_addBytes ({ frames := 0, cells := 0, slots := 0, locals := 0 }) (va_Pc [.ref h0, .int x1] (fun U => xM (dC, dI) sz [(h0, .inr (10, [.ref v_tape, .int 12, .int 0, .ref v_names, .ref v_borders, .ref v_programs, .ref v_draft, .ref v_parser, .ref v_machine])), (v_tape, .inl (c_v_tape, 3000, .inl f_tape))] [(c_v_tape, .byte)] U)) (va_Qv (fun _ : Unit => True) (fun (_ : Unit) t => ∃ (f_4 : Nat → Int32), xB (dC, dI) [(h0, .inr (10, [.ref v_tape, .int 16, .int 0, .ref v_names, .ref v_borders, .ref v_programs, .ref v_draft, .ref v_parser, .ref v_machine])), (v_tape, .inl (c_v_tape, 3000, .inl f_4))] [(c_v_tape, .byte)] (va_A [(h0, .inr (10, [.ref v_tape, .int 12, .int 0, .ref v_names, .ref v_borders, .ref v_programs, .ref v_draft, .ref v_parser, .ref v_machine])), (v_tape, .inl (c_v_tape, 3000, .inl f_tape))] sz) t) (va_A [(h0, .inr (10, [.ref v_tape, .int 12, .int 0, .ref v_names, .ref v_borders, .ref v_programs, .ref v_draft, .ref v_parser, .ref v_machine])), (v_tape, .inl (c_v_tape, 3000, .inl f_tape))] sz)) 0 0 (va_A [(h0, .inr (10, [.ref v_tape, .int 12, .int 0, .ref v_names, .ref v_borders, .ref v_programs, .ref v_draft, .ref v_parser, .ref v_machine])), (v_tape, .inl (c_v_tape, 3000, .inl f_tape))] sz) := by
  refine Met.ofW (cc := cX11_addBytes) (maxL := 3) (ret := none) (by decide) rfl ?_
  intro p e s m args below meth c s₁ B hml hv
  obtain ⟨rfl, hsz, hP, hK, hD0⟩ := hv
  have hx := B.exec
  have hb := B.bytes
  have hr := B.returns
  have hts := atoms_spec (ws := wsX11_addBytes) B.pre
  have hown : s.vm.findClass RX11 = some m.cls := findClass_of_methodNamed B.named
  have hlocks := B.notSynchronized
  subst hsz
  have hD := hD0.self (sz := s.heap.size)
  generalize hAe : va_A [(h0, .inr (10, [.ref v_tape, .int 12, .int 0, .ref v_names, .ref v_borders, .ref v_programs, .ref v_draft, .ref v_parser, .ref v_machine])), (v_tape, .inl (c_v_tape, 3000, .inl f_tape))] s.heap.size = A at hD ⊢
  have hA : ∀ q : Nat, s.heap.size ≤ q → A q := fun q h => by rw [← hAe]; exact Or.inr h
  have hS : va_S A s.heap s.heap [] := va_S.rf
  have hl := lv_entry ([.ref h0, .int x1]) (n := 3) (Nat.le_of_ble_eq_true rfl)
  rw [lg_entry_eq]
  generalize (lg_sl ([.ref h0, .int x1]) ++ List.replicate (3 - (lg_sl ([.ref h0, .int x1])).length) Slot.unset).toArray = ls at hl ⊢
  have hl : lv_has ls 3 [(0, .ref h0), (1, .int x1)] := hl
  refine lv_bipush (v := 24) hx hb dX11_addBytes_0 (by decide) ?_
  refine lv_istore_n (lv' := [(2, .int 24), (0, .ref h0), (1, .int x1)]) hx hb dX11_addBytes_2 rfl hl (by decide) rfl (fun ls hl => ?_)
  refine lv_iload_n hx hb dX11_addBytes_3 rfl (lv_at hl 0 rfl) ?_
  refine lv_if_lt (tgt := 46) hx hb dX11_addBytes_4 (by decide) (fun c_4 => absurd c_4 (by decide)) (fun c_4 => ?_)
  refine lv_aload_n hx hb dX11_addBytes_7 rfl (lv_at hl 1 rfl) ?_
  refine va_get (D := (dC, dI)) (ci := 10) (v := .int 12) (C := RX11) (T := TX11) (N := 9) hx hb hts in_X11_addBytes_RX11 hown hK hP 0 rfl rfl 1 (by decide) (hts (.fieldLink RX11 13 "FourTongues" "taped" "I") (by decide +kernel)) (fun _ h9 => h9) rfl dX11_addBytes_8 ?_
  refine lv_sipush (v := 3000) hx hb dX11_addBytes_11 (by decide) ?_
  refine lv_icmp_ge (tgt := 46) hx hb dX11_addBytes_14 (by decide) (fun c_14 => absurd c_14 (by decide)) (fun c_14 => ?_)
  refine lv_aload_n hx hb dX11_addBytes_17 rfl (lv_at hl 1 rfl) ?_
  refine va_get (D := (dC, dI)) (ci := 10) (v := .ref v_tape) (C := RX11) (T := TX11) (N := 9) hx hb hts in_X11_addBytes_RX11 hown hK hP 0 rfl rfl 0 (by decide) (hts (.fieldLink RX11 9 "FourTongues" "tape" "[B") (by decide +kernel)) (fun _ h9 => h9) rfl dX11_addBytes_18 ?_
  refine lv_aload_n hx hb dX11_addBytes_21 rfl (lv_at hl 1 rfl) ?_
  refine va_get (D := (dC, dI)) (ci := 10) (v := .int 12) (C := RX11) (T := TX11) (N := 9) hx hb hts in_X11_addBytes_RX11 hown hK hP 0 rfl rfl 1 (by decide) (hts (.fieldLink RX11 13 "FourTongues" "taped" "I") (by decide +kernel)) (fun _ h9 => h9) rfl dX11_addBytes_22 ?_
  refine lv_iload_n hx hb dX11_addBytes_25 rfl (lv_at hl 2 rfl) ?_
  refine lv_iload_n hx hb dX11_addBytes_26 rfl (lv_at hl 0 rfl) ?_
  refine lv_ishr hx hb dX11_addBytes_27 ?_
  refine lv_i2b (v := (x1 >>> (24 &&& 31)).toInt8.toInt32) hx hb dX11_addBytes_28 rfl ?_
  refine va_bast hx hb hK hP hD hS 1 0 rfl rfl (by unfold vp_in; decide) dX11_addBytes_29 (fun H locs hP hD hS => ?_)
  obtain ⟨f_1, ef_1⟩ : ∃ y : Nat → Int32, y = upd f_tape ((12 : Int32).toNatClampNeg) (vp_nar .byte ((x1 >>> (24 &&& 31)).toInt8.toInt32)) := ⟨_, rfl⟩
  rw [← ef_1] at hP hD
  have hP : va_P (dC, dI) vwCl [(h0, .inr (10, [.ref v_tape, .int 12, .int 0, .ref v_names, .ref v_borders, .ref v_programs, .ref v_draft, .ref v_parser, .ref v_machine])), (v_tape, .inl (c_v_tape, 3000, .inl f_1))] _ := hP
  have hD : va_D A [(h0, .inr (10, [.ref v_tape, .int 12, .int 0, .ref v_names, .ref v_borders, .ref v_programs, .ref v_draft, .ref v_parser, .ref v_machine])), (v_tape, .inl (c_v_tape, 3000, .inl f_1))] := hD
  refine lv_aload_n hx hb dX11_addBytes_30 rfl (lv_at hl 1 rfl) ?_
  refine lv_dup hx hb dX11_addBytes_31 rfl ?_
  refine va_get (D := (dC, dI)) (ci := 10) (v := .int 12) (C := RX11) (T := TX11) (N := 9) hx hb hts in_X11_addBytes_RX11 hown hK hP 0 rfl rfl 1 (by decide) (hts (.fieldLink RX11 13 "FourTongues" "taped" "I") (by decide +kernel)) (fun _ h9 => h9) rfl dX11_addBytes_32 ?_
  refine lv_iconst (v := 1) hx hb dX11_addBytes_35 (by decide) ?_
  refine lv_iadd hx hb dX11_addBytes_36 ?_
  refine my_ti (v := 13) (by decide) ?_
  refine va_put (D := (dC, dI)) (ci := 10) (v := .int 13) (ty := .int) (C := RX11) (T := TX11) (N := 9) hx hb hts in_X11_addBytes_RX11 tyX11 tyX11_ok nmX11 hown hK hP hD hS 0 rfl rfl 1 (by decide) (hts (.fieldLink RX11 13 "FourTongues" "taped" "I") (by decide +kernel)) (fun _ h9 => h9) rfl (by decide +kernel) rfl rfl (Nat.le_of_ble_eq_true rfl) dX11_addBytes_37 (fun H locs hP hD hS => ?_)
  have hP : va_P (dC, dI) vwCl [(h0, .inr (10, [.ref v_tape, .int 13, .int 0, .ref v_names, .ref v_borders, .ref v_programs, .ref v_draft, .ref v_parser, .ref v_machine])), (v_tape, .inl (c_v_tape, 3000, .inl f_1))] _ := hP
  have hD : va_D A [(h0, .inr (10, [.ref v_tape, .int 13, .int 0, .ref v_names, .ref v_borders, .ref v_programs, .ref v_draft, .ref v_parser, .ref v_machine])), (v_tape, .inl (c_v_tape, 3000, .inl f_1))] := hD
  refine lv_iinc (v := 16) (lv' := [(2, .int 16), (0, .ref h0), (1, .int x1)]) hx hb dX11_addBytes_40 hl (k := 0) rfl (by decide) (by decide) rfl (fun ls hl => ?_)
  refine lv_goto (tgt := 3) hx hb dX11_addBytes_43 (by decide) ?_
  refine lv_iload_n hx hb dX11_addBytes_3 rfl (lv_at hl 0 rfl) ?_
  refine lv_if_lt (tgt := 46) hx hb dX11_addBytes_4 (by decide) (fun c_4 => absurd c_4 (by decide)) (fun c_4 => ?_)
  refine lv_aload_n hx hb dX11_addBytes_7 rfl (lv_at hl 1 rfl) ?_
  refine va_get (D := (dC, dI)) (ci := 10) (v := .int 13) (C := RX11) (T := TX11) (N := 9) hx hb hts in_X11_addBytes_RX11 hown hK hP 0 rfl rfl 1 (by decide) (hts (.fieldLink RX11 13 "FourTongues" "taped" "I") (by decide +kernel)) (fun _ h9 => h9) rfl dX11_addBytes_8 ?_
  refine lv_sipush (v := 3000) hx hb dX11_addBytes_11 (by decide) ?_
  refine lv_icmp_ge (tgt := 46) hx hb dX11_addBytes_14 (by decide) (fun c_14 => absurd c_14 (by decide)) (fun c_14 => ?_)
  refine lv_aload_n hx hb dX11_addBytes_17 rfl (lv_at hl 1 rfl) ?_
  refine va_get (D := (dC, dI)) (ci := 10) (v := .ref v_tape) (C := RX11) (T := TX11) (N := 9) hx hb hts in_X11_addBytes_RX11 hown hK hP 0 rfl rfl 0 (by decide) (hts (.fieldLink RX11 9 "FourTongues" "tape" "[B") (by decide +kernel)) (fun _ h9 => h9) rfl dX11_addBytes_18 ?_
  refine lv_aload_n hx hb dX11_addBytes_21 rfl (lv_at hl 1 rfl) ?_
  refine va_get (D := (dC, dI)) (ci := 10) (v := .int 13) (C := RX11) (T := TX11) (N := 9) hx hb hts in_X11_addBytes_RX11 hown hK hP 0 rfl rfl 1 (by decide) (hts (.fieldLink RX11 13 "FourTongues" "taped" "I") (by decide +kernel)) (fun _ h9 => h9) rfl dX11_addBytes_22 ?_
  refine lv_iload_n hx hb dX11_addBytes_25 rfl (lv_at hl 2 rfl) ?_
  refine lv_iload_n hx hb dX11_addBytes_26 rfl (lv_at hl 0 rfl) ?_
  refine lv_ishr hx hb dX11_addBytes_27 ?_
  refine lv_i2b (v := (x1 >>> (16 &&& 31)).toInt8.toInt32) hx hb dX11_addBytes_28 rfl ?_
  refine va_bast hx hb hK hP hD hS 1 0 rfl rfl (by unfold vp_in; decide) dX11_addBytes_29 (fun H locs hP hD hS => ?_)
  obtain ⟨f_2, ef_2⟩ : ∃ y : Nat → Int32, y = upd f_1 ((13 : Int32).toNatClampNeg) (vp_nar .byte ((x1 >>> (16 &&& 31)).toInt8.toInt32)) := ⟨_, rfl⟩
  rw [← ef_2] at hP hD
  have hP : va_P (dC, dI) vwCl [(h0, .inr (10, [.ref v_tape, .int 13, .int 0, .ref v_names, .ref v_borders, .ref v_programs, .ref v_draft, .ref v_parser, .ref v_machine])), (v_tape, .inl (c_v_tape, 3000, .inl f_2))] _ := hP
  have hD : va_D A [(h0, .inr (10, [.ref v_tape, .int 13, .int 0, .ref v_names, .ref v_borders, .ref v_programs, .ref v_draft, .ref v_parser, .ref v_machine])), (v_tape, .inl (c_v_tape, 3000, .inl f_2))] := hD
  refine lv_aload_n hx hb dX11_addBytes_30 rfl (lv_at hl 1 rfl) ?_
  refine lv_dup hx hb dX11_addBytes_31 rfl ?_
  refine va_get (D := (dC, dI)) (ci := 10) (v := .int 13) (C := RX11) (T := TX11) (N := 9) hx hb hts in_X11_addBytes_RX11 hown hK hP 0 rfl rfl 1 (by decide) (hts (.fieldLink RX11 13 "FourTongues" "taped" "I") (by decide +kernel)) (fun _ h9 => h9) rfl dX11_addBytes_32 ?_
  refine lv_iconst (v := 1) hx hb dX11_addBytes_35 (by decide) ?_
  refine lv_iadd hx hb dX11_addBytes_36 ?_
  refine my_ti (v := 14) (by decide) ?_
  refine va_put (D := (dC, dI)) (ci := 10) (v := .int 14) (ty := .int) (C := RX11) (T := TX11) (N := 9) hx hb hts in_X11_addBytes_RX11 tyX11 tyX11_ok nmX11 hown hK hP hD hS 0 rfl rfl 1 (by decide) (hts (.fieldLink RX11 13 "FourTongues" "taped" "I") (by decide +kernel)) (fun _ h9 => h9) rfl (by decide +kernel) rfl rfl (Nat.le_of_ble_eq_true rfl) dX11_addBytes_37 (fun H locs hP hD hS => ?_)
  have hP : va_P (dC, dI) vwCl [(h0, .inr (10, [.ref v_tape, .int 14, .int 0, .ref v_names, .ref v_borders, .ref v_programs, .ref v_draft, .ref v_parser, .ref v_machine])), (v_tape, .inl (c_v_tape, 3000, .inl f_2))] _ := hP
  have hD : va_D A [(h0, .inr (10, [.ref v_tape, .int 14, .int 0, .ref v_names, .ref v_borders, .ref v_programs, .ref v_draft, .ref v_parser, .ref v_machine])), (v_tape, .inl (c_v_tape, 3000, .inl f_2))] := hD
  refine lv_iinc (v := 8) (lv' := [(2, .int 8), (0, .ref h0), (1, .int x1)]) hx hb dX11_addBytes_40 hl (k := 0) rfl (by decide) (by decide) rfl (fun ls hl => ?_)
  refine lv_goto (tgt := 3) hx hb dX11_addBytes_43 (by decide) ?_
  refine lv_iload_n hx hb dX11_addBytes_3 rfl (lv_at hl 0 rfl) ?_
  refine lv_if_lt (tgt := 46) hx hb dX11_addBytes_4 (by decide) (fun c_4 => absurd c_4 (by decide)) (fun c_4 => ?_)
  refine lv_aload_n hx hb dX11_addBytes_7 rfl (lv_at hl 1 rfl) ?_
  refine va_get (D := (dC, dI)) (ci := 10) (v := .int 14) (C := RX11) (T := TX11) (N := 9) hx hb hts in_X11_addBytes_RX11 hown hK hP 0 rfl rfl 1 (by decide) (hts (.fieldLink RX11 13 "FourTongues" "taped" "I") (by decide +kernel)) (fun _ h9 => h9) rfl dX11_addBytes_8 ?_
  refine lv_sipush (v := 3000) hx hb dX11_addBytes_11 (by decide) ?_
  refine lv_icmp_ge (tgt := 46) hx hb dX11_addBytes_14 (by decide) (fun c_14 => absurd c_14 (by decide)) (fun c_14 => ?_)
  refine lv_aload_n hx hb dX11_addBytes_17 rfl (lv_at hl 1 rfl) ?_
  refine va_get (D := (dC, dI)) (ci := 10) (v := .ref v_tape) (C := RX11) (T := TX11) (N := 9) hx hb hts in_X11_addBytes_RX11 hown hK hP 0 rfl rfl 0 (by decide) (hts (.fieldLink RX11 9 "FourTongues" "tape" "[B") (by decide +kernel)) (fun _ h9 => h9) rfl dX11_addBytes_18 ?_
  refine lv_aload_n hx hb dX11_addBytes_21 rfl (lv_at hl 1 rfl) ?_
  refine va_get (D := (dC, dI)) (ci := 10) (v := .int 14) (C := RX11) (T := TX11) (N := 9) hx hb hts in_X11_addBytes_RX11 hown hK hP 0 rfl rfl 1 (by decide) (hts (.fieldLink RX11 13 "FourTongues" "taped" "I") (by decide +kernel)) (fun _ h9 => h9) rfl dX11_addBytes_22 ?_
  refine lv_iload_n hx hb dX11_addBytes_25 rfl (lv_at hl 2 rfl) ?_
  refine lv_iload_n hx hb dX11_addBytes_26 rfl (lv_at hl 0 rfl) ?_
  refine lv_ishr hx hb dX11_addBytes_27 ?_
  refine lv_i2b (v := (x1 >>> (8 &&& 31)).toInt8.toInt32) hx hb dX11_addBytes_28 rfl ?_
  refine va_bast hx hb hK hP hD hS 1 0 rfl rfl (by unfold vp_in; decide) dX11_addBytes_29 (fun H locs hP hD hS => ?_)
  obtain ⟨f_3, ef_3⟩ : ∃ y : Nat → Int32, y = upd f_2 ((14 : Int32).toNatClampNeg) (vp_nar .byte ((x1 >>> (8 &&& 31)).toInt8.toInt32)) := ⟨_, rfl⟩
  rw [← ef_3] at hP hD
  have hP : va_P (dC, dI) vwCl [(h0, .inr (10, [.ref v_tape, .int 14, .int 0, .ref v_names, .ref v_borders, .ref v_programs, .ref v_draft, .ref v_parser, .ref v_machine])), (v_tape, .inl (c_v_tape, 3000, .inl f_3))] _ := hP
  have hD : va_D A [(h0, .inr (10, [.ref v_tape, .int 14, .int 0, .ref v_names, .ref v_borders, .ref v_programs, .ref v_draft, .ref v_parser, .ref v_machine])), (v_tape, .inl (c_v_tape, 3000, .inl f_3))] := hD
  refine lv_aload_n hx hb dX11_addBytes_30 rfl (lv_at hl 1 rfl) ?_
  refine lv_dup hx hb dX11_addBytes_31 rfl ?_
  refine va_get (D := (dC, dI)) (ci := 10) (v := .int 14) (C := RX11) (T := TX11) (N := 9) hx hb hts in_X11_addBytes_RX11 hown hK hP 0 rfl rfl 1 (by decide) (hts (.fieldLink RX11 13 "FourTongues" "taped" "I") (by decide +kernel)) (fun _ h9 => h9) rfl dX11_addBytes_32 ?_
  refine lv_iconst (v := 1) hx hb dX11_addBytes_35 (by decide) ?_
  refine lv_iadd hx hb dX11_addBytes_36 ?_
  refine my_ti (v := 15) (by decide) ?_
  refine va_put (D := (dC, dI)) (ci := 10) (v := .int 15) (ty := .int) (C := RX11) (T := TX11) (N := 9) hx hb hts in_X11_addBytes_RX11 tyX11 tyX11_ok nmX11 hown hK hP hD hS 0 rfl rfl 1 (by decide) (hts (.fieldLink RX11 13 "FourTongues" "taped" "I") (by decide +kernel)) (fun _ h9 => h9) rfl (by decide +kernel) rfl rfl (Nat.le_of_ble_eq_true rfl) dX11_addBytes_37 (fun H locs hP hD hS => ?_)
  have hP : va_P (dC, dI) vwCl [(h0, .inr (10, [.ref v_tape, .int 15, .int 0, .ref v_names, .ref v_borders, .ref v_programs, .ref v_draft, .ref v_parser, .ref v_machine])), (v_tape, .inl (c_v_tape, 3000, .inl f_3))] _ := hP
  have hD : va_D A [(h0, .inr (10, [.ref v_tape, .int 15, .int 0, .ref v_names, .ref v_borders, .ref v_programs, .ref v_draft, .ref v_parser, .ref v_machine])), (v_tape, .inl (c_v_tape, 3000, .inl f_3))] := hD
  refine lv_iinc (v := 0) (lv' := [(2, .int 0), (0, .ref h0), (1, .int x1)]) hx hb dX11_addBytes_40 hl (k := 0) rfl (by decide) (by decide) rfl (fun ls hl => ?_)
  refine lv_goto (tgt := 3) hx hb dX11_addBytes_43 (by decide) ?_
  refine lv_iload_n hx hb dX11_addBytes_3 rfl (lv_at hl 0 rfl) ?_
  refine lv_if_lt (tgt := 46) hx hb dX11_addBytes_4 (by decide) (fun c_4 => absurd c_4 (by decide)) (fun c_4 => ?_)
  refine lv_aload_n hx hb dX11_addBytes_7 rfl (lv_at hl 1 rfl) ?_
  refine va_get (D := (dC, dI)) (ci := 10) (v := .int 15) (C := RX11) (T := TX11) (N := 9) hx hb hts in_X11_addBytes_RX11 hown hK hP 0 rfl rfl 1 (by decide) (hts (.fieldLink RX11 13 "FourTongues" "taped" "I") (by decide +kernel)) (fun _ h9 => h9) rfl dX11_addBytes_8 ?_
  refine lv_sipush (v := 3000) hx hb dX11_addBytes_11 (by decide) ?_
  refine lv_icmp_ge (tgt := 46) hx hb dX11_addBytes_14 (by decide) (fun c_14 => absurd c_14 (by decide)) (fun c_14 => ?_)
  refine lv_aload_n hx hb dX11_addBytes_17 rfl (lv_at hl 1 rfl) ?_
  refine va_get (D := (dC, dI)) (ci := 10) (v := .ref v_tape) (C := RX11) (T := TX11) (N := 9) hx hb hts in_X11_addBytes_RX11 hown hK hP 0 rfl rfl 0 (by decide) (hts (.fieldLink RX11 9 "FourTongues" "tape" "[B") (by decide +kernel)) (fun _ h9 => h9) rfl dX11_addBytes_18 ?_
  refine lv_aload_n hx hb dX11_addBytes_21 rfl (lv_at hl 1 rfl) ?_
  refine va_get (D := (dC, dI)) (ci := 10) (v := .int 15) (C := RX11) (T := TX11) (N := 9) hx hb hts in_X11_addBytes_RX11 hown hK hP 0 rfl rfl 1 (by decide) (hts (.fieldLink RX11 13 "FourTongues" "taped" "I") (by decide +kernel)) (fun _ h9 => h9) rfl dX11_addBytes_22 ?_
  refine lv_iload_n hx hb dX11_addBytes_25 rfl (lv_at hl 2 rfl) ?_
  refine lv_iload_n hx hb dX11_addBytes_26 rfl (lv_at hl 0 rfl) ?_
  refine lv_ishr hx hb dX11_addBytes_27 ?_
  refine lv_i2b (v := (x1 >>> (0 &&& 31)).toInt8.toInt32) hx hb dX11_addBytes_28 rfl ?_
  refine va_bast hx hb hK hP hD hS 1 0 rfl rfl (by unfold vp_in; decide) dX11_addBytes_29 (fun H locs hP hD hS => ?_)
  obtain ⟨f_4, ef_4⟩ : ∃ y : Nat → Int32, y = upd f_3 ((15 : Int32).toNatClampNeg) (vp_nar .byte ((x1 >>> (0 &&& 31)).toInt8.toInt32)) := ⟨_, rfl⟩
  rw [← ef_4] at hP hD
  have hP : va_P (dC, dI) vwCl [(h0, .inr (10, [.ref v_tape, .int 15, .int 0, .ref v_names, .ref v_borders, .ref v_programs, .ref v_draft, .ref v_parser, .ref v_machine])), (v_tape, .inl (c_v_tape, 3000, .inl f_4))] _ := hP
  have hD : va_D A [(h0, .inr (10, [.ref v_tape, .int 15, .int 0, .ref v_names, .ref v_borders, .ref v_programs, .ref v_draft, .ref v_parser, .ref v_machine])), (v_tape, .inl (c_v_tape, 3000, .inl f_4))] := hD
  refine lv_aload_n hx hb dX11_addBytes_30 rfl (lv_at hl 1 rfl) ?_
  refine lv_dup hx hb dX11_addBytes_31 rfl ?_
  refine va_get (D := (dC, dI)) (ci := 10) (v := .int 15) (C := RX11) (T := TX11) (N := 9) hx hb hts in_X11_addBytes_RX11 hown hK hP 0 rfl rfl 1 (by decide) (hts (.fieldLink RX11 13 "FourTongues" "taped" "I") (by decide +kernel)) (fun _ h9 => h9) rfl dX11_addBytes_32 ?_
  refine lv_iconst (v := 1) hx hb dX11_addBytes_35 (by decide) ?_
  refine lv_iadd hx hb dX11_addBytes_36 ?_
  refine my_ti (v := 16) (by decide) ?_
  refine va_put (D := (dC, dI)) (ci := 10) (v := .int 16) (ty := .int) (C := RX11) (T := TX11) (N := 9) hx hb hts in_X11_addBytes_RX11 tyX11 tyX11_ok nmX11 hown hK hP hD hS 0 rfl rfl 1 (by decide) (hts (.fieldLink RX11 13 "FourTongues" "taped" "I") (by decide +kernel)) (fun _ h9 => h9) rfl (by decide +kernel) rfl rfl (Nat.le_of_ble_eq_true rfl) dX11_addBytes_37 (fun H locs hP hD hS => ?_)
  have hP : va_P (dC, dI) vwCl [(h0, .inr (10, [.ref v_tape, .int 16, .int 0, .ref v_names, .ref v_borders, .ref v_programs, .ref v_draft, .ref v_parser, .ref v_machine])), (v_tape, .inl (c_v_tape, 3000, .inl f_4))] _ := hP
  have hD : va_D A [(h0, .inr (10, [.ref v_tape, .int 16, .int 0, .ref v_names, .ref v_borders, .ref v_programs, .ref v_draft, .ref v_parser, .ref v_machine])), (v_tape, .inl (c_v_tape, 3000, .inl f_4))] := hD
  refine lv_iinc (v := (-8)) (lv' := [(2, .int (-8)), (0, .ref h0), (1, .int x1)]) hx hb dX11_addBytes_40 hl (k := 0) rfl (by decide) (by decide) rfl (fun ls hl => ?_)
  refine lv_goto (tgt := 3) hx hb dX11_addBytes_43 (by decide) ?_
  refine lv_iload_n hx hb dX11_addBytes_3 rfl (lv_at hl 0 rfl) ?_
  refine lv_if_lt (tgt := 46) hx hb dX11_addBytes_4 (by decide) (fun c_4 => ?_) (fun c_4 => absurd c_4 (by decide))
  have hP9 := hP.sub (ws' := [(h0, .inr (10, [.ref v_tape, .int 16, .int 0, .ref v_names, .ref v_borders, .ref v_programs, .ref v_draft, .ref v_parser, .ref v_machine])), (v_tape, .inl (c_v_tape, 3000, .inl f_4))]) [0, 1] rfl
  have hD9 := hD.sub (ws' := [(h0, .inr (10, [.ref v_tape, .int 16, .int 0, .ref v_names, .ref v_borders, .ref v_programs, .ref v_draft, .ref v_parser, .ref v_machine])), (v_tape, .inl (c_v_tape, 3000, .inl f_4))]) [0, 1] (by decide) rfl
  have hK9 := hK.sub (tys' := [(c_v_tape, .byte)]) [0] rfl
  exact W.vret hx hb hr (fun t ht hW => ⟨⟨(), rfl, trivial, ⟨f_4, by rw [ht]; exact hP9, va_K.moved hW.alike hK9, hD9⟩⟩, hS.F ht⟩) hS.2.2 dX11_addBytes_46

set_option maxHeartbeats 4000000 in
set_option maxRecDepth 100000 in
theorem c_X11_addBytes_16 (l : Launch) (dC : Nat → ClassId) (dI : Nat → Nat → Nat) (sz : Nat) (h0 : Nat) (v_tape : Nat) (v_names : Nat) (v_borders : Nat) (v_programs : Nat) (v_draft : Nat) (v_parser : Nat) (v_machine : Nat) (c_v_tape : ClassId) (f_tape : Nat → Int32) (x1 : Int32) : Met l yX11_addBytes wsX11_addBytes ({ frames := 0, cells := 0, slots := 0, locals := 0 }) (va_Pc [.ref h0, .int x1] (fun U => xM (dC, dI) sz [(h0, .inr (10, [.ref v_tape, .int 16, .int 0, .ref v_names, .ref v_borders, .ref v_programs, .ref v_draft, .ref v_parser, .ref v_machine])), (v_tape, .inl (c_v_tape, 3000, .inl f_tape))] [(c_v_tape, .byte)] U)) (va_Qv (fun _ : Unit => True) (fun (_ : Unit) t => ∃ (f_4 : Nat → Int32), xB (dC, dI) [(h0, .inr (10, [.ref v_tape, .int 20, .int 0, .ref v_names, .ref v_borders, .ref v_programs, .ref v_draft, .ref v_parser, .ref v_machine])), (v_tape, .inl (c_v_tape, 3000, .inl f_4))] [(c_v_tape, .byte)] (va_A [(h0, .inr (10, [.ref v_tape, .int 16, .int 0, .ref v_names, .ref v_borders, .ref v_programs, .ref v_draft, .ref v_parser, .ref v_machine])), (v_tape, .inl (c_v_tape, 3000, .inl f_tape))] sz) t) (va_A [(h0, .inr (10, [.ref v_tape, .int 16, .int 0, .ref v_names, .ref v_borders, .ref v_programs, .ref v_draft, .ref v_parser, .ref v_machine])), (v_tape, .inl (c_v_tape, 3000, .inl f_tape))] sz)) 0 0 (va_A [(h0, .inr (10, [.ref v_tape, .int 16, .int 0, .ref v_names, .ref v_borders, .ref v_programs, .ref v_draft, .ref v_parser, .ref v_machine])), (v_tape, .inl (c_v_tape, 3000, .inl f_tape))] sz) := by
  refine Met.ofW (cc := cX11_addBytes) (maxL := 3) (ret := none) (by decide) rfl ?_
  intro p e s m args below meth c s₁ B hml hv
  obtain ⟨rfl, hsz, hP, hK, hD0⟩ := hv
  have hx := B.exec
  have hb := B.bytes
  have hr := B.returns
  have hts := atoms_spec (ws := wsX11_addBytes) B.pre
  have hown : s.vm.findClass RX11 = some m.cls := findClass_of_methodNamed B.named
  have hlocks := B.notSynchronized
  subst hsz
  have hD := hD0.self (sz := s.heap.size)
  generalize hAe : va_A [(h0, .inr (10, [.ref v_tape, .int 16, .int 0, .ref v_names, .ref v_borders, .ref v_programs, .ref v_draft, .ref v_parser, .ref v_machine])), (v_tape, .inl (c_v_tape, 3000, .inl f_tape))] s.heap.size = A at hD ⊢
  have hA : ∀ q : Nat, s.heap.size ≤ q → A q := fun q h => by rw [← hAe]; exact Or.inr h
  have hS : va_S A s.heap s.heap [] := va_S.rf
  have hl := lv_entry ([.ref h0, .int x1]) (n := 3) (Nat.le_of_ble_eq_true rfl)
  rw [lg_entry_eq]
  generalize (lg_sl ([.ref h0, .int x1]) ++ List.replicate (3 - (lg_sl ([.ref h0, .int x1])).length) Slot.unset).toArray = ls at hl ⊢
  have hl : lv_has ls 3 [(0, .ref h0), (1, .int x1)] := hl
  refine lv_bipush (v := 24) hx hb dX11_addBytes_0 (by decide) ?_
  refine lv_istore_n (lv' := [(2, .int 24), (0, .ref h0), (1, .int x1)]) hx hb dX11_addBytes_2 rfl hl (by decide) rfl (fun ls hl => ?_)
  refine lv_iload_n hx hb dX11_addBytes_3 rfl (lv_at hl 0 rfl) ?_
  refine lv_if_lt (tgt := 46) hx hb dX11_addBytes_4 (by decide) (fun c_4 => absurd c_4 (by decide)) (fun c_4 => ?_)
  refine lv_aload_n hx hb dX11_addBytes_7 rfl (lv_at hl 1 rfl) ?_
  refine va_get (D := (dC, dI)) (ci := 10) (v := .int 16) (C := RX11) (T := TX11) (N := 9) hx hb hts in_X11_addBytes_RX11 hown hK hP 0 rfl rfl 1 (by decide) (hts (.fieldLink RX11 13 "FourTongues" "taped" "I") (by decide +kernel)) (fun _ h9 => h9) rfl dX11_addBytes_8 ?_
  refine lv_sipush (v := 3000) hx hb dX11_addBytes_11 (by decide) ?_
  refine lv_icmp_ge (tgt := 46) hx hb dX11_addBytes_14 (by decide) (fun c_14 => absurd c_14 (by decide)) (fun c_14 => ?_)
  refine lv_aload_n hx hb dX11_addBytes_17 rfl (lv_at hl 1 rfl) ?_
  refine va_get (D := (dC, dI)) (ci := 10) (v := .ref v_tape) (C := RX11) (T := TX11) (N := 9) hx hb hts in_X11_addBytes_RX11 hown hK hP 0 rfl rfl 0 (by decide) (hts (.fieldLink RX11 9 "FourTongues" "tape" "[B") (by decide +kernel)) (fun _ h9 => h9) rfl dX11_addBytes_18 ?_
  refine lv_aload_n hx hb dX11_addBytes_21 rfl (lv_at hl 1 rfl) ?_
  refine va_get (D := (dC, dI)) (ci := 10) (v := .int 16) (C := RX11) (T := TX11) (N := 9) hx hb hts in_X11_addBytes_RX11 hown hK hP 0 rfl rfl 1 (by decide) (hts (.fieldLink RX11 13 "FourTongues" "taped" "I") (by decide +kernel)) (fun _ h9 => h9) rfl dX11_addBytes_22 ?_
  refine lv_iload_n hx hb dX11_addBytes_25 rfl (lv_at hl 2 rfl) ?_
  refine lv_iload_n hx hb dX11_addBytes_26 rfl (lv_at hl 0 rfl) ?_
  refine lv_ishr hx hb dX11_addBytes_27 ?_
  refine lv_i2b (v := (x1 >>> (24 &&& 31)).toInt8.toInt32) hx hb dX11_addBytes_28 rfl ?_
  refine va_bast hx hb hK hP hD hS 1 0 rfl rfl (by unfold vp_in; decide) dX11_addBytes_29 (fun H locs hP hD hS => ?_)
  obtain ⟨f_1, ef_1⟩ : ∃ y : Nat → Int32, y = upd f_tape ((16 : Int32).toNatClampNeg) (vp_nar .byte ((x1 >>> (24 &&& 31)).toInt8.toInt32)) := ⟨_, rfl⟩
  rw [← ef_1] at hP hD
  have hP : va_P (dC, dI) vwCl [(h0, .inr (10, [.ref v_tape, .int 16, .int 0, .ref v_names, .ref v_borders, .ref v_programs, .ref v_draft, .ref v_parser, .ref v_machine])), (v_tape, .inl (c_v_tape, 3000, .inl f_1))] _ := hP
  have hD : va_D A [(h0, .inr (10, [.ref v_tape, .int 16, .int 0, .ref v_names, .ref v_borders, .ref v_programs, .ref v_draft, .ref v_parser, .ref v_machine])), (v_tape, .inl (c_v_tape, 3000, .inl f_1))] := hD
  refine lv_aload_n hx hb dX11_addBytes_30 rfl (lv_at hl 1 rfl) ?_
  refine lv_dup hx hb dX11_addBytes_31 rfl ?_
  refine va_get (D := (dC, dI)) (ci := 10) (v := .int 16) (C := RX11) (T := TX11) (N := 9) hx hb hts in_X11_addBytes_RX11 hown hK hP 0 rfl rfl 1 (by decide) (hts (.fieldLink RX11 13 "FourTongues" "taped" "I") (by decide +kernel)) (fun _ h9 => h9) rfl dX11_addBytes_32 ?_
  refine lv_iconst (v := 1) hx hb dX11_addBytes_35 (by decide) ?_
  refine lv_iadd hx hb dX11_addBytes_36 ?_
  refine my_ti (v := 17) (by decide) ?_
  refine va_put (D := (dC, dI)) (ci := 10) (v := .int 17) (ty := .int) (C := RX11) (T := TX11) (N := 9) hx hb hts in_X11_addBytes_RX11 tyX11 tyX11_ok nmX11 hown hK hP hD hS 0 rfl rfl 1 (by decide) (hts (.fieldLink RX11 13 "FourTongues" "taped" "I") (by decide +kernel)) (fun _ h9 => h9) rfl (by decide +kernel) rfl rfl (Nat.le_of_ble_eq_true rfl) dX11_addBytes_37 (fun H locs hP hD hS => ?_)
  have hP : va_P (dC, dI) vwCl [(h0, .inr (10, [.ref v_tape, .int 17, .int 0, .ref v_names, .ref v_borders, .ref v_programs, .ref v_draft, .ref v_parser, .ref v_machine])), (v_tape, .inl (c_v_tape, 3000, .inl f_1))] _ := hP
  have hD : va_D A [(h0, .inr (10, [.ref v_tape, .int 17, .int 0, .ref v_names, .ref v_borders, .ref v_programs, .ref v_draft, .ref v_parser, .ref v_machine])), (v_tape, .inl (c_v_tape, 3000, .inl f_1))] := hD
  refine lv_iinc (v := 16) (lv' := [(2, .int 16), (0, .ref h0), (1, .int x1)]) hx hb dX11_addBytes_40 hl (k := 0) rfl (by decide) (by decide) rfl (fun ls hl => ?_)
  refine lv_goto (tgt := 3) hx hb dX11_addBytes_43 (by decide) ?_
  refine lv_iload_n hx hb dX11_addBytes_3 rfl (lv_at hl 0 rfl) ?_
  refine lv_if_lt (tgt := 46) hx hb dX11_addBytes_4 (by decide) (fun c_4 => absurd c_4 (by decide)) (fun c_4 => ?_)
  refine lv_aload_n hx hb dX11_addBytes_7 rfl (lv_at hl 1 rfl) ?_
  refine va_get (D := (dC, dI)) (ci := 10) (v := .int 17) (C := RX11) (T := TX11) (N := 9) hx hb hts in_X11_addBytes_RX11 hown hK hP 0 rfl rfl 1 (by decide) (hts (.fieldLink RX11 13 "FourTongues" "taped" "I") (by decide +kernel)) (fun _ h9 => h9) rfl dX11_addBytes_8 ?_
  refine lv_sipush (v := 3000) hx hb dX11_addBytes_11 (by decide) ?_
  refine lv_icmp_ge (tgt := 46) hx hb dX11_addBytes_14 (by decide) (fun c_14 => absurd c_14 (by decide)) (fun c_14 => ?_)
  refine lv_aload_n hx hb dX11_addBytes_17 rfl (lv_at hl 1 rfl) ?_
  refine va_get (D := (dC, dI)) (ci := 10) (v := .ref v_tape) (C := RX11) (T := TX11) (N := 9) hx hb hts in_X11_addBytes_RX11 hown hK hP 0 rfl rfl 0 (by decide) (hts (.fieldLink RX11 9 "FourTongues" "tape" "[B") (by decide +kernel)) (fun _ h9 => h9) rfl dX11_addBytes_18 ?_
  refine lv_aload_n hx hb dX11_addBytes_21 rfl (lv_at hl 1 rfl) ?_
  refine va_get (D := (dC, dI)) (ci := 10) (v := .int 17) (C := RX11) (T := TX11) (N := 9) hx hb hts in_X11_addBytes_RX11 hown hK hP 0 rfl rfl 1 (by decide) (hts (.fieldLink RX11 13 "FourTongues" "taped" "I") (by decide +kernel)) (fun _ h9 => h9) rfl dX11_addBytes_22 ?_
  refine lv_iload_n hx hb dX11_addBytes_25 rfl (lv_at hl 2 rfl) ?_
  refine lv_iload_n hx hb dX11_addBytes_26 rfl (lv_at hl 0 rfl) ?_
  refine lv_ishr hx hb dX11_addBytes_27 ?_
  refine lv_i2b (v := (x1 >>> (16 &&& 31)).toInt8.toInt32) hx hb dX11_addBytes_28 rfl ?_
  refine va_bast hx hb hK hP hD hS 1 0 rfl rfl (by unfold vp_in; decide) dX11_addBytes_29 (fun H locs hP hD hS => ?_)
  obtain ⟨f_2, ef_2⟩ : ∃ y : Nat → Int32, y = upd f_1 ((17 : Int32).toNatClampNeg) (vp_nar .byte ((x1 >>> (16 &&& 31)).toInt8.toInt32)) := ⟨_, rfl⟩
  rw [← ef_2] at hP hD
  have hP : va_P (dC, dI) vwCl [(h0, .inr (10, [.ref v_tape, .int 17, .int 0, .ref v_names, .ref v_borders, .ref v_programs, .ref v_draft, .ref v_parser, .ref v_machine])), (v_tape, .inl (c_v_tape, 3000, .inl f_2))] _ := hP
  have hD : va_D A [(h0, .inr (10, [.ref v_tape, .int 17, .int 0, .ref v_names, .ref v_borders, .ref v_programs, .ref v_draft, .ref v_parser, .ref v_machine])), (v_tape, .inl (c_v_tape, 3000, .inl f_2))] := hD
  refine lv_aload_n hx hb dX11_addBytes_30 rfl (lv_at hl 1 rfl) ?_
  refine lv_dup hx hb dX11_addBytes_31 rfl ?_
  refine va_get (D := (dC, dI)) (ci := 10) (v := .int 17) (C := RX11) (T := TX11) (N := 9) hx hb hts in_X11_addBytes_RX11 hown hK hP 0 rfl rfl 1 (by decide) (hts (.fieldLink RX11 13 "FourTongues" "taped" "I") (by decide +kernel)) (fun _ h9 => h9) rfl dX11_addBytes_32 ?_
  refine lv_iconst (v := 1) hx hb dX11_addBytes_35 (by decide) ?_
  refine lv_iadd hx hb dX11_addBytes_36 ?_
  refine my_ti (v := 18) (by decide) ?_
  refine va_put (D := (dC, dI)) (ci := 10) (v := .int 18) (ty := .int) (C := RX11) (T := TX11) (N := 9) hx hb hts in_X11_addBytes_RX11 tyX11 tyX11_ok nmX11 hown hK hP hD hS 0 rfl rfl 1 (by decide) (hts (.fieldLink RX11 13 "FourTongues" "taped" "I") (by decide +kernel)) (fun _ h9 => h9) rfl (by decide +kernel) rfl rfl (Nat.le_of_ble_eq_true rfl) dX11_addBytes_37 (fun H locs hP hD hS => ?_)
  have hP : va_P (dC, dI) vwCl [(h0, .inr (10, [.ref v_tape, .int 18, .int 0, .ref v_names, .ref v_borders, .ref v_programs, .ref v_draft, .ref v_parser, .ref v_machine])), (v_tape, .inl (c_v_tape, 3000, .inl f_2))] _ := hP
  have hD : va_D A [(h0, .inr (10, [.ref v_tape, .int 18, .int 0, .ref v_names, .ref v_borders, .ref v_programs, .ref v_draft, .ref v_parser, .ref v_machine])), (v_tape, .inl (c_v_tape, 3000, .inl f_2))] := hD
  refine lv_iinc (v := 8) (lv' := [(2, .int 8), (0, .ref h0), (1, .int x1)]) hx hb dX11_addBytes_40 hl (k := 0) rfl (by decide) (by decide) rfl (fun ls hl => ?_)
  refine lv_goto (tgt := 3) hx hb dX11_addBytes_43 (by decide) ?_
  refine lv_iload_n hx hb dX11_addBytes_3 rfl (lv_at hl 0 rfl) ?_
  refine lv_if_lt (tgt := 46) hx hb dX11_addBytes_4 (by decide) (fun c_4 => absurd c_4 (by decide)) (fun c_4 => ?_)
  refine lv_aload_n hx hb dX11_addBytes_7 rfl (lv_at hl 1 rfl) ?_
  refine va_get (D := (dC, dI)) (ci := 10) (v := .int 18) (C := RX11) (T := TX11) (N := 9) hx hb hts in_X11_addBytes_RX11 hown hK hP 0 rfl rfl 1 (by decide) (hts (.fieldLink RX11 13 "FourTongues" "taped" "I") (by decide +kernel)) (fun _ h9 => h9) rfl dX11_addBytes_8 ?_
  refine lv_sipush (v := 3000) hx hb dX11_addBytes_11 (by decide) ?_
  refine lv_icmp_ge (tgt := 46) hx hb dX11_addBytes_14 (by decide) (fun c_14 => absurd c_14 (by decide)) (fun c_14 => ?_)
  refine lv_aload_n hx hb dX11_addBytes_17 rfl (lv_at hl 1 rfl) ?_
  refine va_get (D := (dC, dI)) (ci := 10) (v := .ref v_tape) (C := RX11) (T := TX11) (N := 9) hx hb hts in_X11_addBytes_RX11 hown hK hP 0 rfl rfl 0 (by decide) (hts (.fieldLink RX11 9 "FourTongues" "tape" "[B") (by decide +kernel)) (fun _ h9 => h9) rfl dX11_addBytes_18 ?_
  refine lv_aload_n hx hb dX11_addBytes_21 rfl (lv_at hl 1 rfl) ?_
  refine va_get (D := (dC, dI)) (ci := 10) (v := .int 18) (C := RX11) (T := TX11) (N := 9) hx hb hts in_X11_addBytes_RX11 hown hK hP 0 rfl rfl 1 (by decide) (hts (.fieldLink RX11 13 "FourTongues" "taped" "I") (by decide +kernel)) (fun _ h9 => h9) rfl dX11_addBytes_22 ?_
  refine lv_iload_n hx hb dX11_addBytes_25 rfl (lv_at hl 2 rfl) ?_
  refine lv_iload_n hx hb dX11_addBytes_26 rfl (lv_at hl 0 rfl) ?_
  refine lv_ishr hx hb dX11_addBytes_27 ?_
  refine lv_i2b (v := (x1 >>> (8 &&& 31)).toInt8.toInt32) hx hb dX11_addBytes_28 rfl ?_
  refine va_bast hx hb hK hP hD hS 1 0 rfl rfl (by unfold vp_in; decide) dX11_addBytes_29 (fun H locs hP hD hS => ?_)
  obtain ⟨f_3, ef_3⟩ : ∃ y : Nat → Int32, y = upd f_2 ((18 : Int32).toNatClampNeg) (vp_nar .byte ((x1 >>> (8 &&& 31)).toInt8.toInt32)) := ⟨_, rfl⟩
  rw [← ef_3] at hP hD
  have hP : va_P (dC, dI) vwCl [(h0, .inr (10, [.ref v_tape, .int 18, .int 0, .ref v_names, .ref v_borders, .ref v_programs, .ref v_draft, .ref v_parser, .ref v_machine])), (v_tape, .inl (c_v_tape, 3000, .inl f_3))] _ := hP
  have hD : va_D A [(h0, .inr (10, [.ref v_tape, .int 18, .int 0, .ref v_names, .ref v_borders, .ref v_programs, .ref v_draft, .ref v_parser, .ref v_machine])), (v_tape, .inl (c_v_tape, 3000, .inl f_3))] := hD
  refine lv_aload_n hx hb dX11_addBytes_30 rfl (lv_at hl 1 rfl) ?_
  refine lv_dup hx hb dX11_addBytes_31 rfl ?_
  refine va_get (D := (dC, dI)) (ci := 10) (v := .int 18) (C := RX11) (T := TX11) (N := 9) hx hb hts in_X11_addBytes_RX11 hown hK hP 0 rfl rfl 1 (by decide) (hts (.fieldLink RX11 13 "FourTongues" "taped" "I") (by decide +kernel)) (fun _ h9 => h9) rfl dX11_addBytes_32 ?_
  refine lv_iconst (v := 1) hx hb dX11_addBytes_35 (by decide) ?_
  refine lv_iadd hx hb dX11_addBytes_36 ?_
  refine my_ti (v := 19) (by decide) ?_
  refine va_put (D := (dC, dI)) (ci := 10) (v := .int 19) (ty := .int) (C := RX11) (T := TX11) (N := 9) hx hb hts in_X11_addBytes_RX11 tyX11 tyX11_ok nmX11 hown hK hP hD hS 0 rfl rfl 1 (by decide) (hts (.fieldLink RX11 13 "FourTongues" "taped" "I") (by decide +kernel)) (fun _ h9 => h9) rfl (by decide +kernel) rfl rfl (Nat.le_of_ble_eq_true rfl) dX11_addBytes_37 (fun H locs hP hD hS => ?_)
  have hP : va_P (dC, dI) vwCl [(h0, .inr (10, [.ref v_tape, .int 19, .int 0, .ref v_names, .ref v_borders, .ref v_programs, .ref v_draft, .ref v_parser, .ref v_machine])), (v_tape, .inl (c_v_tape, 3000, .inl f_3))] _ := hP
  have hD : va_D A [(h0, .inr (10, [.ref v_tape, .int 19, .int 0, .ref v_names, .ref v_borders, .ref v_programs, .ref v_draft, .ref v_parser, .ref v_machine])), (v_tape, .inl (c_v_tape, 3000, .inl f_3))] := hD
  refine lv_iinc (v := 0) (lv' := [(2, .int 0), (0, .ref h0), (1, .int x1)]) hx hb dX11_addBytes_40 hl (k := 0) rfl (by decide) (by decide) rfl (fun ls hl => ?_)
  refine lv_goto (tgt := 3) hx hb dX11_addBytes_43 (by decide) ?_
  refine lv_iload_n hx hb dX11_addBytes_3 rfl (lv_at hl 0 rfl) ?_
  refine lv_if_lt (tgt := 46) hx hb dX11_addBytes_4 (by decide) (fun c_4 => absurd c_4 (by decide)) (fun c_4 => ?_)
  refine lv_aload_n hx hb dX11_addBytes_7 rfl (lv_at hl 1 rfl) ?_
  refine va_get (D := (dC, dI)) (ci := 10) (v := .int 19) (C := RX11) (T := TX11) (N := 9) hx hb hts in_X11_addBytes_RX11 hown hK hP 0 rfl rfl 1 (by decide) (hts (.fieldLink RX11 13 "FourTongues" "taped" "I") (by decide +kernel)) (fun _ h9 => h9) rfl dX11_addBytes_8 ?_
  refine lv_sipush (v := 3000) hx hb dX11_addBytes_11 (by decide) ?_
  refine lv_icmp_ge (tgt := 46) hx hb dX11_addBytes_14 (by decide) (fun c_14 => absurd c_14 (by decide)) (fun c_14 => ?_)
  refine lv_aload_n hx hb dX11_addBytes_17 rfl (lv_at hl 1 rfl) ?_
  refine va_get (D := (dC, dI)) (ci := 10) (v := .ref v_tape) (C := RX11) (T := TX11) (N := 9) hx hb hts in_X11_addBytes_RX11 hown hK hP 0 rfl rfl 0 (by decide) (hts (.fieldLink RX11 9 "FourTongues" "tape" "[B") (by decide +kernel)) (fun _ h9 => h9) rfl dX11_addBytes_18 ?_
  refine lv_aload_n hx hb dX11_addBytes_21 rfl (lv_at hl 1 rfl) ?_
  refine va_get (D := (dC, dI)) (ci := 10) (v := .int 19) (C := RX11) (T := TX11) (N := 9) hx hb hts in_X11_addBytes_RX11 hown hK hP 0 rfl rfl 1 (by decide) (hts (.fieldLink RX11 13 "FourTongues" "taped" "I") (by decide +kernel)) (fun _ h9 => h9) rfl dX11_addBytes_22 ?_
  refine lv_iload_n hx hb dX11_addBytes_25 rfl (lv_at hl 2 rfl) ?_
  refine lv_iload_n hx hb dX11_addBytes_26 rfl (lv_at hl 0 rfl) ?_
  refine lv_ishr hx hb dX11_addBytes_27 ?_
  refine lv_i2b (v := (x1 >>> (0 &&& 31)).toInt8.toInt32) hx hb dX11_addBytes_28 rfl ?_
  refine va_bast hx hb hK hP hD hS 1 0 rfl rfl (by unfold vp_in; decide) dX11_addBytes_29 (fun H locs hP hD hS => ?_)
  obtain ⟨f_4, ef_4⟩ : ∃ y : Nat → Int32, y = upd f_3 ((19 : Int32).toNatClampNeg) (vp_nar .byte ((x1 >>> (0 &&& 31)).toInt8.toInt32)) := ⟨_, rfl⟩
  rw [← ef_4] at hP hD
  have hP : va_P (dC, dI) vwCl [(h0, .inr (10, [.ref v_tape, .int 19, .int 0, .ref v_names, .ref v_borders, .ref v_programs, .ref v_draft, .ref v_parser, .ref v_machine])), (v_tape, .inl (c_v_tape, 3000, .inl f_4))] _ := hP
  have hD : va_D A [(h0, .inr (10, [.ref v_tape, .int 19, .int 0, .ref v_names, .ref v_borders, .ref v_programs, .ref v_draft, .ref v_parser, .ref v_machine])), (v_tape, .inl (c_v_tape, 3000, .inl f_4))] := hD
  refine lv_aload_n hx hb dX11_addBytes_30 rfl (lv_at hl 1 rfl) ?_
  refine lv_dup hx hb dX11_addBytes_31 rfl ?_
  refine va_get (D := (dC, dI)) (ci := 10) (v := .int 19) (C := RX11) (T := TX11) (N := 9) hx hb hts in_X11_addBytes_RX11 hown hK hP 0 rfl rfl 1 (by decide) (hts (.fieldLink RX11 13 "FourTongues" "taped" "I") (by decide +kernel)) (fun _ h9 => h9) rfl dX11_addBytes_32 ?_
  refine lv_iconst (v := 1) hx hb dX11_addBytes_35 (by decide) ?_
  refine lv_iadd hx hb dX11_addBytes_36 ?_
  refine my_ti (v := 20) (by decide) ?_
  refine va_put (D := (dC, dI)) (ci := 10) (v := .int 20) (ty := .int) (C := RX11) (T := TX11) (N := 9) hx hb hts in_X11_addBytes_RX11 tyX11 tyX11_ok nmX11 hown hK hP hD hS 0 rfl rfl 1 (by decide) (hts (.fieldLink RX11 13 "FourTongues" "taped" "I") (by decide +kernel)) (fun _ h9 => h9) rfl (by decide +kernel) rfl rfl (Nat.le_of_ble_eq_true rfl) dX11_addBytes_37 (fun H locs hP hD hS => ?_)
  have hP : va_P (dC, dI) vwCl [(h0, .inr (10, [.ref v_tape, .int 20, .int 0, .ref v_names, .ref v_borders, .ref v_programs, .ref v_draft, .ref v_parser, .ref v_machine])), (v_tape, .inl (c_v_tape, 3000, .inl f_4))] _ := hP
  have hD : va_D A [(h0, .inr (10, [.ref v_tape, .int 20, .int 0, .ref v_names, .ref v_borders, .ref v_programs, .ref v_draft, .ref v_parser, .ref v_machine])), (v_tape, .inl (c_v_tape, 3000, .inl f_4))] := hD
  refine lv_iinc (v := (-8)) (lv' := [(2, .int (-8)), (0, .ref h0), (1, .int x1)]) hx hb dX11_addBytes_40 hl (k := 0) rfl (by decide) (by decide) rfl (fun ls hl => ?_)
  refine lv_goto (tgt := 3) hx hb dX11_addBytes_43 (by decide) ?_
  refine lv_iload_n hx hb dX11_addBytes_3 rfl (lv_at hl 0 rfl) ?_
  refine lv_if_lt (tgt := 46) hx hb dX11_addBytes_4 (by decide) (fun c_4 => ?_) (fun c_4 => absurd c_4 (by decide))
  have hP9 := hP.sub (ws' := [(h0, .inr (10, [.ref v_tape, .int 20, .int 0, .ref v_names, .ref v_borders, .ref v_programs, .ref v_draft, .ref v_parser, .ref v_machine])), (v_tape, .inl (c_v_tape, 3000, .inl f_4))]) [0, 1] rfl
  have hD9 := hD.sub (ws' := [(h0, .inr (10, [.ref v_tape, .int 20, .int 0, .ref v_names, .ref v_borders, .ref v_programs, .ref v_draft, .ref v_parser, .ref v_machine])), (v_tape, .inl (c_v_tape, 3000, .inl f_4))]) [0, 1] (by decide) rfl
  have hK9 := hK.sub (tys' := [(c_v_tape, .byte)]) [0] rfl
  exact W.vret hx hb hr (fun t ht hW => ⟨⟨(), rfl, trivial, ⟨f_4, by rw [ht]; exact hP9, va_K.moved hW.alike hK9, hD9⟩⟩, hS.F ht⟩) hS.2.2 dX11_addBytes_46

set_option maxHeartbeats 4000000 in
set_option maxRecDepth 100000 in
theorem c_X11_feed (l : Launch) (dC : Nat → ClassId) (dI : Nat → Nat → Nat) (sz : Nat) (h0 : Nat) (v_tape : Nat) (v_names : Nat) (v_borders : Nat) (v_programs : Nat) (v_draft : Nat) (v_parser : Nat) (v_machine : Nat) (c_v_tape : ClassId) (f_tape : Nat → Int32) (x1 : Int32) (x2 : Int32) (x3 : Int32) (x4 : Int32) (x5 : Int32) : Met l yX11_feed wsX11_feed ({ frames := 1, cells := 0, slots := 0, locals := 22 }) (va_Pc [.ref h0, .int x1, .int x2, .int x3, .int x4, .int x5] (fun U => xM (dC, dI) sz [(h0, .inr (10, [.ref v_tape, .int 0, .int 0, .ref v_names, .ref v_borders, .ref v_programs, .ref v_draft, .ref v_parser, .ref v_machine])), (v_tape, .inl (c_v_tape, 3000, .inl f_tape))] [(c_v_tape, .byte)] U)) (va_Qi (fun (r : Int32) (_ : Unit) => r = 20) (fun (_ : Unit) _ => True) (va_A [(h0, .inr (10, [.ref v_tape, .int 0, .int 0, .ref v_names, .ref v_borders, .ref v_programs, .ref v_draft, .ref v_parser, .ref v_machine])), (v_tape, .inl (c_v_tape, 3000, .inl f_tape))] sz)) 0 0 (va_A [(h0, .inr (10, [.ref v_tape, .int 0, .int 0, .ref v_names, .ref v_borders, .ref v_programs, .ref v_draft, .ref v_parser, .ref v_machine])), (v_tape, .inl (c_v_tape, 3000, .inl f_tape))] sz) := by
  refine Met.ofW (cc := cX11_feed) (maxL := 6) (ret := (some .int)) (by decide) rfl ?_
  intro p e s m args below meth c s₁ B hml hv
  obtain ⟨rfl, hsz, hP, hK, hD0⟩ := hv
  have hx := B.exec
  have hb := B.bytes
  have hr := B.returns
  have hts := atoms_spec (ws := wsX11_feed) B.pre
  have hown : s.vm.findClass RX11 = some m.cls := findClass_of_methodNamed B.named
  have hlocks := B.notSynchronized
  subst hsz
  have hD := hD0.self (sz := s.heap.size)
  generalize hAe : va_A [(h0, .inr (10, [.ref v_tape, .int 0, .int 0, .ref v_names, .ref v_borders, .ref v_programs, .ref v_draft, .ref v_parser, .ref v_machine])), (v_tape, .inl (c_v_tape, 3000, .inl f_tape))] s.heap.size = A at hD ⊢
  have hA : ∀ q : Nat, s.heap.size ≤ q → A q := fun q h => by rw [← hAe]; exact Or.inr h
  have hS : va_S A s.heap s.heap [] := va_S.rf
  have hl := lv_entry ([.ref h0, .int x1, .int x2, .int x3, .int x4, .int x5]) (n := 6) (Nat.le_of_ble_eq_true rfl)
  rw [lg_entry_eq]
  generalize (lg_sl ([.ref h0, .int x1, .int x2, .int x3, .int x4, .int x5]) ++ List.replicate (6 - (lg_sl ([.ref h0, .int x1, .int x2, .int x3, .int x4, .int x5])).length) Slot.unset).toArray = ls at hl ⊢
  have hl : lv_has ls 6 [(0, .ref h0), (1, .int x1), (2, .int x2), (3, .int x3), (4, .int x4), (5, .int x5)] := hl
  refine lv_aload_n hx hb dX11_feed_0 rfl (lv_at hl 0 rfl) ?_
  refine va_get (D := (dC, dI)) (ci := 10) (v := .int 0) (C := RX11) (T := TX11) (N := 9) hx hb hts in_X11_feed_RX11 hown hK hP 0 rfl rfl 1 (by decide) (hts (.fieldLink RX11 13 "FourTongues" "taped" "I") (by decide +kernel)) (fun _ h9 => h9) rfl dX11_feed_1 ?_
  refine lv_bipush (v := 20) hx hb dX11_feed_4 (by decide) ?_
  refine lv_iadd hx hb dX11_feed_6 ?_
  refine my_ti (v := 20) (by decide) ?_
  refine lv_sipush (v := 3000) hx hb dX11_feed_7 (by decide) ?_
  refine lv_icmp_le (tgt := 15) hx hb dX11_feed_10 (by decide) (fun c_10 => ?_) (fun c_10 => absurd c_10 (by decide))
  refine lv_aload_n hx hb dX11_feed_15 rfl (lv_at hl 0 rfl) ?_
  refine lv_iload_n hx hb dX11_feed_16 rfl (lv_at hl 1 rfl) ?_
  have hPc := hP.sub (ws' := [(h0, .inr (10, [.ref v_tape, .int 0, .int 0, .ref v_names, .ref v_borders, .ref v_programs, .ref v_draft, .ref v_parser, .ref v_machine])), (v_tape, .inl (c_v_tape, 3000, .inl f_tape))]) [0, 1] rfl
  have hDc := hD.sub (ws' := [(h0, .inr (10, [.ref v_tape, .int 0, .int 0, .ref v_names, .ref v_borders, .ref v_programs, .ref v_draft, .ref v_parser, .ref v_machine])), (v_tape, .inl (c_v_tape, 3000, .inl f_tape))]) [0, 1] (by decide) rfl
  have hKc := hK.sub (tys' := [(c_v_tape, .byte)]) [0] rfl
  have hFc := va_free (wc := [(h0, .inr (10, [.ref v_tape, .int 0, .int 0, .ref v_names, .ref v_borders, .ref v_programs, .ref v_draft, .ref v_parser, .ref v_machine])), (v_tape, .inl (c_v_tape, 3000, .inl f_tape))]) hD hS hA [0, 1] rfl
  refine va_callv (va_runV (As := [.int x1]) (rest := []) ⟨hx, hb, hml, hown, hts⟩ (c_X11_addBytes_0 l dC dI s.heap.size h0 v_tape v_names v_borders v_programs v_draft v_parser v_machine c_v_tape f_tape x1 ) (cwV 1 hts gX11_feed_X11_addBytes rfl rfl rfl (by decide +kernel) ⟨Nat.le_of_ble_eq_true rfl, Nat.le_of_ble_eq_true rfl⟩) ⟨fb_M, va_recv hK hP (ci := 10) (q0 := 0) rfl rfl, fun U hU hW => ⟨rfl, xM.at hPc hKc hDc hU hW⟩⟩ rfl rfl hl.1 rfl (lv_room (Nat.le_of_ble_eq_true rfl)) dX11_feed_17 ⟨Nat.le_of_ble_eq_true rfl, Nat.le_of_ble_eq_true rfl⟩) hS (fun q _ h => hFc q h) hFc (fun u t H locs ht hvm hw hB hz1 hk1 hS => ?_)
  obtain ⟨f_1, hB⟩ := hB
  obtain ⟨hP, hD, hK⟩ := xB.join (wr := []) (w1 := [(h0, .inr (10, [.ref v_tape, .int 4, .int 0, .ref v_names, .ref v_borders, .ref v_programs, .ref v_draft, .ref v_parser, .ref v_machine])), (v_tape, .inl (c_v_tape, 3000, .inl f_1))]) hP hD hK [0, 1] [] rfl rfl (by decide) (by decide) hk1 hFc hB ht hvm
  have hP : va_P (dC, dI) vwCl [(h0, .inr (10, [.ref v_tape, .int 4, .int 0, .ref v_names, .ref v_borders, .ref v_programs, .ref v_draft, .ref v_parser, .ref v_machine])), (v_tape, .inl (c_v_tape, 3000, .inl f_1))] _ := hP
  have hD : va_D A [(h0, .inr (10, [.ref v_tape, .int 4, .int 0, .ref v_names, .ref v_borders, .ref v_programs, .ref v_draft, .ref v_parser, .ref v_machine])), (v_tape, .inl (c_v_tape, 3000, .inl f_1))] := hD
  have hK : va_K (dC, dI) vwCl [(c_v_tape, .byte), (c_v_tape, .byte)] s := hK
  refine lv_aload_n hx hb dX11_feed_20 rfl (lv_at hl 0 rfl) ?_
  refine lv_iload_n hx hb dX11_feed_21 rfl (lv_at hl 2 rfl) ?_
  have hPc := hP.sub (ws' := [(h0, .inr (10, [.ref v_tape, .int 4, .int 0, .ref v_names, .ref v_borders, .ref v_programs, .ref v_draft, .ref v_parser, .ref v_machine])), (v_tape, .inl (c_v_tape, 3000, .inl f_1))]) [0, 1] rfl
  have hDc := hD.sub (ws' := [(h0, .inr (10, [.ref v_tape, .int 4, .int 0, .ref v_names, .ref v_borders, .ref v_programs, .ref v_draft, .ref v_parser, .ref v_machine])), (v_tape, .inl (c_v_tape, 3000, .inl f_1))]) [0, 1] (by decide) rfl
  have hKc := hK.sub (tys' := [(c_v_tape, .byte)]) [0] rfl
  have hFc := va_free (wc := [(h0, .inr (10, [.ref v_tape, .int 4, .int 0, .ref v_names, .ref v_borders, .ref v_programs, .ref v_draft, .ref v_parser, .ref v_machine])), (v_tape, .inl (c_v_tape, 3000, .inl f_1))]) hD hS hA [0, 1] rfl
  refine va_callv (va_runV (As := [.int x2]) (rest := []) ⟨hx, hb, hml, hown, hts⟩ (c_X11_addBytes_4 l dC dI H.size h0 v_tape v_names v_borders v_programs v_draft v_parser v_machine c_v_tape f_1 x2 ) (cwV 1 hts gX11_feed_X11_addBytes rfl rfl rfl (by decide +kernel) ⟨Nat.le_of_ble_eq_true rfl, Nat.le_of_ble_eq_true rfl⟩) ⟨fb_M, va_recv hK hP (ci := 10) (q0 := 0) rfl rfl, fun U hU hW => ⟨rfl, xM.at hPc hKc hDc hU hW⟩⟩ rfl rfl hl.1 rfl (lv_room (Nat.le_of_ble_eq_true rfl)) dX11_feed_22 ⟨Nat.le_of_ble_eq_true rfl, Nat.le_of_ble_eq_true rfl⟩) hS (fun q _ h => hFc q h) hFc (fun u t H locs ht hvm hw hB hz1 hk1 hS => ?_)
  obtain ⟨f_2, hB⟩ := hB
  obtain ⟨hP, hD, hK⟩ := xB.join (wr := []) (w1 := [(h0, .inr (10, [.ref v_tape, .int 8, .int 0, .ref v_names, .ref v_borders, .ref v_programs, .ref v_draft, .ref v_parser, .ref v_machine])), (v_tape, .inl (c_v_tape, 3000, .inl f_2))]) hP hD hK [0, 1] [] rfl rfl (by decide) (by decide) hk1 hFc hB ht hvm
  have hP : va_P (dC, dI) vwCl [(h0, .inr (10, [.ref v_tape, .int 8, .int 0, .ref v_names, .ref v_borders, .ref v_programs, .ref v_draft, .ref v_parser, .ref v_machine])), (v_tape, .inl (c_v_tape, 3000, .inl f_2))] _ := hP
  have hD : va_D A [(h0, .inr (10, [.ref v_tape, .int 8, .int 0, .ref v_names, .ref v_borders, .ref v_programs, .ref v_draft, .ref v_parser, .ref v_machine])), (v_tape, .inl (c_v_tape, 3000, .inl f_2))] := hD
  have hK : va_K (dC, dI) vwCl [(c_v_tape, .byte), (c_v_tape, .byte), (c_v_tape, .byte)] s := hK
  refine lv_aload_n hx hb dX11_feed_25 rfl (lv_at hl 0 rfl) ?_
  refine lv_iload_n hx hb dX11_feed_26 rfl (lv_at hl 3 rfl) ?_
  have hPc := hP.sub (ws' := [(h0, .inr (10, [.ref v_tape, .int 8, .int 0, .ref v_names, .ref v_borders, .ref v_programs, .ref v_draft, .ref v_parser, .ref v_machine])), (v_tape, .inl (c_v_tape, 3000, .inl f_2))]) [0, 1] rfl
  have hDc := hD.sub (ws' := [(h0, .inr (10, [.ref v_tape, .int 8, .int 0, .ref v_names, .ref v_borders, .ref v_programs, .ref v_draft, .ref v_parser, .ref v_machine])), (v_tape, .inl (c_v_tape, 3000, .inl f_2))]) [0, 1] (by decide) rfl
  have hKc := hK.sub (tys' := [(c_v_tape, .byte)]) [0] rfl
  have hFc := va_free (wc := [(h0, .inr (10, [.ref v_tape, .int 8, .int 0, .ref v_names, .ref v_borders, .ref v_programs, .ref v_draft, .ref v_parser, .ref v_machine])), (v_tape, .inl (c_v_tape, 3000, .inl f_2))]) hD hS hA [0, 1] rfl
  refine va_callv (va_runV (As := [.int x3]) (rest := []) ⟨hx, hb, hml, hown, hts⟩ (c_X11_addBytes_8 l dC dI H.size h0 v_tape v_names v_borders v_programs v_draft v_parser v_machine c_v_tape f_2 x3 ) (cwV 1 hts gX11_feed_X11_addBytes rfl rfl rfl (by decide +kernel) ⟨Nat.le_of_ble_eq_true rfl, Nat.le_of_ble_eq_true rfl⟩) ⟨fb_M, va_recv hK hP (ci := 10) (q0 := 0) rfl rfl, fun U hU hW => ⟨rfl, xM.at hPc hKc hDc hU hW⟩⟩ rfl rfl hl.1 rfl (lv_room (Nat.le_of_ble_eq_true rfl)) dX11_feed_27 ⟨Nat.le_of_ble_eq_true rfl, Nat.le_of_ble_eq_true rfl⟩) hS (fun q _ h => hFc q h) hFc (fun u t H locs ht hvm hw hB hz1 hk1 hS => ?_)
  obtain ⟨f_3, hB⟩ := hB
  obtain ⟨hP, hD, hK⟩ := xB.join (wr := []) (w1 := [(h0, .inr (10, [.ref v_tape, .int 12, .int 0, .ref v_names, .ref v_borders, .ref v_programs, .ref v_draft, .ref v_parser, .ref v_machine])), (v_tape, .inl (c_v_tape, 3000, .inl f_3))]) hP hD hK [0, 1] [] rfl rfl (by decide) (by decide) hk1 hFc hB ht hvm
  have hP : va_P (dC, dI) vwCl [(h0, .inr (10, [.ref v_tape, .int 12, .int 0, .ref v_names, .ref v_borders, .ref v_programs, .ref v_draft, .ref v_parser, .ref v_machine])), (v_tape, .inl (c_v_tape, 3000, .inl f_3))] _ := hP
  have hD : va_D A [(h0, .inr (10, [.ref v_tape, .int 12, .int 0, .ref v_names, .ref v_borders, .ref v_programs, .ref v_draft, .ref v_parser, .ref v_machine])), (v_tape, .inl (c_v_tape, 3000, .inl f_3))] := hD
  have hK : va_K (dC, dI) vwCl [(c_v_tape, .byte), (c_v_tape, .byte), (c_v_tape, .byte), (c_v_tape, .byte)] s := hK
  refine lv_aload_n hx hb dX11_feed_30 rfl (lv_at hl 0 rfl) ?_
  refine lv_iload hx hb dX11_feed_31 (lv_at hl 4 rfl) ?_
  have hPc := hP.sub (ws' := [(h0, .inr (10, [.ref v_tape, .int 12, .int 0, .ref v_names, .ref v_borders, .ref v_programs, .ref v_draft, .ref v_parser, .ref v_machine])), (v_tape, .inl (c_v_tape, 3000, .inl f_3))]) [0, 1] rfl
  have hDc := hD.sub (ws' := [(h0, .inr (10, [.ref v_tape, .int 12, .int 0, .ref v_names, .ref v_borders, .ref v_programs, .ref v_draft, .ref v_parser, .ref v_machine])), (v_tape, .inl (c_v_tape, 3000, .inl f_3))]) [0, 1] (by decide) rfl
  have hKc := hK.sub (tys' := [(c_v_tape, .byte)]) [0] rfl
  have hFc := va_free (wc := [(h0, .inr (10, [.ref v_tape, .int 12, .int 0, .ref v_names, .ref v_borders, .ref v_programs, .ref v_draft, .ref v_parser, .ref v_machine])), (v_tape, .inl (c_v_tape, 3000, .inl f_3))]) hD hS hA [0, 1] rfl
  refine va_callv (va_runV (As := [.int x4]) (rest := []) ⟨hx, hb, hml, hown, hts⟩ (c_X11_addBytes_12 l dC dI H.size h0 v_tape v_names v_borders v_programs v_draft v_parser v_machine c_v_tape f_3 x4 ) (cwV 1 hts gX11_feed_X11_addBytes rfl rfl rfl (by decide +kernel) ⟨Nat.le_of_ble_eq_true rfl, Nat.le_of_ble_eq_true rfl⟩) ⟨fb_M, va_recv hK hP (ci := 10) (q0 := 0) rfl rfl, fun U hU hW => ⟨rfl, xM.at hPc hKc hDc hU hW⟩⟩ rfl rfl hl.1 rfl (lv_room (Nat.le_of_ble_eq_true rfl)) dX11_feed_33 ⟨Nat.le_of_ble_eq_true rfl, Nat.le_of_ble_eq_true rfl⟩) hS (fun q _ h => hFc q h) hFc (fun u t H locs ht hvm hw hB hz1 hk1 hS => ?_)
  obtain ⟨f_4, hB⟩ := hB
  obtain ⟨hP, hD, hK⟩ := xB.join (wr := []) (w1 := [(h0, .inr (10, [.ref v_tape, .int 16, .int 0, .ref v_names, .ref v_borders, .ref v_programs, .ref v_draft, .ref v_parser, .ref v_machine])), (v_tape, .inl (c_v_tape, 3000, .inl f_4))]) hP hD hK [0, 1] [] rfl rfl (by decide) (by decide) hk1 hFc hB ht hvm
  have hP : va_P (dC, dI) vwCl [(h0, .inr (10, [.ref v_tape, .int 16, .int 0, .ref v_names, .ref v_borders, .ref v_programs, .ref v_draft, .ref v_parser, .ref v_machine])), (v_tape, .inl (c_v_tape, 3000, .inl f_4))] _ := hP
  have hD : va_D A [(h0, .inr (10, [.ref v_tape, .int 16, .int 0, .ref v_names, .ref v_borders, .ref v_programs, .ref v_draft, .ref v_parser, .ref v_machine])), (v_tape, .inl (c_v_tape, 3000, .inl f_4))] := hD
  have hK : va_K (dC, dI) vwCl [(c_v_tape, .byte), (c_v_tape, .byte), (c_v_tape, .byte), (c_v_tape, .byte), (c_v_tape, .byte)] s := hK
  refine lv_aload_n hx hb dX11_feed_36 rfl (lv_at hl 0 rfl) ?_
  refine lv_iload hx hb dX11_feed_37 (lv_at hl 5 rfl) ?_
  have hPc := hP.sub (ws' := [(h0, .inr (10, [.ref v_tape, .int 16, .int 0, .ref v_names, .ref v_borders, .ref v_programs, .ref v_draft, .ref v_parser, .ref v_machine])), (v_tape, .inl (c_v_tape, 3000, .inl f_4))]) [0, 1] rfl
  have hDc := hD.sub (ws' := [(h0, .inr (10, [.ref v_tape, .int 16, .int 0, .ref v_names, .ref v_borders, .ref v_programs, .ref v_draft, .ref v_parser, .ref v_machine])), (v_tape, .inl (c_v_tape, 3000, .inl f_4))]) [0, 1] (by decide) rfl
  have hKc := hK.sub (tys' := [(c_v_tape, .byte)]) [0] rfl
  have hFc := va_free (wc := [(h0, .inr (10, [.ref v_tape, .int 16, .int 0, .ref v_names, .ref v_borders, .ref v_programs, .ref v_draft, .ref v_parser, .ref v_machine])), (v_tape, .inl (c_v_tape, 3000, .inl f_4))]) hD hS hA [0, 1] rfl
  refine va_callv (va_runV (As := [.int x5]) (rest := []) ⟨hx, hb, hml, hown, hts⟩ (c_X11_addBytes_16 l dC dI H.size h0 v_tape v_names v_borders v_programs v_draft v_parser v_machine c_v_tape f_4 x5 ) (cwV 1 hts gX11_feed_X11_addBytes rfl rfl rfl (by decide +kernel) ⟨Nat.le_of_ble_eq_true rfl, Nat.le_of_ble_eq_true rfl⟩) ⟨fb_M, va_recv hK hP (ci := 10) (q0 := 0) rfl rfl, fun U hU hW => ⟨rfl, xM.at hPc hKc hDc hU hW⟩⟩ rfl rfl hl.1 rfl (lv_room (Nat.le_of_ble_eq_true rfl)) dX11_feed_39 ⟨Nat.le_of_ble_eq_true rfl, Nat.le_of_ble_eq_true rfl⟩) hS (fun q _ h => hFc q h) hFc (fun u t H locs ht hvm hw hB hz1 hk1 hS => ?_)
  obtain ⟨f_5, hB⟩ := hB
  obtain ⟨hP, hD, hK⟩ := xB.join (wr := []) (w1 := [(h0, .inr (10, [.ref v_tape, .int 20, .int 0, .ref v_names, .ref v_borders, .ref v_programs, .ref v_draft, .ref v_parser, .ref v_machine])), (v_tape, .inl (c_v_tape, 3000, .inl f_5))]) hP hD hK [0, 1] [] rfl rfl (by decide) (by decide) hk1 hFc hB ht hvm
  have hP : va_P (dC, dI) vwCl [(h0, .inr (10, [.ref v_tape, .int 20, .int 0, .ref v_names, .ref v_borders, .ref v_programs, .ref v_draft, .ref v_parser, .ref v_machine])), (v_tape, .inl (c_v_tape, 3000, .inl f_5))] _ := hP
  have hD : va_D A [(h0, .inr (10, [.ref v_tape, .int 20, .int 0, .ref v_names, .ref v_borders, .ref v_programs, .ref v_draft, .ref v_parser, .ref v_machine])), (v_tape, .inl (c_v_tape, 3000, .inl f_5))] := hD
  have hK : va_K (dC, dI) vwCl [(c_v_tape, .byte), (c_v_tape, .byte), (c_v_tape, .byte), (c_v_tape, .byte), (c_v_tape, .byte), (c_v_tape, .byte)] s := hK
  refine lv_aload_n hx hb dX11_feed_42 rfl (lv_at hl 0 rfl) ?_
  refine va_get (D := (dC, dI)) (ci := 10) (v := .int 20) (C := RX11) (T := TX11) (N := 9) hx hb hts in_X11_feed_RX11 hown hK hP 0 rfl rfl 1 (by decide) (hts (.fieldLink RX11 13 "FourTongues" "taped" "I") (by decide +kernel)) (fun _ h9 => h9) rfl dX11_feed_43 ?_
  exact W.iret (v := 20) hx hb hr (fun t ht hW => ⟨⟨20, (), rfl, rfl, trivial⟩, hS.F ht⟩) hS.2.2 dX11_feed_46

set_option maxHeartbeats 4000000 in
set_option maxRecDepth 100000 in
theorem c_X11_fault (l : Launch) (dC : Nat → ClassId) (dI : Nat → Nat → Nat) (h0 : Nat) (v_tape : Nat) (v_names : Nat) (v_borders : Nat) (v_programs : Nat) (v_draft : Nat) (v_parser : Nat) (v_machine : Nat) : Met l yX11_fault wsX11_fault ({ frames := 0, cells := 0, slots := 0, locals := 0 }) (va_Pc [.ref h0] (fun U => xR (dC, dI) [(h0, .inr (10, [.ref v_tape, .int 0, .int 0, .ref v_names, .ref v_borders, .ref v_programs, .ref v_draft, .ref v_parser, .ref v_machine]))] [] U)) (va_Qi (fun (r : Int32) (_ : Unit) => r = 0) (fun (_ : Unit) _ => True) (fun _ => False)) 0 0 (fun _ => False) := by
  refine Met.ofW (cc := cX11_fault) (maxL := 1) (ret := (some .int)) (by decide) rfl ?_
  intro p e s m args below meth c s₁ B hml hv
  obtain ⟨rfl, hP, hK⟩ := hv
  have hx := B.exec
  have hb := B.bytes
  have hr := B.returns
  have hts := atoms_spec (ws := wsX11_fault) B.pre
  have hown : s.vm.findClass RX11 = some m.cls := findClass_of_methodNamed B.named
  have hlocks := B.notSynchronized
  have hS : va_S (fun _ => False) s.heap s.heap [] := va_S.rf
  have hl := lv_entry ([.ref h0]) (n := 1) (Nat.le_of_ble_eq_true rfl)
  rw [lg_entry_eq]
  generalize (lg_sl ([.ref h0]) ++ List.replicate (1 - (lg_sl ([.ref h0])).length) Slot.unset).toArray = ls at hl ⊢
  have hl : lv_has ls 1 [(0, .ref h0)] := hl
  refine lv_aload_n hx hb dX11_fault_0 rfl (lv_at hl 0 rfl) ?_
  refine va_get (D := (dC, dI)) (ci := 10) (v := .int 0) (C := RX11) (T := TX11) (N := 9) hx hb hts in_X11_fault_RX11 hown hK hP 0 rfl rfl 2 (by decide) (hts (.fieldLink RX11 17 "FourTongues" "faultKind" "I") (by decide +kernel)) (fun _ h9 => h9) rfl dX11_fault_1 ?_
  exact W.iret (v := 0) hx hb hr (fun t ht hW => ⟨⟨0, (), rfl, rfl, trivial⟩, hS.F ht⟩) hS.2.2 dX11_fault_4

set_option maxHeartbeats 4000000 in
set_option maxRecDepth 100000 in
theorem c_X4_answered (l : Launch) (dC : Nat → ClassId) (dI : Nat → Nat → Nat) (h0 : Nat) (m_programs : Nat) (m_names : Nat) (m_borders : Nat) (m_stack : Nat) (m_heap : Nat) (m_marks : Nat) (m_failures : Nat) (m_frames : Nat) (m_guards : Nat) (m_tally : Nat) (m_program : Nat) : Met l yX4_answered wsX4_answered ({ frames := 0, cells := 0, slots := 0, locals := 0 }) (va_Pc [.ref h0] (fun U => xR (dC, dI) [(h0, .inr (4, [.ref m_programs, .ref m_names, .ref m_borders, .ref m_stack, .ref m_heap, .ref m_marks, .ref m_failures, .ref m_frames, .ref m_guards, .ref m_tally, .ref m_program, .int 0, .int 0, .int 4, .int (-1), .int (-1), .long 0]))] [] U)) (va_Ql (fun (r : Int64) (_ : Unit) => r = 0) (fun (_ : Unit) _ => True) (fun _ => False)) 0 0 (fun _ => False) := by
  refine Met.ofW (cc := cX4_answered) (maxL := 1) (ret := (some .long)) (by decide) rfl ?_
  intro p e s m args below meth c s₁ B hml hv
  obtain ⟨rfl, hP, hK⟩ := hv
  have hx := B.exec
  have hb := B.bytes
  have hr := B.returns
  have hts := atoms_spec (ws := wsX4_answered) B.pre
  have hown : s.vm.findClass RX4 = some m.cls := findClass_of_methodNamed B.named
  have hlocks := B.notSynchronized
  have hS : va_S (fun _ => False) s.heap s.heap [] := va_S.rf
  have hl := lv_entry ([.ref h0]) (n := 1) (Nat.le_of_ble_eq_true rfl)
  rw [lg_entry_eq]
  generalize (lg_sl ([.ref h0]) ++ List.replicate (1 - (lg_sl ([.ref h0])).length) Slot.unset).toArray = ls at hl ⊢
  have hl : lv_has ls 1 [(0, .ref h0)] := hl
  refine lv_aload_n hx hb dX4_answered_0 rfl (lv_at hl 0 rfl) ?_
  refine va_get (D := (dC, dI)) (ci := 4) (v := .long 0) (C := RX4) (T := TX4) (N := 17) hx hb hts in_X4_answered_RX4 hown hK hP 0 rfl rfl 16 (by decide) (hts (.fieldLink RX4 67 "FourTongues$Machine" "answer" "J") (by decide +kernel)) (fun _ h9 => h9) rfl dX4_answered_1 ?_
  exact W.lret (v := 0) hx hb hr (fun t ht hW => ⟨⟨0, (), rfl, rfl, trivial⟩, hS.F ht⟩) hS.2.2 dX4_answered_4

set_option maxHeartbeats 4000000 in
set_option maxRecDepth 100000 in
theorem c_X11_answer (l : Launch) (dC : Nat → ClassId) (dI : Nat → Nat → Nat) (h0 : Nat) (v_tape : Nat) (v_names : Nat) (v_borders : Nat) (v_programs : Nat) (v_draft : Nat) (v_parser : Nat) (v_machine : Nat) (m_programs : Nat) (m_names : Nat) (m_borders : Nat) (m_stack : Nat) (m_heap : Nat) (m_marks : Nat) (m_failures : Nat) (m_frames : Nat) (m_guards : Nat) (m_tally : Nat) (m_program : Nat) : Met l yX11_answer wsX11_answer ({ frames := 1, cells := 0, slots := 0, locals := 20 }) (va_Pc [.ref h0] (fun U => xR (dC, dI) [(h0, .inr (10, [.ref v_tape, .int 0, .int 0, .ref v_names, .ref v_borders, .ref v_programs, .ref v_draft, .ref v_parser, .ref v_machine])), (v_machine, .inr (4, [.ref m_programs, .ref m_names, .ref m_borders, .ref m_stack, .ref m_heap, .ref m_marks, .ref m_failures, .ref m_frames, .ref m_guards, .ref m_tally, .ref m_program, .int 0, .int 0, .int 4, .int (-1), .int (-1), .long 0]))] [] U)) (va_Ql (fun (r : Int64) (_ : Unit) => r = 0) (fun (_ : Unit) _ => True) (fun _ => False)) 0 0 (fun _ => False) := by
  refine Met.ofW (cc := cX11_answer) (maxL := 1) (ret := (some .long)) (by decide) rfl ?_
  intro p e s m args below meth c s₁ B hml hv
  obtain ⟨rfl, hP, hK⟩ := hv
  have hx := B.exec
  have hb := B.bytes
  have hr := B.returns
  have hts := atoms_spec (ws := wsX11_answer) B.pre
  have hown : s.vm.findClass RX11 = some m.cls := findClass_of_methodNamed B.named
  have hlocks := B.notSynchronized
  have hS : va_S (fun _ => False) s.heap s.heap [] := va_S.rf
  have hl := lv_entry ([.ref h0]) (n := 1) (Nat.le_of_ble_eq_true rfl)
  rw [lg_entry_eq]
  generalize (lg_sl ([.ref h0]) ++ List.replicate (1 - (lg_sl ([.ref h0])).length) Slot.unset).toArray = ls at hl ⊢
  have hl : lv_has ls 1 [(0, .ref h0)] := hl
  refine lv_aload_n hx hb dX11_answer_0 rfl (lv_at hl 0 rfl) ?_
  refine va_get (D := (dC, dI)) (ci := 10) (v := .ref v_machine) (C := RX11) (T := TX11) (N := 9) hx hb hts in_X11_answer_RX11 hown hK hP 0 rfl rfl 8 (by decide) (hts (.fieldLink RX11 59 "FourTongues" "machine" "LFourTongues$Machine;") (by decide +kernel)) (fun _ h9 => h9) rfl dX11_answer_1 ?_
  refine va_calll (va_runV (As := []) (rest := []) ⟨hx, hb, hml, hown, hts⟩ (c_X4_answered l dC dI v_machine m_programs m_names m_borders m_stack m_heap m_marks m_failures m_frames m_guards m_tally m_program ) (cwV 0 hts gX11_answer_X4_answered rfl rfl rfl (by decide +kernel) ⟨Nat.le_of_ble_eq_true rfl, Nat.le_of_ble_eq_true rfl⟩) ⟨fb_R, va_recv hK hP (ci := 4) (q0 := 1) rfl rfl, fun U hU hW => ⟨rfl, xR.at (hP.sub (ws' := [(v_machine, .inr (4, [.ref m_programs, .ref m_names, .ref m_borders, .ref m_stack, .ref m_heap, .ref m_marks, .ref m_failures, .ref m_frames, .ref m_guards, .ref m_tally, .ref m_program, .int 0, .int 0, .int 4, .int (-1), .int (-1), .long 0]))]) [1] rfl) (hK.sub (tys' := []) [] rfl) hU hW⟩⟩ rfl rfl hl.1 rfl (lv_room (Nat.le_of_ble_eq_true rfl)) dX11_answer_4 ⟨Nat.le_of_ble_eq_true rfl, Nat.le_of_ble_eq_true rfl⟩) hS (fun q _ h => h.elim) (fun q h => h.elim) (fun r_1 u t H locs ht hvm hw hB hz1 hk1 hS => ?_)
  have hw_2 := hw
  have hP := xR.keep hP hk1
  subst hw_2
  exact W.lret (v := 0) hx hb hr (fun t ht hW => ⟨⟨0, (), rfl, rfl, trivial⟩, hS.F ht⟩) hS.2.2 dX11_answer_7

set_option maxHeartbeats 4000000 in
set_option maxRecDepth 100000 in
theorem c_X4_told (l : Launch) (dC : Nat → ClassId) (dI : Nat → Nat → Nat) (h0 : Nat) (m_programs : Nat) (m_names : Nat) (m_borders : Nat) (m_stack : Nat) (m_heap : Nat) (m_marks : Nat) (m_failures : Nat) (m_frames : Nat) (m_guards : Nat) (m_tally : Nat) (m_program : Nat) (c_m_tally : ClassId) (x1 : Int32) : Met l yX4_told wsX4_told ({ frames := 0, cells := 0, slots := 0, locals := 0 }) (va_Pc [.ref h0, .int x1] (fun U => xR (dC, dI) [(h0, .inr (4, [.ref m_programs, .ref m_names, .ref m_borders, .ref m_stack, .ref m_heap, .ref m_marks, .ref m_failures, .ref m_frames, .ref m_guards, .ref m_tally, .ref m_program, .int 0, .int 0, .int 4, .int (-1), .int (-1), .long 0])), (m_tally, .inl (c_m_tally, 10, .inl (fun _ => 0)))] [(c_m_tally, .int)] U)) (va_Qi (fun (r : Int32) (_ : Unit) => ((x1 < 0 ∨ 10 ≤ x1) ∧ r = -1) ∨ (¬ (x1 < 0 ∨ 10 ≤ x1) ∧ r = 0)) (fun (_ : Unit) _ => True) (fun _ => False)) 0 0 (fun _ => False) := by
  refine Met.ofW (cc := cX4_told) (maxL := 2) (ret := (some .int)) (by decide) rfl ?_
  intro p e s m args below meth c s₁ B hml hv
  obtain ⟨rfl, hP, hK⟩ := hv
  have hx := B.exec
  have hb := B.bytes
  have hr := B.returns
  have hts := atoms_spec (ws := wsX4_told) B.pre
  have hown : s.vm.findClass RX4 = some m.cls := findClass_of_methodNamed B.named
  have hlocks := B.notSynchronized
  have hS : va_S (fun _ => False) s.heap s.heap [] := va_S.rf
  have hl := lv_entry ([.ref h0, .int x1]) (n := 2) (Nat.le_of_ble_eq_true rfl)
  rw [lg_entry_eq]
  generalize (lg_sl ([.ref h0, .int x1]) ++ List.replicate (2 - (lg_sl ([.ref h0, .int x1])).length) Slot.unset).toArray = ls at hl ⊢
  have hl : lv_has ls 2 [(0, .ref h0), (1, .int x1)] := hl
  refine lv_iload_n hx hb dX4_told_0 rfl (lv_at hl 1 rfl) ?_
  refine lv_if_lt (tgt := 19) hx hb dX4_told_1 (by decide) (fun c_1 => ?_) (fun c_1 => ?_)
  · refine lv_iconst (v := (-1)) hx hb dX4_told_19 (by decide) ?_
    exact W.iret (v := (-1)) hx hb hr (fun t ht hW => ⟨⟨(-1), (), rfl, Or.inl ⟨Or.inl c_1, rfl⟩, trivial⟩, hS.F ht⟩) hS.2.2 dX4_told_20
  · refine lv_iload_n hx hb dX4_told_4 rfl (lv_at hl 1 rfl) ?_
    refine lv_bipush (v := 10) hx hb dX4_told_5 (by decide) ?_
    refine lv_icmp_ge (tgt := 19) hx hb dX4_told_7 (by decide) (fun c_7 => ?_) (fun c_7 => ?_)
    · refine lv_iconst (v := (-1)) hx hb dX4_told_19 (by decide) ?_
      exact W.iret (v := (-1)) hx hb hr (fun t ht hW => ⟨⟨(-1), (), rfl, Or.inl ⟨Or.inr c_7, rfl⟩, trivial⟩, hS.F ht⟩) hS.2.2 dX4_told_20
    · refine lv_aload_n hx hb dX4_told_10 rfl (lv_at hl 0 rfl) ?_
      refine va_get (D := (dC, dI)) (ci := 4) (v := .ref m_tally) (C := RX4) (T := TX4) (N := 17) hx hb hts in_X4_told_RX4 hown hK hP 0 rfl rfl 9 (by decide) (hts (.fieldLink RX4 47 "FourTongues$Machine" "tally" "[I") (by decide +kernel)) (fun _ h9 => h9) rfl dX4_told_11 ?_
      refine lv_iload_n hx hb dX4_told_14 rfl (lv_at hl 1 rfl) ?_
      refine va_iald hx hb hK hP 1 0 rfl rfl (my_vpin c_1 c_7 (by decide) (by decide)) dX4_told_15 ?_
      refine my_ti (v := 0) rfl ?_
      refine lv_goto (tgt := 20) hx hb dX4_told_16 (by decide) ?_
      exact W.iret (v := 0) hx hb hr (fun t ht hW => ⟨⟨0, (), rfl, Or.inr ⟨fun q => q.elim c_1 c_7, rfl⟩, trivial⟩, hS.F ht⟩) hS.2.2 dX4_told_20

set_option maxHeartbeats 4000000 in
set_option maxRecDepth 100000 in
theorem c_X5_inAll (l : Launch) (dC : Nat → ClassId) (dI : Nat → Nat → Nat) (h0 : Nat) (n_packed : Nat) (n_above : Nat) (n_keptAbove : Nat) : Met l yX5_inAll wsX5_inAll ({ frames := 0, cells := 0, slots := 0, locals := 0 }) (va_Pc [.ref h0] (fun U => xR (dC, dI) [(h0, .inr (5, [.ref n_packed, .ref n_above, .ref n_keptAbove, .int 11, .int 0]))] [] U)) (va_Qi (fun (r : Int32) (_ : Unit) => r = 11) (fun (_ : Unit) _ => True) (fun _ => False)) 0 0 (fun _ => False) := by
  refine Met.ofW (cc := cX5_inAll) (maxL := 1) (ret := (some .int)) (by decide) rfl ?_
  intro p e s m args below meth c s₁ B hml hv
  obtain ⟨rfl, hP, hK⟩ := hv
  have hx := B.exec
  have hb := B.bytes
  have hr := B.returns
  have hts := atoms_spec (ws := wsX5_inAll) B.pre
  have hown : s.vm.findClass RX5 = some m.cls := findClass_of_methodNamed B.named
  have hlocks := B.notSynchronized
  have hS : va_S (fun _ => False) s.heap s.heap [] := va_S.rf
  have hl := lv_entry ([.ref h0]) (n := 1) (Nat.le_of_ble_eq_true rfl)
  rw [lg_entry_eq]
  generalize (lg_sl ([.ref h0]) ++ List.replicate (1 - (lg_sl ([.ref h0])).length) Slot.unset).toArray = ls at hl ⊢
  have hl : lv_has ls 1 [(0, .ref h0)] := hl
  refine lv_aload_n hx hb dX5_inAll_0 rfl (lv_at hl 0 rfl) ?_
  refine va_get (D := (dC, dI)) (ci := 5) (v := .int 11) (C := RX5) (T := TX5) (N := 5) hx hb hts in_X5_inAll_RX5 hown hK hP 0 rfl rfl 3 (by decide) (hts (.fieldLink RX5 22 "FourTongues$Names" "count" "I") (by decide +kernel)) (fun _ h9 => h9) rfl dX5_inAll_1 ?_
  exact W.iret (v := 11) hx hb hr (fun t ht hW => ⟨⟨11, (), rfl, rfl, trivial⟩, hS.F ht⟩) hS.2.2 dX5_inAll_4

set_option maxHeartbeats 4000000 in
set_option maxRecDepth 100000 in
theorem c_X11_look (l : Launch) (dC : Nat → ClassId) (dI : Nat → Nat → Nat) (h0 : Nat) (v_tape : Nat) (v_names : Nat) (v_borders : Nat) (v_programs : Nat) (v_draft : Nat) (v_parser : Nat) (v_machine : Nat) (n_packed : Nat) (n_above : Nat) (n_keptAbove : Nat) (m_programs : Nat) (m_names : Nat) (m_borders : Nat) (m_stack : Nat) (m_heap : Nat) (m_marks : Nat) (m_failures : Nat) (m_frames : Nat) (m_guards : Nat) (m_tally : Nat) (m_program : Nat) (c_m_tally : ClassId) (x1 : Int32) : Met l yX11_look wsX11_look ({ frames := 1, cells := 0, slots := 0, locals := 21 }) (va_Pc [.ref h0, .int x1] (fun U => xR (dC, dI) [(h0, .inr (10, [.ref v_tape, .int 0, .int 0, .ref v_names, .ref v_borders, .ref v_programs, .ref v_draft, .ref v_parser, .ref v_machine])), (v_names, .inr (5, [.ref n_packed, .ref n_above, .ref n_keptAbove, .int 11, .int 0])), (v_machine, .inr (4, [.ref m_programs, .ref m_names, .ref m_borders, .ref m_stack, .ref m_heap, .ref m_marks, .ref m_failures, .ref m_frames, .ref m_guards, .ref m_tally, .ref m_program, .int 0, .int 0, .int 4, .int (-1), .int (-1), .long 0])), (m_tally, .inl (c_m_tally, 10, .inl (fun _ => 0)))] [(c_m_tally, .int)] U)) (va_Qi (fun (r : Int32) (_ : Unit) => (x1 = 10 ∧ r = 11) ∨ (¬ x1 = 10 ∧ (x1 < 0 ∨ 10 ≤ x1) ∧ r = -1) ∨ (¬ x1 = 10 ∧ ¬ (x1 < 0 ∨ 10 ≤ x1) ∧ r = 0)) (fun (_ : Unit) _ => True) (fun _ => False)) 0 0 (fun _ => False) := by
  refine Met.ofW (cc := cX11_look) (maxL := 2) (ret := (some .int)) (by decide) rfl ?_
  intro p e s m args below meth c s₁ B hml hv
  obtain ⟨rfl, hP, hK⟩ := hv
  have hx := B.exec
  have hb := B.bytes
  have hr := B.returns
  have hts := atoms_spec (ws := wsX11_look) B.pre
  have hown : s.vm.findClass RX11 = some m.cls := findClass_of_methodNamed B.named
  have hlocks := B.notSynchronized
  have hS : va_S (fun _ => False) s.heap s.heap [] := va_S.rf
  have hl := lv_entry ([.ref h0, .int x1]) (n := 2) (Nat.le_of_ble_eq_true rfl)
  rw [lg_entry_eq]
  generalize (lg_sl ([.ref h0, .int x1]) ++ List.replicate (2 - (lg_sl ([.ref h0, .int x1])).length) Slot.unset).toArray = ls at hl ⊢
  have hl : lv_has ls 2 [(0, .ref h0), (1, .int x1)] := hl
  refine lv_iload_n hx hb dX11_look_0 rfl (lv_at hl 1 rfl) ?_
  refine lv_bipush (v := 10) hx hb dX11_look_1 (by decide) ?_
  refine lv_icmp_ne (tgt := 14) hx hb dX11_look_3 (by decide) (fun c_3 => ?_) (fun c_3 => ?_)
  · refine lv_aload_n hx hb dX11_look_14 rfl (lv_at hl 0 rfl) ?_
    refine va_get (D := (dC, dI)) (ci := 10) (v := .ref v_machine) (C := RX11) (T := TX11) (N := 9) hx hb hts in_X11_look_RX11 hown hK hP 0 rfl rfl 8 (by decide) (hts (.fieldLink RX11 59 "FourTongues" "machine" "LFourTongues$Machine;") (by decide +kernel)) (fun _ h9 => h9) rfl dX11_look_15 ?_
    refine lv_iload_n hx hb dX11_look_18 rfl (lv_at hl 1 rfl) ?_
    refine va_calli (va_runV (As := [.int x1]) (rest := []) ⟨hx, hb, hml, hown, hts⟩ (c_X4_told l dC dI v_machine m_programs m_names m_borders m_stack m_heap m_marks m_failures m_frames m_guards m_tally m_program c_m_tally x1 ) (cwV 1 hts gX11_look_X4_told rfl rfl rfl (by decide +kernel) ⟨Nat.le_of_ble_eq_true rfl, Nat.le_of_ble_eq_true rfl⟩) ⟨fb_R, va_recv hK hP (ci := 4) (q0 := 2) rfl rfl, fun U hU hW => ⟨rfl, xR.at (hP.sub (ws' := [(v_machine, .inr (4, [.ref m_programs, .ref m_names, .ref m_borders, .ref m_stack, .ref m_heap, .ref m_marks, .ref m_failures, .ref m_frames, .ref m_guards, .ref m_tally, .ref m_program, .int 0, .int 0, .int 4, .int (-1), .int (-1), .long 0])), (m_tally, .inl (c_m_tally, 10, .inl (fun _ => 0)))]) [2, 3] rfl) (hK.sub (tys' := [(c_m_tally, .int)]) [0] rfl) hU hW⟩⟩ rfl rfl hl.1 rfl (lv_room (Nat.le_of_ble_eq_true rfl)) dX11_look_19 ⟨Nat.le_of_ble_eq_true rfl, Nat.le_of_ble_eq_true rfl⟩) hS (fun q _ h => h.elim) (fun q h => h.elim) (fun r_1 u t H locs ht hvm hw hB hz1 hk1 hS => ?_)
    have hw_2 := hw
    have hP := xR.keep hP hk1
    exact W.iret (v := r_1) hx hb hr (fun t ht hW => ⟨⟨r_1, (), rfl, Or.inr (hw_2.elim (fun q => Or.inl ⟨c_3, q⟩) (fun q => Or.inr ⟨c_3, q⟩)), trivial⟩, hS.F ht⟩) hS.2.2 dX11_look_22
  · refine lv_aload_n hx hb dX11_look_6 rfl (lv_at hl 0 rfl) ?_
    refine va_get (D := (dC, dI)) (ci := 10) (v := .ref v_names) (C := RX11) (T := TX11) (N := 9) hx hb hts in_X11_look_RX11 hown hK hP 0 rfl rfl 3 (by decide) (hts (.fieldLink RX11 23 "FourTongues" "names" "LFourTongues$Names;") (by decide +kernel)) (fun _ h9 => h9) rfl dX11_look_7 ?_
    refine va_calli (va_runV (As := []) (rest := []) ⟨hx, hb, hml, hown, hts⟩ (c_X5_inAll l dC dI v_names n_packed n_above n_keptAbove ) (cwV 0 hts gX11_look_X5_inAll rfl rfl rfl (by decide +kernel) ⟨Nat.le_of_ble_eq_true rfl, Nat.le_of_ble_eq_true rfl⟩) ⟨fb_R, va_recv hK hP (ci := 5) (q0 := 1) rfl rfl, fun U hU hW => ⟨rfl, xR.at (hP.sub (ws' := [(v_names, .inr (5, [.ref n_packed, .ref n_above, .ref n_keptAbove, .int 11, .int 0]))]) [1] rfl) (hK.sub (tys' := []) [] rfl) hU hW⟩⟩ rfl rfl hl.1 rfl (lv_room (Nat.le_of_ble_eq_true rfl)) dX11_look_10 ⟨Nat.le_of_ble_eq_true rfl, Nat.le_of_ble_eq_true rfl⟩) hS (fun q _ h => h.elim) (fun q h => h.elim) (fun r_3 u t H locs ht hvm hw hB hz1 hk1 hS => ?_)
    have hw_4 := hw
    have hP := xR.keep hP hk1
    exact W.iret (v := r_3) hx hb hr (fun t ht hW => ⟨⟨r_3, (), rfl, Or.inl ⟨c_3, hw_4⟩, trivial⟩, hS.F ht⟩) hS.2.2 dX11_look_13

set_option maxHeartbeats 4000000 in
set_option maxRecDepth 100000 in
theorem c_X9_kind (l : Launch) (dC : Nat → ClassId) (dI : Nat → Nat → Nat) (h0 : Nat) (k_kinds : Nat) (k_wholes : Nat) (k_reals : Nat) (x1 : Int32) : Met l yX9_kind wsX9_kind ({ frames := 0, cells := 0, slots := 0, locals := 0 }) (va_Pc [.ref h0, .int x1] (fun U => xR (dC, dI) [(h0, .inr (8, [.ref k_kinds, .ref k_wholes, .ref k_reals, .int 0]))] [] U)) (va_Qi (fun (r : Int32) (_ : Unit) => r = 0) (fun (_ : Unit) _ => True) (fun _ => False)) 0 0 (fun _ => False) := by
  refine Met.ofW (cc := cX9_kind) (maxL := 2) (ret := (some .int)) (by decide) rfl ?_
  intro p e s m args below meth c s₁ B hml hv
  obtain ⟨rfl, hP, hK⟩ := hv
  have hx := B.exec
  have hb := B.bytes
  have hr := B.returns
  have hts := atoms_spec (ws := wsX9_kind) B.pre
  have hown : s.vm.findClass RX9 = some m.cls := findClass_of_methodNamed B.named
  have hlocks := B.notSynchronized
  have hS : va_S (fun _ => False) s.heap s.heap [] := va_S.rf
  have hl := lv_entry ([.ref h0, .int x1]) (n := 2) (Nat.le_of_ble_eq_true rfl)
  rw [lg_entry_eq]
  generalize (lg_sl ([.ref h0, .int x1]) ++ List.replicate (2 - (lg_sl ([.ref h0, .int x1])).length) Slot.unset).toArray = ls at hl ⊢
  have hl : lv_has ls 2 [(0, .ref h0), (1, .int x1)] := hl
  refine lv_iload_n hx hb dX9_kind_0 rfl (lv_at hl 1 rfl) ?_
  refine lv_if_lt (tgt := 21) hx hb dX9_kind_1 (by decide) (fun c_1 => ?_) (fun c_1 => ?_)
  · refine lv_iconst (v := 0) hx hb dX9_kind_21 (by decide) ?_
    exact W.iret (v := 0) hx hb hr (fun t ht hW => ⟨⟨0, (), rfl, rfl, trivial⟩, hS.F ht⟩) hS.2.2 dX9_kind_22
  · refine lv_iload_n hx hb dX9_kind_4 rfl (lv_at hl 1 rfl) ?_
    refine lv_aload_n hx hb dX9_kind_5 rfl (lv_at hl 0 rfl) ?_
    refine va_get (D := (dC, dI)) (ci := 8) (v := .int 0) (C := RX9) (T := TX9) (N := 4) hx hb hts in_X9_kind_RX9 hown hK hP 0 rfl rfl 3 (by decide) (hts (.fieldLink RX9 7 "FourTongues$Row" "count" "I") (by decide +kernel)) (fun _ h9 => h9) rfl dX9_kind_6 ?_
    refine lv_icmp_ge (tgt := 21) hx hb dX9_kind_9 (by decide) (fun c_9 => ?_) (fun c_9 => absurd (Int32.not_lt.mp c_1) c_9)
    refine lv_iconst (v := 0) hx hb dX9_kind_21 (by decide) ?_
    exact W.iret (v := 0) hx hb hr (fun t ht hW => ⟨⟨0, (), rfl, rfl, trivial⟩, hS.F ht⟩) hS.2.2 dX9_kind_22

set_option maxHeartbeats 4000000 in
set_option maxRecDepth 100000 in
theorem c_X9_whole (l : Launch) (dC : Nat → ClassId) (dI : Nat → Nat → Nat) (h0 : Nat) (k_kinds : Nat) (k_wholes : Nat) (k_reals : Nat) (x1 : Int32) : Met l yX9_whole wsX9_whole ({ frames := 0, cells := 0, slots := 0, locals := 0 }) (va_Pc [.ref h0, .int x1] (fun U => xR (dC, dI) [(h0, .inr (8, [.ref k_kinds, .ref k_wholes, .ref k_reals, .int 0]))] [] U)) (va_Ql (fun (r : Int64) (_ : Unit) => r = 0) (fun (_ : Unit) _ => True) (fun _ => False)) 0 0 (fun _ => False) := by
  refine Met.ofW (cc := cX9_whole) (maxL := 2) (ret := (some .long)) (by decide) rfl ?_
  intro p e s m args below meth c s₁ B hml hv
  obtain ⟨rfl, hP, hK⟩ := hv
  have hx := B.exec
  have hb := B.bytes
  have hr := B.returns
  have hts := atoms_spec (ws := wsX9_whole) B.pre
  have hown : s.vm.findClass RX9 = some m.cls := findClass_of_methodNamed B.named
  have hlocks := B.notSynchronized
  have hS : va_S (fun _ => False) s.heap s.heap [] := va_S.rf
  have hl := lv_entry ([.ref h0, .int x1]) (n := 2) (Nat.le_of_ble_eq_true rfl)
  rw [lg_entry_eq]
  generalize (lg_sl ([.ref h0, .int x1]) ++ List.replicate (2 - (lg_sl ([.ref h0, .int x1])).length) Slot.unset).toArray = ls at hl ⊢
  have hl : lv_has ls 2 [(0, .ref h0), (1, .int x1)] := hl
  refine lv_iload_n hx hb dX9_whole_0 rfl (lv_at hl 1 rfl) ?_
  refine lv_if_lt (tgt := 21) hx hb dX9_whole_1 (by decide) (fun c_1 => ?_) (fun c_1 => ?_)
  · refine lv_lconst (v := 0) hx hb dX9_whole_21 (by decide) ?_
    exact W.lret (v := 0) hx hb hr (fun t ht hW => ⟨⟨0, (), rfl, rfl, trivial⟩, hS.F ht⟩) hS.2.2 dX9_whole_22
  · refine lv_iload_n hx hb dX9_whole_4 rfl (lv_at hl 1 rfl) ?_
    refine lv_aload_n hx hb dX9_whole_5 rfl (lv_at hl 0 rfl) ?_
    refine va_get (D := (dC, dI)) (ci := 8) (v := .int 0) (C := RX9) (T := TX9) (N := 4) hx hb hts in_X9_whole_RX9 hown hK hP 0 rfl rfl 3 (by decide) (hts (.fieldLink RX9 7 "FourTongues$Row" "count" "I") (by decide +kernel)) (fun _ h9 => h9) rfl dX9_whole_6 ?_
    refine lv_icmp_ge (tgt := 21) hx hb dX9_whole_9 (by decide) (fun c_9 => ?_) (fun c_9 => absurd (Int32.not_lt.mp c_1) c_9)
    refine lv_lconst (v := 0) hx hb dX9_whole_21 (by decide) ?_
    exact W.lret (v := 0) hx hb hr (fun t ht hW => ⟨⟨0, (), rfl, rfl, trivial⟩, hS.F ht⟩) hS.2.2 dX9_whole_22

set_option maxHeartbeats 4000000 in
set_option maxRecDepth 100000 in
theorem c_X9_count (l : Launch) (dC : Nat → ClassId) (dI : Nat → Nat → Nat) (h0 : Nat) (k_kinds : Nat) (k_wholes : Nat) (k_reals : Nat) : Met l yX9_count wsX9_count ({ frames := 0, cells := 0, slots := 0, locals := 0 }) (va_Pc [.ref h0] (fun U => xR (dC, dI) [(h0, .inr (8, [.ref k_kinds, .ref k_wholes, .ref k_reals, .int 0]))] [] U)) (va_Qi (fun (r : Int32) (_ : Unit) => r = 0) (fun (_ : Unit) _ => True) (fun _ => False)) 0 0 (fun _ => False) := by
  refine Met.ofW (cc := cX9_count) (maxL := 1) (ret := (some .int)) (by decide) rfl ?_
  intro p e s m args below meth c s₁ B hml hv
  obtain ⟨rfl, hP, hK⟩ := hv
  have hx := B.exec
  have hb := B.bytes
  have hr := B.returns
  have hts := atoms_spec (ws := wsX9_count) B.pre
  have hown : s.vm.findClass RX9 = some m.cls := findClass_of_methodNamed B.named
  have hlocks := B.notSynchronized
  have hS : va_S (fun _ => False) s.heap s.heap [] := va_S.rf
  have hl := lv_entry ([.ref h0]) (n := 1) (Nat.le_of_ble_eq_true rfl)
  rw [lg_entry_eq]
  generalize (lg_sl ([.ref h0]) ++ List.replicate (1 - (lg_sl ([.ref h0])).length) Slot.unset).toArray = ls at hl ⊢
  have hl : lv_has ls 1 [(0, .ref h0)] := hl
  refine lv_aload_n hx hb dX9_count_0 rfl (lv_at hl 0 rfl) ?_
  refine va_get (D := (dC, dI)) (ci := 8) (v := .int 0) (C := RX9) (T := TX9) (N := 4) hx hb hts in_X9_count_RX9 hown hK hP 0 rfl rfl 3 (by decide) (hts (.fieldLink RX9 7 "FourTongues$Row" "count" "I") (by decide +kernel)) (fun _ h9 => h9) rfl dX9_count_1 ?_
  exact W.iret (v := 0) hx hb hr (fun t ht hW => ⟨⟨0, (), rfl, rfl, trivial⟩, hS.F ht⟩) hS.2.2 dX9_count_4

set_option maxHeartbeats 4000000 in
set_option maxRecDepth 100000 in
theorem c_X4_markOf (l : Launch) (dC : Nat → ClassId) (dI : Nat → Nat → Nat) (h0 : Nat) (m_programs : Nat) (m_names : Nat) (m_borders : Nat) (m_stack : Nat) (m_heap : Nat) (m_marks : Nat) (m_failures : Nat) (m_frames : Nat) (m_guards : Nat) (m_tally : Nat) (m_program : Nat) (k_kinds : Nat) (k_wholes : Nat) (k_reals : Nat) (x1 : Int32) : Met l yX4_markOf wsX4_markOf ({ frames := 1, cells := 0, slots := 0, locals := 21 }) (va_Pc [.ref h0, .int x1] (fun U => xR (dC, dI) [(h0, .inr (4, [.ref m_programs, .ref m_names, .ref m_borders, .ref m_stack, .ref m_heap, .ref m_marks, .ref m_failures, .ref m_frames, .ref m_guards, .ref m_tally, .ref m_program, .int 0, .int 0, .int 4, .int (-1), .int (-1), .long 0])), (m_marks, .inr (8, [.ref k_kinds, .ref k_wholes, .ref k_reals, .int 0]))] [] U)) (va_Ql (fun (r : Int64) (_ : Unit) => r = 0) (fun (_ : Unit) _ => True) (fun _ => False)) 0 0 (fun _ => False) := by
  refine Met.ofW (cc := cX4_markOf) (maxL := 2) (ret := (some .long)) (by decide) rfl ?_
  intro p e s m args below meth c s₁ B hml hv
  obtain ⟨rfl, hP, hK⟩ := hv
  have hx := B.exec
  have hb := B.bytes
  have hr := B.returns
  have hts := atoms_spec (ws := wsX4_markOf) B.pre
  have hown : s.vm.findClass RX4 = some m.cls := findClass_of_methodNamed B.named
  have hlocks := B.notSynchronized
  have hS : va_S (fun _ => False) s.heap s.heap [] := va_S.rf
  have hl := lv_entry ([.ref h0, .int x1]) (n := 2) (Nat.le_of_ble_eq_true rfl)
  rw [lg_entry_eq]
  generalize (lg_sl ([.ref h0, .int x1]) ++ List.replicate (2 - (lg_sl ([.ref h0, .int x1])).length) Slot.unset).toArray = ls at hl ⊢
  have hl : lv_has ls 2 [(0, .ref h0), (1, .int x1)] := hl
  refine lv_aload_n hx hb dX4_markOf_0 rfl (lv_at hl 0 rfl) ?_
  refine va_get (D := (dC, dI)) (ci := 4) (v := .ref m_marks) (C := RX4) (T := TX4) (N := 17) hx hb hts in_X4_markOf_RX4 hown hK hP 0 rfl rfl 5 (by decide) (hts (.fieldLink RX4 23 "FourTongues$Machine" "marks" "LFourTongues$Row;") (by decide +kernel)) (fun _ h9 => h9) rfl dX4_markOf_1 ?_
  refine lv_iload_n hx hb dX4_markOf_4 rfl (lv_at hl 1 rfl) ?_
  refine va_calli (va_runV (As := [.int x1]) (rest := []) ⟨hx, hb, hml, hown, hts⟩ (c_X9_kind l dC dI m_marks k_kinds k_wholes k_reals x1 ) (cwV 1 hts gX4_markOf_X9_kind rfl rfl rfl (by decide +kernel) ⟨Nat.le_of_ble_eq_true rfl, Nat.le_of_ble_eq_true rfl⟩) ⟨fb_R, va_recv hK hP (ci := 8) (q0 := 1) rfl rfl, fun U hU hW => ⟨rfl, xR.at (hP.sub (ws' := [(m_marks, .inr (8, [.ref k_kinds, .ref k_wholes, .ref k_reals, .int 0]))]) [1] rfl) (hK.sub (tys' := []) [] rfl) hU hW⟩⟩ rfl rfl hl.1 rfl (lv_room (Nat.le_of_ble_eq_true rfl)) dX4_markOf_5 ⟨Nat.le_of_ble_eq_true rfl, Nat.le_of_ble_eq_true rfl⟩) hS (fun q _ h => h.elim) (fun q h => h.elim) (fun r_1 u t H locs ht hvm hw hB hz1 hk1 hS => ?_)
  have hw_2 := hw
  have hP := xR.keep hP hk1
  subst hw_2
  refine lv_iconst (v := 3) hx hb dX4_markOf_8 (by decide) ?_
  refine lv_icmp_ne (tgt := 26) hx hb dX4_markOf_9 (by decide) (fun c_9 => ?_) (fun c_9 => absurd c_9 (by decide))
  refine lv_aload_n hx hb dX4_markOf_26 rfl (lv_at hl 0 rfl) ?_
  refine va_get (D := (dC, dI)) (ci := 4) (v := .ref m_marks) (C := RX4) (T := TX4) (N := 17) hx hb hts in_X4_markOf_RX4 hown hK hP 0 rfl rfl 5 (by decide) (hts (.fieldLink RX4 23 "FourTongues$Machine" "marks" "LFourTongues$Row;") (by decide +kernel)) (fun _ h9 => h9) rfl dX4_markOf_27 ?_
  refine lv_iload_n hx hb dX4_markOf_30 rfl (lv_at hl 1 rfl) ?_
  refine va_calll (va_runV (As := [.int x1]) (rest := []) ⟨hx, hb, hml, hown, hts⟩ (c_X9_whole l dC dI m_marks k_kinds k_wholes k_reals x1 ) (cwV 1 hts gX4_markOf_X9_whole rfl rfl rfl (by decide +kernel) ⟨Nat.le_of_ble_eq_true rfl, Nat.le_of_ble_eq_true rfl⟩) ⟨fb_R, va_recv hK hP (ci := 8) (q0 := 1) rfl rfl, fun U hU hW => ⟨rfl, xR.at (hP.sub (ws' := [(m_marks, .inr (8, [.ref k_kinds, .ref k_wholes, .ref k_reals, .int 0]))]) [1] rfl) (hK.sub (tys' := []) [] rfl) hU hW⟩⟩ rfl rfl hl.1 rfl (lv_room (Nat.le_of_ble_eq_true rfl)) dX4_markOf_31 ⟨Nat.le_of_ble_eq_true rfl, Nat.le_of_ble_eq_true rfl⟩) hS (fun q _ h => h.elim) (fun q h => h.elim) (fun r_3 u t H locs ht hvm hw hB hz1 hk1 hS => ?_)
  have hw_4 := hw
  have hP := xR.keep hP hk1
  subst hw_4
  exact W.lret (v := 0) hx hb hr (fun t ht hW => ⟨⟨0, (), rfl, rfl, trivial⟩, hS.F ht⟩) hS.2.2 dX4_markOf_34

set_option maxHeartbeats 4000000 in
set_option maxRecDepth 100000 in
theorem c_X11_mark (l : Launch) (dC : Nat → ClassId) (dI : Nat → Nat → Nat) (h0 : Nat) (v_tape : Nat) (v_names : Nat) (v_borders : Nat) (v_programs : Nat) (v_draft : Nat) (v_parser : Nat) (v_machine : Nat) (m_programs : Nat) (m_names : Nat) (m_borders : Nat) (m_stack : Nat) (m_heap : Nat) (m_marks : Nat) (m_failures : Nat) (m_frames : Nat) (m_guards : Nat) (m_tally : Nat) (m_program : Nat) (k_kinds : Nat) (k_wholes : Nat) (k_reals : Nat) (x1 : Int32) : Met l yX11_mark wsX11_mark ({ frames := 2, cells := 0, slots := 0, locals := 42 }) (va_Pc [.ref h0, .int x1] (fun U => xR (dC, dI) [(h0, .inr (10, [.ref v_tape, .int 0, .int 0, .ref v_names, .ref v_borders, .ref v_programs, .ref v_draft, .ref v_parser, .ref v_machine])), (v_machine, .inr (4, [.ref m_programs, .ref m_names, .ref m_borders, .ref m_stack, .ref m_heap, .ref m_marks, .ref m_failures, .ref m_frames, .ref m_guards, .ref m_tally, .ref m_program, .int 0, .int 0, .int 4, .int (-1), .int (-1), .long 0])), (m_marks, .inr (8, [.ref k_kinds, .ref k_wholes, .ref k_reals, .int 0]))] [] U)) (va_Ql (fun (r : Int64) (_ : Unit) => r = 0) (fun (_ : Unit) _ => True) (fun _ => False)) 0 0 (fun _ => False) := by
  refine Met.ofW (cc := cX11_mark) (maxL := 2) (ret := (some .long)) (by decide) rfl ?_
  intro p e s m args below meth c s₁ B hml hv
  obtain ⟨rfl, hP, hK⟩ := hv
  have hx := B.exec
  have hb := B.bytes
  have hr := B.returns
  have hts := atoms_spec (ws := wsX11_mark) B.pre
  have hown : s.vm.findClass RX11 = some m.cls := findClass_of_methodNamed B.named
  have hlocks := B.notSynchronized
  have hS : va_S (fun _ => False) s.heap s.heap [] := va_S.rf
  have hl := lv_entry ([.ref h0, .int x1]) (n := 2) (Nat.le_of_ble_eq_true rfl)
  rw [lg_entry_eq]
  generalize (lg_sl ([.ref h0, .int x1]) ++ List.replicate (2 - (lg_sl ([.ref h0, .int x1])).length) Slot.unset).toArray = ls at hl ⊢
  have hl : lv_has ls 2 [(0, .ref h0), (1, .int x1)] := hl
  refine lv_aload_n hx hb dX11_mark_0 rfl (lv_at hl 0 rfl) ?_
  refine va_get (D := (dC, dI)) (ci := 10) (v := .ref v_machine) (C := RX11) (T := TX11) (N := 9) hx hb hts in_X11_mark_RX11 hown hK hP 0 rfl rfl 8 (by decide) (hts (.fieldLink RX11 59 "FourTongues" "machine" "LFourTongues$Machine;") (by decide +kernel)) (fun _ h9 => h9) rfl dX11_mark_1 ?_
  refine lv_iload_n hx hb dX11_mark_4 rfl (lv_at hl 1 rfl) ?_
  refine va_calll (va_runV (As := [.int x1]) (rest := []) ⟨hx, hb, hml, hown, hts⟩ (c_X4_markOf l dC dI v_machine m_programs m_names m_borders m_stack m_heap m_marks m_failures m_frames m_guards m_tally m_program k_kinds k_wholes k_reals x1 ) (cwV 1 hts gX11_mark_X4_markOf rfl rfl rfl (by decide +kernel) ⟨Nat.le_of_ble_eq_true rfl, Nat.le_of_ble_eq_true rfl⟩) ⟨fb_R, va_recv hK hP (ci := 4) (q0 := 1) rfl rfl, fun U hU hW => ⟨rfl, xR.at (hP.sub (ws' := [(v_machine, .inr (4, [.ref m_programs, .ref m_names, .ref m_borders, .ref m_stack, .ref m_heap, .ref m_marks, .ref m_failures, .ref m_frames, .ref m_guards, .ref m_tally, .ref m_program, .int 0, .int 0, .int 4, .int (-1), .int (-1), .long 0])), (m_marks, .inr (8, [.ref k_kinds, .ref k_wholes, .ref k_reals, .int 0]))]) [1, 2] rfl) (hK.sub (tys' := []) [] rfl) hU hW⟩⟩ rfl rfl hl.1 rfl (lv_room (Nat.le_of_ble_eq_true rfl)) dX11_mark_5 ⟨Nat.le_of_ble_eq_true rfl, Nat.le_of_ble_eq_true rfl⟩) hS (fun q _ h => h.elim) (fun q h => h.elim) (fun r_1 u t H locs ht hvm hw hB hz1 hk1 hS => ?_)
  have hw_2 := hw
  have hP := xR.keep hP hk1
  subst hw_2
  exact W.lret (v := 0) hx hb hr (fun t ht hW => ⟨⟨0, (), rfl, rfl, trivial⟩, hS.F ht⟩) hS.2.2 dX11_mark_8

set_option maxHeartbeats 4000000 in
set_option maxRecDepth 100000 in
theorem c_X4_tongueOfMark (l : Launch) (dC : Nat → ClassId) (dI : Nat → Nat → Nat) (h0 : Nat) (m_programs : Nat) (m_names : Nat) (m_borders : Nat) (m_stack : Nat) (m_heap : Nat) (m_marks : Nat) (m_failures : Nat) (m_frames : Nat) (m_guards : Nat) (m_tally : Nat) (m_program : Nat) (k_kinds : Nat) (k_wholes : Nat) (k_reals : Nat) (x1 : Int32) : Met l yX4_tongueOfMark wsX4_tongueOfMark ({ frames := 1, cells := 0, slots := 0, locals := 20 }) (va_Pc [.ref h0, .int x1] (fun U => xR (dC, dI) [(h0, .inr (4, [.ref m_programs, .ref m_names, .ref m_borders, .ref m_stack, .ref m_heap, .ref m_marks, .ref m_failures, .ref m_frames, .ref m_guards, .ref m_tally, .ref m_program, .int 0, .int 0, .int 4, .int (-1), .int (-1), .long 0])), (m_marks, .inr (8, [.ref k_kinds, .ref k_wholes, .ref k_reals, .int 0]))] [] U)) (va_Qi (fun (r : Int32) (_ : Unit) => r = -1) (fun (_ : Unit) _ => True) (fun _ => False)) 0 0 (fun _ => False) := by
  refine Met.ofW (cc := cX4_tongueOfMark) (maxL := 2) (ret := (some .int)) (by decide) rfl ?_
  intro p e s m args below meth c s₁ B hml hv
  obtain ⟨rfl, hP, hK⟩ := hv
  have hx := B.exec
  have hb := B.bytes
  have hr := B.returns
  have hts := atoms_spec (ws := wsX4_tongueOfMark) B.pre
  have hown : s.vm.findClass RX4 = some m.cls := findClass_of_methodNamed B.named
  have hlocks := B.notSynchronized
  have hS : va_S (fun _ => False) s.heap s.heap [] := va_S.rf
  have hl := lv_entry ([.ref h0, .int x1]) (n := 2) (Nat.le_of_ble_eq_true rfl)
  rw [lg_entry_eq]
  generalize (lg_sl ([.ref h0, .int x1]) ++ List.replicate (2 - (lg_sl ([.ref h0, .int x1])).length) Slot.unset).toArray = ls at hl ⊢
  have hl : lv_has ls 2 [(0, .ref h0), (1, .int x1)] := hl
  refine lv_iload_n hx hb dX4_tongueOfMark_0 rfl (lv_at hl 1 rfl) ?_
  refine lv_if_lt (tgt := 26) hx hb dX4_tongueOfMark_1 (by decide) (fun c_1 => ?_) (fun c_1 => ?_)
  · refine lv_iconst (v := (-1)) hx hb dX4_tongueOfMark_26 (by decide) ?_
    exact W.iret (v := (-1)) hx hb hr (fun t ht hW => ⟨⟨(-1), (), rfl, rfl, trivial⟩, hS.F ht⟩) hS.2.2 dX4_tongueOfMark_27
  · refine lv_iload_n hx hb dX4_tongueOfMark_4 rfl (lv_at hl 1 rfl) ?_
    refine lv_aload_n hx hb dX4_tongueOfMark_5 rfl (lv_at hl 0 rfl) ?_
    refine va_get (D := (dC, dI)) (ci := 4) (v := .ref m_marks) (C := RX4) (T := TX4) (N := 17) hx hb hts in_X4_tongueOfMark_RX4 hown hK hP 0 rfl rfl 5 (by decide) (hts (.fieldLink RX4 23 "FourTongues$Machine" "marks" "LFourTongues$Row;") (by decide +kernel)) (fun _ h9 => h9) rfl dX4_tongueOfMark_6 ?_
    refine va_calli (va_runV (As := []) (rest := [.int x1]) ⟨hx, hb, hml, hown, hts⟩ (c_X9_count l dC dI m_marks k_kinds k_wholes k_reals ) (cwV 0 hts gX4_tongueOfMark_X9_count rfl rfl rfl (by decide +kernel) ⟨Nat.le_of_ble_eq_true rfl, Nat.le_of_ble_eq_true rfl⟩) ⟨fb_R, va_recv hK hP (ci := 8) (q0 := 1) rfl rfl, fun U hU hW => ⟨rfl, xR.at (hP.sub (ws' := [(m_marks, .inr (8, [.ref k_kinds, .ref k_wholes, .ref k_reals, .int 0]))]) [1] rfl) (hK.sub (tys' := []) [] rfl) hU hW⟩⟩ rfl rfl hl.1 rfl (lv_room (Nat.le_of_ble_eq_true rfl)) dX4_tongueOfMark_9 ⟨Nat.le_of_ble_eq_true rfl, Nat.le_of_ble_eq_true rfl⟩) hS (fun q _ h => h.elim) (fun q h => h.elim) (fun r_1 u t H locs ht hvm hw hB hz1 hk1 hS => ?_)
    have hw_2 := hw
    have hP := xR.keep hP hk1
    subst hw_2
    refine lv_icmp_ge (tgt := 26) hx hb dX4_tongueOfMark_12 (by decide) (fun c_12 => ?_) (fun c_12 => absurd (Int32.not_lt.mp c_1) c_12)
    refine lv_iconst (v := (-1)) hx hb dX4_tongueOfMark_26 (by decide) ?_
    exact W.iret (v := (-1)) hx hb hr (fun t ht hW => ⟨⟨(-1), (), rfl, rfl, trivial⟩, hS.F ht⟩) hS.2.2 dX4_tongueOfMark_27

set_option maxHeartbeats 4000000 in
set_option maxRecDepth 100000 in
theorem c_X11_markTongue (l : Launch) (dC : Nat → ClassId) (dI : Nat → Nat → Nat) (h0 : Nat) (v_tape : Nat) (v_names : Nat) (v_borders : Nat) (v_programs : Nat) (v_draft : Nat) (v_parser : Nat) (v_machine : Nat) (m_programs : Nat) (m_names : Nat) (m_borders : Nat) (m_stack : Nat) (m_heap : Nat) (m_marks : Nat) (m_failures : Nat) (m_frames : Nat) (m_guards : Nat) (m_tally : Nat) (m_program : Nat) (k_kinds : Nat) (k_wholes : Nat) (k_reals : Nat) (x1 : Int32) : Met l yX11_markTongue wsX11_markTongue ({ frames := 2, cells := 0, slots := 0, locals := 41 }) (va_Pc [.ref h0, .int x1] (fun U => xR (dC, dI) [(h0, .inr (10, [.ref v_tape, .int 0, .int 0, .ref v_names, .ref v_borders, .ref v_programs, .ref v_draft, .ref v_parser, .ref v_machine])), (v_machine, .inr (4, [.ref m_programs, .ref m_names, .ref m_borders, .ref m_stack, .ref m_heap, .ref m_marks, .ref m_failures, .ref m_frames, .ref m_guards, .ref m_tally, .ref m_program, .int 0, .int 0, .int 4, .int (-1), .int (-1), .long 0])), (m_marks, .inr (8, [.ref k_kinds, .ref k_wholes, .ref k_reals, .int 0]))] [] U)) (va_Qi (fun (r : Int32) (_ : Unit) => r = -1) (fun (_ : Unit) _ => True) (fun _ => False)) 0 0 (fun _ => False) := by
  refine Met.ofW (cc := cX11_markTongue) (maxL := 2) (ret := (some .int)) (by decide) rfl ?_
  intro p e s m args below meth c s₁ B hml hv
  obtain ⟨rfl, hP, hK⟩ := hv
  have hx := B.exec
  have hb := B.bytes
  have hr := B.returns
  have hts := atoms_spec (ws := wsX11_markTongue) B.pre
  have hown : s.vm.findClass RX11 = some m.cls := findClass_of_methodNamed B.named
  have hlocks := B.notSynchronized
  have hS : va_S (fun _ => False) s.heap s.heap [] := va_S.rf
  have hl := lv_entry ([.ref h0, .int x1]) (n := 2) (Nat.le_of_ble_eq_true rfl)
  rw [lg_entry_eq]
  generalize (lg_sl ([.ref h0, .int x1]) ++ List.replicate (2 - (lg_sl ([.ref h0, .int x1])).length) Slot.unset).toArray = ls at hl ⊢
  have hl : lv_has ls 2 [(0, .ref h0), (1, .int x1)] := hl
  refine lv_aload_n hx hb dX11_markTongue_0 rfl (lv_at hl 0 rfl) ?_
  refine va_get (D := (dC, dI)) (ci := 10) (v := .ref v_machine) (C := RX11) (T := TX11) (N := 9) hx hb hts in_X11_markTongue_RX11 hown hK hP 0 rfl rfl 8 (by decide) (hts (.fieldLink RX11 59 "FourTongues" "machine" "LFourTongues$Machine;") (by decide +kernel)) (fun _ h9 => h9) rfl dX11_markTongue_1 ?_
  refine lv_iload_n hx hb dX11_markTongue_4 rfl (lv_at hl 1 rfl) ?_
  refine va_calli (va_runV (As := [.int x1]) (rest := []) ⟨hx, hb, hml, hown, hts⟩ (c_X4_tongueOfMark l dC dI v_machine m_programs m_names m_borders m_stack m_heap m_marks m_failures m_frames m_guards m_tally m_program k_kinds k_wholes k_reals x1 ) (cwV 1 hts gX11_markTongue_X4_tongueOfMark rfl rfl rfl (by decide +kernel) ⟨Nat.le_of_ble_eq_true rfl, Nat.le_of_ble_eq_true rfl⟩) ⟨fb_R, va_recv hK hP (ci := 4) (q0 := 1) rfl rfl, fun U hU hW => ⟨rfl, xR.at (hP.sub (ws' := [(v_machine, .inr (4, [.ref m_programs, .ref m_names, .ref m_borders, .ref m_stack, .ref m_heap, .ref m_marks, .ref m_failures, .ref m_frames, .ref m_guards, .ref m_tally, .ref m_program, .int 0, .int 0, .int 4, .int (-1), .int (-1), .long 0])), (m_marks, .inr (8, [.ref k_kinds, .ref k_wholes, .ref k_reals, .int 0]))]) [1, 2] rfl) (hK.sub (tys' := []) [] rfl) hU hW⟩⟩ rfl rfl hl.1 rfl (lv_room (Nat.le_of_ble_eq_true rfl)) dX11_markTongue_5 ⟨Nat.le_of_ble_eq_true rfl, Nat.le_of_ble_eq_true rfl⟩) hS (fun q _ h => h.elim) (fun q h => h.elim) (fun r_1 u t H locs ht hvm hw hB hz1 hk1 hS => ?_)
  have hw_2 := hw
  have hP := xR.keep hP hk1
  subst hw_2
  exact W.iret (v := (-1)) hx hb hr (fun t ht hW => ⟨⟨(-1), (), rfl, rfl, trivial⟩, hS.F ht⟩) hS.2.2 dX11_markTongue_8

set_option maxHeartbeats 4000000 in
set_option maxRecDepth 100000 in
theorem c_X1_fact (l : Launch) (dC : Nat → ClassId) (dI : Nat → Nat → Nat) (h0 : Nat) (l_facts : Nat) (l_values : Nat) (l_lying : Nat) (x2 : Int32) : Met l yX1_fact wsX1_fact ({ frames := 0, cells := 0, slots := 0, locals := 0 }) (va_Pc [.ref h0, .int (-1), .int x2] (fun U => xR (dC, dI) [(h0, .inr (1, [.ref l_facts, .int 0, .ref l_values, .ref l_lying, .int 0]))] [] U)) (va_Qi (fun (r : Int32) (_ : Unit) => r = -1) (fun (_ : Unit) _ => True) (fun _ => False)) 0 0 (fun _ => False) := by
  refine Met.ofW (cc := cX1_fact) (maxL := 3) (ret := (some .int)) (by decide) rfl ?_
  intro p e s m args below meth c s₁ B hml hv
  obtain ⟨rfl, hP, hK⟩ := hv
  have hx := B.exec
  have hb := B.bytes
  have hr := B.returns
  have hts := atoms_spec (ws := wsX1_fact) B.pre
  have hown : s.vm.findClass RX1 = some m.cls := findClass_of_methodNamed B.named
  have hlocks := B.notSynchronized
  have hS : va_S (fun _ => False) s.heap s.heap [] := va_S.rf
  have hl := lv_entry ([.ref h0, .int (-1), .int x2]) (n := 3) (Nat.le_of_ble_eq_true rfl)
  rw [lg_entry_eq]
  generalize (lg_sl ([.ref h0, .int (-1), .int x2]) ++ List.replicate (3 - (lg_sl ([.ref h0, .int (-1), .int x2])).length) Slot.unset).toArray = ls at hl ⊢
  have hl : lv_has ls 3 [(0, .ref h0), (1, .int (-1)), (2, .int x2)] := hl
  refine lv_iload_n hx hb dX1_fact_0 rfl (lv_at hl 1 rfl) ?_
  refine lv_if_lt (tgt := 22) hx hb dX1_fact_1 (by decide) (fun c_1 => ?_) (fun c_1 => absurd c_1 (by decide))
  refine lv_iconst (v := (-1)) hx hb dX1_fact_22 (by decide) ?_
  exact W.iret (v := (-1)) hx hb hr (fun t ht hW => ⟨⟨(-1), (), rfl, rfl, trivial⟩, hS.F ht⟩) hS.2.2 dX1_fact_23

set_option maxHeartbeats 4000000 in
set_option maxRecDepth 100000 in
theorem c_X1_source (l : Launch) (dC : Nat → ClassId) (dI : Nat → Nat → Nat) (h0 : Nat) (l_facts : Nat) (l_values : Nat) (l_lying : Nat) (x2 : Int32) : Met l yX1_source wsX1_source ({ frames := 0, cells := 0, slots := 0, locals := 0 }) (va_Pc [.ref h0, .int (-1), .int x2] (fun U => xR (dC, dI) [(h0, .inr (1, [.ref l_facts, .int 0, .ref l_values, .ref l_lying, .int 0]))] [] U)) (va_Qi (fun (r : Int32) (_ : Unit) => r = -1) (fun (_ : Unit) _ => True) (fun _ => False)) 0 0 (fun _ => False) := by
  refine Met.ofW (cc := cX1_source) (maxL := 5) (ret := (some .int)) (by decide) rfl ?_
  intro p e s m args below meth c s₁ B hml hv
  obtain ⟨rfl, hP, hK⟩ := hv
  have hx := B.exec
  have hb := B.bytes
  have hr := B.returns
  have hts := atoms_spec (ws := wsX1_source) B.pre
  have hown : s.vm.findClass RX1 = some m.cls := findClass_of_methodNamed B.named
  have hlocks := B.notSynchronized
  have hS : va_S (fun _ => False) s.heap s.heap [] := va_S.rf
  have hl := lv_entry ([.ref h0, .int (-1), .int x2]) (n := 5) (Nat.le_of_ble_eq_true rfl)
  rw [lg_entry_eq]
  generalize (lg_sl ([.ref h0, .int (-1), .int x2]) ++ List.replicate (5 - (lg_sl ([.ref h0, .int (-1), .int x2])).length) Slot.unset).toArray = ls at hl ⊢
  have hl : lv_has ls 5 [(0, .ref h0), (1, .int (-1)), (2, .int x2)] := hl
  refine lv_iload_n hx hb dX1_source_0 rfl (lv_at hl 2 rfl) ?_
  refine lv_if_ge (tgt := 8) hx hb dX1_source_1 (by decide) (fun c_1 => ?_) (fun c_1 => ?_)
  · refine lv_iload_n hx hb dX1_source_8 rfl (lv_at hl 1 rfl) ?_
    refine lv_istore_n (lv' := [(3, .int (-1)), (0, .ref h0), (1, .int (-1)), (2, .int x2)]) hx hb dX1_source_9 rfl hl (by decide) rfl (fun ls hl => ?_)
    refine lv_iconst (v := 0) hx hb dX1_source_10 (by decide) ?_
    refine lv_istore (lv' := [(4, .int 0), (3, .int (-1)), (0, .ref h0), (1, .int (-1)), (2, .int x2)]) hx hb dX1_source_11 hl (by decide) rfl (fun ls hl => ?_)
    refine lv_iload hx hb dX1_source_13 (lv_at hl 0 rfl) ?_
    refine lv_iload_n hx hb dX1_source_15 rfl (lv_at hl 4 rfl) ?_
    refine lv_icmp_ge (tgt := 37) hx hb dX1_source_16 (by decide) (fun c_16 => ?_) (fun c_16 => ?_)
    · refine lv_iload_n hx hb dX1_source_37 rfl (lv_at hl 1 rfl) ?_
      exact W.iret (v := (-1)) hx hb hr (fun t ht hW => ⟨⟨(-1), (), rfl, rfl, trivial⟩, hS.F ht⟩) hS.2.2 dX1_source_38
    · refine lv_iload_n hx hb dX1_source_19 rfl (lv_at hl 1 rfl) ?_
      refine lv_if_lt (tgt := 37) hx hb dX1_source_20 (by decide) (fun c_20 => ?_) (fun c_20 => absurd c_20 (by decide))
      refine lv_iload_n hx hb dX1_source_37 rfl (lv_at hl 1 rfl) ?_
      exact W.iret (v := (-1)) hx hb hr (fun t ht hW => ⟨⟨(-1), (), rfl, rfl, trivial⟩, hS.F ht⟩) hS.2.2 dX1_source_38
  · refine lv_iconst (v := (-1)) hx hb dX1_source_4 (by decide) ?_
    refine lv_goto (tgt := 9) hx hb dX1_source_5 (by decide) ?_
    refine lv_istore_n (lv' := [(3, .int (-1)), (0, .ref h0), (1, .int (-1)), (2, .int x2)]) hx hb dX1_source_9 rfl hl (by decide) rfl (fun ls hl => ?_)
    refine lv_iconst (v := 0) hx hb dX1_source_10 (by decide) ?_
    refine lv_istore (lv' := [(4, .int 0), (3, .int (-1)), (0, .ref h0), (1, .int (-1)), (2, .int x2)]) hx hb dX1_source_11 hl (by decide) rfl (fun ls hl => ?_)
    refine lv_iload hx hb dX1_source_13 (lv_at hl 0 rfl) ?_
    refine lv_iload_n hx hb dX1_source_15 rfl (lv_at hl 4 rfl) ?_
    refine lv_icmp_ge (tgt := 37) hx hb dX1_source_16 (by decide) (fun c_16 => ?_) (fun c_16 => ?_)
    · refine lv_iload_n hx hb dX1_source_37 rfl (lv_at hl 1 rfl) ?_
      exact W.iret (v := (-1)) hx hb hr (fun t ht hW => ⟨⟨(-1), (), rfl, rfl, trivial⟩, hS.F ht⟩) hS.2.2 dX1_source_38
    · refine lv_iload_n hx hb dX1_source_19 rfl (lv_at hl 1 rfl) ?_
      refine lv_if_lt (tgt := 37) hx hb dX1_source_20 (by decide) (fun c_20 => ?_) (fun c_20 => absurd c_20 (by decide))
      refine lv_iload_n hx hb dX1_source_37 rfl (lv_at hl 1 rfl) ?_
      exact W.iret (v := (-1)) hx hb hr (fun t ht hW => ⟨⟨(-1), (), rfl, rfl, trivial⟩, hS.F ht⟩) hS.2.2 dX1_source_38

set_option maxHeartbeats 4000000 in
set_option maxRecDepth 100000 in
theorem c_X1_lower (l : Launch) (dC : Nat → ClassId) (dI : Nat → Nat → Nat) (h0 : Nat) (l_facts : Nat) (l_values : Nat) (l_lying : Nat) (x2 : Int32) : Met l yX1_lower wsX1_lower ({ frames := 1, cells := 0, slots := 0, locals := 22 }) (va_Pc [.ref h0, .int (-1), .int x2] (fun U => xR (dC, dI) [(h0, .inr (1, [.ref l_facts, .int 0, .ref l_values, .ref l_lying, .int 0]))] [] U)) (va_Qi (fun (r : Int32) (_ : Unit) => r = -1) (fun (_ : Unit) _ => True) (fun _ => False)) 0 0 (fun _ => False) := by
  refine Met.ofW (cc := cX1_lower) (maxL := 5) (ret := (some .int)) (by decide) rfl ?_
  intro p e s m args below meth c s₁ B hml hv
  obtain ⟨rfl, hP, hK⟩ := hv
  have hx := B.exec
  have hb := B.bytes
  have hr := B.returns
  have hts := atoms_spec (ws := wsX1_lower) B.pre
  have hown : s.vm.findClass RX1 = some m.cls := findClass_of_methodNamed B.named
  have hlocks := B.notSynchronized
  have hS : va_S (fun _ => False) s.heap s.heap [] := va_S.rf
  have hl := lv_entry ([.ref h0, .int (-1), .int x2]) (n := 5) (Nat.le_of_ble_eq_true rfl)
  rw [lg_entry_eq]
  generalize (lg_sl ([.ref h0, .int (-1), .int x2]) ++ List.replicate (5 - (lg_sl ([.ref h0, .int (-1), .int x2])).length) Slot.unset).toArray = ls at hl ⊢
  have hl : lv_has ls 5 [(0, .ref h0), (1, .int (-1)), (2, .int x2)] := hl
  refine lv_iload_n hx hb dX1_lower_0 rfl (lv_at hl 2 rfl) ?_
  refine lv_if_ge (tgt := 8) hx hb dX1_lower_1 (by decide) (fun c_1 => ?_) (fun c_1 => ?_)
  · refine lv_aload_n hx hb dX1_lower_8 rfl (lv_at hl 0 rfl) ?_
    refine lv_iload_n hx hb dX1_lower_9 rfl (lv_at hl 1 rfl) ?_
    refine lv_bipush (v := 8) hx hb dX1_lower_10 (by decide) ?_
    refine va_calli (va_runV (As := [.int (-1), .int 8]) (rest := []) ⟨hx, hb, hml, hown, hts⟩ (c_X1_fact l dC dI h0 l_facts l_values l_lying 8 ) (cwV 2 hts gX1_lower_X1_fact rfl rfl rfl (by decide +kernel) ⟨Nat.le_of_ble_eq_true rfl, Nat.le_of_ble_eq_true rfl⟩) ⟨fb_R, va_recv hK hP (ci := 1) (q0 := 0) rfl rfl, fun U hU hW => ⟨rfl, xR.at (hP.sub (ws' := [(h0, .inr (1, [.ref l_facts, .int 0, .ref l_values, .ref l_lying, .int 0]))]) [0] rfl) (hK.sub (tys' := []) [] rfl) hU hW⟩⟩ rfl rfl hl.1 rfl (lv_room (Nat.le_of_ble_eq_true rfl)) dX1_lower_12 ⟨Nat.le_of_ble_eq_true rfl, Nat.le_of_ble_eq_true rfl⟩) hS (fun q _ h => h.elim) (fun q h => h.elim) (fun r_1 u t H locs ht hvm hw hB hz1 hk1 hS => ?_)
    have hw_2 := hw
    have hP := xR.keep hP hk1
    subst hw_2
    refine lv_istore_n (lv' := [(3, .int (-1)), (0, .ref h0), (1, .int (-1)), (2, .int x2)]) hx hb dX1_lower_15 rfl hl (by decide) rfl (fun ls hl => ?_)
    refine lv_iconst (v := 0) hx hb dX1_lower_16 (by decide) ?_
    refine lv_istore (lv' := [(4, .int 0), (3, .int (-1)), (0, .ref h0), (1, .int (-1)), (2, .int x2)]) hx hb dX1_lower_17 hl (by decide) rfl (fun ls hl => ?_)
    refine lv_iload hx hb dX1_lower_19 (lv_at hl 0 rfl) ?_
    refine lv_iload_n hx hb dX1_lower_21 rfl (lv_at hl 4 rfl) ?_
    refine lv_icmp_ge (tgt := 54) hx hb dX1_lower_22 (by decide) (fun c_22 => ?_) (fun c_22 => ?_)
    · refine lv_iload_n hx hb dX1_lower_54 rfl (lv_at hl 1 rfl) ?_
      refine lv_if_lt (tgt := 77) hx hb dX1_lower_55 (by decide) (fun c_55 => ?_) (fun c_55 => absurd c_55 (by decide))
      refine lv_iconst (v := (-1)) hx hb dX1_lower_77 (by decide) ?_
      exact W.iret (v := (-1)) hx hb hr (fun t ht hW => ⟨⟨(-1), (), rfl, rfl, trivial⟩, hS.F ht⟩) hS.2.2 dX1_lower_78
    · refine lv_iload_n hx hb dX1_lower_25 rfl (lv_at hl 1 rfl) ?_
      refine lv_if_lt (tgt := 54) hx hb dX1_lower_26 (by decide) (fun c_26 => ?_) (fun c_26 => absurd c_26 (by decide))
      refine lv_iload_n hx hb dX1_lower_54 rfl (lv_at hl 1 rfl) ?_
      refine lv_if_lt (tgt := 77) hx hb dX1_lower_55 (by decide) (fun c_55 => ?_) (fun c_55 => absurd c_55 (by decide))
      refine lv_iconst (v := (-1)) hx hb dX1_lower_77 (by decide) ?_
      exact W.iret (v := (-1)) hx hb hr (fun t ht hW => ⟨⟨(-1), (), rfl, rfl, trivial⟩, hS.F ht⟩) hS.2.2 dX1_lower_78
  · refine lv_iconst (v := (-1)) hx hb dX1_lower_4 (by decide) ?_
    refine lv_goto (tgt := 15) hx hb dX1_lower_5 (by decide) ?_
    refine lv_istore_n (lv' := [(3, .int (-1)), (0, .ref h0), (1, .int (-1)), (2, .int x2)]) hx hb dX1_lower_15 rfl hl (by decide) rfl (fun ls hl => ?_)
    refine lv_iconst (v := 0) hx hb dX1_lower_16 (by decide) ?_
    refine lv_istore (lv' := [(4, .int 0), (3, .int (-1)), (0, .ref h0), (1, .int (-1)), (2, .int x2)]) hx hb dX1_lower_17 hl (by decide) rfl (fun ls hl => ?_)
    refine lv_iload hx hb dX1_lower_19 (lv_at hl 0 rfl) ?_
    refine lv_iload_n hx hb dX1_lower_21 rfl (lv_at hl 4 rfl) ?_
    refine lv_icmp_ge (tgt := 54) hx hb dX1_lower_22 (by decide) (fun c_22 => ?_) (fun c_22 => ?_)
    · refine lv_iload_n hx hb dX1_lower_54 rfl (lv_at hl 1 rfl) ?_
      refine lv_if_lt (tgt := 77) hx hb dX1_lower_55 (by decide) (fun c_55 => ?_) (fun c_55 => absurd c_55 (by decide))
      refine lv_iconst (v := (-1)) hx hb dX1_lower_77 (by decide) ?_
      exact W.iret (v := (-1)) hx hb hr (fun t ht hW => ⟨⟨(-1), (), rfl, rfl, trivial⟩, hS.F ht⟩) hS.2.2 dX1_lower_78
    · refine lv_iload_n hx hb dX1_lower_25 rfl (lv_at hl 1 rfl) ?_
      refine lv_if_lt (tgt := 54) hx hb dX1_lower_26 (by decide) (fun c_26 => ?_) (fun c_26 => absurd c_26 (by decide))
      refine lv_iload_n hx hb dX1_lower_54 rfl (lv_at hl 1 rfl) ?_
      refine lv_if_lt (tgt := 77) hx hb dX1_lower_55 (by decide) (fun c_55 => ?_) (fun c_55 => absurd c_55 (by decide))
      refine lv_iconst (v := (-1)) hx hb dX1_lower_77 (by decide) ?_
      exact W.iret (v := (-1)) hx hb hr (fun t ht hW => ⟨⟨(-1), (), rfl, rfl, trivial⟩, hS.F ht⟩) hS.2.2 dX1_lower_78

set_option maxHeartbeats 4000000 in
set_option maxRecDepth 100000 in
theorem c_X4_factOf (l : Launch) (dC : Nat → ClassId) (dI : Nat → Nat → Nat) (h0 : Nat) (m_programs : Nat) (m_names : Nat) (m_borders : Nat) (m_stack : Nat) (m_heap : Nat) (m_marks : Nat) (m_failures : Nat) (m_frames : Nat) (m_guards : Nat) (m_tally : Nat) (m_program : Nat) (l_facts : Nat) (l_values : Nat) (l_lying : Nat) (x1 : Int32) (x2 : Int32) : Met l yX4_factOf wsX4_factOf ({ frames := 1, cells := 0, slots := 0, locals := 24 }) (va_Pc [.ref h0, .int x1, .int x2] (fun U => xR (dC, dI) [(h0, .inr (4, [.ref m_programs, .ref m_names, .ref m_borders, .ref m_stack, .ref m_heap, .ref m_marks, .ref m_failures, .ref m_frames, .ref m_guards, .ref m_tally, .ref m_program, .int 0, .int 0, .int 4, .int (-1), .int (-1), .long 0])), (m_failures, .inr (1, [.ref l_facts, .int 0, .ref l_values, .ref l_lying, .int 0]))] [] U)) (va_Qi (fun (r : Int32) (_ : Unit) => r = -1) (fun (_ : Unit) _ => True) (fun _ => False)) 0 0 (fun _ => False) := by
  refine Met.ofW (cc := cX4_factOf) (maxL := 3) (ret := (some .int)) (by decide) rfl ?_
  intro p e s m args below meth c s₁ B hml hv
  obtain ⟨rfl, hP, hK⟩ := hv
  have hx := B.exec
  have hb := B.bytes
  have hr := B.returns
  have hts := atoms_spec (ws := wsX4_factOf) B.pre
  have hown : s.vm.findClass RX4 = some m.cls := findClass_of_methodNamed B.named
  have hlocks := B.notSynchronized
  have hS : va_S (fun _ => False) s.heap s.heap [] := va_S.rf
  have hl := lv_entry ([.ref h0, .int x1, .int x2]) (n := 3) (Nat.le_of_ble_eq_true rfl)
  rw [lg_entry_eq]
  generalize (lg_sl ([.ref h0, .int x1, .int x2]) ++ List.replicate (3 - (lg_sl ([.ref h0, .int x1, .int x2])).length) Slot.unset).toArray = ls at hl ⊢
  have hl : lv_has ls 3 [(0, .ref h0), (1, .int x1), (2, .int x2)] := hl
  refine lv_iload_n hx hb dX4_factOf_0 rfl (lv_at hl 2 rfl) ?_
  refine lv_bipush (v := 6) hx hb dX4_factOf_1 (by decide) ?_
  refine lv_icmp_le (tgt := 10) hx hb dX4_factOf_3 (by decide) (fun c_3 => ?_) (fun c_3 => ?_)
  · refine lv_aload_n hx hb dX4_factOf_10 rfl (lv_at hl 0 rfl) ?_
    refine va_get (D := (dC, dI)) (ci := 4) (v := .ref m_failures) (C := RX4) (T := TX4) (N := 17) hx hb hts in_X4_factOf_RX4 hown hK hP 0 rfl rfl 6 (by decide) (hts (.fieldLink RX4 29 "FourTongues$Machine" "failures" "LFourTongues$Failures;") (by decide +kernel)) (fun _ h9 => h9) rfl dX4_factOf_11 ?_
    refine lv_aload_n hx hb dX4_factOf_14 rfl (lv_at hl 0 rfl) ?_
    refine va_get (D := (dC, dI)) (ci := 4) (v := .ref m_failures) (C := RX4) (T := TX4) (N := 17) hx hb hts in_X4_factOf_RX4 hown hK hP 0 rfl rfl 6 (by decide) (hts (.fieldLink RX4 29 "FourTongues$Machine" "failures" "LFourTongues$Failures;") (by decide +kernel)) (fun _ h9 => h9) rfl dX4_factOf_15 ?_
    refine lv_aload_n hx hb dX4_factOf_18 rfl (lv_at hl 0 rfl) ?_
    refine va_get (D := (dC, dI)) (ci := 4) (v := .int (-1)) (C := RX4) (T := TX4) (N := 17) hx hb hts in_X4_factOf_RX4 hown hK hP 0 rfl rfl 15 (by decide) (hts (.fieldLink RX4 64 "FourTongues$Machine" "cameOut" "I") (by decide +kernel)) (fun _ h9 => h9) rfl dX4_factOf_19 ?_
    refine lv_iload_n hx hb dX4_factOf_22 rfl (lv_at hl 1 rfl) ?_
    refine va_calli (va_runV (As := [.int (-1), .int x1]) (rest := [.ref m_failures]) ⟨hx, hb, hml, hown, hts⟩ (c_X1_source l dC dI m_failures l_facts l_values l_lying x1 ) (cwV 2 hts gX4_factOf_X1_source rfl rfl rfl (by decide +kernel) ⟨Nat.le_of_ble_eq_true rfl, Nat.le_of_ble_eq_true rfl⟩) ⟨fb_R, va_recv hK hP (ci := 1) (q0 := 1) rfl rfl, fun U hU hW => ⟨rfl, xR.at (hP.sub (ws' := [(m_failures, .inr (1, [.ref l_facts, .int 0, .ref l_values, .ref l_lying, .int 0]))]) [1] rfl) (hK.sub (tys' := []) [] rfl) hU hW⟩⟩ rfl rfl hl.1 rfl (lv_room (Nat.le_of_ble_eq_true rfl)) dX4_factOf_23 ⟨Nat.le_of_ble_eq_true rfl, Nat.le_of_ble_eq_true rfl⟩) hS (fun q _ h => h.elim) (fun q h => h.elim) (fun r_1 u t H locs ht hvm hw hB hz1 hk1 hS => ?_)
    have hw_2 := hw
    have hP := xR.keep hP hk1
    subst hw_2
    refine lv_iload_n hx hb dX4_factOf_26 rfl (lv_at hl 2 rfl) ?_
    refine va_calli (va_runV (As := [.int (-1), .int x2]) (rest := []) ⟨hx, hb, hml, hown, hts⟩ (c_X1_fact l dC dI m_failures l_facts l_values l_lying x2 ) (cwV 2 hts gX4_factOf_X1_fact rfl rfl rfl (by decide +kernel) ⟨Nat.le_of_ble_eq_true rfl, Nat.le_of_ble_eq_true rfl⟩) ⟨fb_R, va_recv hK hP (ci := 1) (q0 := 1) rfl rfl, fun U hU hW => ⟨rfl, xR.at (hP.sub (ws' := [(m_failures, .inr (1, [.ref l_facts, .int 0, .ref l_values, .ref l_lying, .int 0]))]) [1] rfl) (hK.sub (tys' := []) [] rfl) hU hW⟩⟩ rfl rfl hl.1 rfl (lv_room (Nat.le_of_ble_eq_true rfl)) dX4_factOf_27 ⟨Nat.le_of_ble_eq_true rfl, Nat.le_of_ble_eq_true rfl⟩) hS (fun q _ h => h.elim) (fun q h => h.elim) (fun r_3 u t H locs ht hvm hw hB hz1 hk1 hS => ?_)
    have hw_4 := hw
    have hP := xR.keep hP hk1
    subst hw_4
    exact W.iret (v := (-1)) hx hb hr (fun t ht hW => ⟨⟨(-1), (), rfl, rfl, trivial⟩, hS.F ht⟩) hS.2.2 dX4_factOf_30
  · refine lv_iconst (v := (-1)) hx hb dX4_factOf_6 (by decide) ?_
    refine lv_goto (tgt := 30) hx hb dX4_factOf_7 (by decide) ?_
    exact W.iret (v := (-1)) hx hb hr (fun t ht hW => ⟨⟨(-1), (), rfl, rfl, trivial⟩, hS.F ht⟩) hS.2.2 dX4_factOf_30

set_option maxHeartbeats 4000000 in
set_option maxRecDepth 100000 in
theorem c_X11_failure (l : Launch) (dC : Nat → ClassId) (dI : Nat → Nat → Nat) (h0 : Nat) (v_tape : Nat) (v_names : Nat) (v_borders : Nat) (v_programs : Nat) (v_draft : Nat) (v_parser : Nat) (v_machine : Nat) (m_programs : Nat) (m_names : Nat) (m_borders : Nat) (m_stack : Nat) (m_heap : Nat) (m_marks : Nat) (m_failures : Nat) (m_frames : Nat) (m_guards : Nat) (m_tally : Nat) (m_program : Nat) (l_facts : Nat) (l_values : Nat) (l_lying : Nat) (x1 : Int32) (x2 : Int32) : Met l yX11_failure wsX11_failure ({ frames := 2, cells := 0, slots := 0, locals := 46 }) (va_Pc [.ref h0, .int x1, .int x2] (fun U => xR (dC, dI) [(h0, .inr (10, [.ref v_tape, .int 0, .int 0, .ref v_names, .ref v_borders, .ref v_programs, .ref v_draft, .ref v_parser, .ref v_machine])), (v_machine, .inr (4, [.ref m_programs, .ref m_names, .ref m_borders, .ref m_stack, .ref m_heap, .ref m_marks, .ref m_failures, .ref m_frames, .ref m_guards, .ref m_tally, .ref m_program, .int 0, .int 0, .int 4, .int (-1), .int (-1), .long 0])), (m_failures, .inr (1, [.ref l_facts, .int 0, .ref l_values, .ref l_lying, .int 0]))] [] U)) (va_Qi (fun (r : Int32) (_ : Unit) => r = -1) (fun (_ : Unit) _ => True) (fun _ => False)) 0 0 (fun _ => False) := by
  refine Met.ofW (cc := cX11_failure) (maxL := 3) (ret := (some .int)) (by decide) rfl ?_
  intro p e s m args below meth c s₁ B hml hv
  obtain ⟨rfl, hP, hK⟩ := hv
  have hx := B.exec
  have hb := B.bytes
  have hr := B.returns
  have hts := atoms_spec (ws := wsX11_failure) B.pre
  have hown : s.vm.findClass RX11 = some m.cls := findClass_of_methodNamed B.named
  have hlocks := B.notSynchronized
  have hS : va_S (fun _ => False) s.heap s.heap [] := va_S.rf
  have hl := lv_entry ([.ref h0, .int x1, .int x2]) (n := 3) (Nat.le_of_ble_eq_true rfl)
  rw [lg_entry_eq]
  generalize (lg_sl ([.ref h0, .int x1, .int x2]) ++ List.replicate (3 - (lg_sl ([.ref h0, .int x1, .int x2])).length) Slot.unset).toArray = ls at hl ⊢
  have hl : lv_has ls 3 [(0, .ref h0), (1, .int x1), (2, .int x2)] := hl
  refine lv_aload_n hx hb dX11_failure_0 rfl (lv_at hl 0 rfl) ?_
  refine va_get (D := (dC, dI)) (ci := 10) (v := .ref v_machine) (C := RX11) (T := TX11) (N := 9) hx hb hts in_X11_failure_RX11 hown hK hP 0 rfl rfl 8 (by decide) (hts (.fieldLink RX11 59 "FourTongues" "machine" "LFourTongues$Machine;") (by decide +kernel)) (fun _ h9 => h9) rfl dX11_failure_1 ?_
  refine lv_iload_n hx hb dX11_failure_4 rfl (lv_at hl 1 rfl) ?_
  refine lv_iload_n hx hb dX11_failure_5 rfl (lv_at hl 2 rfl) ?_
  refine va_calli (va_runV (As := [.int x1, .int x2]) (rest := []) ⟨hx, hb, hml, hown, hts⟩ (c_X4_factOf l dC dI v_machine m_programs m_names m_borders m_stack m_heap m_marks m_failures m_frames m_guards m_tally m_program l_facts l_values l_lying x1 x2 ) (cwV 2 hts gX11_failure_X4_factOf rfl rfl rfl (by decide +kernel) ⟨Nat.le_of_ble_eq_true rfl, Nat.le_of_ble_eq_true rfl⟩) ⟨fb_R, va_recv hK hP (ci := 4) (q0 := 1) rfl rfl, fun U hU hW => ⟨rfl, xR.at (hP.sub (ws' := [(v_machine, .inr (4, [.ref m_programs, .ref m_names, .ref m_borders, .ref m_stack, .ref m_heap, .ref m_marks, .ref m_failures, .ref m_frames, .ref m_guards, .ref m_tally, .ref m_program, .int 0, .int 0, .int 4, .int (-1), .int (-1), .long 0])), (m_failures, .inr (1, [.ref l_facts, .int 0, .ref l_values, .ref l_lying, .int 0]))]) [1, 2] rfl) (hK.sub (tys' := []) [] rfl) hU hW⟩⟩ rfl rfl hl.1 rfl (lv_room (Nat.le_of_ble_eq_true rfl)) dX11_failure_6 ⟨Nat.le_of_ble_eq_true rfl, Nat.le_of_ble_eq_true rfl⟩) hS (fun q _ h => h.elim) (fun q h => h.elim) (fun r_1 u t H locs ht hvm hw hB hz1 hk1 hS => ?_)
  have hw_2 := hw
  have hP := xR.keep hP hk1
  subst hw_2
  exact W.iret (v := (-1)) hx hb hr (fun t ht hW => ⟨⟨(-1), (), rfl, rfl, trivial⟩, hS.F ht⟩) hS.2.2 dX11_failure_9

set_option maxHeartbeats 4000000 in
set_option maxRecDepth 100000 in
theorem c_X4_factUnder (l : Launch) (dC : Nat → ClassId) (dI : Nat → Nat → Nat) (h0 : Nat) (m_programs : Nat) (m_names : Nat) (m_borders : Nat) (m_stack : Nat) (m_heap : Nat) (m_marks : Nat) (m_failures : Nat) (m_frames : Nat) (m_guards : Nat) (m_tally : Nat) (m_program : Nat) (l_facts : Nat) (l_values : Nat) (l_lying : Nat) (x1 : Int32) (x2 : Int32) (x3 : Int32) : Met l yX4_factUnder wsX4_factUnder ({ frames := 2, cells := 0, slots := 0, locals := 46 }) (va_Pc [.ref h0, .int x1, .int x2, .int x3] (fun U => xR (dC, dI) [(h0, .inr (4, [.ref m_programs, .ref m_names, .ref m_borders, .ref m_stack, .ref m_heap, .ref m_marks, .ref m_failures, .ref m_frames, .ref m_guards, .ref m_tally, .ref m_program, .int 0, .int 0, .int 4, .int (-1), .int (-1), .long 0])), (m_failures, .inr (1, [.ref l_facts, .int 0, .ref l_values, .ref l_lying, .int 0]))] [] U)) (va_Qi (fun (r : Int32) (_ : Unit) => r = -1) (fun (_ : Unit) _ => True) (fun _ => False)) 0 0 (fun _ => False) := by
  refine Met.ofW (cc := cX4_factUnder) (maxL := 5) (ret := (some .int)) (by decide) rfl ?_
  intro p e s m args below meth c s₁ B hml hv
  obtain ⟨rfl, hP, hK⟩ := hv
  have hx := B.exec
  have hb := B.bytes
  have hr := B.returns
  have hts := atoms_spec (ws := wsX4_factUnder) B.pre
  have hown : s.vm.findClass RX4 = some m.cls := findClass_of_methodNamed B.named
  have hlocks := B.notSynchronized
  have hS : va_S (fun _ => False) s.heap s.heap [] := va_S.rf
  have hl := lv_entry ([.ref h0, .int x1, .int x2, .int x3]) (n := 5) (Nat.le_of_ble_eq_true rfl)
  rw [lg_entry_eq]
  generalize (lg_sl ([.ref h0, .int x1, .int x2, .int x3]) ++ List.replicate (5 - (lg_sl ([.ref h0, .int x1, .int x2, .int x3])).length) Slot.unset).toArray = ls at hl ⊢
  have hl : lv_has ls 5 [(0, .ref h0), (1, .int x1), (2, .int x2), (3, .int x3)] := hl
  refine lv_aload_n hx hb dX4_factUnder_0 rfl (lv_at hl 0 rfl) ?_
  refine va_get (D := (dC, dI)) (ci := 4) (v := .ref m_failures) (C := RX4) (T := TX4) (N := 17) hx hb hts in_X4_factUnder_RX4 hown hK hP 0 rfl rfl 6 (by decide) (hts (.fieldLink RX4 29 "FourTongues$Machine" "failures" "LFourTongues$Failures;") (by decide +kernel)) (fun _ h9 => h9) rfl dX4_factUnder_1 ?_
  refine lv_aload_n hx hb dX4_factUnder_4 rfl (lv_at hl 0 rfl) ?_
  refine va_get (D := (dC, dI)) (ci := 4) (v := .ref m_failures) (C := RX4) (T := TX4) (N := 17) hx hb hts in_X4_factUnder_RX4 hown hK hP 0 rfl rfl 6 (by decide) (hts (.fieldLink RX4 29 "FourTongues$Machine" "failures" "LFourTongues$Failures;") (by decide +kernel)) (fun _ h9 => h9) rfl dX4_factUnder_5 ?_
  refine lv_aload_n hx hb dX4_factUnder_8 rfl (lv_at hl 0 rfl) ?_
  refine va_get (D := (dC, dI)) (ci := 4) (v := .int (-1)) (C := RX4) (T := TX4) (N := 17) hx hb hts in_X4_factUnder_RX4 hown hK hP 0 rfl rfl 15 (by decide) (hts (.fieldLink RX4 64 "FourTongues$Machine" "cameOut" "I") (by decide +kernel)) (fun _ h9 => h9) rfl dX4_factUnder_9 ?_
  refine lv_iload_n hx hb dX4_factUnder_12 rfl (lv_at hl 1 rfl) ?_
  refine va_calli (va_runV (As := [.int (-1), .int x1]) (rest := [.ref m_failures]) ⟨hx, hb, hml, hown, hts⟩ (c_X1_source l dC dI m_failures l_facts l_values l_lying x1 ) (cwV 2 hts gX4_factUnder_X1_source rfl rfl rfl (by decide +kernel) ⟨Nat.le_of_ble_eq_true rfl, Nat.le_of_ble_eq_true rfl⟩) ⟨fb_R, va_recv hK hP (ci := 1) (q0 := 1) rfl rfl, fun U hU hW => ⟨rfl, xR.at (hP.sub (ws' := [(m_failures, .inr (1, [.ref l_facts, .int 0, .ref l_values, .ref l_lying, .int 0]))]) [1] rfl) (hK.sub (tys' := []) [] rfl) hU hW⟩⟩ rfl rfl hl.1 rfl (lv_room (Nat.le_of_ble_eq_true rfl)) dX4_factUnder_13 ⟨Nat.le_of_ble_eq_true rfl, Nat.le_of_ble_eq_true rfl⟩) hS (fun q _ h => h.elim) (fun q h => h.elim) (fun r_1 u t H locs ht hvm hw hB hz1 hk1 hS => ?_)
  have hw_2 := hw
  have hP := xR.keep hP hk1
  subst hw_2
  refine lv_iload_n hx hb dX4_factUnder_16 rfl (lv_at hl 2 rfl) ?_
  refine va_calli (va_runV (As := [.int (-1), .int x2]) (rest := []) ⟨hx, hb, hml, hown, hts⟩ (c_X1_lower l dC dI m_failures l_facts l_values l_lying x2 ) (cwV 2 hts gX4_factUnder_X1_lower rfl rfl rfl (by decide +kernel) ⟨Nat.le_of_ble_eq_true rfl, Nat.le_of_ble_eq_true rfl⟩) ⟨fb_R, va_recv hK hP (ci := 1) (q0 := 1) rfl rfl, fun U hU hW => ⟨rfl, xR.at (hP.sub (ws' := [(m_failures, .inr (1, [.ref l_facts, .int 0, .ref l_values, .ref l_lying, .int 0]))]) [1] rfl) (hK.sub (tys' := []) [] rfl) hU hW⟩⟩ rfl rfl hl.1 rfl (lv_room (Nat.le_of_ble_eq_true rfl)) dX4_factUnder_17 ⟨Nat.le_of_ble_eq_true rfl, Nat.le_of_ble_eq_true rfl⟩) hS (fun q _ h => h.elim) (fun q h => h.elim) (fun r_3 u t H locs ht hvm hw hB hz1 hk1 hS => ?_)
  have hw_4 := hw
  have hP := xR.keep hP hk1
  subst hw_4
  refine lv_istore (lv' := [(4, .int (-1)), (0, .ref h0), (1, .int x1), (2, .int x2), (3, .int x3)]) hx hb dX4_factUnder_20 hl (by decide) rfl (fun ls hl => ?_)
  refine lv_iload_n hx hb dX4_factUnder_22 rfl (lv_at hl 4 rfl) ?_
  refine lv_bipush (v := 6) hx hb dX4_factUnder_23 (by decide) ?_
  refine lv_icmp_le (tgt := 32) hx hb dX4_factUnder_25 (by decide) (fun c_25 => ?_) (fun c_25 => ?_)
  · refine lv_aload_n hx hb dX4_factUnder_32 rfl (lv_at hl 1 rfl) ?_
    refine va_get (D := (dC, dI)) (ci := 4) (v := .ref m_failures) (C := RX4) (T := TX4) (N := 17) hx hb hts in_X4_factUnder_RX4 hown hK hP 0 rfl rfl 6 (by decide) (hts (.fieldLink RX4 29 "FourTongues$Machine" "failures" "LFourTongues$Failures;") (by decide +kernel)) (fun _ h9 => h9) rfl dX4_factUnder_33 ?_
    refine lv_iload hx hb dX4_factUnder_36 (lv_at hl 0 rfl) ?_
    refine lv_iload_n hx hb dX4_factUnder_38 rfl (lv_at hl 4 rfl) ?_
    refine va_calli (va_runV (As := [.int (-1), .int x3]) (rest := []) ⟨hx, hb, hml, hown, hts⟩ (c_X1_fact l dC dI m_failures l_facts l_values l_lying x3 ) (cwV 2 hts gX4_factUnder_X1_fact rfl rfl rfl (by decide +kernel) ⟨Nat.le_of_ble_eq_true rfl, Nat.le_of_ble_eq_true rfl⟩) ⟨fb_R, va_recv hK hP (ci := 1) (q0 := 1) rfl rfl, fun U hU hW => ⟨rfl, xR.at (hP.sub (ws' := [(m_failures, .inr (1, [.ref l_facts, .int 0, .ref l_values, .ref l_lying, .int 0]))]) [1] rfl) (hK.sub (tys' := []) [] rfl) hU hW⟩⟩ rfl rfl hl.1 rfl (lv_room (Nat.le_of_ble_eq_true rfl)) dX4_factUnder_39 ⟨Nat.le_of_ble_eq_true rfl, Nat.le_of_ble_eq_true rfl⟩) hS (fun q _ h => h.elim) (fun q h => h.elim) (fun r_5 u t H locs ht hvm hw hB hz1 hk1 hS => ?_)
    have hw_6 := hw
    have hP := xR.keep hP hk1
    subst hw_6
    exact W.iret (v := (-1)) hx hb hr (fun t ht hW => ⟨⟨(-1), (), rfl, rfl, trivial⟩, hS.F ht⟩) hS.2.2 dX4_factUnder_42
  · refine lv_iconst (v := (-1)) hx hb dX4_factUnder_28 (by decide) ?_
    refine lv_goto (tgt := 42) hx hb dX4_factUnder_29 (by decide) ?_
    exact W.iret (v := (-1)) hx hb hr (fun t ht hW => ⟨⟨(-1), (), rfl, rfl, trivial⟩, hS.F ht⟩) hS.2.2 dX4_factUnder_42

set_option maxHeartbeats 4000000 in
set_option maxRecDepth 100000 in
theorem c_X11_under (l : Launch) (dC : Nat → ClassId) (dI : Nat → Nat → Nat) (h0 : Nat) (v_tape : Nat) (v_names : Nat) (v_borders : Nat) (v_programs : Nat) (v_draft : Nat) (v_parser : Nat) (v_machine : Nat) (m_programs : Nat) (m_names : Nat) (m_borders : Nat) (m_stack : Nat) (m_heap : Nat) (m_marks : Nat) (m_failures : Nat) (m_frames : Nat) (m_guards : Nat) (m_tally : Nat) (m_program : Nat) (l_facts : Nat) (l_values : Nat) (l_lying : Nat) (x1 : Int32) (x2 : Int32) (x3 : Int32) : Met l yX11_under wsX11_under ({ frames := 3, cells := 0, slots := 0, locals := 70 }) (va_Pc [.ref h0, .int x1, .int x2, .int x3] (fun U => xR (dC, dI) [(h0, .inr (10, [.ref v_tape, .int 0, .int 0, .ref v_names, .ref v_borders, .ref v_programs, .ref v_draft, .ref v_parser, .ref v_machine])), (v_machine, .inr (4, [.ref m_programs, .ref m_names, .ref m_borders, .ref m_stack, .ref m_heap, .ref m_marks, .ref m_failures, .ref m_frames, .ref m_guards, .ref m_tally, .ref m_program, .int 0, .int 0, .int 4, .int (-1), .int (-1), .long 0])), (m_failures, .inr (1, [.ref l_facts, .int 0, .ref l_values, .ref l_lying, .int 0]))] [] U)) (va_Qi (fun (r : Int32) (_ : Unit) => r = -1) (fun (_ : Unit) _ => True) (fun _ => False)) 0 0 (fun _ => False) := by
  refine Met.ofW (cc := cX11_under) (maxL := 4) (ret := (some .int)) (by decide) rfl ?_
  intro p e s m args below meth c s₁ B hml hv
  obtain ⟨rfl, hP, hK⟩ := hv
  have hx := B.exec
  have hb := B.bytes
  have hr := B.returns
  have hts := atoms_spec (ws := wsX11_under) B.pre
  have hown : s.vm.findClass RX11 = some m.cls := findClass_of_methodNamed B.named
  have hlocks := B.notSynchronized
  have hS : va_S (fun _ => False) s.heap s.heap [] := va_S.rf
  have hl := lv_entry ([.ref h0, .int x1, .int x2, .int x3]) (n := 4) (Nat.le_of_ble_eq_true rfl)
  rw [lg_entry_eq]
  generalize (lg_sl ([.ref h0, .int x1, .int x2, .int x3]) ++ List.replicate (4 - (lg_sl ([.ref h0, .int x1, .int x2, .int x3])).length) Slot.unset).toArray = ls at hl ⊢
  have hl : lv_has ls 4 [(0, .ref h0), (1, .int x1), (2, .int x2), (3, .int x3)] := hl
  refine lv_aload_n hx hb dX11_under_0 rfl (lv_at hl 0 rfl) ?_
  refine va_get (D := (dC, dI)) (ci := 10) (v := .ref v_machine) (C := RX11) (T := TX11) (N := 9) hx hb hts in_X11_under_RX11 hown hK hP 0 rfl rfl 8 (by decide) (hts (.fieldLink RX11 59 "FourTongues" "machine" "LFourTongues$Machine;") (by decide +kernel)) (fun _ h9 => h9) rfl dX11_under_1 ?_
  refine lv_iload_n hx hb dX11_under_4 rfl (lv_at hl 1 rfl) ?_
  refine lv_iload_n hx hb dX11_under_5 rfl (lv_at hl 2 rfl) ?_
  refine lv_iload_n hx hb dX11_under_6 rfl (lv_at hl 3 rfl) ?_
  refine va_calli (va_runV (As := [.int x1, .int x2, .int x3]) (rest := []) ⟨hx, hb, hml, hown, hts⟩ (c_X4_factUnder l dC dI v_machine m_programs m_names m_borders m_stack m_heap m_marks m_failures m_frames m_guards m_tally m_program l_facts l_values l_lying x1 x2 x3 ) (cwV 3 hts gX11_under_X4_factUnder rfl rfl rfl (by decide +kernel) ⟨Nat.le_of_ble_eq_true rfl, Nat.le_of_ble_eq_true rfl⟩) ⟨fb_R, va_recv hK hP (ci := 4) (q0 := 1) rfl rfl, fun U hU hW => ⟨rfl, xR.at (hP.sub (ws' := [(v_machine, .inr (4, [.ref m_programs, .ref m_names, .ref m_borders, .ref m_stack, .ref m_heap, .ref m_marks, .ref m_failures, .ref m_frames, .ref m_guards, .ref m_tally, .ref m_program, .int 0, .int 0, .int 4, .int (-1), .int (-1), .long 0])), (m_failures, .inr (1, [.ref l_facts, .int 0, .ref l_values, .ref l_lying, .int 0]))]) [1, 2] rfl) (hK.sub (tys' := []) [] rfl) hU hW⟩⟩ rfl rfl hl.1 rfl (lv_room (Nat.le_of_ble_eq_true rfl)) dX11_under_7 ⟨Nat.le_of_ble_eq_true rfl, Nat.le_of_ble_eq_true rfl⟩) hS (fun q _ h => h.elim) (fun q h => h.elim) (fun r_1 u t H locs ht hvm hw hB hz1 hk1 hS => ?_)
  have hw_2 := hw
  have hP := xR.keep hP hk1
  subst hw_2
  exact W.iret (v := (-1)) hx hb hr (fun t ht hW => ⟨⟨(-1), (), rfl, rfl, trivial⟩, hS.F ht⟩) hS.2.2 dX11_under_10
end
