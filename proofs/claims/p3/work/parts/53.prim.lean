abbrev cX7_ownPrimary : ByteArray := prog_9_method_47_code
def yX7_ownPrimary : MethodName := ⟨RX7, "ownPrimary", "()V"⟩
abbrev cX7_afterName : ByteArray := prog_9_method_52_code
def yX7_afterName : MethodName := ⟨RX7, "afterName", "(JI)V"⟩
abbrev cX7_cellParts : ByteArray := prog_9_method_53_code
def yX7_cellParts : MethodName := ⟨RX7, "cellParts", "(I)I"⟩
theorem dX7_ownPrimary_0 : decode cX7_ownPrimary 0 = .ok (.aload_n 0, 1) := by decide +kernel
theorem dX7_ownPrimary_1 : decode cX7_ownPrimary 1 = .ok (.getfield 29, 3) := by decide +kernel
theorem dX7_ownPrimary_4 : decode cX7_ownPrimary 4 = .ok (.iconst 1, 1) := by decide +kernel
theorem dX7_ownPrimary_5 : decode cX7_ownPrimary 5 = .ok (.if_icmp .ne 25, 3) := by decide +kernel
theorem dX7_ownPrimary_8 : decode cX7_ownPrimary 8 = .ok (.aload_n 0, 1) := by decide +kernel
theorem dX7_ownPrimary_9 : decode cX7_ownPrimary 9 = .ok (.sipush 226, 3) := by decide +kernel
theorem dX7_ownPrimary_12 : decode cX7_ownPrimary 12 = .ok (.invokevirtual 83, 3) := by decide +kernel
theorem dX7_ownPrimary_15 : decode cX7_ownPrimary 15 = .ok (.ifCond .eq 15, 3) := by decide +kernel
theorem dX7_ownPrimary_18 : decode cX7_ownPrimary 18 = .ok (.aload_n 0, 1) := by decide +kernel
theorem dX7_ownPrimary_19 : decode cX7_ownPrimary 19 = .ok (.bipush 18, 2) := by decide +kernel
theorem dX7_ownPrimary_21 : decode cX7_ownPrimary 21 = .ok (.iconst 0, 1) := by decide +kernel
theorem dX7_ownPrimary_22 : decode cX7_ownPrimary 22 = .ok (.iconst 0, 1) := by decide +kernel
theorem dX7_ownPrimary_23 : decode cX7_ownPrimary 23 = .ok (.invokevirtual 157, 3) := by decide +kernel
theorem dX7_ownPrimary_26 : decode cX7_ownPrimary 26 = .ok (.pop, 1) := by decide +kernel
theorem dX7_ownPrimary_27 : decode cX7_ownPrimary 27 = .ok (.goto 96, 3) := by decide +kernel
theorem dX7_ownPrimary_30 : decode cX7_ownPrimary 30 = .ok (.aload_n 0, 1) := by decide +kernel
theorem dX7_ownPrimary_31 : decode cX7_ownPrimary 31 = .ok (.getfield 29, 3) := by decide +kernel
theorem dX7_ownPrimary_34 : decode cX7_ownPrimary 34 = .ok (.iconst 2, 1) := by decide +kernel
theorem dX7_ownPrimary_35 : decode cX7_ownPrimary 35 = .ok (.if_icmp .ne 33, 3) := by decide +kernel
theorem dX7_ownPrimary_38 : decode cX7_ownPrimary 38 = .ok (.aload_n 0, 1) := by decide +kernel
theorem dX7_ownPrimary_39 : decode cX7_ownPrimary 39 = .ok (.sipush 227, 3) := by decide +kernel
theorem dX7_ownPrimary_42 : decode cX7_ownPrimary 42 = .ok (.invokevirtual 83, 3) := by decide +kernel
theorem dX7_ownPrimary_45 : decode cX7_ownPrimary 45 = .ok (.ifCond .eq 23, 3) := by decide +kernel
theorem dX7_ownPrimary_48 : decode cX7_ownPrimary 48 = .ok (.aload_n 0, 1) := by decide +kernel
theorem dX7_ownPrimary_49 : decode cX7_ownPrimary 49 = .ok (.bipush 40, 2) := by decide +kernel
theorem dX7_ownPrimary_51 : decode cX7_ownPrimary 51 = .ok (.bipush 41, 2) := by decide +kernel
theorem dX7_ownPrimary_53 : decode cX7_ownPrimary 53 = .ok (.invokevirtual 288, 3) := by decide +kernel
theorem dX7_ownPrimary_56 : decode cX7_ownPrimary 56 = .ok (.aload_n 0, 1) := by decide +kernel
theorem dX7_ownPrimary_57 : decode cX7_ownPrimary 57 = .ok (.bipush 16, 2) := by decide +kernel
theorem dX7_ownPrimary_59 : decode cX7_ownPrimary 59 = .ok (.iconst 0, 1) := by decide +kernel
theorem dX7_ownPrimary_60 : decode cX7_ownPrimary 60 = .ok (.iconst 0, 1) := by decide +kernel
theorem dX7_ownPrimary_61 : decode cX7_ownPrimary 61 = .ok (.invokevirtual 157, 3) := by decide +kernel
theorem dX7_ownPrimary_64 : decode cX7_ownPrimary 64 = .ok (.pop, 1) := by decide +kernel
theorem dX7_ownPrimary_65 : decode cX7_ownPrimary 65 = .ok (.goto 58, 3) := by decide +kernel
theorem dX7_ownPrimary_68 : decode cX7_ownPrimary 68 = .ok (.aload_n 0, 1) := by decide +kernel
theorem dX7_ownPrimary_69 : decode cX7_ownPrimary 69 = .ok (.getfield 29, 3) := by decide +kernel
theorem dX7_ownPrimary_72 : decode cX7_ownPrimary 72 = .ok (.iconst 2, 1) := by decide +kernel
theorem dX7_ownPrimary_73 : decode cX7_ownPrimary 73 = .ok (.if_icmp .ne 43, 3) := by decide +kernel
theorem dX7_ownPrimary_76 : decode cX7_ownPrimary 76 = .ok (.aload_n 0, 1) := by decide +kernel
theorem dX7_ownPrimary_77 : decode cX7_ownPrimary 77 = .ok (.sipush 228, 3) := by decide +kernel
theorem dX7_ownPrimary_80 : decode cX7_ownPrimary 80 = .ok (.invokevirtual 83, 3) := by decide +kernel
theorem dX7_ownPrimary_83 : decode cX7_ownPrimary 83 = .ok (.ifCond .eq 33, 3) := by decide +kernel
theorem dX7_ownPrimary_86 : decode cX7_ownPrimary 86 = .ok (.aload_n 0, 1) := by decide +kernel
theorem dX7_ownPrimary_87 : decode cX7_ownPrimary 87 = .ok (.invokevirtual 118, 3) := by decide +kernel
theorem dX7_ownPrimary_90 : decode cX7_ownPrimary 90 = .ok (.istore_n 1, 1) := by decide +kernel
theorem dX7_ownPrimary_91 : decode cX7_ownPrimary 91 = .ok (.aload_n 0, 1) := by decide +kernel
theorem dX7_ownPrimary_92 : decode cX7_ownPrimary 92 = .ok (.bipush 40, 2) := by decide +kernel
theorem dX7_ownPrimary_94 : decode cX7_ownPrimary 94 = .ok (.bipush 41, 2) := by decide +kernel
theorem dX7_ownPrimary_96 : decode cX7_ownPrimary 96 = .ok (.invokevirtual 288, 3) := by decide +kernel
theorem dX7_ownPrimary_99 : decode cX7_ownPrimary 99 = .ok (.aload_n 0, 1) := by decide +kernel
theorem dX7_ownPrimary_100 : decode cX7_ownPrimary 100 = .ok (.bipush 17, 2) := by decide +kernel
theorem dX7_ownPrimary_102 : decode cX7_ownPrimary 102 = .ok (.iload_n 1, 1) := by decide +kernel
theorem dX7_ownPrimary_103 : decode cX7_ownPrimary 103 = .ok (.iconst 0, 1) := by decide +kernel
theorem dX7_ownPrimary_104 : decode cX7_ownPrimary 104 = .ok (.aload_n 0, 1) := by decide +kernel
theorem dX7_ownPrimary_105 : decode cX7_ownPrimary 105 = .ok (.iconst (-1), 1) := by decide +kernel
theorem dX7_ownPrimary_106 : decode cX7_ownPrimary 106 = .ok (.iconst 0, 1) := by decide +kernel
theorem dX7_ownPrimary_107 : decode cX7_ownPrimary 107 = .ok (.invokevirtual 273, 3) := by decide +kernel
theorem dX7_ownPrimary_110 : decode cX7_ownPrimary 110 = .ok (.invokevirtual 230, 3) := by decide +kernel
theorem dX7_ownPrimary_113 : decode cX7_ownPrimary 113 = .ok (.goto 10, 3) := by decide +kernel
theorem dX7_ownPrimary_116 : decode cX7_ownPrimary 116 = .ok (.aload_n 0, 1) := by decide +kernel
theorem dX7_ownPrimary_117 : decode cX7_ownPrimary 117 = .ok (.getfield 43, 3) := by decide +kernel
theorem dX7_ownPrimary_120 : decode cX7_ownPrimary 120 = .ok (.invokevirtual 93, 3) := by decide +kernel
theorem dX7_ownPrimary_123 : decode cX7_ownPrimary 123 = .ok (.return_, 1) := by decide +kernel
theorem dX7_afterName_0 : decode cX7_afterName 0 = .ok (.aload_n 0, 1) := by decide +kernel
theorem dX7_afterName_1 : decode cX7_afterName 1 = .ok (.getfield 43, 3) := by decide +kernel
theorem dX7_afterName_4 : decode cX7_afterName 4 = .ok (.getfield 80, 3) := by decide +kernel
theorem dX7_afterName_7 : decode cX7_afterName 7 = .ok (.bipush 40, 2) := by decide +kernel
theorem dX7_afterName_9 : decode cX7_afterName 9 = .ok (.if_icmp .ne 16, 3) := by decide +kernel
theorem dX7_afterName_12 : decode cX7_afterName 12 = .ok (.aload_n 0, 1) := by decide +kernel
theorem dX7_afterName_13 : decode cX7_afterName 13 = .ok (.bipush 13, 2) := by decide +kernel
theorem dX7_afterName_15 : decode cX7_afterName 15 = .ok (.aload_n 0, 1) := by decide +kernel
theorem dX7_afterName_16 : decode cX7_afterName 16 = .ok (.getfield 29, 3) := by decide +kernel
theorem dX7_afterName_19 : decode cX7_afterName 19 = .ok (.lload_n 1, 1) := by decide +kernel
theorem dX7_afterName_20 : decode cX7_afterName 20 = .ok (.iconst (-1), 1) := by decide +kernel
theorem dX7_afterName_21 : decode cX7_afterName 21 = .ok (.invokevirtual 297, 3) := by decide +kernel
theorem dX7_afterName_24 : decode cX7_afterName 24 = .ok (.return_, 1) := by decide +kernel
theorem dX7_afterName_25 : decode cX7_afterName 25 = .ok (.aload_n 0, 1) := by decide +kernel
theorem dX7_afterName_26 : decode cX7_afterName 26 = .ok (.lload_n 1, 1) := by decide +kernel
theorem dX7_afterName_27 : decode cX7_afterName 27 = .ok (.iload_n 3, 1) := by decide +kernel
theorem dX7_afterName_28 : decode cX7_afterName 28 = .ok (.invokevirtual 220, 3) := by decide +kernel
theorem dX7_afterName_31 : decode cX7_afterName 31 = .ok (.istore 4, 2) := by decide +kernel
theorem dX7_afterName_33 : decode cX7_afterName 33 = .ok (.aload_n 0, 1) := by decide +kernel
theorem dX7_afterName_34 : decode cX7_afterName 34 = .ok (.getfield 43, 3) := by decide +kernel
theorem dX7_afterName_37 : decode cX7_afterName 37 = .ok (.getfield 80, 3) := by decide +kernel
theorem dX7_afterName_40 : decode cX7_afterName 40 = .ok (.bipush 91, 2) := by decide +kernel
theorem dX7_afterName_42 : decode cX7_afterName 42 = .ok (.if_icmp .ne 18, 3) := by decide +kernel
theorem dX7_afterName_45 : decode cX7_afterName 45 = .ok (.aload_n 0, 1) := by decide +kernel
theorem dX7_afterName_46 : decode cX7_afterName 46 = .ok (.bipush 11, 2) := by decide +kernel
theorem dX7_afterName_48 : decode cX7_afterName 48 = .ok (.iconst 0, 1) := by decide +kernel
theorem dX7_afterName_49 : decode cX7_afterName 49 = .ok (.iconst 0, 1) := by decide +kernel
theorem dX7_afterName_50 : decode cX7_afterName 50 = .ok (.aload_n 0, 1) := by decide +kernel
theorem dX7_afterName_51 : decode cX7_afterName 51 = .ok (.iload 4, 2) := by decide +kernel
theorem dX7_afterName_53 : decode cX7_afterName 53 = .ok (.invokevirtual 224, 3) := by decide +kernel
theorem dX7_afterName_56 : decode cX7_afterName 56 = .ok (.invokevirtual 230, 3) := by decide +kernel
theorem dX7_afterName_59 : decode cX7_afterName 59 = .ok (.return_, 1) := by decide +kernel
theorem dX7_afterName_60 : decode cX7_afterName 60 = .ok (.aload_n 0, 1) := by decide +kernel
theorem dX7_afterName_61 : decode cX7_afterName 61 = .ok (.iconst 4, 1) := by decide +kernel
theorem dX7_afterName_62 : decode cX7_afterName 62 = .ok (.iload 4, 2) := by decide +kernel
theorem dX7_afterName_64 : decode cX7_afterName 64 = .ok (.iconst 0, 1) := by decide +kernel
theorem dX7_afterName_65 : decode cX7_afterName 65 = .ok (.invokevirtual 157, 3) := by decide +kernel
theorem dX7_afterName_68 : decode cX7_afterName 68 = .ok (.pop, 1) := by decide +kernel
theorem dX7_afterName_69 : decode cX7_afterName 69 = .ok (.aload_n 0, 1) := by decide +kernel
theorem dX7_afterName_70 : decode cX7_afterName 70 = .ok (.bipush 33, 2) := by decide +kernel
theorem dX7_afterName_72 : decode cX7_afterName 72 = .ok (.invokevirtual 83, 3) := by decide +kernel
theorem dX7_afterName_75 : decode cX7_afterName 75 = .ok (.ifCond .eq 17, 3) := by decide +kernel
theorem dX7_afterName_78 : decode cX7_afterName 78 = .ok (.aload_n 0, 1) := by decide +kernel
theorem dX7_afterName_79 : decode cX7_afterName 79 = .ok (.bipush 14, 2) := by decide +kernel
theorem dX7_afterName_81 : decode cX7_afterName 81 = .ok (.iconst 0, 1) := by decide +kernel
theorem dX7_afterName_82 : decode cX7_afterName 82 = .ok (.lconst 0, 1) := by decide +kernel
theorem dX7_afterName_83 : decode cX7_afterName 83 = .ok (.aload_n 0, 1) := by decide +kernel
theorem dX7_afterName_84 : decode cX7_afterName 84 = .ok (.iconst (-1), 1) := by decide +kernel
theorem dX7_afterName_85 : decode cX7_afterName 85 = .ok (.iconst 0, 1) := by decide +kernel
theorem dX7_afterName_86 : decode cX7_afterName 86 = .ok (.invokevirtual 273, 3) := by decide +kernel
theorem dX7_afterName_89 : decode cX7_afterName 89 = .ok (.invokevirtual 297, 3) := by decide +kernel
theorem dX7_afterName_92 : decode cX7_afterName 92 = .ok (.return_, 1) := by decide +kernel
theorem dX7_cellParts_0 : decode cX7_cellParts 0 = .ok (.aload_n 0, 1) := by decide +kernel
theorem dX7_cellParts_1 : decode cX7_cellParts 1 = .ok (.iconst 4, 1) := by decide +kernel
theorem dX7_cellParts_2 : decode cX7_cellParts 2 = .ok (.iload_n 1, 1) := by decide +kernel
theorem dX7_cellParts_3 : decode cX7_cellParts 3 = .ok (.iconst 0, 1) := by decide +kernel
theorem dX7_cellParts_4 : decode cX7_cellParts 4 = .ok (.invokevirtual 157, 3) := by decide +kernel
theorem dX7_cellParts_7 : decode cX7_cellParts 7 = .ok (.pop, 1) := by decide +kernel
theorem dX7_cellParts_8 : decode cX7_cellParts 8 = .ok (.aload_n 0, 1) := by decide +kernel
theorem dX7_cellParts_9 : decode cX7_cellParts 9 = .ok (.iconst (-1), 1) := by decide +kernel
theorem dX7_cellParts_10 : decode cX7_cellParts 10 = .ok (.iconst 0, 1) := by decide +kernel
theorem dX7_cellParts_11 : decode cX7_cellParts 11 = .ok (.invokevirtual 273, 3) := by decide +kernel
theorem dX7_cellParts_14 : decode cX7_cellParts 14 = .ok (.istore_n 2, 1) := by decide +kernel
theorem dX7_cellParts_15 : decode cX7_cellParts 15 = .ok (.aload_n 0, 1) := by decide +kernel
theorem dX7_cellParts_16 : decode cX7_cellParts 16 = .ok (.bipush 91, 2) := by decide +kernel
theorem dX7_cellParts_18 : decode cX7_cellParts 18 = .ok (.bipush 93, 2) := by decide +kernel
theorem dX7_cellParts_20 : decode cX7_cellParts 20 = .ok (.invokevirtual 288, 3) := by decide +kernel
theorem dX7_cellParts_23 : decode cX7_cellParts 23 = .ok (.aload_n 0, 1) := by decide +kernel
theorem dX7_cellParts_24 : decode cX7_cellParts 24 = .ok (.iload_n 2, 1) := by decide +kernel
theorem dX7_cellParts_25 : decode cX7_cellParts 25 = .ok (.iconst 1, 1) := by decide +kernel
theorem dX7_cellParts_26 : decode cX7_cellParts 26 = .ok (.invokevirtual 273, 3) := by decide +kernel
theorem dX7_cellParts_29 : decode cX7_cellParts 29 = .ok (.ireturn, 1) := by decide +kernel
set_option maxHeartbeats 4000000 in
set_option maxRecDepth 100000 in
theorem c_X7_cellParts (ω : Om) (l : Launch) (μ : M3) (x1 : Int) (F : Nat) (Lo : Nat) (Fu : Nat) (Lu : Nat) (kf : Int) (P : Int) (tt : Int) (hx1 : ir x1) (hI : IC μ) (hP : P = μ.1 23 2) (htt : tt = μ.1 23 8) (hF : 60 ≤ F) (hLo : 2000 ≤ Lo) (hFu : Fu ≤ F) (hLu : Lu ≤ Lo) (hE : ∀ (μ : M3) (x1 : Int) (P : Int) (tt : Int) (hx1 : x1 = 0 ∨ x1 = 1) (hI : IC μ) (hP : P = μ.1 23 2) (htt : tt = μ.1 23 8) (hTK : TK μ) (hB : 2 * μ.1 P 1 ≤ 5 * μ.1 26 10 + 200 + 80 * μ.1 26 11) (hKc : μ.1 (P + 2) 3 ≤ μ.1 P 1) (ht3 : 0 ≤ tt ∧ tt ≤ 3) (hdp : 0 ≤ μ.1 23 9 ∧ μ.1 23 9 ≤ 8 + μ.1 26 11) (hfu : 0 ≤ (kf - 1) ∧ 9 ≤ μ.1 23 9 + (kf - 1) + 20 * μ.1 26 11) (hbg : ∀ _ : Unit, x1 = 0 ∨ μ.1 26 11 ≠ 0 ∨ 2 ≤ hs μ P (μ.1 P 1)), CtV ω l yX7_expression cX7_expression 3 (F + 0) (Lo + 0) [.ref (oP ω 23), .int (iv x1)] μ (fun (μ' : M3) => (Fr [2, 3, 4, 23, 24, 26, P, P + 1, P + 2, (P + 2) + 1, (P + 2) + 2, (P + 2) + 3] μ μ') ∧ (IC μ') ∧ (TK μ') ∧ (μ.1 26 11 ≤ μ'.1 26 11) ∧ (μ.1 26 10 ≤ μ'.1 26 10) ∧ (μ.1 P 1 ≤ μ'.1 P 1 ∧ μ'.1 P 1 ≤ μ.1 P 1 + 2 * (μ'.1 26 10 - μ.1 26 10) + (- 1 + 3 * μ'.1 26 11 - 2 * μ.1 26 11 + x1)) ∧ (μ'.1 (P + 2) 3 - μ.1 (P + 2) 3 ≤ μ'.1 P 1 - μ.1 P 1 ∧ μ.1 (P + 2) 3 ≤ μ'.1 (P + 2) 3) ∧ (μ'.1 26 11 = 0 → EX μ μ' P tt (1 - x1) 0) ∧ (μ'.1 23 2 = μ.1 23 2) ∧ (μ'.1 23 5 = μ.1 23 5) ∧ (μ'.1 23 6 = μ.1 23 6) ∧ (μ'.1 23 7 = μ.1 23 7) ∧ (μ'.1 23 8 = μ.1 23 8) ∧ (μ'.1 23 9 = μ.1 23 9) ∧ (μ'.1 23 10 = μ.1 23 10) ∧ (μ'.1 26 6 = μ.1 26 6) ∧ (μ'.1 P 7 = μ.1 P 7))) (hU : ∀ (μ : M3) (x1 : Int) (P : Int) (tt : Int) (hx1 : x1 = 0 ∨ x1 = 1) (hI : IC μ) (hP : P = μ.1 23 2) (htt : tt = μ.1 23 8) (hTK : TK μ) (hB : 2 * μ.1 P 1 ≤ 5 * μ.1 26 10 + 200 + 80 * μ.1 26 11) (hKc : μ.1 (P + 2) 3 ≤ μ.1 P 1) (ht3 : 0 ≤ tt ∧ tt ≤ 3) (hdp : 0 ≤ μ.1 23 9 ∧ μ.1 23 9 ≤ 8 + μ.1 26 11) (hfu : 0 ≤ (kf - 1) ∧ 9 ≤ μ.1 23 9 + (kf - 1) + 20 * μ.1 26 11) (hbg : ∀ _ : Unit, x1 = 0 ∨ μ.1 26 11 ≠ 0 ∨ 2 ≤ hs μ P (μ.1 P 1)), CtV ω l yX7_unary cX7_unary 2 (Fu + 0) (Lu + 0) [.ref (oP ω 23), .int (iv x1)] μ (fun (μ' : M3) => (Fr [2, 3, 4, 23, 24, 26, P, P + 1, P + 2, (P + 2) + 1, (P + 2) + 2, (P + 2) + 3] μ μ') ∧ (IC μ') ∧ (TK μ') ∧ (μ.1 26 11 ≤ μ'.1 26 11) ∧ (μ.1 26 10 ≤ μ'.1 26 10) ∧ (μ.1 P 1 ≤ μ'.1 P 1 ∧ μ'.1 P 1 ≤ μ.1 P 1 + 2 * (μ'.1 26 10 - μ.1 26 10) + (- 1 + 3 * μ'.1 26 11 - 2 * μ.1 26 11 + x1)) ∧ (μ'.1 (P + 2) 3 - μ.1 (P + 2) 3 ≤ μ'.1 P 1 - μ.1 P 1 ∧ μ.1 (P + 2) 3 ≤ μ'.1 (P + 2) 3) ∧ (μ'.1 26 11 = 0 → EX μ μ' P tt (1 - x1) 0) ∧ (μ'.1 23 2 = μ.1 23 2) ∧ (μ'.1 23 5 = μ.1 23 5) ∧ (μ'.1 23 6 = μ.1 23 6) ∧ (μ'.1 23 7 = μ.1 23 7) ∧ (μ'.1 23 8 = μ.1 23 8) ∧ (μ'.1 23 9 = μ.1 23 9) ∧ (μ'.1 23 10 = μ.1 23 10) ∧ (μ'.1 26 6 = μ.1 26 6) ∧ (μ'.1 P 7 = μ.1 P 7))) (hTK : TK μ) (hB : 2 * μ.1 P 1 ≤ 5 * μ.1 26 10 + 195 + 80 * μ.1 26 11) (hKc : μ.1 (P + 2) 3 ≤ μ.1 P 1) (ht3 : 0 ≤ tt ∧ tt ≤ 3) (hdp : 0 ≤ μ.1 23 9 ∧ μ.1 23 9 ≤ 8) (hfu : 9 ≤ μ.1 23 9 + kf) (hx1b : 0 ≤ x1 ∧ x1 ≤ 1000) : CtI ω l yX7_cellParts cX7_cellParts 3 .int (F + 2) (Lo + 44) [.ref (oP ω 23), .int (iv x1)] μ (fun (r : Int) (μ' : M3) => (Fr [2, 3, 4, 23, 24, 26, P, P + 1, P + 2, (P + 2) + 1, (P + 2) + 2, (P + 2) + 3] μ μ') ∧ (IC μ') ∧ (TK μ') ∧ (μ.1 26 11 ≤ μ'.1 26 11) ∧ (μ.1 26 10 ≤ μ'.1 26 10) ∧ (μ.1 P 1 ≤ μ'.1 P 1 ∧ μ'.1 P 1 ≤ μ.1 P 1 + 2 * (μ'.1 26 10 - μ.1 26 10) + (- 2 + 5 * μ'.1 26 11)) ∧ (μ'.1 (P + 2) 3 - μ.1 (P + 2) 3 ≤ μ'.1 P 1 - μ.1 P 1 ∧ μ.1 (P + 2) 3 ≤ μ'.1 (P + 2) 3) ∧ (μ'.1 26 11 = 0 → PXE μ μ' P tt 2 r 1) ∧ (μ'.1 23 2 = μ.1 23 2) ∧ (μ'.1 23 5 = μ.1 23 5) ∧ (μ'.1 23 6 = μ.1 23 6) ∧ (μ'.1 23 7 = μ.1 23 7) ∧ (μ'.1 23 8 = μ.1 23 8) ∧ (μ'.1 23 9 = μ.1 23 9) ∧ (μ'.1 23 10 = μ.1 23 10) ∧ (μ'.1 26 6 = μ.1 26 6) ∧ (μ'.1 P 7 = μ.1 P 7)) := by
  refine CtI.go (by decide) (Nat.le_of_ble_eq_true rfl) (fun ρ p e s m below meth c R ls G hR hret hlk hl => ?_)
  have hx := G.1.1
  have hb := G.1.2.1
  have hl : lv_has ls 3 [(0, .ref (oP ω 23)), (1, .int (iv x1))] := hl
  generalize s.drawn = d0 at G ⊢
  have hr_x1 : -2147483648 ≤ x1 ∧ x1 ≤ 2147483647 := hx1
  have hTKb := hTK.b
  have hprP : isPr P := by have h9 := G.sr0.2.2.2.2.2; rw [← hP] at h9; exact h9
  have hprP_d : 13 ≤ P ∧ P ≤ 101 := by rcases hprP with h9 | h9 | h9 | h9 | h9 <;> omega
  have hk_1 := hI.pr (p := P) hprP
  unfold pk at hk_1
  have hc_2 : 16 ≤ μ.2.1 (P + 1) ∧ μ.2.1 (P + 1) ≤ 73024 := hI.rm.1 _ hprP.cap
  have hnil : μ.1 26 11 = 0 → PXE μ μ P tt 0 (-1) 1 := fun _ => PXE.nil (by omega)
  refine lv_aload_n hx hb dX7_cellParts_0 rfl (lv_at hl 0 rfl) ?_
  refine lv_iconst (v := iv 4) hx hb dX7_cellParts_1 rfl ?_
  refine lv_iload_n hx hb dX7_cellParts_2 rfl (lv_at hl 1 rfl) ?_
  refine lv_iconst (v := iv 0) hx hb dX7_cellParts_3 rfl ?_
  have e_3 : μ.1 23 2 = P := hP.symm
  refine xc_iV G (b := 23) (rest := []) (As := [.int (iv 4), .int (iv x1), .int (iv 0)]) (c_X7_add ω l μ 4 x1 0 P (by unfold ir; omega) (by unfold ir; omega) (by unfold ir; omega) hI (by omega) (by omega)) (wm 3 226 rfl rfl) (wm 3 228 rfl rfl) (wm 0 21 rfl rfl) rfl rfl (by decide) rfl (wm 1 12 rfl rfl) (wm 3 229 rfl rfl) (by decide) hR ⟨nfr hF (by decide), nlo hLo (by decide)⟩ (n := 3) rfl rfl (Nat.le_of_ble_eq_true rfl) hl.1 dX7_cellParts_4 (fun r_5 μ4 ρ d0 H locs hr_r_5 hp G => ?_)
  have hr_r_5 : -2147483648 ≤ r_5 ∧ r_5 ≤ 2147483647 := hr_r_5
  obtain ⟨F_6, hI_7, hp_8, hp_9, hs_10, hs_11⟩ := hp
  have hpx_12 : μ4.1 26 11 = 0 → PXE μ μ4 P tt 1 (-1) 1 := fun h0 => (PXE.app (hnil (by have h9 : μ.1 26 11 = μ.1 26 11 := rfl; have h8 : μ4.1 26 11 = μ.1 26 11 := (F_6.1 26 (ni hprP (fun P => 26) (fun P => [P, P + 1]) rfl) 11); omega)) (EX.pl hp_9 (by omega) (by unfold plain; omega) (e := 1) rfl (by have h9 := hs_1 (μ := μ) (P := P) (i := μ.1 P 1); omega))).e (by omega)
  refine lv_pop hx hb dX7_cellParts_7 rfl ?_
  refine lv_aload_n hx hb dX7_cellParts_8 rfl (lv_at hl 0 rfl) ?_
  refine lv_iconst (v := iv (-1)) hx hb dX7_cellParts_9 rfl ?_
  refine lv_iconst (v := iv 0) hx hb dX7_cellParts_10 rfl ?_
  have e_13 : μ4.1 23 2 = P := ((F_6.1 23 (ni hprP (fun P => 23) (fun P => [P, P + 1]) rfl) 2).trans hP.symm)
  have e_14 : μ4.1 23 8 = tt := ((F_6.1 23 (ni hprP (fun P => 23) (fun P => [P, P + 1]) rfl) 8).trans htt.symm)
  have e_15 : μ4.1 P 1 = μ.1 P 1 + 1 := hs_10
  have e_16 : μ4.1 P 1 = μ.1 P 1 + 1 := hs_10
  have e_17 : μ4.1 P 1 = μ.1 P 1 + 1 := hs_10
  refine xc_iV G (b := 23) (rest := []) (As := [.int (iv (-1)), .int (iv 0)]) (c_X7_ifFails ω l μ4 (-1) 0 μ (1) (1) P tt (by unfold ir; omega) (by unfold ir; omega) hI_7 (by omega) (by omega) (by omega) hpx_12 (by omega) (by omega)) (wm 4 23 rfl rfl) (wm 4 25 rfl rfl) (wm 0 29 rfl rfl) rfl rfl (by decide) rfl (wm 1 12 rfl rfl) (wm 4 26 rfl rfl) (by decide) hR ⟨nfr hF (by decide), nlo hLo (by decide)⟩ (n := 2) rfl rfl (Nat.le_of_ble_eq_true rfl) hl.1 dX7_cellParts_11 (fun r_19 μ18 ρ d0 H locs hr_r_19 hp G => ?_)
  have hr_r_19 : -2147483648 ≤ r_19 ∧ r_19 ≤ 2147483647 := hr_r_19
  obtain ⟨F_20, hI_21, hp_22, hp_23, hs_24⟩ := hp
  have hk_25 := hI_21.pr (p := P) hprP
  unfold pk at hk_25
  have hc_26 : 16 ≤ μ18.2.1 (P + 1) ∧ μ18.2.1 (P + 1) ≤ 73024 := hI_21.rm.1 _ hprP.cap
  have hpx_27 : μ18.1 26 11 = 0 → PXE μ μ18 P tt 1 r_19 1 := fun h0 => hp_22 (by have h9 : μ4.1 26 11 = μ.1 26 11 := (F_6.1 26 (ni hprP (fun P => 26) (fun P => [P, P + 1]) rfl) 11); have h8 : μ18.1 26 11 = μ.1 26 11 := ((F_20.1 26 (ni hprP (fun P => 26) (fun P => [P, P + 1]) rfl) 11).trans (F_6.1 26 (ni hprP (fun P => 26) (fun P => [P, P + 1]) rfl) 11)); omega)
  clear hp_22
  refine lv_istore_n (lv' := [(2, .int (iv r_19)), (0, .ref (oP ω 23)), (1, .int (iv x1))]) hx hb dX7_cellParts_14 rfl hl (by decide) rfl (fun ls hl => ?_)
  refine lv_aload_n hx hb dX7_cellParts_15 rfl (lv_at hl 1 rfl) ?_
  refine lv_bipush (v := iv 91) hx hb dX7_cellParts_16 rfl ?_
  refine lv_bipush (v := iv 93) hx hb dX7_cellParts_18 rfl ?_
  have e_28 : μ18.1 23 2 = P := ((F_20.1 23 (ni hprP (fun P => 23) (fun P => [P, P + 1]) rfl) 2).trans ((F_6.1 23 (ni hprP (fun P => 23) (fun P => [P, P + 1]) rfl) 2).trans hP.symm))
  have e_29 : μ18.1 23 8 = tt := ((F_20.1 23 (ni hprP (fun P => 23) (fun P => [P, P + 1]) rfl) 8).trans ((F_6.1 23 (ni hprP (fun P => 23) (fun P => [P, P + 1]) rfl) 8).trans htt.symm))
  have htk_30 : TK μ18 := hTK.fr (K := [P, P + 1]) (Fr.tr (Fr.tr Fr.rf F_6 (si hprP (fun P => [P, P + 1]) (fun P => [P, P + 1]) rfl)) F_20 (si hprP (fun P => [P, P + 1]) (fun P => [P, P + 1]) rfl)) (ni hprP (fun P => 26) (fun P => [P, P + 1]) rfl) (ni hprP (fun P => 28) (fun P => [P, P + 1]) rfl) (ni hprP (fun P => 29) (fun P => [P, P + 1]) rfl)
  have hn_31 : -1 ≤ μ.1 26 10 ∧ μ.1 26 10 ≤ 3000 := hI.nm.2.2.2.2.2.2.2.2.2.2.2.2
  have e_32 : μ18.1 26 10 = μ.1 26 10 := ((F_20.1 26 (ni hprP (fun P => 26) (fun P => [P, P + 1]) rfl) 10).trans (F_6.1 26 (ni hprP (fun P => 26) (fun P => [P, P + 1]) rfl) 10))
  have e_33 : μ18.1 26 11 = μ.1 26 11 := ((F_20.1 26 (ni hprP (fun P => 26) (fun P => [P, P + 1]) rfl) 11).trans (F_6.1 26 (ni hprP (fun P => 26) (fun P => [P, P + 1]) rfl) 11))
  have hk_34 := hI.row (r := P + 2) (hprP.row)
  unfold rk at hk_34
  have e_35 : μ18.1 (P + 2) 3 = μ.1 (P + 2) 3 := ((F_20.1 (P + 2) (ni hprP (fun P => P + 2) (fun P => [P, P + 1]) rfl) 3).trans (F_6.1 (P + 2) (ni hprP (fun P => P + 2) (fun P => [P, P + 1]) rfl) 3))
  have e_36 : μ18.1 23 9 = μ.1 23 9 := ((F_20.1 23 (ni hprP (fun P => 23) (fun P => [P, P + 1]) rfl) 9).trans (F_6.1 23 (ni hprP (fun P => 23) (fun P => [P, P + 1]) rfl) 9))
  have e_37 : μ18.1 23 9 = μ.1 23 9 := ((F_20.1 23 (ni hprP (fun P => 23) (fun P => [P, P + 1]) rfl) 9).trans (F_6.1 23 (ni hprP (fun P => 23) (fun P => [P, P + 1]) rfl) 9))
  have e_38 : μ18.1 23 9 = μ.1 23 9 := ((F_20.1 23 (ni hprP (fun P => 23) (fun P => [P, P + 1]) rfl) 9).trans (F_6.1 23 (ni hprP (fun P => 23) (fun P => [P, P + 1]) rfl) 9))
  have e_39 : μ18.1 26 11 = μ.1 26 11 := ((F_20.1 26 (ni hprP (fun P => 26) (fun P => [P, P + 1]) rfl) 11).trans (F_6.1 26 (ni hprP (fun P => 26) (fun P => [P, P + 1]) rfl) 11))
  have e_40 : μ18.1 26 10 = μ.1 26 10 := ((F_20.1 26 (ni hprP (fun P => 26) (fun P => [P, P + 1]) rfl) 10).trans (F_6.1 26 (ni hprP (fun P => 26) (fun P => [P, P + 1]) rfl) 10))
  have e_41 : μ18.1 26 10 = μ.1 26 10 := ((F_20.1 26 (ni hprP (fun P => 26) (fun P => [P, P + 1]) rfl) 10).trans (F_6.1 26 (ni hprP (fun P => 26) (fun P => [P, P + 1]) rfl) 10))
  have e_42 : μ18.1 (P + 2) 3 = μ.1 (P + 2) 3 := ((F_20.1 (P + 2) (ni hprP (fun P => P + 2) (fun P => [P, P + 1]) rfl) 3).trans (F_6.1 (P + 2) (ni hprP (fun P => P + 2) (fun P => [P, P + 1]) rfl) 3))
  have e_43 : μ18.1 (P + 2) 3 = μ.1 (P + 2) 3 := ((F_20.1 (P + 2) (ni hprP (fun P => P + 2) (fun P => [P, P + 1]) rfl) 3).trans (F_6.1 (P + 2) (ni hprP (fun P => P + 2) (fun P => [P, P + 1]) rfl) 3))
  refine xc_vV G (b := 23) (rest := []) (As := [.int (iv 91), .int (iv 93)]) (c_X7_inBrackets ω l μ18 91 93 F Lo Fu Lu kf P tt (by unfold ir; omega) (by unfold ir; omega) hI_21 (by omega) (by omega) hF hLo hFu hLu hE hU htk_30 (by omega) (by omega) (by omega) (by omega) (by omega) (by omega) (by omega)) (wm 4 92 rfl rfl) (wm 4 94 rfl rfl) (wm 0 39 rfl rfl) rfl rfl (by decide) rfl (wm 1 12 rfl rfl) (wm 4 95 rfl rfl) (by decide) hR ⟨sfr (F := F) (a := 1) (by decide), slo (L := Lo) (m := 3) (a := 22) (by decide)⟩ (n := 2) rfl rfl (Nat.le_of_ble_eq_true rfl) hl.1 dX7_cellParts_20 (fun μ44 ρ d0 H locs hp G => ?_)
  obtain ⟨F_45, hI_46, hp_47, hp_48, hp_49, hp_50, hp_51, hp_52, hs_53, hs_54, hs_55, hs_56, hs_57, hs_58, hs_59, hs_60, hs_61⟩ := hp
  have hn_62 : -1 ≤ μ44.1 26 10 ∧ μ44.1 26 10 ≤ 3000 := hI_46.nm.2.2.2.2.2.2.2.2.2.2.2.2
  have hk_63 := hI_46.pr (p := P) hprP
  unfold pk at hk_63
  have hc_64 : 16 ≤ μ44.2.1 (P + 1) ∧ μ44.2.1 (P + 1) ≤ 73024 := hI_46.rm.1 _ hprP.cap
  have hk_65 := hI_46.row (r := P + 2) (hprP.row)
  unfold rk at hk_65
  have htb_66 := hp_47.b
  have hpx_67 : μ44.1 26 11 = 0 → PXE μ μ44 P tt 2 r_19 1 := fun h0 => (PXE.app (hpx_27 (by have h9 : μ18.1 26 11 = μ.1 26 11 := ((F_20.1 26 (ni hprP (fun P => 26) (fun P => [P, P + 1]) rfl) 11).trans (F_6.1 26 (ni hprP (fun P => 26) (fun P => [P, P + 1]) rfl) 11)); have h8 : μ44.1 26 11 = μ44.1 26 11 := rfl; omega)) (hp_52 h0)).e (by omega)
  refine lv_aload_n hx hb dX7_cellParts_23 rfl (lv_at hl 1 rfl) ?_
  refine lv_iload_n hx hb dX7_cellParts_24 rfl (lv_at hl 0 rfl) ?_
  refine lv_iconst (v := iv 1) hx hb dX7_cellParts_25 rfl ?_
  have e_68 : μ44.1 23 2 = P := (hs_53.trans ((F_20.1 23 (ni hprP (fun P => 23) (fun P => [P, P + 1]) rfl) 2).trans ((F_6.1 23 (ni hprP (fun P => 23) (fun P => [P, P + 1]) rfl) 2).trans hP.symm)))
  have e_69 : μ44.1 23 8 = tt := (hs_57.trans ((F_20.1 23 (ni hprP (fun P => 23) (fun P => [P, P + 1]) rfl) 8).trans ((F_6.1 23 (ni hprP (fun P => 23) (fun P => [P, P + 1]) rfl) 8).trans htt.symm)))
  refine xc_iV G (b := 23) (rest := []) (As := [.int (iv r_19), .int (iv 1)]) (c_X7_ifFails ω l μ44 r_19 1 μ (2) (1) P tt (by unfold ir; omega) (by unfold ir; omega) hI_46 (by omega) (by omega) (by omega) hpx_67 (by omega) (by omega)) (wm 4 23 rfl rfl) (wm 4 25 rfl rfl) (wm 0 29 rfl rfl) rfl rfl (by decide) rfl (wm 1 12 rfl rfl) (wm 4 26 rfl rfl) (by decide) hR ⟨nfr hF (by decide), nlo hLo (by decide)⟩ (n := 2) rfl rfl (Nat.le_of_ble_eq_true rfl) hl.1 dX7_cellParts_26 (fun r_71 μ70 ρ d0 H locs hr_r_71 hp G => ?_)
  have hr_r_71 : -2147483648 ≤ r_71 ∧ r_71 ≤ 2147483647 := hr_r_71
  obtain ⟨F_72, hI_73, hp_74, hp_75, hs_76⟩ := hp
  have hk_77 := hI_73.pr (p := P) hprP
  unfold pk at hk_77
  have hc_78 : 16 ≤ μ70.2.1 (P + 1) ∧ μ70.2.1 (P + 1) ≤ 73024 := hI_73.rm.1 _ hprP.cap
  have hpx_79 : μ70.1 26 11 = 0 → PXE μ μ70 P tt 2 r_71 1 := fun h0 => hp_74 (by have h9 : μ44.1 26 11 = μ44.1 26 11 := rfl; have h8 : μ70.1 26 11 = μ44.1 26 11 := (F_72.1 26 (ni hprP (fun P => 26) (fun P => [P, P + 1]) rfl) 11); omega)
  clear hp_74
  have htk_80 : TK μ70 := hp_47.fr (K := [P, P + 1]) (Fr.tr Fr.rf F_72 (si hprP (fun P => [P, P + 1]) (fun P => [P, P + 1]) rfl)) (ni hprP (fun P => 26) (fun P => [P, P + 1]) rfl) (ni hprP (fun P => 28) (fun P => [P, P + 1]) rfl) (ni hprP (fun P => 29) (fun P => [P, P + 1]) rfl)
  have e_81 : μ70.1 26 11 = μ44.1 26 11 := (F_72.1 26 (ni hprP (fun P => 26) (fun P => [P, P + 1]) rfl) 11)
  have e_82 : μ70.1 26 11 = μ44.1 26 11 := (F_72.1 26 (ni hprP (fun P => 26) (fun P => [P, P + 1]) rfl) 11)
  have e_83 : μ70.1 26 10 = μ44.1 26 10 := (F_72.1 26 (ni hprP (fun P => 26) (fun P => [P, P + 1]) rfl) 10)
  have e_84 : μ70.1 26 10 = μ44.1 26 10 := (F_72.1 26 (ni hprP (fun P => 26) (fun P => [P, P + 1]) rfl) 10)
  have e_85 : μ70.1 26 11 = μ44.1 26 11 := (F_72.1 26 (ni hprP (fun P => 26) (fun P => [P, P + 1]) rfl) 11)
  have e_86 : μ70.1 (P + 2) 3 = μ44.1 (P + 2) 3 := (F_72.1 (P + 2) (ni hprP (fun P => P + 2) (fun P => [P, P + 1]) rfl) 3)
  have e_87 : μ70.1 (P + 2) 3 = μ44.1 (P + 2) 3 := (F_72.1 (P + 2) (ni hprP (fun P => P + 2) (fun P => [P, P + 1]) rfl) 3)
  exact xr_i G (x := r_71) hret hlk (by unfold ir; omega) rfl dX7_cellParts_29 ⟨(Fr.tr (Fr.tr (Fr.tr (Fr.tr Fr.rf F_6 (si hprP (fun P => [P, P + 1]) (fun P => [2, 3, 4, 23, 24, 26, P, P + 1, P + 2, (P + 2) + 1, (P + 2) + 2, (P + 2) + 3]) rfl)) F_20 (si hprP (fun P => [P, P + 1]) (fun P => [2, 3, 4, 23, 24, 26, P, P + 1, P + 2, (P + 2) + 1, (P + 2) + 2, (P + 2) + 3]) rfl)) F_45 (si hprP (fun P => [2, 3, 4, 23, 24, 26, P, P + 1, P + 2, (P + 2) + 1, (P + 2) + 2, (P + 2) + 3]) (fun P => [2, 3, 4, 23, 24, 26, P, P + 1, P + 2, (P + 2) + 1, (P + 2) + 2, (P + 2) + 3]) rfl)) F_72 (si hprP (fun P => [P, P + 1]) (fun P => [2, 3, 4, 23, 24, 26, P, P + 1, P + 2, (P + 2) + 1, (P + 2) + 2, (P + 2) + 3]) rfl)), hI_73, htk_80, (by omega), (by omega), (by omega), (by omega), (fun h0 => (hpx_79 h0).e (by omega)), (((F_72.1 23 (ni hprP (fun P => 23) (fun P => [P, P + 1]) rfl) 2).trans (hs_53.trans ((F_20.1 23 (ni hprP (fun P => 23) (fun P => [P, P + 1]) rfl) 2).trans ((F_6.1 23 (ni hprP (fun P => 23) (fun P => [P, P + 1]) rfl) 2).trans hP.symm))))).trans hP, ((F_72.1 23 (ni hprP (fun P => 23) (fun P => [P, P + 1]) rfl) 5).trans (hs_54.trans ((F_20.1 23 (ni hprP (fun P => 23) (fun P => [P, P + 1]) rfl) 5).trans (F_6.1 23 (ni hprP (fun P => 23) (fun P => [P, P + 1]) rfl) 5)))), ((F_72.1 23 (ni hprP (fun P => 23) (fun P => [P, P + 1]) rfl) 6).trans (hs_55.trans ((F_20.1 23 (ni hprP (fun P => 23) (fun P => [P, P + 1]) rfl) 6).trans (F_6.1 23 (ni hprP (fun P => 23) (fun P => [P, P + 1]) rfl) 6)))), ((F_72.1 23 (ni hprP (fun P => 23) (fun P => [P, P + 1]) rfl) 7).trans (hs_56.trans ((F_20.1 23 (ni hprP (fun P => 23) (fun P => [P, P + 1]) rfl) 7).trans (F_6.1 23 (ni hprP (fun P => 23) (fun P => [P, P + 1]) rfl) 7)))), (((F_72.1 23 (ni hprP (fun P => 23) (fun P => [P, P + 1]) rfl) 8).trans (hs_57.trans ((F_20.1 23 (ni hprP (fun P => 23) (fun P => [P, P + 1]) rfl) 8).trans ((F_6.1 23 (ni hprP (fun P => 23) (fun P => [P, P + 1]) rfl) 8).trans htt.symm))))).trans htt, ((F_72.1 23 (ni hprP (fun P => 23) (fun P => [P, P + 1]) rfl) 9).trans (hs_58.trans ((F_20.1 23 (ni hprP (fun P => 23) (fun P => [P, P + 1]) rfl) 9).trans (F_6.1 23 (ni hprP (fun P => 23) (fun P => [P, P + 1]) rfl) 9)))), ((F_72.1 23 (ni hprP (fun P => 23) (fun P => [P, P + 1]) rfl) 10).trans (hs_59.trans ((F_20.1 23 (ni hprP (fun P => 23) (fun P => [P, P + 1]) rfl) 10).trans (F_6.1 23 (ni hprP (fun P => 23) (fun P => [P, P + 1]) rfl) 10)))), ((F_72.1 26 (ni hprP (fun P => 26) (fun P => [P, P + 1]) rfl) 6).trans (hs_60.trans ((F_20.1 26 (ni hprP (fun P => 26) (fun P => [P, P + 1]) rfl) 6).trans (F_6.1 26 (ni hprP (fun P => 26) (fun P => [P, P + 1]) rfl) 6)))), (hs_76.trans (hs_61.trans (hs_24.trans hs_11)))⟩

set_option maxHeartbeats 4000000 in
set_option maxRecDepth 100000 in
theorem c_X7_afterName (ω : Om) (l : Launch) (μ : M3) (x1 : Int) (x2 : Int) (F : Nat) (Lo : Nat) (Fu : Nat) (Lu : Nat) (kf : Int) (P : Int) (tt : Int) (hx1 : jr x1) (hx2 : ir x2) (hI : IC μ) (hP : P = μ.1 23 2) (htt : tt = μ.1 23 8) (hF : 60 ≤ F) (hLo : 2000 ≤ Lo) (hFu : Fu ≤ F) (hLu : Lu ≤ Lo) (hE : ∀ (μ : M3) (x1 : Int) (P : Int) (tt : Int) (hx1 : x1 = 0 ∨ x1 = 1) (hI : IC μ) (hP : P = μ.1 23 2) (htt : tt = μ.1 23 8) (hTK : TK μ) (hB : 2 * μ.1 P 1 ≤ 5 * μ.1 26 10 + 200 + 80 * μ.1 26 11) (hKc : μ.1 (P + 2) 3 ≤ μ.1 P 1) (ht3 : 0 ≤ tt ∧ tt ≤ 3) (hdp : 0 ≤ μ.1 23 9 ∧ μ.1 23 9 ≤ 8 + μ.1 26 11) (hfu : 0 ≤ (kf - 1) ∧ 9 ≤ μ.1 23 9 + (kf - 1) + 20 * μ.1 26 11) (hbg : ∀ _ : Unit, x1 = 0 ∨ μ.1 26 11 ≠ 0 ∨ 2 ≤ hs μ P (μ.1 P 1)), CtV ω l yX7_expression cX7_expression 3 (F + 0) (Lo + 0) [.ref (oP ω 23), .int (iv x1)] μ (fun (μ' : M3) => (Fr [2, 3, 4, 23, 24, 26, P, P + 1, P + 2, (P + 2) + 1, (P + 2) + 2, (P + 2) + 3] μ μ') ∧ (IC μ') ∧ (TK μ') ∧ (μ.1 26 11 ≤ μ'.1 26 11) ∧ (μ.1 26 10 ≤ μ'.1 26 10) ∧ (μ.1 P 1 ≤ μ'.1 P 1 ∧ μ'.1 P 1 ≤ μ.1 P 1 + 2 * (μ'.1 26 10 - μ.1 26 10) + (- 1 + 3 * μ'.1 26 11 - 2 * μ.1 26 11 + x1)) ∧ (μ'.1 (P + 2) 3 - μ.1 (P + 2) 3 ≤ μ'.1 P 1 - μ.1 P 1 ∧ μ.1 (P + 2) 3 ≤ μ'.1 (P + 2) 3) ∧ (μ'.1 26 11 = 0 → EX μ μ' P tt (1 - x1) 0) ∧ (μ'.1 23 2 = μ.1 23 2) ∧ (μ'.1 23 5 = μ.1 23 5) ∧ (μ'.1 23 6 = μ.1 23 6) ∧ (μ'.1 23 7 = μ.1 23 7) ∧ (μ'.1 23 8 = μ.1 23 8) ∧ (μ'.1 23 9 = μ.1 23 9) ∧ (μ'.1 23 10 = μ.1 23 10) ∧ (μ'.1 26 6 = μ.1 26 6) ∧ (μ'.1 P 7 = μ.1 P 7))) (hU : ∀ (μ : M3) (x1 : Int) (P : Int) (tt : Int) (hx1 : x1 = 0 ∨ x1 = 1) (hI : IC μ) (hP : P = μ.1 23 2) (htt : tt = μ.1 23 8) (hTK : TK μ) (hB : 2 * μ.1 P 1 ≤ 5 * μ.1 26 10 + 200 + 80 * μ.1 26 11) (hKc : μ.1 (P + 2) 3 ≤ μ.1 P 1) (ht3 : 0 ≤ tt ∧ tt ≤ 3) (hdp : 0 ≤ μ.1 23 9 ∧ μ.1 23 9 ≤ 8 + μ.1 26 11) (hfu : 0 ≤ (kf - 1) ∧ 9 ≤ μ.1 23 9 + (kf - 1) + 20 * μ.1 26 11) (hbg : ∀ _ : Unit, x1 = 0 ∨ μ.1 26 11 ≠ 0 ∨ 2 ≤ hs μ P (μ.1 P 1)), CtV ω l yX7_unary cX7_unary 2 (Fu + 0) (Lu + 0) [.ref (oP ω 23), .int (iv x1)] μ (fun (μ' : M3) => (Fr [2, 3, 4, 23, 24, 26, P, P + 1, P + 2, (P + 2) + 1, (P + 2) + 2, (P + 2) + 3] μ μ') ∧ (IC μ') ∧ (TK μ') ∧ (μ.1 26 11 ≤ μ'.1 26 11) ∧ (μ.1 26 10 ≤ μ'.1 26 10) ∧ (μ.1 P 1 ≤ μ'.1 P 1 ∧ μ'.1 P 1 ≤ μ.1 P 1 + 2 * (μ'.1 26 10 - μ.1 26 10) + (- 1 + 3 * μ'.1 26 11 - 2 * μ.1 26 11 + x1)) ∧ (μ'.1 (P + 2) 3 - μ.1 (P + 2) 3 ≤ μ'.1 P 1 - μ.1 P 1 ∧ μ.1 (P + 2) 3 ≤ μ'.1 (P + 2) 3) ∧ (μ'.1 26 11 = 0 → EX μ μ' P tt (1 - x1) 0) ∧ (μ'.1 23 2 = μ.1 23 2) ∧ (μ'.1 23 5 = μ.1 23 5) ∧ (μ'.1 23 6 = μ.1 23 6) ∧ (μ'.1 23 7 = μ.1 23 7) ∧ (μ'.1 23 8 = μ.1 23 8) ∧ (μ'.1 23 9 = μ.1 23 9) ∧ (μ'.1 23 10 = μ.1 23 10) ∧ (μ'.1 26 6 = μ.1 26 6) ∧ (μ'.1 P 7 = μ.1 P 7))) (hTK : TK μ) (hB : 2 * μ.1 P 1 ≤ 5 * μ.1 26 10 + 195 + 80 * μ.1 26 11) (hKc : μ.1 (P + 2) 3 ≤ μ.1 P 1) (ht3 : 0 ≤ tt ∧ tt ≤ 3) (hdp : 0 ≤ μ.1 23 9 ∧ μ.1 23 9 ≤ 8) (hfu : 9 ≤ μ.1 23 9 + kf) (hs0 : μ.1 26 11 = 0) : CtV ω l yX7_afterName cX7_afterName 5 (F + 3) (Lo + 66) [.ref (oP ω 23), .long (jv x1), .int (iv x2)] μ (fun (μ' : M3) => (Fr [2, 3, 4, 23, 24, 26, P, P + 1, P + 2, (P + 2) + 1, (P + 2) + 2, (P + 2) + 3] μ μ') ∧ (IC μ') ∧ (TK μ') ∧ (μ.1 26 11 ≤ μ'.1 26 11) ∧ (μ.1 26 10 ≤ μ'.1 26 10) ∧ (μ.1 P 1 ≤ μ'.1 P 1 ∧ μ'.1 P 1 ≤ μ.1 P 1 + 2 * (μ'.1 26 10 - μ.1 26 10) + (1 + 3 * μ'.1 26 11)) ∧ (μ'.1 (P + 2) 3 - μ.1 (P + 2) 3 ≤ μ'.1 P 1 - μ.1 P 1 ∧ μ.1 (P + 2) 3 ≤ μ'.1 (P + 2) 3) ∧ (μ'.1 26 11 = 0 → EX μ μ' P tt 1 0) ∧ (μ'.1 23 2 = μ.1 23 2) ∧ (μ'.1 23 5 = μ.1 23 5) ∧ (μ'.1 23 6 = μ.1 23 6) ∧ (μ'.1 23 7 = μ.1 23 7) ∧ (μ'.1 23 8 = μ.1 23 8) ∧ (μ'.1 23 9 = μ.1 23 9) ∧ (μ'.1 23 10 = μ.1 23 10) ∧ (μ'.1 26 6 = μ.1 26 6) ∧ (μ'.1 P 7 = μ.1 P 7)) := by
  refine CtV.go (by decide) (Nat.le_of_ble_eq_true rfl) (fun ρ p e s m below meth c R ls G hR hret hlk hl => ?_)
  have hx := G.1.1
  have hb := G.1.2.1
  have hl : lv_has ls 5 [(0, .ref (oP ω 23)), (1, .long (jv x1)), (3, .int (iv x2))] := hl
  generalize s.drawn = d0 at G ⊢
  have hr_x2 : -2147483648 ≤ x2 ∧ x2 ≤ 2147483647 := hx2
  have hTKb := hTK.b
  have hprP : isPr P := by have h9 := G.sr0.2.2.2.2.2; rw [← hP] at h9; exact h9
  have hprP_d : 13 ≤ P ∧ P ≤ 101 := by rcases hprP with h9 | h9 | h9 | h9 | h9 <;> omega
  have hk_1 := hI.pr (p := P) hprP
  unfold pk at hk_1
  have hc_2 : 16 ≤ μ.2.1 (P + 1) ∧ μ.2.1 (P + 1) ≤ 73024 := hI.rm.1 _ hprP.cap
  have hnil : μ.1 26 11 = 0 → PXE μ μ P tt 0 (-1) 1 := fun _ => PXE.nil (by omega)
  refine lv_aload_n hx hb dX7_afterName_0 rfl (lv_at hl 0 rfl) ?_
  refine xa_getr G fd_X7 (a := 23) (x := 26) 0 rfl (by decide) rfl (wm 2 17 rfl rfl) ⟨rfl, rfl, rfl⟩ dX7_afterName_1 rfl (G.sk 23 rfl) (by decide) rfl ?_
  refine xa_getN G fd_X10 (host := "FourTongues") (a := 26) 12 rfl (by decide) (by decide) ⟨rfl, rfl, rfl⟩ dX7_afterName_4 rfl (v := .int (iv (μ.1 26 12))) (by rw [show μ.1 26 12 = μ.1 26 12 from rfl]; rfl) ?_
  have hr_3 : -2147483648 ≤ μ.1 26 12 ∧ μ.1 26 12 ≤ 2147483647 := by have h9 := G.hr (a := 26) (k := 12) rfl; exact h9
  refine lv_bipush (v := iv 40) hx hb dX7_afterName_7 rfl ?_
  refine xb_icmp_ne (tgt := 25) hx hb (by unfold ir; omega) (by unfold ir; omega) dX7_afterName_9 (by decide) (fun c_9 => ?_) (fun c_9 => ?_)
  · refine lv_aload_n hx hb dX7_afterName_25 rfl (lv_at hl 0 rfl) ?_
    refine lv_lload_n hx hb dX7_afterName_26 rfl (lv_at hl 1 rfl) ?_
    refine lv_iload_n hx hb dX7_afterName_27 rfl (lv_at hl 2 rfl) ?_
    refine xc_iV G (b := 23) (rest := []) (As := [.long (jv x1), .int (iv x2)]) (c_X7_variableAt ω l μ x1 x2 hx1 (by unfold ir; omega) hI) (wm 4 84 rfl rfl) (wm 4 86 rfl rfl) (wm 0 37 rfl rfl) rfl rfl (by decide) rfl (wm 1 12 rfl rfl) (wm 4 87 rfl rfl) (by decide) hR ⟨nfr hF (by decide), nlo hLo (by decide)⟩ (n := 2) rfl rfl (Nat.le_of_ble_eq_true rfl) hl.1 dX7_afterName_28 (fun r_5 μ4 ρ d0 H locs hr_r_5 hp G => ?_)
    have hr_r_5 : -2147483648 ≤ r_5 ∧ r_5 ≤ 2147483647 := hr_r_5
    obtain ⟨F_6, hI_7, hp_8⟩ := hp
    refine lv_istore (lv' := [(4, .int (iv r_5)), (0, .ref (oP ω 23)), (1, .long (jv x1)), (3, .int (iv x2))]) hx hb dX7_afterName_31 hl (by decide) rfl (fun ls hl => ?_)
    refine lv_aload_n hx hb dX7_afterName_33 rfl (lv_at hl 1 rfl) ?_
    refine xa_getr G fd_X7 (a := 23) (x := 26) 0 rfl (by decide) rfl (wm 2 17 rfl rfl) ⟨rfl, rfl, rfl⟩ dX7_afterName_34 rfl (G.sk 23 rfl) (by decide) rfl ?_
    refine xa_getN G fd_X10 (host := "FourTongues") (a := 26) 12 rfl (by decide) (by decide) ⟨rfl, rfl, rfl⟩ dX7_afterName_37 rfl (v := .int (iv (μ.1 26 12))) (congrArg (fun z => Value.int (iv z)) (show μ4.1 26 12 = μ.1 26 12 from (F_6.1 26 (by decide) 12))) ?_
    refine lv_bipush (v := iv 91) hx hb dX7_afterName_40 rfl ?_
    refine xb_icmp_ne (tgt := 60) hx hb (by unfold ir; omega) (by unfold ir; omega) dX7_afterName_42 (by decide) (fun c_42 => ?_) (fun c_42 => ?_)
    · refine lv_aload_n hx hb dX7_afterName_60 rfl (lv_at hl 1 rfl) ?_
      refine lv_iconst (v := iv 4) hx hb dX7_afterName_61 rfl ?_
      refine lv_iload hx hb dX7_afterName_62 (lv_at hl 0 rfl) ?_
      refine lv_iconst (v := iv 0) hx hb dX7_afterName_64 rfl ?_
      have hpx_9 : μ4.1 26 11 = 0 → PXE μ μ4 P tt 0 (-1) 1 := fun h0 => (hnil (by have h9 : μ.1 26 11 = μ.1 26 11 := rfl; have h8 : μ4.1 26 11 = μ.1 26 11 := (F_6.1 26 (by decide) 11); omega)).fr (K := [24]) (Fr.tr Fr.rf F_6 (by decide)) (npL_p (L := [24]) (by decide) hprP).1 (npL_p (L := [24]) (by decide) hprP).2.1
      have e_10 : μ4.1 23 2 = P := ((F_6.1 23 (by decide) 2).trans hP.symm)
      have e_11 : μ4.1 P 1 = μ.1 P 1 := (F_6.1 P (ni hprP (fun P => P) (fun P => [24]) rfl) 1)
      have e_12 : μ4.1 P 1 = μ.1 P 1 := (F_6.1 P (ni hprP (fun P => P) (fun P => [24]) rfl) 1)
      have e_13 : μ4.1 P 1 = μ.1 P 1 := (F_6.1 P (ni hprP (fun P => P) (fun P => [24]) rfl) 1)
      refine xc_iV G (b := 23) (rest := []) (As := [.int (iv 4), .int (iv r_5), .int (iv 0)]) (c_X7_add ω l μ4 4 r_5 0 P (by unfold ir; omega) (by unfold ir; omega) (by unfold ir; omega) hI_7 (by omega) (by omega)) (wm 3 226 rfl rfl) (wm 3 228 rfl rfl) (wm 0 21 rfl rfl) rfl rfl (by decide) rfl (wm 1 12 rfl rfl) (wm 3 229 rfl rfl) (by decide) hR ⟨nfr hF (by decide), nlo hLo (by decide)⟩ (n := 3) rfl rfl (Nat.le_of_ble_eq_true rfl) hl.1 dX7_afterName_65 (fun r_15 μ14 ρ d0 H locs hr_r_15 hp G => ?_)
      have hr_r_15 : -2147483648 ≤ r_15 ∧ r_15 ≤ 2147483647 := hr_r_15
      obtain ⟨F_16, hI_17, hp_18, hp_19, hs_20, hs_21⟩ := hp
      have hpx_22 : μ14.1 26 11 = 0 → PXE μ μ14 P tt 1 (-1) 1 := fun h0 => (PXE.app (hpx_9 (by have h9 : μ4.1 26 11 = μ.1 26 11 := (F_6.1 26 (by decide) 11); have h8 : μ14.1 26 11 = μ.1 26 11 := ((F_16.1 26 (ni hprP (fun P => 26) (fun P => [P, P + 1]) rfl) 11).trans (F_6.1 26 (by decide) 11)); omega)) (EX.pl hp_19 (by omega) (by unfold plain; omega) (e := 1) rfl (by have h9 := hs_1 (μ := μ4) (P := P) (i := μ4.1 P 1); omega))).e (by omega)
      refine lv_pop hx hb dX7_afterName_68 rfl ?_
      refine lv_aload_n hx hb dX7_afterName_69 rfl (lv_at hl 1 rfl) ?_
      refine lv_bipush (v := iv 33) hx hb dX7_afterName_70 rfl ?_
      have htk_23 : TK μ14 := hTK.fr (K := [P, P + 1, 24]) (Fr.tr (Fr.tr Fr.rf F_6 (si hprP (fun P => [24]) (fun P => [P, P + 1, 24]) rfl)) F_16 (si hprP (fun P => [P, P + 1]) (fun P => [P, P + 1, 24]) rfl)) (ni hprP (fun P => 26) (fun P => [P, P + 1, 24]) rfl) (ni hprP (fun P => 28) (fun P => [P, P + 1, 24]) rfl) (ni hprP (fun P => 29) (fun P => [P, P + 1, 24]) rfl)
      have hn_24 : -1 ≤ μ.1 26 10 ∧ μ.1 26 10 ≤ 3000 := hI.nm.2.2.2.2.2.2.2.2.2.2.2.2
      have e_25 : μ14.1 26 10 = μ.1 26 10 := ((F_16.1 26 (ni hprP (fun P => 26) (fun P => [P, P + 1]) rfl) 10).trans (F_6.1 26 (by decide) 10))
      have e_26 : μ14.1 26 11 = μ.1 26 11 := ((F_16.1 26 (ni hprP (fun P => 26) (fun P => [P, P + 1]) rfl) 11).trans (F_6.1 26 (by decide) 11))
      refine xc_iV G (b := 23) (rest := []) (As := [.int (iv 33)]) (c_X7_took_b ω l μ14 33 (by unfold ir; omega) hI_17 htk_23 (by omega)) (wm 3 160 rfl rfl) (wm 3 162 rfl rfl) (wm 0 9 rfl rfl) rfl rfl (by decide) rfl (wm 1 12 rfl rfl) (wm 3 163 rfl rfl) (by decide) hR ⟨nfr hF (by decide), nlo hLo (by decide)⟩ (n := 1) rfl rfl (Nat.le_of_ble_eq_true rfl) hl.1 dX7_afterName_72 (fun r_28 μ27 ρ d0 H locs hr_r_28 hp G => ?_)
      have hr_r_28 : -2147483648 ≤ r_28 ∧ r_28 ≤ 2147483647 := hr_r_28
      obtain ⟨F_29, hI_30, hp_31, hp_32, hp_33, hs_34, hs_35, hs_36, hs_37, hs_38⟩ := hp
      have hn_39 : -1 ≤ μ27.1 26 10 ∧ μ27.1 26 10 ≤ 3000 := hI_30.nm.2.2.2.2.2.2.2.2.2.2.2.2
      have htb_40 := hp_31.b
      refine xb_if_eq (tgt := 92) hx hb (by unfold ir; omega) dX7_afterName_75 (by decide) (fun c_75 => ?_) (fun c_75 => ?_)
      · have hpx_41 : μ27.1 26 11 = 0 → PXE μ μ27 P tt 1 (-1) 1 := fun h0 => (hpx_22 (by have h9 : μ14.1 26 11 = μ.1 26 11 := ((F_16.1 26 (ni hprP (fun P => 26) (fun P => [P, P + 1]) rfl) 11).trans (F_6.1 26 (by decide) 11)); have h8 : μ27.1 26 11 = μ.1 26 11 := (hs_34.trans ((F_16.1 26 (ni hprP (fun P => 26) (fun P => [P, P + 1]) rfl) 11).trans (F_6.1 26 (by decide) 11))); omega)).fr (K := [26]) (Fr.tr Fr.rf F_29 (by decide)) (npL_p (L := [26]) (by decide) hprP).1 (npL_p (L := [26]) (by decide) hprP).2.1
        have e_42 : μ27.1 26 11 = μ.1 26 11 := (hs_34.trans ((F_16.1 26 (ni hprP (fun P => 26) (fun P => [P, P + 1]) rfl) 11).trans (F_6.1 26 (by decide) 11)))
        have e_43 : μ27.1 26 11 = μ.1 26 11 := (hs_34.trans ((F_16.1 26 (ni hprP (fun P => 26) (fun P => [P, P + 1]) rfl) 11).trans (F_6.1 26 (by decide) 11)))
        have e_44 : μ27.1 P 1 = μ4.1 P 1 + 1 := ((F_29.1 P (ni hprP (fun P => P) (fun P => [26]) rfl) 1).trans hs_20)
        have e_45 : μ27.1 P 1 = μ4.1 P 1 + 1 := ((F_29.1 P (ni hprP (fun P => P) (fun P => [26]) rfl) 1).trans hs_20)
        have e_46 : μ27.1 26 11 = μ.1 26 11 := (hs_34.trans ((F_16.1 26 (ni hprP (fun P => 26) (fun P => [P, P + 1]) rfl) 11).trans (F_6.1 26 (by decide) 11)))
        have e_47 : μ27.1 (P + 2) 3 = μ.1 (P + 2) 3 := ((F_29.1 (P + 2) (ni hprP (fun P => P + 2) (fun P => [26]) rfl) 3).trans ((F_16.1 (P + 2) (ni hprP (fun P => P + 2) (fun P => [P, P + 1]) rfl) 3).trans (F_6.1 (P + 2) (ni hprP (fun P => P + 2) (fun P => [24]) rfl) 3)))
        have e_48 : μ27.1 P 1 = μ4.1 P 1 + 1 := ((F_29.1 P (ni hprP (fun P => P) (fun P => [26]) rfl) 1).trans hs_20)
        have e_49 : μ27.1 (P + 2) 3 = μ.1 (P + 2) 3 := ((F_29.1 (P + 2) (ni hprP (fun P => P + 2) (fun P => [26]) rfl) 3).trans ((F_16.1 (P + 2) (ni hprP (fun P => P + 2) (fun P => [P, P + 1]) rfl) 3).trans (F_6.1 (P + 2) (ni hprP (fun P => P + 2) (fun P => [24]) rfl) 3)))
        exact xr_v G hret hlk dX7_afterName_92 ⟨(Fr.tr (Fr.tr (Fr.tr Fr.rf F_6 (si hprP (fun P => [24]) (fun P => [2, 3, 4, 23, 24, 26, P, P + 1, P + 2, (P + 2) + 1, (P + 2) + 2, (P + 2) + 3]) rfl)) F_16 (si hprP (fun P => [P, P + 1]) (fun P => [2, 3, 4, 23, 24, 26, P, P + 1, P + 2, (P + 2) + 1, (P + 2) + 2, (P + 2) + 3]) rfl)) F_29 (si hprP (fun P => [26]) (fun P => [2, 3, 4, 23, 24, 26, P, P + 1, P + 2, (P + 2) + 1, (P + 2) + 2, (P + 2) + 3]) rfl)), hI_30, hp_31, (by omega), (by omega), (by omega), (by omega), (fun h0 => (PXE.ex (hpx_41 h0)).e (by omega)), (((F_29.1 23 (by decide) 2).trans ((F_16.1 23 (ni hprP (fun P => 23) (fun P => [P, P + 1]) rfl) 2).trans ((F_6.1 23 (by decide) 2).trans hP.symm)))).trans hP, ((F_29.1 23 (by decide) 5).trans ((F_16.1 23 (ni hprP (fun P => 23) (fun P => [P, P + 1]) rfl) 5).trans (F_6.1 23 (by decide) 5))), ((F_29.1 23 (by decide) 6).trans ((F_16.1 23 (ni hprP (fun P => 23) (fun P => [P, P + 1]) rfl) 6).trans (F_6.1 23 (by decide) 6))), ((F_29.1 23 (by decide) 7).trans ((F_16.1 23 (ni hprP (fun P => 23) (fun P => [P, P + 1]) rfl) 7).trans (F_6.1 23 (by decide) 7))), (((F_29.1 23 (by decide) 8).trans ((F_16.1 23 (ni hprP (fun P => 23) (fun P => [P, P + 1]) rfl) 8).trans ((F_6.1 23 (by decide) 8).trans htt.symm)))).trans htt, ((F_29.1 23 (by decide) 9).trans ((F_16.1 23 (ni hprP (fun P => 23) (fun P => [P, P + 1]) rfl) 9).trans (F_6.1 23 (by decide) 9))), ((F_29.1 23 (by decide) 10).trans ((F_16.1 23 (ni hprP (fun P => 23) (fun P => [P, P + 1]) rfl) 10).trans (F_6.1 23 (by decide) 10))), (hs_35.trans ((F_16.1 26 (ni hprP (fun P => 26) (fun P => [P, P + 1]) rfl) 6).trans (F_6.1 26 (by decide) 6))), ((F_29.1 P (ni hprP (fun P => P) (fun P => [26]) rfl) 7).trans (hs_21.trans (F_6.1 P (ni hprP (fun P => P) (fun P => [24]) rfl) 7)))⟩
      · refine lv_aload_n hx hb dX7_afterName_78 rfl (lv_at hl 1 rfl) ?_
        refine lv_bipush (v := iv 14) hx hb dX7_afterName_79 rfl ?_
        refine lv_iconst (v := iv 0) hx hb dX7_afterName_81 rfl ?_
        refine lv_lconst (v := jv 0) hx hb dX7_afterName_82 rfl ?_
        refine lv_aload_n hx hb dX7_afterName_83 rfl (lv_at hl 1 rfl) ?_
        refine lv_iconst (v := iv (-1)) hx hb dX7_afterName_84 rfl ?_
        refine lv_iconst (v := iv 0) hx hb dX7_afterName_85 rfl ?_
        have hpx_50 : μ27.1 26 11 = 0 → PXE μ μ27 P tt 1 (-1) 1 := fun h0 => (hpx_22 (by have h9 : μ14.1 26 11 = μ.1 26 11 := ((F_16.1 26 (ni hprP (fun P => 26) (fun P => [P, P + 1]) rfl) 11).trans (F_6.1 26 (by decide) 11)); have h8 : μ27.1 26 11 = μ.1 26 11 := (hs_34.trans ((F_16.1 26 (ni hprP (fun P => 26) (fun P => [P, P + 1]) rfl) 11).trans (F_6.1 26 (by decide) 11))); omega)).fr (K := [26]) (Fr.tr Fr.rf F_29 (by decide)) (npL_p (L := [26]) (by decide) hprP).1 (npL_p (L := [26]) (by decide) hprP).2.1
        have e_51 : μ27.1 23 2 = P := ((F_29.1 23 (by decide) 2).trans ((F_16.1 23 (ni hprP (fun P => 23) (fun P => [P, P + 1]) rfl) 2).trans ((F_6.1 23 (by decide) 2).trans hP.symm)))
        have e_52 : μ27.1 23 8 = tt := ((F_29.1 23 (by decide) 8).trans ((F_16.1 23 (ni hprP (fun P => 23) (fun P => [P, P + 1]) rfl) 8).trans ((F_6.1 23 (by decide) 8).trans htt.symm)))
        have e_53 : μ27.1 P 1 = μ4.1 P 1 + 1 := ((F_29.1 P (ni hprP (fun P => P) (fun P => [26]) rfl) 1).trans hs_20)
        have e_54 : μ27.1 P 1 = μ4.1 P 1 + 1 := ((F_29.1 P (ni hprP (fun P => P) (fun P => [26]) rfl) 1).trans hs_20)
        have e_55 : μ27.1 P 1 = μ4.1 P 1 + 1 := ((F_29.1 P (ni hprP (fun P => P) (fun P => [26]) rfl) 1).trans hs_20)
        refine xc_iV G (b := 23) (rest := [.long (jv 0), .int (iv 0), .int (iv 14), .ref (oP ω 23)]) (As := [.int (iv (-1)), .int (iv 0)]) (c_X7_ifFails ω l μ27 (-1) 0 μ (1) (1) P tt (by unfold ir; omega) (by unfold ir; omega) hI_30 (by omega) (by omega) (by omega) hpx_50 (by omega) (by omega)) (wm 4 23 rfl rfl) (wm 4 25 rfl rfl) (wm 0 29 rfl rfl) rfl rfl (by decide) rfl (wm 1 12 rfl rfl) (wm 4 26 rfl rfl) (by decide) hR ⟨nfr hF (by decide), nlo hLo (by decide)⟩ (n := 2) rfl rfl (Nat.le_of_ble_eq_true rfl) hl.1 dX7_afterName_86 (fun r_57 μ56 ρ d0 H locs hr_r_57 hp G => ?_)
        have hr_r_57 : -2147483648 ≤ r_57 ∧ r_57 ≤ 2147483647 := hr_r_57
        obtain ⟨F_58, hI_59, hp_60, hp_61, hs_62⟩ := hp
        have hk_63 := hI_59.pr (p := P) hprP
        unfold pk at hk_63
        have hc_64 : 16 ≤ μ56.2.1 (P + 1) ∧ μ56.2.1 (P + 1) ≤ 73024 := hI_59.rm.1 _ hprP.cap
        have hpx_65 : μ56.1 26 11 = 0 → PXE μ μ56 P tt 1 r_57 1 := fun h0 => hp_60 (by have h9 : μ27.1 26 11 = μ.1 26 11 := (hs_34.trans ((F_16.1 26 (ni hprP (fun P => 26) (fun P => [P, P + 1]) rfl) 11).trans (F_6.1 26 (by decide) 11))); have h8 : μ56.1 26 11 = μ.1 26 11 := ((F_58.1 26 (ni hprP (fun P => 26) (fun P => [P, P + 1]) rfl) 11).trans (hs_34.trans ((F_16.1 26 (ni hprP (fun P => 26) (fun P => [P, P + 1]) rfl) 11).trans (F_6.1 26 (by decide) 11)))); omega)
        clear hp_60
        have e_66 : μ56.1 23 2 = P := ((F_58.1 23 (ni hprP (fun P => 23) (fun P => [P, P + 1]) rfl) 2).trans ((F_29.1 23 (by decide) 2).trans ((F_16.1 23 (ni hprP (fun P => 23) (fun P => [P, P + 1]) rfl) 2).trans ((F_6.1 23 (by decide) 2).trans hP.symm))))
        have e_67 : μ56.1 23 8 = tt := ((F_58.1 23 (ni hprP (fun P => 23) (fun P => [P, P + 1]) rfl) 8).trans ((F_29.1 23 (by decide) 8).trans ((F_16.1 23 (ni hprP (fun P => 23) (fun P => [P, P + 1]) rfl) 8).trans ((F_6.1 23 (by decide) 8).trans htt.symm))))
        have htk_68 : TK μ56 := hp_31.fr (K := [P, P + 1]) (Fr.tr Fr.rf F_58 (si hprP (fun P => [P, P + 1]) (fun P => [P, P + 1]) rfl)) (ni hprP (fun P => 26) (fun P => [P, P + 1]) rfl) (ni hprP (fun P => 28) (fun P => [P, P + 1]) rfl) (ni hprP (fun P => 29) (fun P => [P, P + 1]) rfl)
        have e_69 : μ56.1 26 10 = μ27.1 26 10 := (F_58.1 26 (ni hprP (fun P => 26) (fun P => [P, P + 1]) rfl) 10)
        have e_70 : μ56.1 26 11 = μ.1 26 11 := ((F_58.1 26 (ni hprP (fun P => 26) (fun P => [P, P + 1]) rfl) 11).trans (hs_34.trans ((F_16.1 26 (ni hprP (fun P => 26) (fun P => [P, P + 1]) rfl) 11).trans (F_6.1 26 (by decide) 11))))
        have hk_71 := hI.row (r := P + 2) (hprP.row)
        unfold rk at hk_71
        have e_72 : μ56.1 (P + 2) 3 = μ.1 (P + 2) 3 := ((F_58.1 (P + 2) (ni hprP (fun P => P + 2) (fun P => [P, P + 1]) rfl) 3).trans ((F_29.1 (P + 2) (ni hprP (fun P => P + 2) (fun P => [26]) rfl) 3).trans ((F_16.1 (P + 2) (ni hprP (fun P => P + 2) (fun P => [P, P + 1]) rfl) 3).trans (F_6.1 (P + 2) (ni hprP (fun P => P + 2) (fun P => [24]) rfl) 3))))
        have e_73 : μ56.1 23 9 = μ.1 23 9 := ((F_58.1 23 (ni hprP (fun P => 23) (fun P => [P, P + 1]) rfl) 9).trans ((F_29.1 23 (by decide) 9).trans ((F_16.1 23 (ni hprP (fun P => 23) (fun P => [P, P + 1]) rfl) 9).trans (F_6.1 23 (by decide) 9))))
        have e_74 : μ56.1 23 9 = μ.1 23 9 := ((F_58.1 23 (ni hprP (fun P => 23) (fun P => [P, P + 1]) rfl) 9).trans ((F_29.1 23 (by decide) 9).trans ((F_16.1 23 (ni hprP (fun P => 23) (fun P => [P, P + 1]) rfl) 9).trans (F_6.1 23 (by decide) 9))))
        have e_75 : μ56.1 23 9 = μ.1 23 9 := ((F_58.1 23 (ni hprP (fun P => 23) (fun P => [P, P + 1]) rfl) 9).trans ((F_29.1 23 (by decide) 9).trans ((F_16.1 23 (ni hprP (fun P => 23) (fun P => [P, P + 1]) rfl) 9).trans (F_6.1 23 (by decide) 9))))
        have e_76 : μ56.1 26 11 = μ.1 26 11 := ((F_58.1 26 (ni hprP (fun P => 26) (fun P => [P, P + 1]) rfl) 11).trans (hs_34.trans ((F_16.1 26 (ni hprP (fun P => 26) (fun P => [P, P + 1]) rfl) 11).trans (F_6.1 26 (by decide) 11))))
        have e_77 : μ56.1 26 10 = μ27.1 26 10 := (F_58.1 26 (ni hprP (fun P => 26) (fun P => [P, P + 1]) rfl) 10)
        have e_78 : μ56.1 26 10 = μ27.1 26 10 := (F_58.1 26 (ni hprP (fun P => 26) (fun P => [P, P + 1]) rfl) 10)
        have e_79 : μ56.1 (P + 2) 3 = μ.1 (P + 2) 3 := ((F_58.1 (P + 2) (ni hprP (fun P => P + 2) (fun P => [P, P + 1]) rfl) 3).trans ((F_29.1 (P + 2) (ni hprP (fun P => P + 2) (fun P => [26]) rfl) 3).trans ((F_16.1 (P + 2) (ni hprP (fun P => P + 2) (fun P => [P, P + 1]) rfl) 3).trans (F_6.1 (P + 2) (ni hprP (fun P => P + 2) (fun P => [24]) rfl) 3))))
        have e_80 : μ56.1 (P + 2) 3 = μ.1 (P + 2) 3 := ((F_58.1 (P + 2) (ni hprP (fun P => P + 2) (fun P => [P, P + 1]) rfl) 3).trans ((F_29.1 (P + 2) (ni hprP (fun P => P + 2) (fun P => [26]) rfl) 3).trans ((F_16.1 (P + 2) (ni hprP (fun P => P + 2) (fun P => [P, P + 1]) rfl) 3).trans (F_6.1 (P + 2) (ni hprP (fun P => P + 2) (fun P => [24]) rfl) 3))))
        refine xc_vV G (b := 23) (rest := []) (As := [.int (iv 14), .int (iv 0), .long (jv 0), .int (iv r_57)]) (c_X7_arguments ω l μ56 14 0 0 r_57 F Lo Fu Lu kf μ (1) (1) P tt (by unfold ir; omega) (by unfold ir; omega) (by unfold jr; omega) (by unfold ir; omega) hI_59 (by omega) (by omega) hF hLo hFu hLu hE hU htk_68 (by omega) (by omega) (by omega) (by omega) (by omega) (by omega) (by omega) hpx_65 rfl) (wm 4 63 rfl rfl) (wm 4 65 rfl rfl) (wm 0 36 rfl rfl) rfl rfl (by decide) rfl (wm 1 12 rfl rfl) (wm 4 66 rfl rfl) (by decide) hR ⟨sfr (F := F) (a := 1) (by decide), slo (L := Lo) (m := 11) (a := 22) (by decide)⟩ (n := 4) rfl rfl (Nat.le_of_ble_eq_true rfl) hl.1 dX7_afterName_89 (fun μ81 ρ d0 H locs hp G => ?_)
        obtain ⟨F_82, hI_83, hp_84, hp_85, hp_86, hp_87, hp_88, hp_89, hs_90, hs_91, hs_92, hs_93, hs_94, hs_95, hs_96, hs_97, hs_98⟩ := hp
        have hn_99 : -1 ≤ μ81.1 26 10 ∧ μ81.1 26 10 ≤ 3000 := hI_83.nm.2.2.2.2.2.2.2.2.2.2.2.2
        have hk_100 := hI_83.pr (p := P) hprP
        unfold pk at hk_100
        have hc_101 : 16 ≤ μ81.2.1 (P + 1) ∧ μ81.2.1 (P + 1) ≤ 73024 := hI_83.rm.1 _ hprP.cap
        have hk_102 := hI_83.row (r := P + 2) (hprP.row)
        unfold rk at hk_102
        have htb_103 := hp_84.b
        have hpx_104 : μ81.1 26 11 = 0 → PXE μ μ81 P tt 1 (-1) 1 := fun h0 => PXE.of (hp_89 h0)
        exact xr_v G hret hlk dX7_afterName_92 ⟨(Fr.tr (Fr.tr (Fr.tr (Fr.tr (Fr.tr Fr.rf F_6 (si hprP (fun P => [24]) (fun P => [2, 3, 4, 23, 24, 26, P, P + 1, P + 2, (P + 2) + 1, (P + 2) + 2, (P + 2) + 3]) rfl)) F_16 (si hprP (fun P => [P, P + 1]) (fun P => [2, 3, 4, 23, 24, 26, P, P + 1, P + 2, (P + 2) + 1, (P + 2) + 2, (P + 2) + 3]) rfl)) F_29 (si hprP (fun P => [26]) (fun P => [2, 3, 4, 23, 24, 26, P, P + 1, P + 2, (P + 2) + 1, (P + 2) + 2, (P + 2) + 3]) rfl)) F_58 (si hprP (fun P => [P, P + 1]) (fun P => [2, 3, 4, 23, 24, 26, P, P + 1, P + 2, (P + 2) + 1, (P + 2) + 2, (P + 2) + 3]) rfl)) F_82 (si hprP (fun P => [2, 3, 4, 23, 24, 26, P, P + 1, P + 2, (P + 2) + 1, (P + 2) + 2, (P + 2) + 3]) (fun P => [2, 3, 4, 23, 24, 26, P, P + 1, P + 2, (P + 2) + 1, (P + 2) + 2, (P + 2) + 3]) rfl)), hI_83, hp_84, (by omega), (by omega), (by omega), (by omega), (fun h0 => (PXE.ex (hpx_104 h0)).e (by omega)), ((hs_90.trans ((F_58.1 23 (ni hprP (fun P => 23) (fun P => [P, P + 1]) rfl) 2).trans ((F_29.1 23 (by decide) 2).trans ((F_16.1 23 (ni hprP (fun P => 23) (fun P => [P, P + 1]) rfl) 2).trans ((F_6.1 23 (by decide) 2).trans hP.symm)))))).trans hP, (hs_91.trans ((F_58.1 23 (ni hprP (fun P => 23) (fun P => [P, P + 1]) rfl) 5).trans ((F_29.1 23 (by decide) 5).trans ((F_16.1 23 (ni hprP (fun P => 23) (fun P => [P, P + 1]) rfl) 5).trans (F_6.1 23 (by decide) 5))))), (hs_92.trans ((F_58.1 23 (ni hprP (fun P => 23) (fun P => [P, P + 1]) rfl) 6).trans ((F_29.1 23 (by decide) 6).trans ((F_16.1 23 (ni hprP (fun P => 23) (fun P => [P, P + 1]) rfl) 6).trans (F_6.1 23 (by decide) 6))))), (hs_93.trans ((F_58.1 23 (ni hprP (fun P => 23) (fun P => [P, P + 1]) rfl) 7).trans ((F_29.1 23 (by decide) 7).trans ((F_16.1 23 (ni hprP (fun P => 23) (fun P => [P, P + 1]) rfl) 7).trans (F_6.1 23 (by decide) 7))))), ((hs_94.trans ((F_58.1 23 (ni hprP (fun P => 23) (fun P => [P, P + 1]) rfl) 8).trans ((F_29.1 23 (by decide) 8).trans ((F_16.1 23 (ni hprP (fun P => 23) (fun P => [P, P + 1]) rfl) 8).trans ((F_6.1 23 (by decide) 8).trans htt.symm)))))).trans htt, (hs_95.trans ((F_58.1 23 (ni hprP (fun P => 23) (fun P => [P, P + 1]) rfl) 9).trans ((F_29.1 23 (by decide) 9).trans ((F_16.1 23 (ni hprP (fun P => 23) (fun P => [P, P + 1]) rfl) 9).trans (F_6.1 23 (by decide) 9))))), (hs_96.trans ((F_58.1 23 (ni hprP (fun P => 23) (fun P => [P, P + 1]) rfl) 10).trans ((F_29.1 23 (by decide) 10).trans ((F_16.1 23 (ni hprP (fun P => 23) (fun P => [P, P + 1]) rfl) 10).trans (F_6.1 23 (by decide) 10))))), (hs_97.trans ((F_58.1 26 (ni hprP (fun P => 26) (fun P => [P, P + 1]) rfl) 6).trans (hs_35.trans ((F_16.1 26 (ni hprP (fun P => 26) (fun P => [P, P + 1]) rfl) 6).trans (F_6.1 26 (by decide) 6))))), (hs_98.trans (hs_62.trans ((F_29.1 P (ni hprP (fun P => P) (fun P => [26]) rfl) 7).trans (hs_21.trans (F_6.1 P (ni hprP (fun P => P) (fun P => [24]) rfl) 7)))))⟩
    · refine lv_aload_n hx hb dX7_afterName_45 rfl (lv_at hl 1 rfl) ?_
      refine lv_bipush (v := iv 11) hx hb dX7_afterName_46 rfl ?_
      refine lv_iconst (v := iv 0) hx hb dX7_afterName_48 rfl ?_
      refine lv_iconst (v := iv 0) hx hb dX7_afterName_49 rfl ?_
      refine lv_aload_n hx hb dX7_afterName_50 rfl (lv_at hl 1 rfl) ?_
      refine lv_iload hx hb dX7_afterName_51 (lv_at hl 0 rfl) ?_
      have hpx_105 : μ4.1 26 11 = 0 → PXE μ μ4 P tt 0 (-1) 1 := fun h0 => (hnil (by have h9 : μ.1 26 11 = μ.1 26 11 := rfl; have h8 : μ4.1 26 11 = μ.1 26 11 := (F_6.1 26 (by decide) 11); omega)).fr (K := [24]) (Fr.tr Fr.rf F_6 (by decide)) (npL_p (L := [24]) (by decide) hprP).1 (npL_p (L := [24]) (by decide) hprP).2.1
      have e_106 : μ4.1 23 2 = P := ((F_6.1 23 (by decide) 2).trans hP.symm)
      have e_107 : μ4.1 23 8 = tt := ((F_6.1 23 (by decide) 8).trans htt.symm)
      have htk_108 : TK μ4 := hTK.fr (K := [24]) (Fr.tr Fr.rf F_6 (by decide)) (by decide) (by decide) (by decide)
      have e_109 : μ4.1 P 1 = μ.1 P 1 := (F_6.1 P (ni hprP (fun P => P) (fun P => [24]) rfl) 1)
      have hn_110 : -1 ≤ μ.1 26 10 ∧ μ.1 26 10 ≤ 3000 := hI.nm.2.2.2.2.2.2.2.2.2.2.2.2
      have e_111 : μ4.1 26 10 = μ.1 26 10 := (F_6.1 26 (by decide) 10)
      have e_112 : μ4.1 26 11 = μ.1 26 11 := (F_6.1 26 (by decide) 11)
      have hk_113 := hI.row (r := P + 2) (hprP.row)
      unfold rk at hk_113
      have e_114 : μ4.1 (P + 2) 3 = μ.1 (P + 2) 3 := (F_6.1 (P + 2) (ni hprP (fun P => P + 2) (fun P => [24]) rfl) 3)
      have e_115 : μ4.1 P 1 = μ.1 P 1 := (F_6.1 P (ni hprP (fun P => P) (fun P => [24]) rfl) 1)
      have e_116 : μ4.1 23 9 = μ.1 23 9 := (F_6.1 23 (by decide) 9)
      have e_117 : μ4.1 23 9 = μ.1 23 9 := (F_6.1 23 (by decide) 9)
      have e_118 : μ4.1 23 9 = μ.1 23 9 := (F_6.1 23 (by decide) 9)
      have e_119 : μ4.1 26 11 = μ.1 26 11 := (F_6.1 26 (by decide) 11)
      have e_120 : μ4.1 26 10 = μ.1 26 10 := (F_6.1 26 (by decide) 10)
      have e_121 : μ4.1 P 1 = μ.1 P 1 := (F_6.1 P (ni hprP (fun P => P) (fun P => [24]) rfl) 1)
      have e_122 : μ4.1 P 1 = μ.1 P 1 := (F_6.1 P (ni hprP (fun P => P) (fun P => [24]) rfl) 1)
      have e_123 : μ4.1 26 10 = μ.1 26 10 := (F_6.1 26 (by decide) 10)
      have e_124 : μ4.1 (P + 2) 3 = μ.1 (P + 2) 3 := (F_6.1 (P + 2) (ni hprP (fun P => P + 2) (fun P => [24]) rfl) 3)
      have e_125 : μ4.1 P 1 = μ.1 P 1 := (F_6.1 P (ni hprP (fun P => P) (fun P => [24]) rfl) 1)
      have e_126 : μ4.1 (P + 2) 3 = μ.1 (P + 2) 3 := (F_6.1 (P + 2) (ni hprP (fun P => P + 2) (fun P => [24]) rfl) 3)
      refine xc_iV G (b := 23) (rest := [.int (iv 0), .int (iv 0), .int (iv 11), .ref (oP ω 23)]) (As := [.int (iv r_5)]) (c_X7_cellParts ω l μ4 r_5 F Lo Fu Lu kf P tt (by unfold ir; omega) hI_7 (by omega) (by omega) hF hLo hFu hLu hE hU htk_108 (by omega) (by omega) (by omega) (by omega) (by omega) (by omega)) (wm 4 88 rfl rfl) (wm 4 90 rfl rfl) (wm 0 38 rfl rfl) rfl rfl (by decide) rfl (wm 1 12 rfl rfl) (wm 4 91 rfl rfl) (by decide) hR ⟨sfr (F := F) (a := 2) (by decide), slo (L := Lo) (m := 3) (a := 44) (by decide)⟩ (n := 1) rfl rfl (Nat.le_of_ble_eq_true rfl) hl.1 dX7_afterName_53 (fun r_128 μ127 ρ d0 H locs hr_r_128 hp G => ?_)
      have hr_r_128 : -2147483648 ≤ r_128 ∧ r_128 ≤ 2147483647 := hr_r_128
      obtain ⟨F_129, hI_130, hp_131, hp_132, hp_133, hp_134, hp_135, hp_136, hs_137, hs_138, hs_139, hs_140, hs_141, hs_142, hs_143, hs_144, hs_145⟩ := hp
      have hn_146 : -1 ≤ μ127.1 26 10 ∧ μ127.1 26 10 ≤ 3000 := hI_130.nm.2.2.2.2.2.2.2.2.2.2.2.2
      have hk_147 := hI_130.pr (p := P) hprP
      unfold pk at hk_147
      have hc_148 : 16 ≤ μ127.2.1 (P + 1) ∧ μ127.2.1 (P + 1) ≤ 73024 := hI_130.rm.1 _ hprP.cap
      have hk_149 := hI_130.row (r := P + 2) (hprP.row)
      unfold rk at hk_149
      have htb_150 := hp_131.b
      have hpx_151 : μ127.1 26 11 = 0 → PXE μ μ127 P tt 2 r_128 1 := (fun h0 => PXE.fl (K := [24]) (Fr.tr Fr.rf F_6 (by decide)) (npL_p (L := [24]) (by decide) hprP).1 (npL_p (L := [24]) (by decide) hprP).2.1 (hp_136 h0))
      have e_152 : μ127.1 23 2 = P := (hs_137.trans ((F_6.1 23 (by decide) 2).trans hP.symm))
      have e_153 : μ127.1 23 8 = tt := (hs_141.trans ((F_6.1 23 (by decide) 8).trans htt.symm))
      refine xc_vV G (b := 23) (rest := []) (As := [.int (iv 11), .int (iv 0), .int (iv 0), .int (iv r_128)]) (c_X7_endOfParts ω l μ127 11 0 0 r_128 μ (2) (1) P tt (by unfold ir; omega) (by unfold ir; omega) (by unfold ir; omega) (by unfold ir; omega) hI_130 (by omega) (by omega) (by omega) hpx_151 (Or.inl (by unfold plain; omega)) (by omega) (by rw [show eff 11 0 = -1 from rfl]; omega)) (wm 4 27 rfl rfl) (wm 4 29 rfl rfl) (wm 0 30 rfl rfl) rfl rfl (by decide) rfl (wm 1 12 rfl rfl) (wm 4 30 rfl rfl) (by decide) hR ⟨nfr hF (by decide), nlo hLo (by decide)⟩ (n := 4) rfl rfl (Nat.le_of_ble_eq_true rfl) hl.1 dX7_afterName_56 (fun μ154 ρ d0 H locs hp G => ?_)
      obtain ⟨F_155, hI_156, hp_157, hs_158, hs_159⟩ := hp
      have hpx_160 : μ154.1 26 11 = 0 → PXE μ μ154 P tt 1 (-1) 1 := fun h0 => PXE.of (hp_157 (by have h9 : μ127.1 26 11 = μ127.1 26 11 := rfl; have h8 : μ154.1 26 11 = μ127.1 26 11 := (F_155.1 26 (ni hprP (fun P => 26) (fun P => [P, P + 1]) rfl) 11); omega))
      clear hp_157
      have htk_161 : TK μ154 := hp_131.fr (K := [P, P + 1]) (Fr.tr Fr.rf F_155 (si hprP (fun P => [P, P + 1]) (fun P => [P, P + 1]) rfl)) (ni hprP (fun P => 26) (fun P => [P, P + 1]) rfl) (ni hprP (fun P => 28) (fun P => [P, P + 1]) rfl) (ni hprP (fun P => 29) (fun P => [P, P + 1]) rfl)
      have e_162 : μ154.1 26 11 = μ127.1 26 11 := (F_155.1 26 (ni hprP (fun P => 26) (fun P => [P, P + 1]) rfl) 11)
      have e_163 : μ154.1 26 11 = μ127.1 26 11 := (F_155.1 26 (ni hprP (fun P => 26) (fun P => [P, P + 1]) rfl) 11)
      have e_164 : μ154.1 26 10 = μ127.1 26 10 := (F_155.1 26 (ni hprP (fun P => 26) (fun P => [P, P + 1]) rfl) 10)
      have e_165 : μ154.1 P 1 = μ127.1 P 1 + 1 := hs_158
      have e_166 : μ154.1 P 1 = μ127.1 P 1 + 1 := hs_158
      have e_167 : μ154.1 26 10 = μ127.1 26 10 := (F_155.1 26 (ni hprP (fun P => 26) (fun P => [P, P + 1]) rfl) 10)
      have e_168 : μ154.1 26 11 = μ127.1 26 11 := (F_155.1 26 (ni hprP (fun P => 26) (fun P => [P, P + 1]) rfl) 11)
      have e_169 : μ154.1 (P + 2) 3 = μ127.1 (P + 2) 3 := (F_155.1 (P + 2) (ni hprP (fun P => P + 2) (fun P => [P, P + 1]) rfl) 3)
      have e_170 : μ154.1 P 1 = μ127.1 P 1 + 1 := hs_158
      have e_171 : μ154.1 (P + 2) 3 = μ127.1 (P + 2) 3 := (F_155.1 (P + 2) (ni hprP (fun P => P + 2) (fun P => [P, P + 1]) rfl) 3)
      exact xr_v G hret hlk dX7_afterName_59 ⟨(Fr.tr (Fr.tr (Fr.tr Fr.rf F_6 (si hprP (fun P => [24]) (fun P => [2, 3, 4, 23, 24, 26, P, P + 1, P + 2, (P + 2) + 1, (P + 2) + 2, (P + 2) + 3]) rfl)) F_129 (si hprP (fun P => [2, 3, 4, 23, 24, 26, P, P + 1, P + 2, (P + 2) + 1, (P + 2) + 2, (P + 2) + 3]) (fun P => [2, 3, 4, 23, 24, 26, P, P + 1, P + 2, (P + 2) + 1, (P + 2) + 2, (P + 2) + 3]) rfl)) F_155 (si hprP (fun P => [P, P + 1]) (fun P => [2, 3, 4, 23, 24, 26, P, P + 1, P + 2, (P + 2) + 1, (P + 2) + 2, (P + 2) + 3]) rfl)), hI_156, htk_161, (by omega), (by omega), (by omega), (by omega), (fun h0 => (PXE.ex (hpx_160 h0)).e (by omega)), (((F_155.1 23 (ni hprP (fun P => 23) (fun P => [P, P + 1]) rfl) 2).trans (hs_137.trans ((F_6.1 23 (by decide) 2).trans hP.symm)))).trans hP, ((F_155.1 23 (ni hprP (fun P => 23) (fun P => [P, P + 1]) rfl) 5).trans (hs_138.trans (F_6.1 23 (by decide) 5))), ((F_155.1 23 (ni hprP (fun P => 23) (fun P => [P, P + 1]) rfl) 6).trans (hs_139.trans (F_6.1 23 (by decide) 6))), ((F_155.1 23 (ni hprP (fun P => 23) (fun P => [P, P + 1]) rfl) 7).trans (hs_140.trans (F_6.1 23 (by decide) 7))), (((F_155.1 23 (ni hprP (fun P => 23) (fun P => [P, P + 1]) rfl) 8).trans (hs_141.trans ((F_6.1 23 (by decide) 8).trans htt.symm)))).trans htt, ((F_155.1 23 (ni hprP (fun P => 23) (fun P => [P, P + 1]) rfl) 9).trans (hs_142.trans (F_6.1 23 (by decide) 9))), ((F_155.1 23 (ni hprP (fun P => 23) (fun P => [P, P + 1]) rfl) 10).trans (hs_143.trans (F_6.1 23 (by decide) 10))), ((F_155.1 26 (ni hprP (fun P => 26) (fun P => [P, P + 1]) rfl) 6).trans (hs_144.trans (F_6.1 26 (by decide) 6))), (hs_159.trans (hs_145.trans (F_6.1 P (ni hprP (fun P => P) (fun P => [24]) rfl) 7)))⟩
  · refine lv_aload_n hx hb dX7_afterName_12 rfl (lv_at hl 0 rfl) ?_
    refine lv_bipush (v := iv 13) hx hb dX7_afterName_13 rfl ?_
    refine lv_aload_n hx hb dX7_afterName_15 rfl (lv_at hl 0 rfl) ?_
    refine xa_geti G fd_X7 (a := 23) (x := tt) 8 rfl (by decide) rfl (wm 2 25 rfl rfl) ⟨rfl, rfl, rfl⟩ dX7_afterName_16 rfl htt.symm ?_
    have hr_172 : -2147483648 ≤ tt ∧ tt ≤ 2147483647 := by have h9 := G.hr (a := 23) (k := 8) rfl; rw [show μ.1 23 8 = tt from htt.symm] at h9; exact h9
    refine lv_lload_n hx hb dX7_afterName_19 rfl (lv_at hl 1 rfl) ?_
    refine lv_iconst (v := iv (-1)) hx hb dX7_afterName_20 rfl ?_
    have e_173 : μ.1 23 2 = P := hP.symm
    have e_174 : μ.1 23 8 = tt := htt.symm
    have hn_175 : -1 ≤ μ.1 26 10 ∧ μ.1 26 10 ≤ 3000 := hI.nm.2.2.2.2.2.2.2.2.2.2.2.2
    have hk_176 := hI.row (r := P + 2) (hprP.row)
    unfold rk at hk_176
    refine xc_vV G (b := 23) (rest := []) (As := [.int (iv 13), .int (iv tt), .long (jv x1), .int (iv (-1))]) (c_X7_arguments ω l μ 13 tt x1 (-1) F Lo Fu Lu kf μ (0) (1) P tt (by unfold ir; omega) (by unfold ir; omega) hx1 (by unfold ir; omega) hI (by omega) (by omega) hF hLo hFu hLu hE hU hTK (by omega) (by omega) (by omega) (by omega) (by omega) (by omega) (by omega) hnil rfl) (wm 4 63 rfl rfl) (wm 4 65 rfl rfl) (wm 0 36 rfl rfl) rfl rfl (by decide) rfl (wm 1 12 rfl rfl) (wm 4 66 rfl rfl) (by decide) hR ⟨sfr (F := F) (a := 1) (by decide), slo (L := Lo) (m := 11) (a := 22) (by decide)⟩ (n := 4) rfl rfl (Nat.le_of_ble_eq_true rfl) hl.1 dX7_afterName_21 (fun μ177 ρ d0 H locs hp G => ?_)
    obtain ⟨F_178, hI_179, hp_180, hp_181, hp_182, hp_183, hp_184, hp_185, hs_186, hs_187, hs_188, hs_189, hs_190, hs_191, hs_192, hs_193, hs_194⟩ := hp
    have hn_195 : -1 ≤ μ177.1 26 10 ∧ μ177.1 26 10 ≤ 3000 := hI_179.nm.2.2.2.2.2.2.2.2.2.2.2.2
    have hk_196 := hI_179.pr (p := P) hprP
    unfold pk at hk_196
    have hc_197 : 16 ≤ μ177.2.1 (P + 1) ∧ μ177.2.1 (P + 1) ≤ 73024 := hI_179.rm.1 _ hprP.cap
    have hk_198 := hI_179.row (r := P + 2) (hprP.row)
    unfold rk at hk_198
    have htb_199 := hp_180.b
    have hpx_200 : μ177.1 26 11 = 0 → PXE μ μ177 P tt 1 (-1) 1 := fun h0 => PXE.of (hp_185 h0)
    exact xr_v G hret hlk dX7_afterName_24 ⟨(Fr.tr Fr.rf F_178 (si hprP (fun P => [2, 3, 4, 23, 24, 26, P, P + 1, P + 2, (P + 2) + 1, (P + 2) + 2, (P + 2) + 3]) (fun P => [2, 3, 4, 23, 24, 26, P, P + 1, P + 2, (P + 2) + 1, (P + 2) + 2, (P + 2) + 3]) rfl)), hI_179, hp_180, (by omega), (by omega), (by omega), (by omega), (fun h0 => (PXE.ex (hpx_200 h0)).e (by omega)), ((hs_186.trans hP.symm)).trans hP, hs_187, hs_188, hs_189, ((hs_190.trans htt.symm)).trans htt, hs_191, hs_192, hs_193, hs_194⟩

set_option maxHeartbeats 4000000 in
set_option maxRecDepth 100000 in
theorem c_X7_ownPrimary (ω : Om) (l : Launch) (μ : M3) (F : Nat) (Lo : Nat) (Fu : Nat) (Lu : Nat) (kf : Int) (P : Int) (tt : Int) (hI : IC μ) (hP : P = μ.1 23 2) (htt : tt = μ.1 23 8) (hF : 60 ≤ F) (hLo : 2000 ≤ Lo) (hFu : Fu ≤ F) (hLu : Lu ≤ Lo) (hE : ∀ (μ : M3) (x1 : Int) (P : Int) (tt : Int) (hx1 : x1 = 0 ∨ x1 = 1) (hI : IC μ) (hP : P = μ.1 23 2) (htt : tt = μ.1 23 8) (hTK : TK μ) (hB : 2 * μ.1 P 1 ≤ 5 * μ.1 26 10 + 200 + 80 * μ.1 26 11) (hKc : μ.1 (P + 2) 3 ≤ μ.1 P 1) (ht3 : 0 ≤ tt ∧ tt ≤ 3) (hdp : 0 ≤ μ.1 23 9 ∧ μ.1 23 9 ≤ 8 + μ.1 26 11) (hfu : 0 ≤ (kf - 1) ∧ 9 ≤ μ.1 23 9 + (kf - 1) + 20 * μ.1 26 11) (hbg : ∀ _ : Unit, x1 = 0 ∨ μ.1 26 11 ≠ 0 ∨ 2 ≤ hs μ P (μ.1 P 1)), CtV ω l yX7_expression cX7_expression 3 (F + 0) (Lo + 0) [.ref (oP ω 23), .int (iv x1)] μ (fun (μ' : M3) => (Fr [2, 3, 4, 23, 24, 26, P, P + 1, P + 2, (P + 2) + 1, (P + 2) + 2, (P + 2) + 3] μ μ') ∧ (IC μ') ∧ (TK μ') ∧ (μ.1 26 11 ≤ μ'.1 26 11) ∧ (μ.1 26 10 ≤ μ'.1 26 10) ∧ (μ.1 P 1 ≤ μ'.1 P 1 ∧ μ'.1 P 1 ≤ μ.1 P 1 + 2 * (μ'.1 26 10 - μ.1 26 10) + (- 1 + 3 * μ'.1 26 11 - 2 * μ.1 26 11 + x1)) ∧ (μ'.1 (P + 2) 3 - μ.1 (P + 2) 3 ≤ μ'.1 P 1 - μ.1 P 1 ∧ μ.1 (P + 2) 3 ≤ μ'.1 (P + 2) 3) ∧ (μ'.1 26 11 = 0 → EX μ μ' P tt (1 - x1) 0) ∧ (μ'.1 23 2 = μ.1 23 2) ∧ (μ'.1 23 5 = μ.1 23 5) ∧ (μ'.1 23 6 = μ.1 23 6) ∧ (μ'.1 23 7 = μ.1 23 7) ∧ (μ'.1 23 8 = μ.1 23 8) ∧ (μ'.1 23 9 = μ.1 23 9) ∧ (μ'.1 23 10 = μ.1 23 10) ∧ (μ'.1 26 6 = μ.1 26 6) ∧ (μ'.1 P 7 = μ.1 P 7))) (hU : ∀ (μ : M3) (x1 : Int) (P : Int) (tt : Int) (hx1 : x1 = 0 ∨ x1 = 1) (hI : IC μ) (hP : P = μ.1 23 2) (htt : tt = μ.1 23 8) (hTK : TK μ) (hB : 2 * μ.1 P 1 ≤ 5 * μ.1 26 10 + 200 + 80 * μ.1 26 11) (hKc : μ.1 (P + 2) 3 ≤ μ.1 P 1) (ht3 : 0 ≤ tt ∧ tt ≤ 3) (hdp : 0 ≤ μ.1 23 9 ∧ μ.1 23 9 ≤ 8 + μ.1 26 11) (hfu : 0 ≤ (kf - 1) ∧ 9 ≤ μ.1 23 9 + (kf - 1) + 20 * μ.1 26 11) (hbg : ∀ _ : Unit, x1 = 0 ∨ μ.1 26 11 ≠ 0 ∨ 2 ≤ hs μ P (μ.1 P 1)), CtV ω l yX7_unary cX7_unary 2 (Fu + 0) (Lu + 0) [.ref (oP ω 23), .int (iv x1)] μ (fun (μ' : M3) => (Fr [2, 3, 4, 23, 24, 26, P, P + 1, P + 2, (P + 2) + 1, (P + 2) + 2, (P + 2) + 3] μ μ') ∧ (IC μ') ∧ (TK μ') ∧ (μ.1 26 11 ≤ μ'.1 26 11) ∧ (μ.1 26 10 ≤ μ'.1 26 10) ∧ (μ.1 P 1 ≤ μ'.1 P 1 ∧ μ'.1 P 1 ≤ μ.1 P 1 + 2 * (μ'.1 26 10 - μ.1 26 10) + (- 1 + 3 * μ'.1 26 11 - 2 * μ.1 26 11 + x1)) ∧ (μ'.1 (P + 2) 3 - μ.1 (P + 2) 3 ≤ μ'.1 P 1 - μ.1 P 1 ∧ μ.1 (P + 2) 3 ≤ μ'.1 (P + 2) 3) ∧ (μ'.1 26 11 = 0 → EX μ μ' P tt (1 - x1) 0) ∧ (μ'.1 23 2 = μ.1 23 2) ∧ (μ'.1 23 5 = μ.1 23 5) ∧ (μ'.1 23 6 = μ.1 23 6) ∧ (μ'.1 23 7 = μ.1 23 7) ∧ (μ'.1 23 8 = μ.1 23 8) ∧ (μ'.1 23 9 = μ.1 23 9) ∧ (μ'.1 23 10 = μ.1 23 10) ∧ (μ'.1 26 6 = μ.1 26 6) ∧ (μ'.1 P 7 = μ.1 P 7))) (hTK : TK μ) (hB : 2 * μ.1 P 1 ≤ 5 * μ.1 26 10 + 200 + 80 * μ.1 26 11) (hKc : μ.1 (P + 2) 3 ≤ μ.1 P 1) (ht3 : 0 ≤ tt ∧ tt ≤ 3) (hdp : 0 ≤ μ.1 23 9 ∧ μ.1 23 9 ≤ 8 + μ.1 26 11) (hfu : 0 ≤ kf ∧ 9 ≤ μ.1 23 9 + kf + 20 * μ.1 26 11) : CtV ω l yX7_ownPrimary cX7_ownPrimary 2 (F + 2) (Lo + 44) [.ref (oP ω 23)] μ (fun (μ' : M3) => (Fr [2, 3, 4, 23, 24, 26, P, P + 1, P + 2, (P + 2) + 1, (P + 2) + 2, (P + 2) + 3] μ μ') ∧ (IC μ') ∧ (TK μ') ∧ (μ.1 26 11 ≤ μ'.1 26 11) ∧ (μ.1 26 10 ≤ μ'.1 26 10) ∧ (μ.1 P 1 ≤ μ'.1 P 1 ∧ μ'.1 P 1 ≤ μ.1 P 1 + 2 * (μ'.1 26 10 - μ.1 26 10) + (- 1 + 3 * μ'.1 26 11 - 2 * μ.1 26 11)) ∧ (μ'.1 (P + 2) 3 - μ.1 (P + 2) 3 ≤ μ'.1 P 1 - μ.1 P 1 ∧ μ.1 (P + 2) 3 ≤ μ'.1 (P + 2) 3) ∧ (μ'.1 26 11 = 0 → EX μ μ' P tt 1 0) ∧ (μ'.1 23 2 = μ.1 23 2) ∧ (μ'.1 23 5 = μ.1 23 5) ∧ (μ'.1 23 6 = μ.1 23 6) ∧ (μ'.1 23 7 = μ.1 23 7) ∧ (μ'.1 23 8 = μ.1 23 8) ∧ (μ'.1 23 9 = μ.1 23 9) ∧ (μ'.1 23 10 = μ.1 23 10) ∧ (μ'.1 26 6 = μ.1 26 6) ∧ (μ'.1 P 7 = μ.1 P 7)) := by
  refine CtV.go (by decide) (Nat.le_of_ble_eq_true rfl) (fun ρ p e s m below meth c R ls G hR hret hlk hl => ?_)
  have hx := G.1.1
  have hb := G.1.2.1
  have hl : lv_has ls 2 [(0, .ref (oP ω 23))] := hl
  generalize s.drawn = d0 at G ⊢
  have hTKb := hTK.b
  have hprP : isPr P := by have h9 := G.sr0.2.2.2.2.2; rw [← hP] at h9; exact h9
  have hprP_d : 13 ≤ P ∧ P ≤ 101 := by rcases hprP with h9 | h9 | h9 | h9 | h9 <;> omega
  have hk_1 := hI.pr (p := P) hprP
  unfold pk at hk_1
  have hc_2 : 16 ≤ μ.2.1 (P + 1) ∧ μ.2.1 (P + 1) ≤ 73024 := hI.rm.1 _ hprP.cap
  have hnil : μ.1 26 11 = 0 → PXE μ μ P tt 0 (-1) 1 := fun _ => PXE.nil (by omega)
  refine lv_aload_n hx hb dX7_ownPrimary_0 rfl (lv_at hl 0 rfl) ?_
  refine xa_geti G fd_X7 (a := 23) (x := tt) 8 rfl (by decide) rfl (wm 2 25 rfl rfl) ⟨rfl, rfl, rfl⟩ dX7_ownPrimary_1 rfl htt.symm ?_
  have hr_3 : -2147483648 ≤ tt ∧ tt ≤ 2147483647 := by have h9 := G.hr (a := 23) (k := 8) rfl; rw [show μ.1 23 8 = tt from htt.symm] at h9; exact h9
  refine lv_iconst (v := iv 1) hx hb dX7_ownPrimary_4 rfl ?_
  refine xb_icmp_ne (tgt := 30) hx hb (by unfold ir; omega) (by unfold ir; omega) dX7_ownPrimary_5 (by decide) (fun c_5 => ?_) (fun c_5 => ?_)
  · refine lv_aload_n hx hb dX7_ownPrimary_30 rfl (lv_at hl 0 rfl) ?_
    refine xa_geti G fd_X7 (a := 23) (x := tt) 8 rfl (by decide) rfl (wm 2 25 rfl rfl) ⟨rfl, rfl, rfl⟩ dX7_ownPrimary_31 rfl htt.symm ?_
    refine lv_iconst (v := iv 2) hx hb dX7_ownPrimary_34 rfl ?_
    refine xb_icmp_ne (tgt := 68) hx hb (by unfold ir; omega) (by unfold ir; omega) dX7_ownPrimary_35 (by decide) (fun c_35 => ?_) (fun c_35 => ?_)
    · refine lv_aload_n hx hb dX7_ownPrimary_68 rfl (lv_at hl 0 rfl) ?_
      refine xa_geti G fd_X7 (a := 23) (x := tt) 8 rfl (by decide) rfl (wm 2 25 rfl rfl) ⟨rfl, rfl, rfl⟩ dX7_ownPrimary_69 rfl htt.symm ?_
      refine lv_iconst (v := iv 2) hx hb dX7_ownPrimary_72 rfl ?_
      refine xb_icmp_ne (tgt := 116) hx hb (by unfold ir; omega) (by unfold ir; omega) dX7_ownPrimary_73 (by decide) (fun c_73 => ?_) (fun c_73 => ?_)
      · refine lv_aload_n hx hb dX7_ownPrimary_116 rfl (lv_at hl 0 rfl) ?_
        refine xa_getr G fd_X7 (a := 23) (x := 26) 0 rfl (by decide) rfl (wm 2 17 rfl rfl) ⟨rfl, rfl, rfl⟩ dX7_ownPrimary_117 rfl (G.sk 23 rfl) (by decide) rfl ?_
        refine xc_vV G (b := 26) (rest := []) (As := []) (c_X10_stop ω l μ  hI) (wm 3 173 rfl rfl) (wm 3 174 rfl rfl) (wm 3 175 rfl rfl) rfl rfl (by decide) rfl (wm 1 13 rfl rfl) (wm 3 176 rfl rfl) (by decide) hR ⟨nfr hF (by decide), nlo hLo (by decide)⟩ (n := 0) rfl rfl (Nat.le_of_ble_eq_true rfl) hl.1 dX7_ownPrimary_120 (fun μ4 ρ d0 H locs hp G => ?_)
        obtain ⟨F_5, hI_6, hp_7, hp_8, hs_9, hs_10, hs_11, hs_12, hs_13, hs_14, hs_15⟩ := hp
        have htk_16 : TK μ4 := TK.st hTK F_5 hp_7 hp_8 hs_9 hs_13 hs_14
        have hpx_17 : μ4.1 26 11 = 0 → PXE μ μ4 P tt 0 (-1) 1 := fun h0 => (hnil (by have h9 : μ.1 26 11 = μ.1 26 11 := rfl; have h8 : μ4.1 26 11 = μ4.1 26 11 := rfl; omega)).fr (K := [26]) (Fr.tr Fr.rf F_5 (by decide)) (npL_p (L := [26]) (by decide) hprP).1 (npL_p (L := [26]) (by decide) hprP).2.1
        have e_18 : μ4.1 26 10 = μ.1 26 10 := hs_13
        have e_19 : μ4.1 P 1 = μ.1 P 1 := (F_5.1 P (ni hprP (fun P => P) (fun P => [26]) rfl) 1)
        have e_20 : μ4.1 P 1 = μ.1 P 1 := (F_5.1 P (ni hprP (fun P => P) (fun P => [26]) rfl) 1)
        have e_21 : μ4.1 26 10 = μ.1 26 10 := hs_13
        have e_22 : μ4.1 (P + 2) 3 = μ.1 (P + 2) 3 := (F_5.1 (P + 2) (ni hprP (fun P => P + 2) (fun P => [26]) rfl) 3)
        have e_23 : μ4.1 P 1 = μ.1 P 1 := (F_5.1 P (ni hprP (fun P => P) (fun P => [26]) rfl) 1)
        have e_24 : μ4.1 (P + 2) 3 = μ.1 (P + 2) 3 := (F_5.1 (P + 2) (ni hprP (fun P => P + 2) (fun P => [26]) rfl) 3)
        exact xr_v G hret hlk dX7_ownPrimary_123 ⟨(Fr.tr Fr.rf F_5 (si hprP (fun P => [26]) (fun P => [2, 3, 4, 23, 24, 26, P, P + 1, P + 2, (P + 2) + 1, (P + 2) + 2, (P + 2) + 3]) rfl)), hI_6, htk_16, (by omega), (by omega), (by omega), (by omega), (fun h0 => (PXE.ex (hpx_17 h0)).e (by omega)), (((F_5.1 23 (by decide) 2).trans hP.symm)).trans hP, (F_5.1 23 (by decide) 5), (F_5.1 23 (by decide) 6), (F_5.1 23 (by decide) 7), (((F_5.1 23 (by decide) 8).trans htt.symm)).trans htt, (F_5.1 23 (by decide) 9), (F_5.1 23 (by decide) 10), hs_9, (F_5.1 P (ni hprP (fun P => P) (fun P => [26]) rfl) 7)⟩
      · refine lv_aload_n hx hb dX7_ownPrimary_76 rfl (lv_at hl 0 rfl) ?_
        refine lv_sipush (v := iv 228) hx hb dX7_ownPrimary_77 rfl ?_
        have hn_25 : -1 ≤ μ.1 26 10 ∧ μ.1 26 10 ≤ 3000 := hI.nm.2.2.2.2.2.2.2.2.2.2.2.2
        refine xc_iV G (b := 23) (rest := []) (As := [.int (iv 228)]) (c_X7_took_b ω l μ 228 (by unfold ir; omega) hI hTK (by omega)) (wm 3 160 rfl rfl) (wm 3 162 rfl rfl) (wm 0 9 rfl rfl) rfl rfl (by decide) rfl (wm 1 12 rfl rfl) (wm 3 163 rfl rfl) (by decide) hR ⟨nfr hF (by decide), nlo hLo (by decide)⟩ (n := 1) rfl rfl (Nat.le_of_ble_eq_true rfl) hl.1 dX7_ownPrimary_80 (fun r_27 μ26 ρ d0 H locs hr_r_27 hp G => ?_)
        have hr_r_27 : -2147483648 ≤ r_27 ∧ r_27 ≤ 2147483647 := hr_r_27
        obtain ⟨F_28, hI_29, hp_30, hp_31, hp_32, hs_33, hs_34, hs_35, hs_36, hs_37⟩ := hp
        have hn_38 : -1 ≤ μ26.1 26 10 ∧ μ26.1 26 10 ≤ 3000 := hI_29.nm.2.2.2.2.2.2.2.2.2.2.2.2
        have htb_39 := hp_30.b
        refine xb_if_eq (tgt := 116) hx hb (by unfold ir; omega) dX7_ownPrimary_83 (by decide) (fun c_83 => ?_) (fun c_83 => ?_)
        · refine lv_aload_n hx hb dX7_ownPrimary_116 rfl (lv_at hl 0 rfl) ?_
          refine xa_getr G fd_X7 (a := 23) (x := 26) 0 rfl (by decide) rfl (wm 2 17 rfl rfl) ⟨rfl, rfl, rfl⟩ dX7_ownPrimary_117 rfl (G.sk 23 rfl) (by decide) rfl ?_
          have hpx_40 : μ26.1 26 11 = 0 → PXE μ μ26 P tt 0 (-1) 1 := fun h0 => (hnil (by have h9 : μ.1 26 11 = μ.1 26 11 := rfl; have h8 : μ26.1 26 11 = μ.1 26 11 := hs_33; omega)).fr (K := [26]) (Fr.tr Fr.rf F_28 (by decide)) (npL_p (L := [26]) (by decide) hprP).1 (npL_p (L := [26]) (by decide) hprP).2.1
          refine xc_vV G (b := 26) (rest := []) (As := []) (c_X10_stop ω l μ26  hI_29) (wm 3 173 rfl rfl) (wm 3 174 rfl rfl) (wm 3 175 rfl rfl) rfl rfl (by decide) rfl (wm 1 13 rfl rfl) (wm 3 176 rfl rfl) (by decide) hR ⟨nfr hF (by decide), nlo hLo (by decide)⟩ (n := 0) rfl rfl (Nat.le_of_ble_eq_true rfl) hl.1 dX7_ownPrimary_120 (fun μ41 ρ d0 H locs hp G => ?_)
          obtain ⟨F_42, hI_43, hp_44, hp_45, hs_46, hs_47, hs_48, hs_49, hs_50, hs_51, hs_52⟩ := hp
          have htk_53 : TK μ41 := TK.st hp_30 F_42 hp_44 hp_45 (((hs_46.trans hs_34)).trans (hs_34).symm) hs_50 hs_51
          have hpx_54 : μ41.1 26 11 = 0 → PXE μ μ41 P tt 0 (-1) 1 := fun h0 => (hpx_40 (by have h9 : μ26.1 26 11 = μ.1 26 11 := hs_33; have h8 : μ41.1 26 11 = μ41.1 26 11 := rfl; omega)).fr (K := [26]) (Fr.tr Fr.rf F_42 (by decide)) (npL_p (L := [26]) (by decide) hprP).1 (npL_p (L := [26]) (by decide) hprP).2.1
          have e_55 : μ41.1 26 10 = μ26.1 26 10 := hs_50
          have e_56 : μ41.1 P 1 = μ.1 P 1 := ((F_42.1 P (ni hprP (fun P => P) (fun P => [26]) rfl) 1).trans (F_28.1 P (ni hprP (fun P => P) (fun P => [26]) rfl) 1))
          have e_57 : μ41.1 P 1 = μ.1 P 1 := ((F_42.1 P (ni hprP (fun P => P) (fun P => [26]) rfl) 1).trans (F_28.1 P (ni hprP (fun P => P) (fun P => [26]) rfl) 1))
          have e_58 : μ41.1 26 10 = μ26.1 26 10 := hs_50
          have e_59 : μ41.1 (P + 2) 3 = μ.1 (P + 2) 3 := ((F_42.1 (P + 2) (ni hprP (fun P => P + 2) (fun P => [26]) rfl) 3).trans (F_28.1 (P + 2) (ni hprP (fun P => P + 2) (fun P => [26]) rfl) 3))
          have e_60 : μ41.1 P 1 = μ.1 P 1 := ((F_42.1 P (ni hprP (fun P => P) (fun P => [26]) rfl) 1).trans (F_28.1 P (ni hprP (fun P => P) (fun P => [26]) rfl) 1))
          have e_61 : μ41.1 (P + 2) 3 = μ.1 (P + 2) 3 := ((F_42.1 (P + 2) (ni hprP (fun P => P + 2) (fun P => [26]) rfl) 3).trans (F_28.1 (P + 2) (ni hprP (fun P => P + 2) (fun P => [26]) rfl) 3))
          exact xr_v G hret hlk dX7_ownPrimary_123 ⟨(Fr.tr (Fr.tr Fr.rf F_28 (si hprP (fun P => [26]) (fun P => [2, 3, 4, 23, 24, 26, P, P + 1, P + 2, (P + 2) + 1, (P + 2) + 2, (P + 2) + 3]) rfl)) F_42 (si hprP (fun P => [26]) (fun P => [2, 3, 4, 23, 24, 26, P, P + 1, P + 2, (P + 2) + 1, (P + 2) + 2, (P + 2) + 3]) rfl)), hI_43, htk_53, (by omega), (by omega), (by omega), (by omega), (fun h0 => (PXE.ex (hpx_54 h0)).e (by omega)), (((F_42.1 23 (by decide) 2).trans ((F_28.1 23 (by decide) 2).trans hP.symm))).trans hP, ((F_42.1 23 (by decide) 5).trans (F_28.1 23 (by decide) 5)), ((F_42.1 23 (by decide) 6).trans (F_28.1 23 (by decide) 6)), ((F_42.1 23 (by decide) 7).trans (F_28.1 23 (by decide) 7)), (((F_42.1 23 (by decide) 8).trans ((F_28.1 23 (by decide) 8).trans htt.symm))).trans htt, ((F_42.1 23 (by decide) 9).trans (F_28.1 23 (by decide) 9)), ((F_42.1 23 (by decide) 10).trans (F_28.1 23 (by decide) 10)), (hs_46.trans hs_34), ((F_42.1 P (ni hprP (fun P => P) (fun P => [26]) rfl) 7).trans (F_28.1 P (ni hprP (fun P => P) (fun P => [26]) rfl) 7))⟩
        · refine lv_aload_n hx hb dX7_ownPrimary_86 rfl (lv_at hl 0 rfl) ?_
          have hpx_62 : μ26.1 26 11 = 0 → PXE μ μ26 P tt 0 (-1) 1 := fun h0 => (hnil (by have h9 : μ.1 26 11 = μ.1 26 11 := rfl; have h8 : μ26.1 26 11 = μ.1 26 11 := hs_33; omega)).fr (K := [26]) (Fr.tr Fr.rf F_28 (by decide)) (npL_p (L := [26]) (by decide) hprP).1 (npL_p (L := [26]) (by decide) hprP).2.1
          have e_63 : μ26.1 26 11 = μ.1 26 11 := hs_33
          refine xc_iV G (b := 23) (rest := []) (As := []) (c_X7_nameOfFailing ω l μ26  hI_29 hp_30) (wm 4 112 rfl rfl) (wm 4 114 rfl rfl) (wm 0 44 rfl rfl) rfl rfl (by decide) rfl (wm 1 12 rfl rfl) (wm 4 115 rfl rfl) (by decide) hR ⟨nfr hF (by decide), nlo hLo (by decide)⟩ (n := 0) rfl rfl (Nat.le_of_ble_eq_true rfl) hl.1 dX7_ownPrimary_87 (fun r_65 μ64 ρ d0 H locs hr_r_65 hp G => ?_)
          have hr_r_65 : -2147483648 ≤ r_65 ∧ r_65 ≤ 2147483647 := hr_r_65
          obtain ⟨F_66, hI_67, hp_68, hp_69, hp_70, hs_71, hs_72, hs_73, hs_74, hs_75⟩ := hp
          have hn_76 : -1 ≤ μ64.1 26 10 ∧ μ64.1 26 10 ≤ 3000 := hI_67.nm.2.2.2.2.2.2.2.2.2.2.2.2
          have htb_77 := hp_68.b
          refine lv_istore_n (lv' := [(1, .int (iv r_65)), (0, .ref (oP ω 23))]) hx hb dX7_ownPrimary_90 rfl hl (by decide) rfl (fun ls hl => ?_)
          refine lv_aload_n hx hb dX7_ownPrimary_91 rfl (lv_at hl 1 rfl) ?_
          refine lv_bipush (v := iv 40) hx hb dX7_ownPrimary_92 rfl ?_
          refine lv_bipush (v := iv 41) hx hb dX7_ownPrimary_94 rfl ?_
          have hpx_78 : μ64.1 26 11 = 0 → PXE μ μ64 P tt 0 (-1) 1 := fun h0 => (hpx_62 (by have h9 : μ26.1 26 11 = μ.1 26 11 := hs_33; have h8 : μ64.1 26 11 = μ64.1 26 11 := rfl; omega)).fr (K := [26, 2, 3, 4, 24]) (Fr.tr Fr.rf F_66 (by decide)) (npL_p (L := [26, 2, 3, 4, 24]) (by decide) hprP).1 (npL_p (L := [26, 2, 3, 4, 24]) (by decide) hprP).2.1
          have e_79 : μ64.1 23 2 = P := ((F_66.1 23 (by decide) 2).trans ((F_28.1 23 (by decide) 2).trans hP.symm))
          have e_80 : μ64.1 23 8 = tt := ((F_66.1 23 (by decide) 8).trans ((F_28.1 23 (by decide) 8).trans htt.symm))
          have e_81 : μ64.1 P 1 = μ.1 P 1 := ((F_66.1 P (ni hprP (fun P => P) (fun P => [26, 2, 3, 4, 24]) rfl) 1).trans (F_28.1 P (ni hprP (fun P => P) (fun P => [26]) rfl) 1))
          have hk_82 := hI.row (r := P + 2) (hprP.row)
          unfold rk at hk_82
          have e_83 : μ64.1 (P + 2) 3 = μ.1 (P + 2) 3 := ((F_66.1 (P + 2) (ni hprP (fun P => P + 2) (fun P => [26, 2, 3, 4, 24]) rfl) 3).trans (F_28.1 (P + 2) (ni hprP (fun P => P + 2) (fun P => [26]) rfl) 3))
          have e_84 : μ64.1 P 1 = μ.1 P 1 := ((F_66.1 P (ni hprP (fun P => P) (fun P => [26, 2, 3, 4, 24]) rfl) 1).trans (F_28.1 P (ni hprP (fun P => P) (fun P => [26]) rfl) 1))
          have e_85 : μ64.1 23 9 = μ.1 23 9 := ((F_66.1 23 (by decide) 9).trans (F_28.1 23 (by decide) 9))
          have e_86 : μ64.1 23 9 = μ.1 23 9 := ((F_66.1 23 (by decide) 9).trans (F_28.1 23 (by decide) 9))
          have e_87 : μ64.1 23 9 = μ.1 23 9 := ((F_66.1 23 (by decide) 9).trans (F_28.1 23 (by decide) 9))
          have e_88 : μ64.1 P 1 = μ.1 P 1 := ((F_66.1 P (ni hprP (fun P => P) (fun P => [26, 2, 3, 4, 24]) rfl) 1).trans (F_28.1 P (ni hprP (fun P => P) (fun P => [26]) rfl) 1))
          have e_89 : μ64.1 P 1 = μ.1 P 1 := ((F_66.1 P (ni hprP (fun P => P) (fun P => [26, 2, 3, 4, 24]) rfl) 1).trans (F_28.1 P (ni hprP (fun P => P) (fun P => [26]) rfl) 1))
          have e_90 : μ64.1 (P + 2) 3 = μ.1 (P + 2) 3 := ((F_66.1 (P + 2) (ni hprP (fun P => P + 2) (fun P => [26, 2, 3, 4, 24]) rfl) 3).trans (F_28.1 (P + 2) (ni hprP (fun P => P + 2) (fun P => [26]) rfl) 3))
          have e_91 : μ64.1 P 1 = μ.1 P 1 := ((F_66.1 P (ni hprP (fun P => P) (fun P => [26, 2, 3, 4, 24]) rfl) 1).trans (F_28.1 P (ni hprP (fun P => P) (fun P => [26]) rfl) 1))
          have e_92 : μ64.1 (P + 2) 3 = μ.1 (P + 2) 3 := ((F_66.1 (P + 2) (ni hprP (fun P => P + 2) (fun P => [26, 2, 3, 4, 24]) rfl) 3).trans (F_28.1 (P + 2) (ni hprP (fun P => P + 2) (fun P => [26]) rfl) 3))
          refine xc_vV G (b := 23) (rest := []) (As := [.int (iv 40), .int (iv 41)]) (c_X7_inBrackets ω l μ64 40 41 F Lo Fu Lu kf P tt (by unfold ir; omega) (by unfold ir; omega) hI_67 (by omega) (by omega) hF hLo hFu hLu hE hU hp_68 (by omega) (by omega) (by omega) (by omega) (by omega) (by omega) (by omega)) (wm 4 92 rfl rfl) (wm 4 94 rfl rfl) (wm 0 39 rfl rfl) rfl rfl (by decide) rfl (wm 1 12 rfl rfl) (wm 4 95 rfl rfl) (by decide) hR ⟨sfr (F := F) (a := 1) (by decide), slo (L := Lo) (m := 3) (a := 22) (by decide)⟩ (n := 2) rfl rfl (Nat.le_of_ble_eq_true rfl) hl.1 dX7_ownPrimary_96 (fun μ93 ρ d0 H locs hp G => ?_)
          obtain ⟨F_94, hI_95, hp_96, hp_97, hp_98, hp_99, hp_100, hp_101, hs_102, hs_103, hs_104, hs_105, hs_106, hs_107, hs_108, hs_109, hs_110⟩ := hp
          have hn_111 : -1 ≤ μ93.1 26 10 ∧ μ93.1 26 10 ≤ 3000 := hI_95.nm.2.2.2.2.2.2.2.2.2.2.2.2
          have hk_112 := hI_95.pr (p := P) hprP
          unfold pk at hk_112
          have hc_113 : 16 ≤ μ93.2.1 (P + 1) ∧ μ93.2.1 (P + 1) ≤ 73024 := hI_95.rm.1 _ hprP.cap
          have hk_114 := hI_95.row (r := P + 2) (hprP.row)
          unfold rk at hk_114
          have htb_115 := hp_96.b
          have hpx_116 : μ93.1 26 11 = 0 → PXE μ μ93 P tt 1 (-1) 1 := fun h0 => (PXE.app (hpx_78 (by have h9 : μ64.1 26 11 = μ64.1 26 11 := rfl; have h8 : μ93.1 26 11 = μ93.1 26 11 := rfl; omega)) (hp_101 h0)).e (by omega)
          refine lv_aload_n hx hb dX7_ownPrimary_99 rfl (lv_at hl 1 rfl) ?_
          refine lv_bipush (v := iv 17) hx hb dX7_ownPrimary_100 rfl ?_
          refine lv_iload_n hx hb dX7_ownPrimary_102 rfl (lv_at hl 0 rfl) ?_
          refine lv_iconst (v := iv 0) hx hb dX7_ownPrimary_103 rfl ?_
          refine lv_aload_n hx hb dX7_ownPrimary_104 rfl (lv_at hl 1 rfl) ?_
          refine lv_iconst (v := iv (-1)) hx hb dX7_ownPrimary_105 rfl ?_
          refine lv_iconst (v := iv 0) hx hb dX7_ownPrimary_106 rfl ?_
          have e_117 : μ93.1 23 2 = P := (hs_102.trans ((F_66.1 23 (by decide) 2).trans ((F_28.1 23 (by decide) 2).trans hP.symm)))
          have e_118 : μ93.1 23 8 = tt := (hs_106.trans ((F_66.1 23 (by decide) 8).trans ((F_28.1 23 (by decide) 8).trans htt.symm)))
          refine xc_iV G (b := 23) (rest := [.int (iv 0), .int (iv r_65), .int (iv 17), .ref (oP ω 23)]) (As := [.int (iv (-1)), .int (iv 0)]) (c_X7_ifFails ω l μ93 (-1) 0 μ (1) (1) P tt (by unfold ir; omega) (by unfold ir; omega) hI_95 (by omega) (by omega) (by omega) hpx_116 (by omega) (by omega)) (wm 4 23 rfl rfl) (wm 4 25 rfl rfl) (wm 0 29 rfl rfl) rfl rfl (by decide) rfl (wm 1 12 rfl rfl) (wm 4 26 rfl rfl) (by decide) hR ⟨nfr hF (by decide), nlo hLo (by decide)⟩ (n := 2) rfl rfl (Nat.le_of_ble_eq_true rfl) hl.1 dX7_ownPrimary_107 (fun r_120 μ119 ρ d0 H locs hr_r_120 hp G => ?_)
          have hr_r_120 : -2147483648 ≤ r_120 ∧ r_120 ≤ 2147483647 := hr_r_120
          obtain ⟨F_121, hI_122, hp_123, hp_124, hs_125⟩ := hp
          have hk_126 := hI_122.pr (p := P) hprP
          unfold pk at hk_126
          have hc_127 : 16 ≤ μ119.2.1 (P + 1) ∧ μ119.2.1 (P + 1) ≤ 73024 := hI_122.rm.1 _ hprP.cap
          have hpx_128 : μ119.1 26 11 = 0 → PXE μ μ119 P tt 1 r_120 1 := fun h0 => hp_123 (by have h9 : μ93.1 26 11 = μ93.1 26 11 := rfl; have h8 : μ119.1 26 11 = μ93.1 26 11 := (F_121.1 26 (ni hprP (fun P => 26) (fun P => [P, P + 1]) rfl) 11); omega)
          clear hp_123
          have e_129 : μ119.1 23 2 = P := ((F_121.1 23 (ni hprP (fun P => 23) (fun P => [P, P + 1]) rfl) 2).trans (hs_102.trans ((F_66.1 23 (by decide) 2).trans ((F_28.1 23 (by decide) 2).trans hP.symm))))
          have e_130 : μ119.1 23 8 = tt := ((F_121.1 23 (ni hprP (fun P => 23) (fun P => [P, P + 1]) rfl) 8).trans (hs_106.trans ((F_66.1 23 (by decide) 8).trans ((F_28.1 23 (by decide) 8).trans htt.symm))))
          refine xc_vV G (b := 23) (rest := []) (As := [.int (iv 17), .int (iv r_65), .int (iv 0), .int (iv r_120)]) (c_X7_endOfParts ω l μ119 17 r_65 0 r_120 μ (1) (1) P tt (by unfold ir; omega) (by unfold ir; omega) (by unfold ir; omega) (by unfold ir; omega) hI_122 (by omega) (by omega) (by omega) hpx_128 (Or.inl (by unfold plain; omega)) (by omega) (by rw [show eff 17 r_65 = 0 from rfl]; omega)) (wm 4 27 rfl rfl) (wm 4 29 rfl rfl) (wm 0 30 rfl rfl) rfl rfl (by decide) rfl (wm 1 12 rfl rfl) (wm 4 30 rfl rfl) (by decide) hR ⟨nfr hF (by decide), nlo hLo (by decide)⟩ (n := 4) rfl rfl (Nat.le_of_ble_eq_true rfl) hl.1 dX7_ownPrimary_110 (fun μ131 ρ d0 H locs hp G => ?_)
          obtain ⟨F_132, hI_133, hp_134, hs_135, hs_136⟩ := hp
          have hpx_137 : μ131.1 26 11 = 0 → PXE μ μ131 P tt 1 (-1) 1 := fun h0 => PXE.of (hp_134 (by have h9 : μ119.1 26 11 = μ93.1 26 11 := (F_121.1 26 (ni hprP (fun P => 26) (fun P => [P, P + 1]) rfl) 11); have h8 : μ131.1 26 11 = μ93.1 26 11 := ((F_132.1 26 (ni hprP (fun P => 26) (fun P => [P, P + 1]) rfl) 11).trans (F_121.1 26 (ni hprP (fun P => 26) (fun P => [P, P + 1]) rfl) 11)); omega))
          clear hp_134
          refine lv_goto (tgt := 123) hx hb dX7_ownPrimary_113 (by decide) ?_
          have htk_138 : TK μ131 := hp_96.fr (K := [P, P + 1]) (Fr.tr (Fr.tr Fr.rf F_121 (si hprP (fun P => [P, P + 1]) (fun P => [P, P + 1]) rfl)) F_132 (si hprP (fun P => [P, P + 1]) (fun P => [P, P + 1]) rfl)) (ni hprP (fun P => 26) (fun P => [P, P + 1]) rfl) (ni hprP (fun P => 28) (fun P => [P, P + 1]) rfl) (ni hprP (fun P => 29) (fun P => [P, P + 1]) rfl)
          have e_139 : μ131.1 26 11 = μ93.1 26 11 := ((F_132.1 26 (ni hprP (fun P => 26) (fun P => [P, P + 1]) rfl) 11).trans (F_121.1 26 (ni hprP (fun P => 26) (fun P => [P, P + 1]) rfl) 11))
          have e_140 : μ131.1 26 11 = μ93.1 26 11 := ((F_132.1 26 (ni hprP (fun P => 26) (fun P => [P, P + 1]) rfl) 11).trans (F_121.1 26 (ni hprP (fun P => 26) (fun P => [P, P + 1]) rfl) 11))
          have e_141 : μ131.1 26 10 = μ93.1 26 10 := ((F_132.1 26 (ni hprP (fun P => 26) (fun P => [P, P + 1]) rfl) 10).trans (F_121.1 26 (ni hprP (fun P => 26) (fun P => [P, P + 1]) rfl) 10))
          have e_142 : μ131.1 P 1 = μ119.1 P 1 + 1 := hs_135
          have e_143 : μ131.1 P 1 = μ119.1 P 1 + 1 := hs_135
          have e_144 : μ131.1 26 10 = μ93.1 26 10 := ((F_132.1 26 (ni hprP (fun P => 26) (fun P => [P, P + 1]) rfl) 10).trans (F_121.1 26 (ni hprP (fun P => 26) (fun P => [P, P + 1]) rfl) 10))
          have e_145 : μ131.1 26 11 = μ93.1 26 11 := ((F_132.1 26 (ni hprP (fun P => 26) (fun P => [P, P + 1]) rfl) 11).trans (F_121.1 26 (ni hprP (fun P => 26) (fun P => [P, P + 1]) rfl) 11))
          have e_146 : μ131.1 (P + 2) 3 = μ93.1 (P + 2) 3 := ((F_132.1 (P + 2) (ni hprP (fun P => P + 2) (fun P => [P, P + 1]) rfl) 3).trans (F_121.1 (P + 2) (ni hprP (fun P => P + 2) (fun P => [P, P + 1]) rfl) 3))
          have e_147 : μ131.1 P 1 = μ119.1 P 1 + 1 := hs_135
          have e_148 : μ131.1 (P + 2) 3 = μ93.1 (P + 2) 3 := ((F_132.1 (P + 2) (ni hprP (fun P => P + 2) (fun P => [P, P + 1]) rfl) 3).trans (F_121.1 (P + 2) (ni hprP (fun P => P + 2) (fun P => [P, P + 1]) rfl) 3))
          exact xr_v G hret hlk dX7_ownPrimary_123 ⟨(Fr.tr (Fr.tr (Fr.tr (Fr.tr (Fr.tr Fr.rf F_28 (si hprP (fun P => [26]) (fun P => [2, 3, 4, 23, 24, 26, P, P + 1, P + 2, (P + 2) + 1, (P + 2) + 2, (P + 2) + 3]) rfl)) F_66 (si hprP (fun P => [26, 2, 3, 4, 24]) (fun P => [2, 3, 4, 23, 24, 26, P, P + 1, P + 2, (P + 2) + 1, (P + 2) + 2, (P + 2) + 3]) rfl)) F_94 (si hprP (fun P => [2, 3, 4, 23, 24, 26, P, P + 1, P + 2, (P + 2) + 1, (P + 2) + 2, (P + 2) + 3]) (fun P => [2, 3, 4, 23, 24, 26, P, P + 1, P + 2, (P + 2) + 1, (P + 2) + 2, (P + 2) + 3]) rfl)) F_121 (si hprP (fun P => [P, P + 1]) (fun P => [2, 3, 4, 23, 24, 26, P, P + 1, P + 2, (P + 2) + 1, (P + 2) + 2, (P + 2) + 3]) rfl)) F_132 (si hprP (fun P => [P, P + 1]) (fun P => [2, 3, 4, 23, 24, 26, P, P + 1, P + 2, (P + 2) + 1, (P + 2) + 2, (P + 2) + 3]) rfl)), hI_133, htk_138, (by omega), (by omega), (by omega), (by omega), (fun h0 => (PXE.ex (hpx_137 h0)).e (by omega)), (((F_132.1 23 (ni hprP (fun P => 23) (fun P => [P, P + 1]) rfl) 2).trans ((F_121.1 23 (ni hprP (fun P => 23) (fun P => [P, P + 1]) rfl) 2).trans (hs_102.trans ((F_66.1 23 (by decide) 2).trans ((F_28.1 23 (by decide) 2).trans hP.symm)))))).trans hP, ((F_132.1 23 (ni hprP (fun P => 23) (fun P => [P, P + 1]) rfl) 5).trans ((F_121.1 23 (ni hprP (fun P => 23) (fun P => [P, P + 1]) rfl) 5).trans (hs_103.trans ((F_66.1 23 (by decide) 5).trans (F_28.1 23 (by decide) 5))))), ((F_132.1 23 (ni hprP (fun P => 23) (fun P => [P, P + 1]) rfl) 6).trans ((F_121.1 23 (ni hprP (fun P => 23) (fun P => [P, P + 1]) rfl) 6).trans (hs_104.trans ((F_66.1 23 (by decide) 6).trans (F_28.1 23 (by decide) 6))))), ((F_132.1 23 (ni hprP (fun P => 23) (fun P => [P, P + 1]) rfl) 7).trans ((F_121.1 23 (ni hprP (fun P => 23) (fun P => [P, P + 1]) rfl) 7).trans (hs_105.trans ((F_66.1 23 (by decide) 7).trans (F_28.1 23 (by decide) 7))))), (((F_132.1 23 (ni hprP (fun P => 23) (fun P => [P, P + 1]) rfl) 8).trans ((F_121.1 23 (ni hprP (fun P => 23) (fun P => [P, P + 1]) rfl) 8).trans (hs_106.trans ((F_66.1 23 (by decide) 8).trans ((F_28.1 23 (by decide) 8).trans htt.symm)))))).trans htt, ((F_132.1 23 (ni hprP (fun P => 23) (fun P => [P, P + 1]) rfl) 9).trans ((F_121.1 23 (ni hprP (fun P => 23) (fun P => [P, P + 1]) rfl) 9).trans (hs_107.trans ((F_66.1 23 (by decide) 9).trans (F_28.1 23 (by decide) 9))))), ((F_132.1 23 (ni hprP (fun P => 23) (fun P => [P, P + 1]) rfl) 10).trans ((F_121.1 23 (ni hprP (fun P => 23) (fun P => [P, P + 1]) rfl) 10).trans (hs_108.trans ((F_66.1 23 (by decide) 10).trans (F_28.1 23 (by decide) 10))))), ((F_132.1 26 (ni hprP (fun P => 26) (fun P => [P, P + 1]) rfl) 6).trans ((F_121.1 26 (ni hprP (fun P => 26) (fun P => [P, P + 1]) rfl) 6).trans (hs_109.trans (hs_71.trans hs_34)))), (hs_136.trans (hs_125.trans (hs_110.trans ((F_66.1 P (ni hprP (fun P => P) (fun P => [26, 2, 3, 4, 24]) rfl) 7).trans (F_28.1 P (ni hprP (fun P => P) (fun P => [26]) rfl) 7)))))⟩
    · refine lv_aload_n hx hb dX7_ownPrimary_38 rfl (lv_at hl 0 rfl) ?_
      refine lv_sipush (v := iv 227) hx hb dX7_ownPrimary_39 rfl ?_
      have hn_149 : -1 ≤ μ.1 26 10 ∧ μ.1 26 10 ≤ 3000 := hI.nm.2.2.2.2.2.2.2.2.2.2.2.2
      refine xc_iV G (b := 23) (rest := []) (As := [.int (iv 227)]) (c_X7_took_b ω l μ 227 (by unfold ir; omega) hI hTK (by omega)) (wm 3 160 rfl rfl) (wm 3 162 rfl rfl) (wm 0 9 rfl rfl) rfl rfl (by decide) rfl (wm 1 12 rfl rfl) (wm 3 163 rfl rfl) (by decide) hR ⟨nfr hF (by decide), nlo hLo (by decide)⟩ (n := 1) rfl rfl (Nat.le_of_ble_eq_true rfl) hl.1 dX7_ownPrimary_42 (fun r_151 μ150 ρ d0 H locs hr_r_151 hp G => ?_)
      have hr_r_151 : -2147483648 ≤ r_151 ∧ r_151 ≤ 2147483647 := hr_r_151
      obtain ⟨F_152, hI_153, hp_154, hp_155, hp_156, hs_157, hs_158, hs_159, hs_160, hs_161⟩ := hp
      have hn_162 : -1 ≤ μ150.1 26 10 ∧ μ150.1 26 10 ≤ 3000 := hI_153.nm.2.2.2.2.2.2.2.2.2.2.2.2
      have htb_163 := hp_154.b
      refine xb_if_eq (tgt := 68) hx hb (by unfold ir; omega) dX7_ownPrimary_45 (by decide) (fun c_45 => ?_) (fun c_45 => ?_)
      · refine lv_aload_n hx hb dX7_ownPrimary_68 rfl (lv_at hl 0 rfl) ?_
        refine xa_geti G fd_X7 (a := 23) (x := tt) 8 rfl (by decide) rfl (wm 2 25 rfl rfl) ⟨rfl, rfl, rfl⟩ dX7_ownPrimary_69 rfl ((F_152.1 23 (by decide) 8).trans htt.symm) ?_
        refine lv_iconst (v := iv 2) hx hb dX7_ownPrimary_72 rfl ?_
        refine xb_icmp_ne (tgt := 116) hx hb (by unfold ir; omega) (by unfold ir; omega) dX7_ownPrimary_73 (by decide) (fun c_73 => ?_) (fun c_73 => ?_)
        · refine lv_aload_n hx hb dX7_ownPrimary_116 rfl (lv_at hl 0 rfl) ?_
          refine xa_getr G fd_X7 (a := 23) (x := 26) 0 rfl (by decide) rfl (wm 2 17 rfl rfl) ⟨rfl, rfl, rfl⟩ dX7_ownPrimary_117 rfl (G.sk 23 rfl) (by decide) rfl ?_
          have hpx_164 : μ150.1 26 11 = 0 → PXE μ μ150 P tt 0 (-1) 1 := fun h0 => (hnil (by have h9 : μ.1 26 11 = μ.1 26 11 := rfl; have h8 : μ150.1 26 11 = μ.1 26 11 := hs_157; omega)).fr (K := [26]) (Fr.tr Fr.rf F_152 (by decide)) (npL_p (L := [26]) (by decide) hprP).1 (npL_p (L := [26]) (by decide) hprP).2.1
          refine xc_vV G (b := 26) (rest := []) (As := []) (c_X10_stop ω l μ150  hI_153) (wm 3 173 rfl rfl) (wm 3 174 rfl rfl) (wm 3 175 rfl rfl) rfl rfl (by decide) rfl (wm 1 13 rfl rfl) (wm 3 176 rfl rfl) (by decide) hR ⟨nfr hF (by decide), nlo hLo (by decide)⟩ (n := 0) rfl rfl (Nat.le_of_ble_eq_true rfl) hl.1 dX7_ownPrimary_120 (fun μ165 ρ d0 H locs hp G => ?_)
          obtain ⟨F_166, hI_167, hp_168, hp_169, hs_170, hs_171, hs_172, hs_173, hs_174, hs_175, hs_176⟩ := hp
          have htk_177 : TK μ165 := TK.st hp_154 F_166 hp_168 hp_169 (((hs_170.trans hs_158)).trans (hs_158).symm) hs_174 hs_175
          have hpx_178 : μ165.1 26 11 = 0 → PXE μ μ165 P tt 0 (-1) 1 := fun h0 => (hpx_164 (by have h9 : μ150.1 26 11 = μ.1 26 11 := hs_157; have h8 : μ165.1 26 11 = μ165.1 26 11 := rfl; omega)).fr (K := [26]) (Fr.tr Fr.rf F_166 (by decide)) (npL_p (L := [26]) (by decide) hprP).1 (npL_p (L := [26]) (by decide) hprP).2.1
          have e_179 : μ165.1 26 10 = μ150.1 26 10 := hs_174
          have e_180 : μ165.1 P 1 = μ.1 P 1 := ((F_166.1 P (ni hprP (fun P => P) (fun P => [26]) rfl) 1).trans (F_152.1 P (ni hprP (fun P => P) (fun P => [26]) rfl) 1))
          have e_181 : μ165.1 P 1 = μ.1 P 1 := ((F_166.1 P (ni hprP (fun P => P) (fun P => [26]) rfl) 1).trans (F_152.1 P (ni hprP (fun P => P) (fun P => [26]) rfl) 1))
          have e_182 : μ165.1 26 10 = μ150.1 26 10 := hs_174
          have e_183 : μ165.1 (P + 2) 3 = μ.1 (P + 2) 3 := ((F_166.1 (P + 2) (ni hprP (fun P => P + 2) (fun P => [26]) rfl) 3).trans (F_152.1 (P + 2) (ni hprP (fun P => P + 2) (fun P => [26]) rfl) 3))
          have e_184 : μ165.1 P 1 = μ.1 P 1 := ((F_166.1 P (ni hprP (fun P => P) (fun P => [26]) rfl) 1).trans (F_152.1 P (ni hprP (fun P => P) (fun P => [26]) rfl) 1))
          have e_185 : μ165.1 (P + 2) 3 = μ.1 (P + 2) 3 := ((F_166.1 (P + 2) (ni hprP (fun P => P + 2) (fun P => [26]) rfl) 3).trans (F_152.1 (P + 2) (ni hprP (fun P => P + 2) (fun P => [26]) rfl) 3))
          exact xr_v G hret hlk dX7_ownPrimary_123 ⟨(Fr.tr (Fr.tr Fr.rf F_152 (si hprP (fun P => [26]) (fun P => [2, 3, 4, 23, 24, 26, P, P + 1, P + 2, (P + 2) + 1, (P + 2) + 2, (P + 2) + 3]) rfl)) F_166 (si hprP (fun P => [26]) (fun P => [2, 3, 4, 23, 24, 26, P, P + 1, P + 2, (P + 2) + 1, (P + 2) + 2, (P + 2) + 3]) rfl)), hI_167, htk_177, (by omega), (by omega), (by omega), (by omega), (fun h0 => (PXE.ex (hpx_178 h0)).e (by omega)), (((F_166.1 23 (by decide) 2).trans ((F_152.1 23 (by decide) 2).trans hP.symm))).trans hP, ((F_166.1 23 (by decide) 5).trans (F_152.1 23 (by decide) 5)), ((F_166.1 23 (by decide) 6).trans (F_152.1 23 (by decide) 6)), ((F_166.1 23 (by decide) 7).trans (F_152.1 23 (by decide) 7)), (((F_166.1 23 (by decide) 8).trans ((F_152.1 23 (by decide) 8).trans htt.symm))).trans htt, ((F_166.1 23 (by decide) 9).trans (F_152.1 23 (by decide) 9)), ((F_166.1 23 (by decide) 10).trans (F_152.1 23 (by decide) 10)), (hs_170.trans hs_158), ((F_166.1 P (ni hprP (fun P => P) (fun P => [26]) rfl) 7).trans (F_152.1 P (ni hprP (fun P => P) (fun P => [26]) rfl) 7))⟩
        · refine lv_aload_n hx hb dX7_ownPrimary_76 rfl (lv_at hl 0 rfl) ?_
          refine lv_sipush (v := iv 228) hx hb dX7_ownPrimary_77 rfl ?_
          have hpx_186 : μ150.1 26 11 = 0 → PXE μ μ150 P tt 0 (-1) 1 := fun h0 => (hnil (by have h9 : μ.1 26 11 = μ.1 26 11 := rfl; have h8 : μ150.1 26 11 = μ.1 26 11 := hs_157; omega)).fr (K := [26]) (Fr.tr Fr.rf F_152 (by decide)) (npL_p (L := [26]) (by decide) hprP).1 (npL_p (L := [26]) (by decide) hprP).2.1
          have e_187 : μ150.1 26 11 = μ.1 26 11 := hs_157
          refine xc_iV G (b := 23) (rest := []) (As := [.int (iv 228)]) (c_X7_took_b ω l μ150 228 (by unfold ir; omega) hI_153 hp_154 (by omega)) (wm 3 160 rfl rfl) (wm 3 162 rfl rfl) (wm 0 9 rfl rfl) rfl rfl (by decide) rfl (wm 1 12 rfl rfl) (wm 3 163 rfl rfl) (by decide) hR ⟨nfr hF (by decide), nlo hLo (by decide)⟩ (n := 1) rfl rfl (Nat.le_of_ble_eq_true rfl) hl.1 dX7_ownPrimary_80 (fun r_189 μ188 ρ d0 H locs hr_r_189 hp G => ?_)
          have hr_r_189 : -2147483648 ≤ r_189 ∧ r_189 ≤ 2147483647 := hr_r_189
          obtain ⟨F_190, hI_191, hp_192, hp_193, hp_194, hs_195, hs_196, hs_197, hs_198, hs_199⟩ := hp
          have hn_200 : -1 ≤ μ188.1 26 10 ∧ μ188.1 26 10 ≤ 3000 := hI_191.nm.2.2.2.2.2.2.2.2.2.2.2.2
          have htb_201 := hp_192.b
          refine xb_if_eq (tgt := 116) hx hb (by unfold ir; omega) dX7_ownPrimary_83 (by decide) (fun c_83 => ?_) (fun c_83 => ?_)
          · refine lv_aload_n hx hb dX7_ownPrimary_116 rfl (lv_at hl 0 rfl) ?_
            refine xa_getr G fd_X7 (a := 23) (x := 26) 0 rfl (by decide) rfl (wm 2 17 rfl rfl) ⟨rfl, rfl, rfl⟩ dX7_ownPrimary_117 rfl (G.sk 23 rfl) (by decide) rfl ?_
            have hpx_202 : μ188.1 26 11 = 0 → PXE μ μ188 P tt 0 (-1) 1 := fun h0 => (hpx_186 (by have h9 : μ150.1 26 11 = μ.1 26 11 := hs_157; have h8 : μ188.1 26 11 = μ.1 26 11 := (hs_195.trans hs_157); omega)).fr (K := [26]) (Fr.tr Fr.rf F_190 (by decide)) (npL_p (L := [26]) (by decide) hprP).1 (npL_p (L := [26]) (by decide) hprP).2.1
            refine xc_vV G (b := 26) (rest := []) (As := []) (c_X10_stop ω l μ188  hI_191) (wm 3 173 rfl rfl) (wm 3 174 rfl rfl) (wm 3 175 rfl rfl) rfl rfl (by decide) rfl (wm 1 13 rfl rfl) (wm 3 176 rfl rfl) (by decide) hR ⟨nfr hF (by decide), nlo hLo (by decide)⟩ (n := 0) rfl rfl (Nat.le_of_ble_eq_true rfl) hl.1 dX7_ownPrimary_120 (fun μ203 ρ d0 H locs hp G => ?_)
            obtain ⟨F_204, hI_205, hp_206, hp_207, hs_208, hs_209, hs_210, hs_211, hs_212, hs_213, hs_214⟩ := hp
            have htk_215 : TK μ203 := TK.st hp_192 F_204 hp_206 hp_207 (((hs_208.trans (hs_196.trans hs_158))).trans ((hs_196.trans hs_158)).symm) hs_212 hs_213
            have hpx_216 : μ203.1 26 11 = 0 → PXE μ μ203 P tt 0 (-1) 1 := fun h0 => (hpx_202 (by have h9 : μ188.1 26 11 = μ.1 26 11 := (hs_195.trans hs_157); have h8 : μ203.1 26 11 = μ203.1 26 11 := rfl; omega)).fr (K := [26]) (Fr.tr Fr.rf F_204 (by decide)) (npL_p (L := [26]) (by decide) hprP).1 (npL_p (L := [26]) (by decide) hprP).2.1
            have e_217 : μ203.1 26 10 = μ188.1 26 10 := hs_212
            have e_218 : μ203.1 P 1 = μ.1 P 1 := ((F_204.1 P (ni hprP (fun P => P) (fun P => [26]) rfl) 1).trans ((F_190.1 P (ni hprP (fun P => P) (fun P => [26]) rfl) 1).trans (F_152.1 P (ni hprP (fun P => P) (fun P => [26]) rfl) 1)))
            have e_219 : μ203.1 P 1 = μ.1 P 1 := ((F_204.1 P (ni hprP (fun P => P) (fun P => [26]) rfl) 1).trans ((F_190.1 P (ni hprP (fun P => P) (fun P => [26]) rfl) 1).trans (F_152.1 P (ni hprP (fun P => P) (fun P => [26]) rfl) 1)))
            have e_220 : μ203.1 26 10 = μ188.1 26 10 := hs_212
            have e_221 : μ203.1 (P + 2) 3 = μ.1 (P + 2) 3 := ((F_204.1 (P + 2) (ni hprP (fun P => P + 2) (fun P => [26]) rfl) 3).trans ((F_190.1 (P + 2) (ni hprP (fun P => P + 2) (fun P => [26]) rfl) 3).trans (F_152.1 (P + 2) (ni hprP (fun P => P + 2) (fun P => [26]) rfl) 3)))
            have e_222 : μ203.1 P 1 = μ.1 P 1 := ((F_204.1 P (ni hprP (fun P => P) (fun P => [26]) rfl) 1).trans ((F_190.1 P (ni hprP (fun P => P) (fun P => [26]) rfl) 1).trans (F_152.1 P (ni hprP (fun P => P) (fun P => [26]) rfl) 1)))
            have e_223 : μ203.1 (P + 2) 3 = μ.1 (P + 2) 3 := ((F_204.1 (P + 2) (ni hprP (fun P => P + 2) (fun P => [26]) rfl) 3).trans ((F_190.1 (P + 2) (ni hprP (fun P => P + 2) (fun P => [26]) rfl) 3).trans (F_152.1 (P + 2) (ni hprP (fun P => P + 2) (fun P => [26]) rfl) 3)))
            exact xr_v G hret hlk dX7_ownPrimary_123 ⟨(Fr.tr (Fr.tr (Fr.tr Fr.rf F_152 (si hprP (fun P => [26]) (fun P => [2, 3, 4, 23, 24, 26, P, P + 1, P + 2, (P + 2) + 1, (P + 2) + 2, (P + 2) + 3]) rfl)) F_190 (si hprP (fun P => [26]) (fun P => [2, 3, 4, 23, 24, 26, P, P + 1, P + 2, (P + 2) + 1, (P + 2) + 2, (P + 2) + 3]) rfl)) F_204 (si hprP (fun P => [26]) (fun P => [2, 3, 4, 23, 24, 26, P, P + 1, P + 2, (P + 2) + 1, (P + 2) + 2, (P + 2) + 3]) rfl)), hI_205, htk_215, (by omega), (by omega), (by omega), (by omega), (fun h0 => (PXE.ex (hpx_216 h0)).e (by omega)), (((F_204.1 23 (by decide) 2).trans ((F_190.1 23 (by decide) 2).trans ((F_152.1 23 (by decide) 2).trans hP.symm)))).trans hP, ((F_204.1 23 (by decide) 5).trans ((F_190.1 23 (by decide) 5).trans (F_152.1 23 (by decide) 5))), ((F_204.1 23 (by decide) 6).trans ((F_190.1 23 (by decide) 6).trans (F_152.1 23 (by decide) 6))), ((F_204.1 23 (by decide) 7).trans ((F_190.1 23 (by decide) 7).trans (F_152.1 23 (by decide) 7))), (((F_204.1 23 (by decide) 8).trans ((F_190.1 23 (by decide) 8).trans ((F_152.1 23 (by decide) 8).trans htt.symm)))).trans htt, ((F_204.1 23 (by decide) 9).trans ((F_190.1 23 (by decide) 9).trans (F_152.1 23 (by decide) 9))), ((F_204.1 23 (by decide) 10).trans ((F_190.1 23 (by decide) 10).trans (F_152.1 23 (by decide) 10))), (hs_208.trans (hs_196.trans hs_158)), ((F_204.1 P (ni hprP (fun P => P) (fun P => [26]) rfl) 7).trans ((F_190.1 P (ni hprP (fun P => P) (fun P => [26]) rfl) 7).trans (F_152.1 P (ni hprP (fun P => P) (fun P => [26]) rfl) 7)))⟩
          · refine lv_aload_n hx hb dX7_ownPrimary_86 rfl (lv_at hl 0 rfl) ?_
            have hpx_224 : μ188.1 26 11 = 0 → PXE μ μ188 P tt 0 (-1) 1 := fun h0 => (hpx_186 (by have h9 : μ150.1 26 11 = μ.1 26 11 := hs_157; have h8 : μ188.1 26 11 = μ.1 26 11 := (hs_195.trans hs_157); omega)).fr (K := [26]) (Fr.tr Fr.rf F_190 (by decide)) (npL_p (L := [26]) (by decide) hprP).1 (npL_p (L := [26]) (by decide) hprP).2.1
            have e_225 : μ188.1 26 11 = μ.1 26 11 := (hs_195.trans hs_157)
            refine xc_iV G (b := 23) (rest := []) (As := []) (c_X7_nameOfFailing ω l μ188  hI_191 hp_192) (wm 4 112 rfl rfl) (wm 4 114 rfl rfl) (wm 0 44 rfl rfl) rfl rfl (by decide) rfl (wm 1 12 rfl rfl) (wm 4 115 rfl rfl) (by decide) hR ⟨nfr hF (by decide), nlo hLo (by decide)⟩ (n := 0) rfl rfl (Nat.le_of_ble_eq_true rfl) hl.1 dX7_ownPrimary_87 (fun r_227 μ226 ρ d0 H locs hr_r_227 hp G => ?_)
            have hr_r_227 : -2147483648 ≤ r_227 ∧ r_227 ≤ 2147483647 := hr_r_227
            obtain ⟨F_228, hI_229, hp_230, hp_231, hp_232, hs_233, hs_234, hs_235, hs_236, hs_237⟩ := hp
            have hn_238 : -1 ≤ μ226.1 26 10 ∧ μ226.1 26 10 ≤ 3000 := hI_229.nm.2.2.2.2.2.2.2.2.2.2.2.2
            have htb_239 := hp_230.b
            refine lv_istore_n (lv' := [(1, .int (iv r_227)), (0, .ref (oP ω 23))]) hx hb dX7_ownPrimary_90 rfl hl (by decide) rfl (fun ls hl => ?_)
            refine lv_aload_n hx hb dX7_ownPrimary_91 rfl (lv_at hl 1 rfl) ?_
            refine lv_bipush (v := iv 40) hx hb dX7_ownPrimary_92 rfl ?_
            refine lv_bipush (v := iv 41) hx hb dX7_ownPrimary_94 rfl ?_
            have hpx_240 : μ226.1 26 11 = 0 → PXE μ μ226 P tt 0 (-1) 1 := fun h0 => (hpx_224 (by have h9 : μ188.1 26 11 = μ.1 26 11 := (hs_195.trans hs_157); have h8 : μ226.1 26 11 = μ226.1 26 11 := rfl; omega)).fr (K := [26, 2, 3, 4, 24]) (Fr.tr Fr.rf F_228 (by decide)) (npL_p (L := [26, 2, 3, 4, 24]) (by decide) hprP).1 (npL_p (L := [26, 2, 3, 4, 24]) (by decide) hprP).2.1
            have e_241 : μ226.1 23 2 = P := ((F_228.1 23 (by decide) 2).trans ((F_190.1 23 (by decide) 2).trans ((F_152.1 23 (by decide) 2).trans hP.symm)))
            have e_242 : μ226.1 23 8 = tt := ((F_228.1 23 (by decide) 8).trans ((F_190.1 23 (by decide) 8).trans ((F_152.1 23 (by decide) 8).trans htt.symm)))
            have e_243 : μ226.1 P 1 = μ.1 P 1 := ((F_228.1 P (ni hprP (fun P => P) (fun P => [26, 2, 3, 4, 24]) rfl) 1).trans ((F_190.1 P (ni hprP (fun P => P) (fun P => [26]) rfl) 1).trans (F_152.1 P (ni hprP (fun P => P) (fun P => [26]) rfl) 1)))
            have hk_244 := hI.row (r := P + 2) (hprP.row)
            unfold rk at hk_244
            have e_245 : μ226.1 (P + 2) 3 = μ.1 (P + 2) 3 := ((F_228.1 (P + 2) (ni hprP (fun P => P + 2) (fun P => [26, 2, 3, 4, 24]) rfl) 3).trans ((F_190.1 (P + 2) (ni hprP (fun P => P + 2) (fun P => [26]) rfl) 3).trans (F_152.1 (P + 2) (ni hprP (fun P => P + 2) (fun P => [26]) rfl) 3)))
            have e_246 : μ226.1 P 1 = μ.1 P 1 := ((F_228.1 P (ni hprP (fun P => P) (fun P => [26, 2, 3, 4, 24]) rfl) 1).trans ((F_190.1 P (ni hprP (fun P => P) (fun P => [26]) rfl) 1).trans (F_152.1 P (ni hprP (fun P => P) (fun P => [26]) rfl) 1)))
            have e_247 : μ226.1 23 9 = μ.1 23 9 := ((F_228.1 23 (by decide) 9).trans ((F_190.1 23 (by decide) 9).trans (F_152.1 23 (by decide) 9)))
            have e_248 : μ226.1 23 9 = μ.1 23 9 := ((F_228.1 23 (by decide) 9).trans ((F_190.1 23 (by decide) 9).trans (F_152.1 23 (by decide) 9)))
            have e_249 : μ226.1 23 9 = μ.1 23 9 := ((F_228.1 23 (by decide) 9).trans ((F_190.1 23 (by decide) 9).trans (F_152.1 23 (by decide) 9)))
            have e_250 : μ226.1 P 1 = μ.1 P 1 := ((F_228.1 P (ni hprP (fun P => P) (fun P => [26, 2, 3, 4, 24]) rfl) 1).trans ((F_190.1 P (ni hprP (fun P => P) (fun P => [26]) rfl) 1).trans (F_152.1 P (ni hprP (fun P => P) (fun P => [26]) rfl) 1)))
            have e_251 : μ226.1 P 1 = μ.1 P 1 := ((F_228.1 P (ni hprP (fun P => P) (fun P => [26, 2, 3, 4, 24]) rfl) 1).trans ((F_190.1 P (ni hprP (fun P => P) (fun P => [26]) rfl) 1).trans (F_152.1 P (ni hprP (fun P => P) (fun P => [26]) rfl) 1)))
            have e_252 : μ226.1 (P + 2) 3 = μ.1 (P + 2) 3 := ((F_228.1 (P + 2) (ni hprP (fun P => P + 2) (fun P => [26, 2, 3, 4, 24]) rfl) 3).trans ((F_190.1 (P + 2) (ni hprP (fun P => P + 2) (fun P => [26]) rfl) 3).trans (F_152.1 (P + 2) (ni hprP (fun P => P + 2) (fun P => [26]) rfl) 3)))
            have e_253 : μ226.1 P 1 = μ.1 P 1 := ((F_228.1 P (ni hprP (fun P => P) (fun P => [26, 2, 3, 4, 24]) rfl) 1).trans ((F_190.1 P (ni hprP (fun P => P) (fun P => [26]) rfl) 1).trans (F_152.1 P (ni hprP (fun P => P) (fun P => [26]) rfl) 1)))
            have e_254 : μ226.1 (P + 2) 3 = μ.1 (P + 2) 3 := ((F_228.1 (P + 2) (ni hprP (fun P => P + 2) (fun P => [26, 2, 3, 4, 24]) rfl) 3).trans ((F_190.1 (P + 2) (ni hprP (fun P => P + 2) (fun P => [26]) rfl) 3).trans (F_152.1 (P + 2) (ni hprP (fun P => P + 2) (fun P => [26]) rfl) 3)))
            refine xc_vV G (b := 23) (rest := []) (As := [.int (iv 40), .int (iv 41)]) (c_X7_inBrackets ω l μ226 40 41 F Lo Fu Lu kf P tt (by unfold ir; omega) (by unfold ir; omega) hI_229 (by omega) (by omega) hF hLo hFu hLu hE hU hp_230 (by omega) (by omega) (by omega) (by omega) (by omega) (by omega) (by omega)) (wm 4 92 rfl rfl) (wm 4 94 rfl rfl) (wm 0 39 rfl rfl) rfl rfl (by decide) rfl (wm 1 12 rfl rfl) (wm 4 95 rfl rfl) (by decide) hR ⟨sfr (F := F) (a := 1) (by decide), slo (L := Lo) (m := 3) (a := 22) (by decide)⟩ (n := 2) rfl rfl (Nat.le_of_ble_eq_true rfl) hl.1 dX7_ownPrimary_96 (fun μ255 ρ d0 H locs hp G => ?_)
            obtain ⟨F_256, hI_257, hp_258, hp_259, hp_260, hp_261, hp_262, hp_263, hs_264, hs_265, hs_266, hs_267, hs_268, hs_269, hs_270, hs_271, hs_272⟩ := hp
            have hn_273 : -1 ≤ μ255.1 26 10 ∧ μ255.1 26 10 ≤ 3000 := hI_257.nm.2.2.2.2.2.2.2.2.2.2.2.2
            have hk_274 := hI_257.pr (p := P) hprP
            unfold pk at hk_274
            have hc_275 : 16 ≤ μ255.2.1 (P + 1) ∧ μ255.2.1 (P + 1) ≤ 73024 := hI_257.rm.1 _ hprP.cap
            have hk_276 := hI_257.row (r := P + 2) (hprP.row)
            unfold rk at hk_276
            have htb_277 := hp_258.b
            have hpx_278 : μ255.1 26 11 = 0 → PXE μ μ255 P tt 1 (-1) 1 := fun h0 => (PXE.app (hpx_240 (by have h9 : μ226.1 26 11 = μ226.1 26 11 := rfl; have h8 : μ255.1 26 11 = μ255.1 26 11 := rfl; omega)) (hp_263 h0)).e (by omega)
            refine lv_aload_n hx hb dX7_ownPrimary_99 rfl (lv_at hl 1 rfl) ?_
            refine lv_bipush (v := iv 17) hx hb dX7_ownPrimary_100 rfl ?_
            refine lv_iload_n hx hb dX7_ownPrimary_102 rfl (lv_at hl 0 rfl) ?_
            refine lv_iconst (v := iv 0) hx hb dX7_ownPrimary_103 rfl ?_
            refine lv_aload_n hx hb dX7_ownPrimary_104 rfl (lv_at hl 1 rfl) ?_
            refine lv_iconst (v := iv (-1)) hx hb dX7_ownPrimary_105 rfl ?_
            refine lv_iconst (v := iv 0) hx hb dX7_ownPrimary_106 rfl ?_
            have e_279 : μ255.1 23 2 = P := (hs_264.trans ((F_228.1 23 (by decide) 2).trans ((F_190.1 23 (by decide) 2).trans ((F_152.1 23 (by decide) 2).trans hP.symm))))
            have e_280 : μ255.1 23 8 = tt := (hs_268.trans ((F_228.1 23 (by decide) 8).trans ((F_190.1 23 (by decide) 8).trans ((F_152.1 23 (by decide) 8).trans htt.symm))))
            refine xc_iV G (b := 23) (rest := [.int (iv 0), .int (iv r_227), .int (iv 17), .ref (oP ω 23)]) (As := [.int (iv (-1)), .int (iv 0)]) (c_X7_ifFails ω l μ255 (-1) 0 μ (1) (1) P tt (by unfold ir; omega) (by unfold ir; omega) hI_257 (by omega) (by omega) (by omega) hpx_278 (by omega) (by omega)) (wm 4 23 rfl rfl) (wm 4 25 rfl rfl) (wm 0 29 rfl rfl) rfl rfl (by decide) rfl (wm 1 12 rfl rfl) (wm 4 26 rfl rfl) (by decide) hR ⟨nfr hF (by decide), nlo hLo (by decide)⟩ (n := 2) rfl rfl (Nat.le_of_ble_eq_true rfl) hl.1 dX7_ownPrimary_107 (fun r_282 μ281 ρ d0 H locs hr_r_282 hp G => ?_)
            have hr_r_282 : -2147483648 ≤ r_282 ∧ r_282 ≤ 2147483647 := hr_r_282
            obtain ⟨F_283, hI_284, hp_285, hp_286, hs_287⟩ := hp
            have hk_288 := hI_284.pr (p := P) hprP
            unfold pk at hk_288
            have hc_289 : 16 ≤ μ281.2.1 (P + 1) ∧ μ281.2.1 (P + 1) ≤ 73024 := hI_284.rm.1 _ hprP.cap
            have hpx_290 : μ281.1 26 11 = 0 → PXE μ μ281 P tt 1 r_282 1 := fun h0 => hp_285 (by have h9 : μ255.1 26 11 = μ255.1 26 11 := rfl; have h8 : μ281.1 26 11 = μ255.1 26 11 := (F_283.1 26 (ni hprP (fun P => 26) (fun P => [P, P + 1]) rfl) 11); omega)
            clear hp_285
            have e_291 : μ281.1 23 2 = P := ((F_283.1 23 (ni hprP (fun P => 23) (fun P => [P, P + 1]) rfl) 2).trans (hs_264.trans ((F_228.1 23 (by decide) 2).trans ((F_190.1 23 (by decide) 2).trans ((F_152.1 23 (by decide) 2).trans hP.symm)))))
            have e_292 : μ281.1 23 8 = tt := ((F_283.1 23 (ni hprP (fun P => 23) (fun P => [P, P + 1]) rfl) 8).trans (hs_268.trans ((F_228.1 23 (by decide) 8).trans ((F_190.1 23 (by decide) 8).trans ((F_152.1 23 (by decide) 8).trans htt.symm)))))
            refine xc_vV G (b := 23) (rest := []) (As := [.int (iv 17), .int (iv r_227), .int (iv 0), .int (iv r_282)]) (c_X7_endOfParts ω l μ281 17 r_227 0 r_282 μ (1) (1) P tt (by unfold ir; omega) (by unfold ir; omega) (by unfold ir; omega) (by unfold ir; omega) hI_284 (by omega) (by omega) (by omega) hpx_290 (Or.inl (by unfold plain; omega)) (by omega) (by rw [show eff 17 r_227 = 0 from rfl]; omega)) (wm 4 27 rfl rfl) (wm 4 29 rfl rfl) (wm 0 30 rfl rfl) rfl rfl (by decide) rfl (wm 1 12 rfl rfl) (wm 4 30 rfl rfl) (by decide) hR ⟨nfr hF (by decide), nlo hLo (by decide)⟩ (n := 4) rfl rfl (Nat.le_of_ble_eq_true rfl) hl.1 dX7_ownPrimary_110 (fun μ293 ρ d0 H locs hp G => ?_)
            obtain ⟨F_294, hI_295, hp_296, hs_297, hs_298⟩ := hp
            have hpx_299 : μ293.1 26 11 = 0 → PXE μ μ293 P tt 1 (-1) 1 := fun h0 => PXE.of (hp_296 (by have h9 : μ281.1 26 11 = μ255.1 26 11 := (F_283.1 26 (ni hprP (fun P => 26) (fun P => [P, P + 1]) rfl) 11); have h8 : μ293.1 26 11 = μ255.1 26 11 := ((F_294.1 26 (ni hprP (fun P => 26) (fun P => [P, P + 1]) rfl) 11).trans (F_283.1 26 (ni hprP (fun P => 26) (fun P => [P, P + 1]) rfl) 11)); omega))
            clear hp_296
            refine lv_goto (tgt := 123) hx hb dX7_ownPrimary_113 (by decide) ?_
            have htk_300 : TK μ293 := hp_258.fr (K := [P, P + 1]) (Fr.tr (Fr.tr Fr.rf F_283 (si hprP (fun P => [P, P + 1]) (fun P => [P, P + 1]) rfl)) F_294 (si hprP (fun P => [P, P + 1]) (fun P => [P, P + 1]) rfl)) (ni hprP (fun P => 26) (fun P => [P, P + 1]) rfl) (ni hprP (fun P => 28) (fun P => [P, P + 1]) rfl) (ni hprP (fun P => 29) (fun P => [P, P + 1]) rfl)
            have e_301 : μ293.1 26 11 = μ255.1 26 11 := ((F_294.1 26 (ni hprP (fun P => 26) (fun P => [P, P + 1]) rfl) 11).trans (F_283.1 26 (ni hprP (fun P => 26) (fun P => [P, P + 1]) rfl) 11))
            have e_302 : μ293.1 26 11 = μ255.1 26 11 := ((F_294.1 26 (ni hprP (fun P => 26) (fun P => [P, P + 1]) rfl) 11).trans (F_283.1 26 (ni hprP (fun P => 26) (fun P => [P, P + 1]) rfl) 11))
            have e_303 : μ293.1 26 10 = μ255.1 26 10 := ((F_294.1 26 (ni hprP (fun P => 26) (fun P => [P, P + 1]) rfl) 10).trans (F_283.1 26 (ni hprP (fun P => 26) (fun P => [P, P + 1]) rfl) 10))
            have e_304 : μ293.1 P 1 = μ281.1 P 1 + 1 := hs_297
            have e_305 : μ293.1 P 1 = μ281.1 P 1 + 1 := hs_297
            have e_306 : μ293.1 26 10 = μ255.1 26 10 := ((F_294.1 26 (ni hprP (fun P => 26) (fun P => [P, P + 1]) rfl) 10).trans (F_283.1 26 (ni hprP (fun P => 26) (fun P => [P, P + 1]) rfl) 10))
            have e_307 : μ293.1 26 11 = μ255.1 26 11 := ((F_294.1 26 (ni hprP (fun P => 26) (fun P => [P, P + 1]) rfl) 11).trans (F_283.1 26 (ni hprP (fun P => 26) (fun P => [P, P + 1]) rfl) 11))
            have e_308 : μ293.1 (P + 2) 3 = μ255.1 (P + 2) 3 := ((F_294.1 (P + 2) (ni hprP (fun P => P + 2) (fun P => [P, P + 1]) rfl) 3).trans (F_283.1 (P + 2) (ni hprP (fun P => P + 2) (fun P => [P, P + 1]) rfl) 3))
            have e_309 : μ293.1 P 1 = μ281.1 P 1 + 1 := hs_297
            have e_310 : μ293.1 (P + 2) 3 = μ255.1 (P + 2) 3 := ((F_294.1 (P + 2) (ni hprP (fun P => P + 2) (fun P => [P, P + 1]) rfl) 3).trans (F_283.1 (P + 2) (ni hprP (fun P => P + 2) (fun P => [P, P + 1]) rfl) 3))
            exact xr_v G hret hlk dX7_ownPrimary_123 ⟨(Fr.tr (Fr.tr (Fr.tr (Fr.tr (Fr.tr (Fr.tr Fr.rf F_152 (si hprP (fun P => [26]) (fun P => [2, 3, 4, 23, 24, 26, P, P + 1, P + 2, (P + 2) + 1, (P + 2) + 2, (P + 2) + 3]) rfl)) F_190 (si hprP (fun P => [26]) (fun P => [2, 3, 4, 23, 24, 26, P, P + 1, P + 2, (P + 2) + 1, (P + 2) + 2, (P + 2) + 3]) rfl)) F_228 (si hprP (fun P => [26, 2, 3, 4, 24]) (fun P => [2, 3, 4, 23, 24, 26, P, P + 1, P + 2, (P + 2) + 1, (P + 2) + 2, (P + 2) + 3]) rfl)) F_256 (si hprP (fun P => [2, 3, 4, 23, 24, 26, P, P + 1, P + 2, (P + 2) + 1, (P + 2) + 2, (P + 2) + 3]) (fun P => [2, 3, 4, 23, 24, 26, P, P + 1, P + 2, (P + 2) + 1, (P + 2) + 2, (P + 2) + 3]) rfl)) F_283 (si hprP (fun P => [P, P + 1]) (fun P => [2, 3, 4, 23, 24, 26, P, P + 1, P + 2, (P + 2) + 1, (P + 2) + 2, (P + 2) + 3]) rfl)) F_294 (si hprP (fun P => [P, P + 1]) (fun P => [2, 3, 4, 23, 24, 26, P, P + 1, P + 2, (P + 2) + 1, (P + 2) + 2, (P + 2) + 3]) rfl)), hI_295, htk_300, (by omega), (by omega), (by omega), (by omega), (fun h0 => (PXE.ex (hpx_299 h0)).e (by omega)), (((F_294.1 23 (ni hprP (fun P => 23) (fun P => [P, P + 1]) rfl) 2).trans ((F_283.1 23 (ni hprP (fun P => 23) (fun P => [P, P + 1]) rfl) 2).trans (hs_264.trans ((F_228.1 23 (by decide) 2).trans ((F_190.1 23 (by decide) 2).trans ((F_152.1 23 (by decide) 2).trans hP.symm))))))).trans hP, ((F_294.1 23 (ni hprP (fun P => 23) (fun P => [P, P + 1]) rfl) 5).trans ((F_283.1 23 (ni hprP (fun P => 23) (fun P => [P, P + 1]) rfl) 5).trans (hs_265.trans ((F_228.1 23 (by decide) 5).trans ((F_190.1 23 (by decide) 5).trans (F_152.1 23 (by decide) 5)))))), ((F_294.1 23 (ni hprP (fun P => 23) (fun P => [P, P + 1]) rfl) 6).trans ((F_283.1 23 (ni hprP (fun P => 23) (fun P => [P, P + 1]) rfl) 6).trans (hs_266.trans ((F_228.1 23 (by decide) 6).trans ((F_190.1 23 (by decide) 6).trans (F_152.1 23 (by decide) 6)))))), ((F_294.1 23 (ni hprP (fun P => 23) (fun P => [P, P + 1]) rfl) 7).trans ((F_283.1 23 (ni hprP (fun P => 23) (fun P => [P, P + 1]) rfl) 7).trans (hs_267.trans ((F_228.1 23 (by decide) 7).trans ((F_190.1 23 (by decide) 7).trans (F_152.1 23 (by decide) 7)))))), (((F_294.1 23 (ni hprP (fun P => 23) (fun P => [P, P + 1]) rfl) 8).trans ((F_283.1 23 (ni hprP (fun P => 23) (fun P => [P, P + 1]) rfl) 8).trans (hs_268.trans ((F_228.1 23 (by decide) 8).trans ((F_190.1 23 (by decide) 8).trans ((F_152.1 23 (by decide) 8).trans htt.symm))))))).trans htt, ((F_294.1 23 (ni hprP (fun P => 23) (fun P => [P, P + 1]) rfl) 9).trans ((F_283.1 23 (ni hprP (fun P => 23) (fun P => [P, P + 1]) rfl) 9).trans (hs_269.trans ((F_228.1 23 (by decide) 9).trans ((F_190.1 23 (by decide) 9).trans (F_152.1 23 (by decide) 9)))))), ((F_294.1 23 (ni hprP (fun P => 23) (fun P => [P, P + 1]) rfl) 10).trans ((F_283.1 23 (ni hprP (fun P => 23) (fun P => [P, P + 1]) rfl) 10).trans (hs_270.trans ((F_228.1 23 (by decide) 10).trans ((F_190.1 23 (by decide) 10).trans (F_152.1 23 (by decide) 10)))))), ((F_294.1 26 (ni hprP (fun P => 26) (fun P => [P, P + 1]) rfl) 6).trans ((F_283.1 26 (ni hprP (fun P => 26) (fun P => [P, P + 1]) rfl) 6).trans (hs_271.trans (hs_233.trans (hs_196.trans hs_158))))), (hs_298.trans (hs_287.trans (hs_272.trans ((F_228.1 P (ni hprP (fun P => P) (fun P => [26, 2, 3, 4, 24]) rfl) 7).trans ((F_190.1 P (ni hprP (fun P => P) (fun P => [26]) rfl) 7).trans (F_152.1 P (ni hprP (fun P => P) (fun P => [26]) rfl) 7))))))⟩
      · refine lv_aload_n hx hb dX7_ownPrimary_48 rfl (lv_at hl 0 rfl) ?_
        refine lv_bipush (v := iv 40) hx hb dX7_ownPrimary_49 rfl ?_
        refine lv_bipush (v := iv 41) hx hb dX7_ownPrimary_51 rfl ?_
        have hpx_311 : μ150.1 26 11 = 0 → PXE μ μ150 P tt 0 (-1) 1 := fun h0 => (hnil (by have h9 : μ.1 26 11 = μ.1 26 11 := rfl; have h8 : μ150.1 26 11 = μ.1 26 11 := hs_157; omega)).fr (K := [26]) (Fr.tr Fr.rf F_152 (by decide)) (npL_p (L := [26]) (by decide) hprP).1 (npL_p (L := [26]) (by decide) hprP).2.1
        have e_312 : μ150.1 23 2 = P := ((F_152.1 23 (by decide) 2).trans hP.symm)
        have e_313 : μ150.1 23 8 = tt := ((F_152.1 23 (by decide) 8).trans htt.symm)
        have e_314 : μ150.1 P 1 = μ.1 P 1 := (F_152.1 P (ni hprP (fun P => P) (fun P => [26]) rfl) 1)
        have e_315 : μ150.1 26 11 = μ.1 26 11 := hs_157
        have hk_316 := hI.row (r := P + 2) (hprP.row)
        unfold rk at hk_316
        have e_317 : μ150.1 (P + 2) 3 = μ.1 (P + 2) 3 := (F_152.1 (P + 2) (ni hprP (fun P => P + 2) (fun P => [26]) rfl) 3)
        have e_318 : μ150.1 P 1 = μ.1 P 1 := (F_152.1 P (ni hprP (fun P => P) (fun P => [26]) rfl) 1)
        have e_319 : μ150.1 23 9 = μ.1 23 9 := (F_152.1 23 (by decide) 9)
        have e_320 : μ150.1 23 9 = μ.1 23 9 := (F_152.1 23 (by decide) 9)
        have e_321 : μ150.1 23 9 = μ.1 23 9 := (F_152.1 23 (by decide) 9)
        have e_322 : μ150.1 26 11 = μ.1 26 11 := hs_157
        have e_323 : μ150.1 P 1 = μ.1 P 1 := (F_152.1 P (ni hprP (fun P => P) (fun P => [26]) rfl) 1)
        have e_324 : μ150.1 P 1 = μ.1 P 1 := (F_152.1 P (ni hprP (fun P => P) (fun P => [26]) rfl) 1)
        have e_325 : μ150.1 (P + 2) 3 = μ.1 (P + 2) 3 := (F_152.1 (P + 2) (ni hprP (fun P => P + 2) (fun P => [26]) rfl) 3)
        have e_326 : μ150.1 P 1 = μ.1 P 1 := (F_152.1 P (ni hprP (fun P => P) (fun P => [26]) rfl) 1)
        have e_327 : μ150.1 (P + 2) 3 = μ.1 (P + 2) 3 := (F_152.1 (P + 2) (ni hprP (fun P => P + 2) (fun P => [26]) rfl) 3)
        refine xc_vV G (b := 23) (rest := []) (As := [.int (iv 40), .int (iv 41)]) (c_X7_inBrackets ω l μ150 40 41 F Lo Fu Lu kf P tt (by unfold ir; omega) (by unfold ir; omega) hI_153 (by omega) (by omega) hF hLo hFu hLu hE hU hp_154 (by omega) (by omega) (by omega) (by omega) (by omega) (by omega) (by omega)) (wm 4 92 rfl rfl) (wm 4 94 rfl rfl) (wm 0 39 rfl rfl) rfl rfl (by decide) rfl (wm 1 12 rfl rfl) (wm 4 95 rfl rfl) (by decide) hR ⟨sfr (F := F) (a := 1) (by decide), slo (L := Lo) (m := 3) (a := 22) (by decide)⟩ (n := 2) rfl rfl (Nat.le_of_ble_eq_true rfl) hl.1 dX7_ownPrimary_53 (fun μ328 ρ d0 H locs hp G => ?_)
        obtain ⟨F_329, hI_330, hp_331, hp_332, hp_333, hp_334, hp_335, hp_336, hs_337, hs_338, hs_339, hs_340, hs_341, hs_342, hs_343, hs_344, hs_345⟩ := hp
        have hn_346 : -1 ≤ μ328.1 26 10 ∧ μ328.1 26 10 ≤ 3000 := hI_330.nm.2.2.2.2.2.2.2.2.2.2.2.2
        have hk_347 := hI_330.pr (p := P) hprP
        unfold pk at hk_347
        have hc_348 : 16 ≤ μ328.2.1 (P + 1) ∧ μ328.2.1 (P + 1) ≤ 73024 := hI_330.rm.1 _ hprP.cap
        have hk_349 := hI_330.row (r := P + 2) (hprP.row)
        unfold rk at hk_349
        have htb_350 := hp_331.b
        have hpx_351 : μ328.1 26 11 = 0 → PXE μ μ328 P tt 1 (-1) 1 := fun h0 => (PXE.app (hpx_311 (by have h9 : μ150.1 26 11 = μ.1 26 11 := hs_157; have h8 : μ328.1 26 11 = μ328.1 26 11 := rfl; omega)) (hp_336 h0)).e (by omega)
        refine lv_aload_n hx hb dX7_ownPrimary_56 rfl (lv_at hl 0 rfl) ?_
        refine lv_bipush (v := iv 16) hx hb dX7_ownPrimary_57 rfl ?_
        refine lv_iconst (v := iv 0) hx hb dX7_ownPrimary_59 rfl ?_
        refine lv_iconst (v := iv 0) hx hb dX7_ownPrimary_60 rfl ?_
        have e_352 : μ328.1 23 2 = P := (hs_337.trans ((F_152.1 23 (by decide) 2).trans hP.symm))
        refine xc_iV G (b := 23) (rest := []) (As := [.int (iv 16), .int (iv 0), .int (iv 0)]) (c_X7_add ω l μ328 16 0 0 P (by unfold ir; omega) (by unfold ir; omega) (by unfold ir; omega) hI_330 (by omega) (by omega)) (wm 3 226 rfl rfl) (wm 3 228 rfl rfl) (wm 0 21 rfl rfl) rfl rfl (by decide) rfl (wm 1 12 rfl rfl) (wm 3 229 rfl rfl) (by decide) hR ⟨nfr hF (by decide), nlo hLo (by decide)⟩ (n := 3) rfl rfl (Nat.le_of_ble_eq_true rfl) hl.1 dX7_ownPrimary_61 (fun r_354 μ353 ρ d0 H locs hr_r_354 hp G => ?_)
        have hr_r_354 : -2147483648 ≤ r_354 ∧ r_354 ≤ 2147483647 := hr_r_354
        obtain ⟨F_355, hI_356, hp_357, hp_358, hs_359, hs_360⟩ := hp
        have hpx_361 : μ353.1 26 11 = 0 → PXE μ μ353 P tt 1 (-1) 1 := fun h0 => (PXE.app (hpx_351 (by have h9 : μ328.1 26 11 = μ328.1 26 11 := rfl; have h8 : μ353.1 26 11 = μ328.1 26 11 := (F_355.1 26 (ni hprP (fun P => 26) (fun P => [P, P + 1]) rfl) 11); omega)) (EX.pl hp_358 (by omega) (by unfold plain; omega) (e := 0) rfl (by have h9 := hs_1 (μ := μ328) (P := P) (i := μ328.1 P 1); omega))).e (by omega)
        refine lv_pop hx hb dX7_ownPrimary_64 rfl ?_
        refine lv_goto (tgt := 123) hx hb dX7_ownPrimary_65 (by decide) ?_
        have htk_362 : TK μ353 := hp_331.fr (K := [P, P + 1]) (Fr.tr Fr.rf F_355 (si hprP (fun P => [P, P + 1]) (fun P => [P, P + 1]) rfl)) (ni hprP (fun P => 26) (fun P => [P, P + 1]) rfl) (ni hprP (fun P => 28) (fun P => [P, P + 1]) rfl) (ni hprP (fun P => 29) (fun P => [P, P + 1]) rfl)
        have e_363 : μ353.1 26 11 = μ328.1 26 11 := (F_355.1 26 (ni hprP (fun P => 26) (fun P => [P, P + 1]) rfl) 11)
        have e_364 : μ353.1 26 11 = μ328.1 26 11 := (F_355.1 26 (ni hprP (fun P => 26) (fun P => [P, P + 1]) rfl) 11)
        have e_365 : μ353.1 26 10 = μ328.1 26 10 := (F_355.1 26 (ni hprP (fun P => 26) (fun P => [P, P + 1]) rfl) 10)
        have e_366 : μ353.1 P 1 = μ328.1 P 1 + 1 := hs_359
        have e_367 : μ353.1 P 1 = μ328.1 P 1 + 1 := hs_359
        have e_368 : μ353.1 26 10 = μ328.1 26 10 := (F_355.1 26 (ni hprP (fun P => 26) (fun P => [P, P + 1]) rfl) 10)
        have e_369 : μ353.1 26 11 = μ328.1 26 11 := (F_355.1 26 (ni hprP (fun P => 26) (fun P => [P, P + 1]) rfl) 11)
        have e_370 : μ353.1 (P + 2) 3 = μ328.1 (P + 2) 3 := (F_355.1 (P + 2) (ni hprP (fun P => P + 2) (fun P => [P, P + 1]) rfl) 3)
        have e_371 : μ353.1 P 1 = μ328.1 P 1 + 1 := hs_359
        have e_372 : μ353.1 (P + 2) 3 = μ328.1 (P + 2) 3 := (F_355.1 (P + 2) (ni hprP (fun P => P + 2) (fun P => [P, P + 1]) rfl) 3)
        exact xr_v G hret hlk dX7_ownPrimary_123 ⟨(Fr.tr (Fr.tr (Fr.tr Fr.rf F_152 (si hprP (fun P => [26]) (fun P => [2, 3, 4, 23, 24, 26, P, P + 1, P + 2, (P + 2) + 1, (P + 2) + 2, (P + 2) + 3]) rfl)) F_329 (si hprP (fun P => [2, 3, 4, 23, 24, 26, P, P + 1, P + 2, (P + 2) + 1, (P + 2) + 2, (P + 2) + 3]) (fun P => [2, 3, 4, 23, 24, 26, P, P + 1, P + 2, (P + 2) + 1, (P + 2) + 2, (P + 2) + 3]) rfl)) F_355 (si hprP (fun P => [P, P + 1]) (fun P => [2, 3, 4, 23, 24, 26, P, P + 1, P + 2, (P + 2) + 1, (P + 2) + 2, (P + 2) + 3]) rfl)), hI_356, htk_362, (by omega), (by omega), (by omega), (by omega), (fun h0 => (PXE.ex (hpx_361 h0)).e (by omega)), (((F_355.1 23 (ni hprP (fun P => 23) (fun P => [P, P + 1]) rfl) 2).trans (hs_337.trans ((F_152.1 23 (by decide) 2).trans hP.symm)))).trans hP, ((F_355.1 23 (ni hprP (fun P => 23) (fun P => [P, P + 1]) rfl) 5).trans (hs_338.trans (F_152.1 23 (by decide) 5))), ((F_355.1 23 (ni hprP (fun P => 23) (fun P => [P, P + 1]) rfl) 6).trans (hs_339.trans (F_152.1 23 (by decide) 6))), ((F_355.1 23 (ni hprP (fun P => 23) (fun P => [P, P + 1]) rfl) 7).trans (hs_340.trans (F_152.1 23 (by decide) 7))), (((F_355.1 23 (ni hprP (fun P => 23) (fun P => [P, P + 1]) rfl) 8).trans (hs_341.trans ((F_152.1 23 (by decide) 8).trans htt.symm)))).trans htt, ((F_355.1 23 (ni hprP (fun P => 23) (fun P => [P, P + 1]) rfl) 9).trans (hs_342.trans (F_152.1 23 (by decide) 9))), ((F_355.1 23 (ni hprP (fun P => 23) (fun P => [P, P + 1]) rfl) 10).trans (hs_343.trans (F_152.1 23 (by decide) 10))), ((F_355.1 26 (ni hprP (fun P => 26) (fun P => [P, P + 1]) rfl) 6).trans (hs_344.trans hs_158)), (hs_360.trans (hs_345.trans (F_152.1 P (ni hprP (fun P => P) (fun P => [26]) rfl) 7)))⟩
  · refine lv_aload_n hx hb dX7_ownPrimary_8 rfl (lv_at hl 0 rfl) ?_
    refine lv_sipush (v := iv 226) hx hb dX7_ownPrimary_9 rfl ?_
    have hn_373 : -1 ≤ μ.1 26 10 ∧ μ.1 26 10 ≤ 3000 := hI.nm.2.2.2.2.2.2.2.2.2.2.2.2
    refine xc_iV G (b := 23) (rest := []) (As := [.int (iv 226)]) (c_X7_took_b ω l μ 226 (by unfold ir; omega) hI hTK (by omega)) (wm 3 160 rfl rfl) (wm 3 162 rfl rfl) (wm 0 9 rfl rfl) rfl rfl (by decide) rfl (wm 1 12 rfl rfl) (wm 3 163 rfl rfl) (by decide) hR ⟨nfr hF (by decide), nlo hLo (by decide)⟩ (n := 1) rfl rfl (Nat.le_of_ble_eq_true rfl) hl.1 dX7_ownPrimary_12 (fun r_375 μ374 ρ d0 H locs hr_r_375 hp G => ?_)
    have hr_r_375 : -2147483648 ≤ r_375 ∧ r_375 ≤ 2147483647 := hr_r_375
    obtain ⟨F_376, hI_377, hp_378, hp_379, hp_380, hs_381, hs_382, hs_383, hs_384, hs_385⟩ := hp
    have hn_386 : -1 ≤ μ374.1 26 10 ∧ μ374.1 26 10 ≤ 3000 := hI_377.nm.2.2.2.2.2.2.2.2.2.2.2.2
    have htb_387 := hp_378.b
    refine xb_if_eq (tgt := 30) hx hb (by unfold ir; omega) dX7_ownPrimary_15 (by decide) (fun c_15 => ?_) (fun c_15 => ?_)
    · refine lv_aload_n hx hb dX7_ownPrimary_30 rfl (lv_at hl 0 rfl) ?_
      refine xa_geti G fd_X7 (a := 23) (x := tt) 8 rfl (by decide) rfl (wm 2 25 rfl rfl) ⟨rfl, rfl, rfl⟩ dX7_ownPrimary_31 rfl ((F_376.1 23 (by decide) 8).trans htt.symm) ?_
      refine lv_iconst (v := iv 2) hx hb dX7_ownPrimary_34 rfl ?_
      refine xb_icmp_ne (tgt := 68) hx hb (by unfold ir; omega) (by unfold ir; omega) dX7_ownPrimary_35 (by decide) (fun c_35 => ?_) (fun c_35 => ?_)
      · refine lv_aload_n hx hb dX7_ownPrimary_68 rfl (lv_at hl 0 rfl) ?_
        refine xa_geti G fd_X7 (a := 23) (x := tt) 8 rfl (by decide) rfl (wm 2 25 rfl rfl) ⟨rfl, rfl, rfl⟩ dX7_ownPrimary_69 rfl ((F_376.1 23 (by decide) 8).trans htt.symm) ?_
        refine lv_iconst (v := iv 2) hx hb dX7_ownPrimary_72 rfl ?_
        refine xb_icmp_ne (tgt := 116) hx hb (by unfold ir; omega) (by unfold ir; omega) dX7_ownPrimary_73 (by decide) (fun c_73 => ?_) (fun c_73 => ?_)
        · refine lv_aload_n hx hb dX7_ownPrimary_116 rfl (lv_at hl 0 rfl) ?_
          refine xa_getr G fd_X7 (a := 23) (x := 26) 0 rfl (by decide) rfl (wm 2 17 rfl rfl) ⟨rfl, rfl, rfl⟩ dX7_ownPrimary_117 rfl (G.sk 23 rfl) (by decide) rfl ?_
          have hpx_388 : μ374.1 26 11 = 0 → PXE μ μ374 P tt 0 (-1) 1 := fun h0 => (hnil (by have h9 : μ.1 26 11 = μ.1 26 11 := rfl; have h8 : μ374.1 26 11 = μ.1 26 11 := hs_381; omega)).fr (K := [26]) (Fr.tr Fr.rf F_376 (by decide)) (npL_p (L := [26]) (by decide) hprP).1 (npL_p (L := [26]) (by decide) hprP).2.1
          refine xc_vV G (b := 26) (rest := []) (As := []) (c_X10_stop ω l μ374  hI_377) (wm 3 173 rfl rfl) (wm 3 174 rfl rfl) (wm 3 175 rfl rfl) rfl rfl (by decide) rfl (wm 1 13 rfl rfl) (wm 3 176 rfl rfl) (by decide) hR ⟨nfr hF (by decide), nlo hLo (by decide)⟩ (n := 0) rfl rfl (Nat.le_of_ble_eq_true rfl) hl.1 dX7_ownPrimary_120 (fun μ389 ρ d0 H locs hp G => ?_)
          obtain ⟨F_390, hI_391, hp_392, hp_393, hs_394, hs_395, hs_396, hs_397, hs_398, hs_399, hs_400⟩ := hp
          have htk_401 : TK μ389 := TK.st hp_378 F_390 hp_392 hp_393 (((hs_394.trans hs_382)).trans (hs_382).symm) hs_398 hs_399
          have hpx_402 : μ389.1 26 11 = 0 → PXE μ μ389 P tt 0 (-1) 1 := fun h0 => (hpx_388 (by have h9 : μ374.1 26 11 = μ.1 26 11 := hs_381; have h8 : μ389.1 26 11 = μ389.1 26 11 := rfl; omega)).fr (K := [26]) (Fr.tr Fr.rf F_390 (by decide)) (npL_p (L := [26]) (by decide) hprP).1 (npL_p (L := [26]) (by decide) hprP).2.1
          have e_403 : μ389.1 26 10 = μ374.1 26 10 := hs_398
          have e_404 : μ389.1 P 1 = μ.1 P 1 := ((F_390.1 P (ni hprP (fun P => P) (fun P => [26]) rfl) 1).trans (F_376.1 P (ni hprP (fun P => P) (fun P => [26]) rfl) 1))
          have e_405 : μ389.1 P 1 = μ.1 P 1 := ((F_390.1 P (ni hprP (fun P => P) (fun P => [26]) rfl) 1).trans (F_376.1 P (ni hprP (fun P => P) (fun P => [26]) rfl) 1))
          have e_406 : μ389.1 26 10 = μ374.1 26 10 := hs_398
          have e_407 : μ389.1 (P + 2) 3 = μ.1 (P + 2) 3 := ((F_390.1 (P + 2) (ni hprP (fun P => P + 2) (fun P => [26]) rfl) 3).trans (F_376.1 (P + 2) (ni hprP (fun P => P + 2) (fun P => [26]) rfl) 3))
          have e_408 : μ389.1 P 1 = μ.1 P 1 := ((F_390.1 P (ni hprP (fun P => P) (fun P => [26]) rfl) 1).trans (F_376.1 P (ni hprP (fun P => P) (fun P => [26]) rfl) 1))
          have e_409 : μ389.1 (P + 2) 3 = μ.1 (P + 2) 3 := ((F_390.1 (P + 2) (ni hprP (fun P => P + 2) (fun P => [26]) rfl) 3).trans (F_376.1 (P + 2) (ni hprP (fun P => P + 2) (fun P => [26]) rfl) 3))
          exact xr_v G hret hlk dX7_ownPrimary_123 ⟨(Fr.tr (Fr.tr Fr.rf F_376 (si hprP (fun P => [26]) (fun P => [2, 3, 4, 23, 24, 26, P, P + 1, P + 2, (P + 2) + 1, (P + 2) + 2, (P + 2) + 3]) rfl)) F_390 (si hprP (fun P => [26]) (fun P => [2, 3, 4, 23, 24, 26, P, P + 1, P + 2, (P + 2) + 1, (P + 2) + 2, (P + 2) + 3]) rfl)), hI_391, htk_401, (by omega), (by omega), (by omega), (by omega), (fun h0 => (PXE.ex (hpx_402 h0)).e (by omega)), (((F_390.1 23 (by decide) 2).trans ((F_376.1 23 (by decide) 2).trans hP.symm))).trans hP, ((F_390.1 23 (by decide) 5).trans (F_376.1 23 (by decide) 5)), ((F_390.1 23 (by decide) 6).trans (F_376.1 23 (by decide) 6)), ((F_390.1 23 (by decide) 7).trans (F_376.1 23 (by decide) 7)), (((F_390.1 23 (by decide) 8).trans ((F_376.1 23 (by decide) 8).trans htt.symm))).trans htt, ((F_390.1 23 (by decide) 9).trans (F_376.1 23 (by decide) 9)), ((F_390.1 23 (by decide) 10).trans (F_376.1 23 (by decide) 10)), (hs_394.trans hs_382), ((F_390.1 P (ni hprP (fun P => P) (fun P => [26]) rfl) 7).trans (F_376.1 P (ni hprP (fun P => P) (fun P => [26]) rfl) 7))⟩
        · refine lv_aload_n hx hb dX7_ownPrimary_76 rfl (lv_at hl 0 rfl) ?_
          refine lv_sipush (v := iv 228) hx hb dX7_ownPrimary_77 rfl ?_
          have hpx_410 : μ374.1 26 11 = 0 → PXE μ μ374 P tt 0 (-1) 1 := fun h0 => (hnil (by have h9 : μ.1 26 11 = μ.1 26 11 := rfl; have h8 : μ374.1 26 11 = μ.1 26 11 := hs_381; omega)).fr (K := [26]) (Fr.tr Fr.rf F_376 (by decide)) (npL_p (L := [26]) (by decide) hprP).1 (npL_p (L := [26]) (by decide) hprP).2.1
          have e_411 : μ374.1 26 11 = μ.1 26 11 := hs_381
          refine xc_iV G (b := 23) (rest := []) (As := [.int (iv 228)]) (c_X7_took_b ω l μ374 228 (by unfold ir; omega) hI_377 hp_378 (by omega)) (wm 3 160 rfl rfl) (wm 3 162 rfl rfl) (wm 0 9 rfl rfl) rfl rfl (by decide) rfl (wm 1 12 rfl rfl) (wm 3 163 rfl rfl) (by decide) hR ⟨nfr hF (by decide), nlo hLo (by decide)⟩ (n := 1) rfl rfl (Nat.le_of_ble_eq_true rfl) hl.1 dX7_ownPrimary_80 (fun r_413 μ412 ρ d0 H locs hr_r_413 hp G => ?_)
          have hr_r_413 : -2147483648 ≤ r_413 ∧ r_413 ≤ 2147483647 := hr_r_413
          obtain ⟨F_414, hI_415, hp_416, hp_417, hp_418, hs_419, hs_420, hs_421, hs_422, hs_423⟩ := hp
          have hn_424 : -1 ≤ μ412.1 26 10 ∧ μ412.1 26 10 ≤ 3000 := hI_415.nm.2.2.2.2.2.2.2.2.2.2.2.2
          have htb_425 := hp_416.b
          refine xb_if_eq (tgt := 116) hx hb (by unfold ir; omega) dX7_ownPrimary_83 (by decide) (fun c_83 => ?_) (fun c_83 => ?_)
          · refine lv_aload_n hx hb dX7_ownPrimary_116 rfl (lv_at hl 0 rfl) ?_
            refine xa_getr G fd_X7 (a := 23) (x := 26) 0 rfl (by decide) rfl (wm 2 17 rfl rfl) ⟨rfl, rfl, rfl⟩ dX7_ownPrimary_117 rfl (G.sk 23 rfl) (by decide) rfl ?_
            have hpx_426 : μ412.1 26 11 = 0 → PXE μ μ412 P tt 0 (-1) 1 := fun h0 => (hpx_410 (by have h9 : μ374.1 26 11 = μ.1 26 11 := hs_381; have h8 : μ412.1 26 11 = μ.1 26 11 := (hs_419.trans hs_381); omega)).fr (K := [26]) (Fr.tr Fr.rf F_414 (by decide)) (npL_p (L := [26]) (by decide) hprP).1 (npL_p (L := [26]) (by decide) hprP).2.1
            refine xc_vV G (b := 26) (rest := []) (As := []) (c_X10_stop ω l μ412  hI_415) (wm 3 173 rfl rfl) (wm 3 174 rfl rfl) (wm 3 175 rfl rfl) rfl rfl (by decide) rfl (wm 1 13 rfl rfl) (wm 3 176 rfl rfl) (by decide) hR ⟨nfr hF (by decide), nlo hLo (by decide)⟩ (n := 0) rfl rfl (Nat.le_of_ble_eq_true rfl) hl.1 dX7_ownPrimary_120 (fun μ427 ρ d0 H locs hp G => ?_)
            obtain ⟨F_428, hI_429, hp_430, hp_431, hs_432, hs_433, hs_434, hs_435, hs_436, hs_437, hs_438⟩ := hp
            have htk_439 : TK μ427 := TK.st hp_416 F_428 hp_430 hp_431 (((hs_432.trans (hs_420.trans hs_382))).trans ((hs_420.trans hs_382)).symm) hs_436 hs_437
            have hpx_440 : μ427.1 26 11 = 0 → PXE μ μ427 P tt 0 (-1) 1 := fun h0 => (hpx_426 (by have h9 : μ412.1 26 11 = μ.1 26 11 := (hs_419.trans hs_381); have h8 : μ427.1 26 11 = μ427.1 26 11 := rfl; omega)).fr (K := [26]) (Fr.tr Fr.rf F_428 (by decide)) (npL_p (L := [26]) (by decide) hprP).1 (npL_p (L := [26]) (by decide) hprP).2.1
            have e_441 : μ427.1 26 10 = μ412.1 26 10 := hs_436
            have e_442 : μ427.1 P 1 = μ.1 P 1 := ((F_428.1 P (ni hprP (fun P => P) (fun P => [26]) rfl) 1).trans ((F_414.1 P (ni hprP (fun P => P) (fun P => [26]) rfl) 1).trans (F_376.1 P (ni hprP (fun P => P) (fun P => [26]) rfl) 1)))
            have e_443 : μ427.1 P 1 = μ.1 P 1 := ((F_428.1 P (ni hprP (fun P => P) (fun P => [26]) rfl) 1).trans ((F_414.1 P (ni hprP (fun P => P) (fun P => [26]) rfl) 1).trans (F_376.1 P (ni hprP (fun P => P) (fun P => [26]) rfl) 1)))
            have e_444 : μ427.1 26 10 = μ412.1 26 10 := hs_436
            have e_445 : μ427.1 (P + 2) 3 = μ.1 (P + 2) 3 := ((F_428.1 (P + 2) (ni hprP (fun P => P + 2) (fun P => [26]) rfl) 3).trans ((F_414.1 (P + 2) (ni hprP (fun P => P + 2) (fun P => [26]) rfl) 3).trans (F_376.1 (P + 2) (ni hprP (fun P => P + 2) (fun P => [26]) rfl) 3)))
            have e_446 : μ427.1 P 1 = μ.1 P 1 := ((F_428.1 P (ni hprP (fun P => P) (fun P => [26]) rfl) 1).trans ((F_414.1 P (ni hprP (fun P => P) (fun P => [26]) rfl) 1).trans (F_376.1 P (ni hprP (fun P => P) (fun P => [26]) rfl) 1)))
            have e_447 : μ427.1 (P + 2) 3 = μ.1 (P + 2) 3 := ((F_428.1 (P + 2) (ni hprP (fun P => P + 2) (fun P => [26]) rfl) 3).trans ((F_414.1 (P + 2) (ni hprP (fun P => P + 2) (fun P => [26]) rfl) 3).trans (F_376.1 (P + 2) (ni hprP (fun P => P + 2) (fun P => [26]) rfl) 3)))
            exact xr_v G hret hlk dX7_ownPrimary_123 ⟨(Fr.tr (Fr.tr (Fr.tr Fr.rf F_376 (si hprP (fun P => [26]) (fun P => [2, 3, 4, 23, 24, 26, P, P + 1, P + 2, (P + 2) + 1, (P + 2) + 2, (P + 2) + 3]) rfl)) F_414 (si hprP (fun P => [26]) (fun P => [2, 3, 4, 23, 24, 26, P, P + 1, P + 2, (P + 2) + 1, (P + 2) + 2, (P + 2) + 3]) rfl)) F_428 (si hprP (fun P => [26]) (fun P => [2, 3, 4, 23, 24, 26, P, P + 1, P + 2, (P + 2) + 1, (P + 2) + 2, (P + 2) + 3]) rfl)), hI_429, htk_439, (by omega), (by omega), (by omega), (by omega), (fun h0 => (PXE.ex (hpx_440 h0)).e (by omega)), (((F_428.1 23 (by decide) 2).trans ((F_414.1 23 (by decide) 2).trans ((F_376.1 23 (by decide) 2).trans hP.symm)))).trans hP, ((F_428.1 23 (by decide) 5).trans ((F_414.1 23 (by decide) 5).trans (F_376.1 23 (by decide) 5))), ((F_428.1 23 (by decide) 6).trans ((F_414.1 23 (by decide) 6).trans (F_376.1 23 (by decide) 6))), ((F_428.1 23 (by decide) 7).trans ((F_414.1 23 (by decide) 7).trans (F_376.1 23 (by decide) 7))), (((F_428.1 23 (by decide) 8).trans ((F_414.1 23 (by decide) 8).trans ((F_376.1 23 (by decide) 8).trans htt.symm)))).trans htt, ((F_428.1 23 (by decide) 9).trans ((F_414.1 23 (by decide) 9).trans (F_376.1 23 (by decide) 9))), ((F_428.1 23 (by decide) 10).trans ((F_414.1 23 (by decide) 10).trans (F_376.1 23 (by decide) 10))), (hs_432.trans (hs_420.trans hs_382)), ((F_428.1 P (ni hprP (fun P => P) (fun P => [26]) rfl) 7).trans ((F_414.1 P (ni hprP (fun P => P) (fun P => [26]) rfl) 7).trans (F_376.1 P (ni hprP (fun P => P) (fun P => [26]) rfl) 7)))⟩
          · refine lv_aload_n hx hb dX7_ownPrimary_86 rfl (lv_at hl 0 rfl) ?_
            have hpx_448 : μ412.1 26 11 = 0 → PXE μ μ412 P tt 0 (-1) 1 := fun h0 => (hpx_410 (by have h9 : μ374.1 26 11 = μ.1 26 11 := hs_381; have h8 : μ412.1 26 11 = μ.1 26 11 := (hs_419.trans hs_381); omega)).fr (K := [26]) (Fr.tr Fr.rf F_414 (by decide)) (npL_p (L := [26]) (by decide) hprP).1 (npL_p (L := [26]) (by decide) hprP).2.1
            have e_449 : μ412.1 26 11 = μ.1 26 11 := (hs_419.trans hs_381)
            refine xc_iV G (b := 23) (rest := []) (As := []) (c_X7_nameOfFailing ω l μ412  hI_415 hp_416) (wm 4 112 rfl rfl) (wm 4 114 rfl rfl) (wm 0 44 rfl rfl) rfl rfl (by decide) rfl (wm 1 12 rfl rfl) (wm 4 115 rfl rfl) (by decide) hR ⟨nfr hF (by decide), nlo hLo (by decide)⟩ (n := 0) rfl rfl (Nat.le_of_ble_eq_true rfl) hl.1 dX7_ownPrimary_87 (fun r_451 μ450 ρ d0 H locs hr_r_451 hp G => ?_)
            have hr_r_451 : -2147483648 ≤ r_451 ∧ r_451 ≤ 2147483647 := hr_r_451
            obtain ⟨F_452, hI_453, hp_454, hp_455, hp_456, hs_457, hs_458, hs_459, hs_460, hs_461⟩ := hp
            have hn_462 : -1 ≤ μ450.1 26 10 ∧ μ450.1 26 10 ≤ 3000 := hI_453.nm.2.2.2.2.2.2.2.2.2.2.2.2
            have htb_463 := hp_454.b
            refine lv_istore_n (lv' := [(1, .int (iv r_451)), (0, .ref (oP ω 23))]) hx hb dX7_ownPrimary_90 rfl hl (by decide) rfl (fun ls hl => ?_)
            refine lv_aload_n hx hb dX7_ownPrimary_91 rfl (lv_at hl 1 rfl) ?_
            refine lv_bipush (v := iv 40) hx hb dX7_ownPrimary_92 rfl ?_
            refine lv_bipush (v := iv 41) hx hb dX7_ownPrimary_94 rfl ?_
            have hpx_464 : μ450.1 26 11 = 0 → PXE μ μ450 P tt 0 (-1) 1 := fun h0 => (hpx_448 (by have h9 : μ412.1 26 11 = μ.1 26 11 := (hs_419.trans hs_381); have h8 : μ450.1 26 11 = μ450.1 26 11 := rfl; omega)).fr (K := [26, 2, 3, 4, 24]) (Fr.tr Fr.rf F_452 (by decide)) (npL_p (L := [26, 2, 3, 4, 24]) (by decide) hprP).1 (npL_p (L := [26, 2, 3, 4, 24]) (by decide) hprP).2.1
            have e_465 : μ450.1 23 2 = P := ((F_452.1 23 (by decide) 2).trans ((F_414.1 23 (by decide) 2).trans ((F_376.1 23 (by decide) 2).trans hP.symm)))
            have e_466 : μ450.1 23 8 = tt := ((F_452.1 23 (by decide) 8).trans ((F_414.1 23 (by decide) 8).trans ((F_376.1 23 (by decide) 8).trans htt.symm)))
            have e_467 : μ450.1 P 1 = μ.1 P 1 := ((F_452.1 P (ni hprP (fun P => P) (fun P => [26, 2, 3, 4, 24]) rfl) 1).trans ((F_414.1 P (ni hprP (fun P => P) (fun P => [26]) rfl) 1).trans (F_376.1 P (ni hprP (fun P => P) (fun P => [26]) rfl) 1)))
            have hk_468 := hI.row (r := P + 2) (hprP.row)
            unfold rk at hk_468
            have e_469 : μ450.1 (P + 2) 3 = μ.1 (P + 2) 3 := ((F_452.1 (P + 2) (ni hprP (fun P => P + 2) (fun P => [26, 2, 3, 4, 24]) rfl) 3).trans ((F_414.1 (P + 2) (ni hprP (fun P => P + 2) (fun P => [26]) rfl) 3).trans (F_376.1 (P + 2) (ni hprP (fun P => P + 2) (fun P => [26]) rfl) 3)))
            have e_470 : μ450.1 P 1 = μ.1 P 1 := ((F_452.1 P (ni hprP (fun P => P) (fun P => [26, 2, 3, 4, 24]) rfl) 1).trans ((F_414.1 P (ni hprP (fun P => P) (fun P => [26]) rfl) 1).trans (F_376.1 P (ni hprP (fun P => P) (fun P => [26]) rfl) 1)))
            have e_471 : μ450.1 23 9 = μ.1 23 9 := ((F_452.1 23 (by decide) 9).trans ((F_414.1 23 (by decide) 9).trans (F_376.1 23 (by decide) 9)))
            have e_472 : μ450.1 23 9 = μ.1 23 9 := ((F_452.1 23 (by decide) 9).trans ((F_414.1 23 (by decide) 9).trans (F_376.1 23 (by decide) 9)))
            have e_473 : μ450.1 23 9 = μ.1 23 9 := ((F_452.1 23 (by decide) 9).trans ((F_414.1 23 (by decide) 9).trans (F_376.1 23 (by decide) 9)))
            have e_474 : μ450.1 P 1 = μ.1 P 1 := ((F_452.1 P (ni hprP (fun P => P) (fun P => [26, 2, 3, 4, 24]) rfl) 1).trans ((F_414.1 P (ni hprP (fun P => P) (fun P => [26]) rfl) 1).trans (F_376.1 P (ni hprP (fun P => P) (fun P => [26]) rfl) 1)))
            have e_475 : μ450.1 P 1 = μ.1 P 1 := ((F_452.1 P (ni hprP (fun P => P) (fun P => [26, 2, 3, 4, 24]) rfl) 1).trans ((F_414.1 P (ni hprP (fun P => P) (fun P => [26]) rfl) 1).trans (F_376.1 P (ni hprP (fun P => P) (fun P => [26]) rfl) 1)))
            have e_476 : μ450.1 (P + 2) 3 = μ.1 (P + 2) 3 := ((F_452.1 (P + 2) (ni hprP (fun P => P + 2) (fun P => [26, 2, 3, 4, 24]) rfl) 3).trans ((F_414.1 (P + 2) (ni hprP (fun P => P + 2) (fun P => [26]) rfl) 3).trans (F_376.1 (P + 2) (ni hprP (fun P => P + 2) (fun P => [26]) rfl) 3)))
            have e_477 : μ450.1 P 1 = μ.1 P 1 := ((F_452.1 P (ni hprP (fun P => P) (fun P => [26, 2, 3, 4, 24]) rfl) 1).trans ((F_414.1 P (ni hprP (fun P => P) (fun P => [26]) rfl) 1).trans (F_376.1 P (ni hprP (fun P => P) (fun P => [26]) rfl) 1)))
            have e_478 : μ450.1 (P + 2) 3 = μ.1 (P + 2) 3 := ((F_452.1 (P + 2) (ni hprP (fun P => P + 2) (fun P => [26, 2, 3, 4, 24]) rfl) 3).trans ((F_414.1 (P + 2) (ni hprP (fun P => P + 2) (fun P => [26]) rfl) 3).trans (F_376.1 (P + 2) (ni hprP (fun P => P + 2) (fun P => [26]) rfl) 3)))
            refine xc_vV G (b := 23) (rest := []) (As := [.int (iv 40), .int (iv 41)]) (c_X7_inBrackets ω l μ450 40 41 F Lo Fu Lu kf P tt (by unfold ir; omega) (by unfold ir; omega) hI_453 (by omega) (by omega) hF hLo hFu hLu hE hU hp_454 (by omega) (by omega) (by omega) (by omega) (by omega) (by omega) (by omega)) (wm 4 92 rfl rfl) (wm 4 94 rfl rfl) (wm 0 39 rfl rfl) rfl rfl (by decide) rfl (wm 1 12 rfl rfl) (wm 4 95 rfl rfl) (by decide) hR ⟨sfr (F := F) (a := 1) (by decide), slo (L := Lo) (m := 3) (a := 22) (by decide)⟩ (n := 2) rfl rfl (Nat.le_of_ble_eq_true rfl) hl.1 dX7_ownPrimary_96 (fun μ479 ρ d0 H locs hp G => ?_)
            obtain ⟨F_480, hI_481, hp_482, hp_483, hp_484, hp_485, hp_486, hp_487, hs_488, hs_489, hs_490, hs_491, hs_492, hs_493, hs_494, hs_495, hs_496⟩ := hp
            have hn_497 : -1 ≤ μ479.1 26 10 ∧ μ479.1 26 10 ≤ 3000 := hI_481.nm.2.2.2.2.2.2.2.2.2.2.2.2
            have hk_498 := hI_481.pr (p := P) hprP
            unfold pk at hk_498
            have hc_499 : 16 ≤ μ479.2.1 (P + 1) ∧ μ479.2.1 (P + 1) ≤ 73024 := hI_481.rm.1 _ hprP.cap
            have hk_500 := hI_481.row (r := P + 2) (hprP.row)
            unfold rk at hk_500
            have htb_501 := hp_482.b
            have hpx_502 : μ479.1 26 11 = 0 → PXE μ μ479 P tt 1 (-1) 1 := fun h0 => (PXE.app (hpx_464 (by have h9 : μ450.1 26 11 = μ450.1 26 11 := rfl; have h8 : μ479.1 26 11 = μ479.1 26 11 := rfl; omega)) (hp_487 h0)).e (by omega)
            refine lv_aload_n hx hb dX7_ownPrimary_99 rfl (lv_at hl 1 rfl) ?_
            refine lv_bipush (v := iv 17) hx hb dX7_ownPrimary_100 rfl ?_
            refine lv_iload_n hx hb dX7_ownPrimary_102 rfl (lv_at hl 0 rfl) ?_
            refine lv_iconst (v := iv 0) hx hb dX7_ownPrimary_103 rfl ?_
            refine lv_aload_n hx hb dX7_ownPrimary_104 rfl (lv_at hl 1 rfl) ?_
            refine lv_iconst (v := iv (-1)) hx hb dX7_ownPrimary_105 rfl ?_
            refine lv_iconst (v := iv 0) hx hb dX7_ownPrimary_106 rfl ?_
            have e_503 : μ479.1 23 2 = P := (hs_488.trans ((F_452.1 23 (by decide) 2).trans ((F_414.1 23 (by decide) 2).trans ((F_376.1 23 (by decide) 2).trans hP.symm))))
            have e_504 : μ479.1 23 8 = tt := (hs_492.trans ((F_452.1 23 (by decide) 8).trans ((F_414.1 23 (by decide) 8).trans ((F_376.1 23 (by decide) 8).trans htt.symm))))
            refine xc_iV G (b := 23) (rest := [.int (iv 0), .int (iv r_451), .int (iv 17), .ref (oP ω 23)]) (As := [.int (iv (-1)), .int (iv 0)]) (c_X7_ifFails ω l μ479 (-1) 0 μ (1) (1) P tt (by unfold ir; omega) (by unfold ir; omega) hI_481 (by omega) (by omega) (by omega) hpx_502 (by omega) (by omega)) (wm 4 23 rfl rfl) (wm 4 25 rfl rfl) (wm 0 29 rfl rfl) rfl rfl (by decide) rfl (wm 1 12 rfl rfl) (wm 4 26 rfl rfl) (by decide) hR ⟨nfr hF (by decide), nlo hLo (by decide)⟩ (n := 2) rfl rfl (Nat.le_of_ble_eq_true rfl) hl.1 dX7_ownPrimary_107 (fun r_506 μ505 ρ d0 H locs hr_r_506 hp G => ?_)
            have hr_r_506 : -2147483648 ≤ r_506 ∧ r_506 ≤ 2147483647 := hr_r_506
            obtain ⟨F_507, hI_508, hp_509, hp_510, hs_511⟩ := hp
            have hk_512 := hI_508.pr (p := P) hprP
            unfold pk at hk_512
            have hc_513 : 16 ≤ μ505.2.1 (P + 1) ∧ μ505.2.1 (P + 1) ≤ 73024 := hI_508.rm.1 _ hprP.cap
            have hpx_514 : μ505.1 26 11 = 0 → PXE μ μ505 P tt 1 r_506 1 := fun h0 => hp_509 (by have h9 : μ479.1 26 11 = μ479.1 26 11 := rfl; have h8 : μ505.1 26 11 = μ479.1 26 11 := (F_507.1 26 (ni hprP (fun P => 26) (fun P => [P, P + 1]) rfl) 11); omega)
            clear hp_509
            have e_515 : μ505.1 23 2 = P := ((F_507.1 23 (ni hprP (fun P => 23) (fun P => [P, P + 1]) rfl) 2).trans (hs_488.trans ((F_452.1 23 (by decide) 2).trans ((F_414.1 23 (by decide) 2).trans ((F_376.1 23 (by decide) 2).trans hP.symm)))))
            have e_516 : μ505.1 23 8 = tt := ((F_507.1 23 (ni hprP (fun P => 23) (fun P => [P, P + 1]) rfl) 8).trans (hs_492.trans ((F_452.1 23 (by decide) 8).trans ((F_414.1 23 (by decide) 8).trans ((F_376.1 23 (by decide) 8).trans htt.symm)))))
            refine xc_vV G (b := 23) (rest := []) (As := [.int (iv 17), .int (iv r_451), .int (iv 0), .int (iv r_506)]) (c_X7_endOfParts ω l μ505 17 r_451 0 r_506 μ (1) (1) P tt (by unfold ir; omega) (by unfold ir; omega) (by unfold ir; omega) (by unfold ir; omega) hI_508 (by omega) (by omega) (by omega) hpx_514 (Or.inl (by unfold plain; omega)) (by omega) (by rw [show eff 17 r_451 = 0 from rfl]; omega)) (wm 4 27 rfl rfl) (wm 4 29 rfl rfl) (wm 0 30 rfl rfl) rfl rfl (by decide) rfl (wm 1 12 rfl rfl) (wm 4 30 rfl rfl) (by decide) hR ⟨nfr hF (by decide), nlo hLo (by decide)⟩ (n := 4) rfl rfl (Nat.le_of_ble_eq_true rfl) hl.1 dX7_ownPrimary_110 (fun μ517 ρ d0 H locs hp G => ?_)
            obtain ⟨F_518, hI_519, hp_520, hs_521, hs_522⟩ := hp
            have hpx_523 : μ517.1 26 11 = 0 → PXE μ μ517 P tt 1 (-1) 1 := fun h0 => PXE.of (hp_520 (by have h9 : μ505.1 26 11 = μ479.1 26 11 := (F_507.1 26 (ni hprP (fun P => 26) (fun P => [P, P + 1]) rfl) 11); have h8 : μ517.1 26 11 = μ479.1 26 11 := ((F_518.1 26 (ni hprP (fun P => 26) (fun P => [P, P + 1]) rfl) 11).trans (F_507.1 26 (ni hprP (fun P => 26) (fun P => [P, P + 1]) rfl) 11)); omega))
            clear hp_520
            refine lv_goto (tgt := 123) hx hb dX7_ownPrimary_113 (by decide) ?_
            have htk_524 : TK μ517 := hp_482.fr (K := [P, P + 1]) (Fr.tr (Fr.tr Fr.rf F_507 (si hprP (fun P => [P, P + 1]) (fun P => [P, P + 1]) rfl)) F_518 (si hprP (fun P => [P, P + 1]) (fun P => [P, P + 1]) rfl)) (ni hprP (fun P => 26) (fun P => [P, P + 1]) rfl) (ni hprP (fun P => 28) (fun P => [P, P + 1]) rfl) (ni hprP (fun P => 29) (fun P => [P, P + 1]) rfl)
            have e_525 : μ517.1 26 11 = μ479.1 26 11 := ((F_518.1 26 (ni hprP (fun P => 26) (fun P => [P, P + 1]) rfl) 11).trans (F_507.1 26 (ni hprP (fun P => 26) (fun P => [P, P + 1]) rfl) 11))
            have e_526 : μ517.1 26 11 = μ479.1 26 11 := ((F_518.1 26 (ni hprP (fun P => 26) (fun P => [P, P + 1]) rfl) 11).trans (F_507.1 26 (ni hprP (fun P => 26) (fun P => [P, P + 1]) rfl) 11))
            have e_527 : μ517.1 26 10 = μ479.1 26 10 := ((F_518.1 26 (ni hprP (fun P => 26) (fun P => [P, P + 1]) rfl) 10).trans (F_507.1 26 (ni hprP (fun P => 26) (fun P => [P, P + 1]) rfl) 10))
            have e_528 : μ517.1 P 1 = μ505.1 P 1 + 1 := hs_521
            have e_529 : μ517.1 P 1 = μ505.1 P 1 + 1 := hs_521
            have e_530 : μ517.1 26 10 = μ479.1 26 10 := ((F_518.1 26 (ni hprP (fun P => 26) (fun P => [P, P + 1]) rfl) 10).trans (F_507.1 26 (ni hprP (fun P => 26) (fun P => [P, P + 1]) rfl) 10))
            have e_531 : μ517.1 26 11 = μ479.1 26 11 := ((F_518.1 26 (ni hprP (fun P => 26) (fun P => [P, P + 1]) rfl) 11).trans (F_507.1 26 (ni hprP (fun P => 26) (fun P => [P, P + 1]) rfl) 11))
            have e_532 : μ517.1 (P + 2) 3 = μ479.1 (P + 2) 3 := ((F_518.1 (P + 2) (ni hprP (fun P => P + 2) (fun P => [P, P + 1]) rfl) 3).trans (F_507.1 (P + 2) (ni hprP (fun P => P + 2) (fun P => [P, P + 1]) rfl) 3))
            have e_533 : μ517.1 P 1 = μ505.1 P 1 + 1 := hs_521
            have e_534 : μ517.1 (P + 2) 3 = μ479.1 (P + 2) 3 := ((F_518.1 (P + 2) (ni hprP (fun P => P + 2) (fun P => [P, P + 1]) rfl) 3).trans (F_507.1 (P + 2) (ni hprP (fun P => P + 2) (fun P => [P, P + 1]) rfl) 3))
            exact xr_v G hret hlk dX7_ownPrimary_123 ⟨(Fr.tr (Fr.tr (Fr.tr (Fr.tr (Fr.tr (Fr.tr Fr.rf F_376 (si hprP (fun P => [26]) (fun P => [2, 3, 4, 23, 24, 26, P, P + 1, P + 2, (P + 2) + 1, (P + 2) + 2, (P + 2) + 3]) rfl)) F_414 (si hprP (fun P => [26]) (fun P => [2, 3, 4, 23, 24, 26, P, P + 1, P + 2, (P + 2) + 1, (P + 2) + 2, (P + 2) + 3]) rfl)) F_452 (si hprP (fun P => [26, 2, 3, 4, 24]) (fun P => [2, 3, 4, 23, 24, 26, P, P + 1, P + 2, (P + 2) + 1, (P + 2) + 2, (P + 2) + 3]) rfl)) F_480 (si hprP (fun P => [2, 3, 4, 23, 24, 26, P, P + 1, P + 2, (P + 2) + 1, (P + 2) + 2, (P + 2) + 3]) (fun P => [2, 3, 4, 23, 24, 26, P, P + 1, P + 2, (P + 2) + 1, (P + 2) + 2, (P + 2) + 3]) rfl)) F_507 (si hprP (fun P => [P, P + 1]) (fun P => [2, 3, 4, 23, 24, 26, P, P + 1, P + 2, (P + 2) + 1, (P + 2) + 2, (P + 2) + 3]) rfl)) F_518 (si hprP (fun P => [P, P + 1]) (fun P => [2, 3, 4, 23, 24, 26, P, P + 1, P + 2, (P + 2) + 1, (P + 2) + 2, (P + 2) + 3]) rfl)), hI_519, htk_524, (by omega), (by omega), (by omega), (by omega), (fun h0 => (PXE.ex (hpx_523 h0)).e (by omega)), (((F_518.1 23 (ni hprP (fun P => 23) (fun P => [P, P + 1]) rfl) 2).trans ((F_507.1 23 (ni hprP (fun P => 23) (fun P => [P, P + 1]) rfl) 2).trans (hs_488.trans ((F_452.1 23 (by decide) 2).trans ((F_414.1 23 (by decide) 2).trans ((F_376.1 23 (by decide) 2).trans hP.symm))))))).trans hP, ((F_518.1 23 (ni hprP (fun P => 23) (fun P => [P, P + 1]) rfl) 5).trans ((F_507.1 23 (ni hprP (fun P => 23) (fun P => [P, P + 1]) rfl) 5).trans (hs_489.trans ((F_452.1 23 (by decide) 5).trans ((F_414.1 23 (by decide) 5).trans (F_376.1 23 (by decide) 5)))))), ((F_518.1 23 (ni hprP (fun P => 23) (fun P => [P, P + 1]) rfl) 6).trans ((F_507.1 23 (ni hprP (fun P => 23) (fun P => [P, P + 1]) rfl) 6).trans (hs_490.trans ((F_452.1 23 (by decide) 6).trans ((F_414.1 23 (by decide) 6).trans (F_376.1 23 (by decide) 6)))))), ((F_518.1 23 (ni hprP (fun P => 23) (fun P => [P, P + 1]) rfl) 7).trans ((F_507.1 23 (ni hprP (fun P => 23) (fun P => [P, P + 1]) rfl) 7).trans (hs_491.trans ((F_452.1 23 (by decide) 7).trans ((F_414.1 23 (by decide) 7).trans (F_376.1 23 (by decide) 7)))))), (((F_518.1 23 (ni hprP (fun P => 23) (fun P => [P, P + 1]) rfl) 8).trans ((F_507.1 23 (ni hprP (fun P => 23) (fun P => [P, P + 1]) rfl) 8).trans (hs_492.trans ((F_452.1 23 (by decide) 8).trans ((F_414.1 23 (by decide) 8).trans ((F_376.1 23 (by decide) 8).trans htt.symm))))))).trans htt, ((F_518.1 23 (ni hprP (fun P => 23) (fun P => [P, P + 1]) rfl) 9).trans ((F_507.1 23 (ni hprP (fun P => 23) (fun P => [P, P + 1]) rfl) 9).trans (hs_493.trans ((F_452.1 23 (by decide) 9).trans ((F_414.1 23 (by decide) 9).trans (F_376.1 23 (by decide) 9)))))), ((F_518.1 23 (ni hprP (fun P => 23) (fun P => [P, P + 1]) rfl) 10).trans ((F_507.1 23 (ni hprP (fun P => 23) (fun P => [P, P + 1]) rfl) 10).trans (hs_494.trans ((F_452.1 23 (by decide) 10).trans ((F_414.1 23 (by decide) 10).trans (F_376.1 23 (by decide) 10)))))), ((F_518.1 26 (ni hprP (fun P => 26) (fun P => [P, P + 1]) rfl) 6).trans ((F_507.1 26 (ni hprP (fun P => 26) (fun P => [P, P + 1]) rfl) 6).trans (hs_495.trans (hs_457.trans (hs_420.trans hs_382))))), (hs_522.trans (hs_511.trans (hs_496.trans ((F_452.1 P (ni hprP (fun P => P) (fun P => [26, 2, 3, 4, 24]) rfl) 7).trans ((F_414.1 P (ni hprP (fun P => P) (fun P => [26]) rfl) 7).trans (F_376.1 P (ni hprP (fun P => P) (fun P => [26]) rfl) 7))))))⟩
      · refine lv_aload_n hx hb dX7_ownPrimary_38 rfl (lv_at hl 0 rfl) ?_
        refine lv_sipush (v := iv 227) hx hb dX7_ownPrimary_39 rfl ?_
        have hpx_535 : μ374.1 26 11 = 0 → PXE μ μ374 P tt 0 (-1) 1 := fun h0 => (hnil (by have h9 : μ.1 26 11 = μ.1 26 11 := rfl; have h8 : μ374.1 26 11 = μ.1 26 11 := hs_381; omega)).fr (K := [26]) (Fr.tr Fr.rf F_376 (by decide)) (npL_p (L := [26]) (by decide) hprP).1 (npL_p (L := [26]) (by decide) hprP).2.1
        have e_536 : μ374.1 26 11 = μ.1 26 11 := hs_381
        refine xc_iV G (b := 23) (rest := []) (As := [.int (iv 227)]) (c_X7_took_b ω l μ374 227 (by unfold ir; omega) hI_377 hp_378 (by omega)) (wm 3 160 rfl rfl) (wm 3 162 rfl rfl) (wm 0 9 rfl rfl) rfl rfl (by decide) rfl (wm 1 12 rfl rfl) (wm 3 163 rfl rfl) (by decide) hR ⟨nfr hF (by decide), nlo hLo (by decide)⟩ (n := 1) rfl rfl (Nat.le_of_ble_eq_true rfl) hl.1 dX7_ownPrimary_42 (fun r_538 μ537 ρ d0 H locs hr_r_538 hp G => ?_)
        have hr_r_538 : -2147483648 ≤ r_538 ∧ r_538 ≤ 2147483647 := hr_r_538
        obtain ⟨F_539, hI_540, hp_541, hp_542, hp_543, hs_544, hs_545, hs_546, hs_547, hs_548⟩ := hp
        have hn_549 : -1 ≤ μ537.1 26 10 ∧ μ537.1 26 10 ≤ 3000 := hI_540.nm.2.2.2.2.2.2.2.2.2.2.2.2
        have htb_550 := hp_541.b
        refine xb_if_eq (tgt := 68) hx hb (by unfold ir; omega) dX7_ownPrimary_45 (by decide) (fun c_45 => ?_) (fun c_45 => ?_)
        · refine lv_aload_n hx hb dX7_ownPrimary_68 rfl (lv_at hl 0 rfl) ?_
          refine xa_geti G fd_X7 (a := 23) (x := tt) 8 rfl (by decide) rfl (wm 2 25 rfl rfl) ⟨rfl, rfl, rfl⟩ dX7_ownPrimary_69 rfl ((F_539.1 23 (by decide) 8).trans ((F_376.1 23 (by decide) 8).trans htt.symm)) ?_
          refine lv_iconst (v := iv 2) hx hb dX7_ownPrimary_72 rfl ?_
          refine xb_icmp_ne (tgt := 116) hx hb (by unfold ir; omega) (by unfold ir; omega) dX7_ownPrimary_73 (by decide) (fun c_73 => ?_) (fun c_73 => ?_)
          · refine lv_aload_n hx hb dX7_ownPrimary_116 rfl (lv_at hl 0 rfl) ?_
            refine xa_getr G fd_X7 (a := 23) (x := 26) 0 rfl (by decide) rfl (wm 2 17 rfl rfl) ⟨rfl, rfl, rfl⟩ dX7_ownPrimary_117 rfl (G.sk 23 rfl) (by decide) rfl ?_
            have hpx_551 : μ537.1 26 11 = 0 → PXE μ μ537 P tt 0 (-1) 1 := fun h0 => (hpx_535 (by have h9 : μ374.1 26 11 = μ.1 26 11 := hs_381; have h8 : μ537.1 26 11 = μ.1 26 11 := (hs_544.trans hs_381); omega)).fr (K := [26]) (Fr.tr Fr.rf F_539 (by decide)) (npL_p (L := [26]) (by decide) hprP).1 (npL_p (L := [26]) (by decide) hprP).2.1
            refine xc_vV G (b := 26) (rest := []) (As := []) (c_X10_stop ω l μ537  hI_540) (wm 3 173 rfl rfl) (wm 3 174 rfl rfl) (wm 3 175 rfl rfl) rfl rfl (by decide) rfl (wm 1 13 rfl rfl) (wm 3 176 rfl rfl) (by decide) hR ⟨nfr hF (by decide), nlo hLo (by decide)⟩ (n := 0) rfl rfl (Nat.le_of_ble_eq_true rfl) hl.1 dX7_ownPrimary_120 (fun μ552 ρ d0 H locs hp G => ?_)
            obtain ⟨F_553, hI_554, hp_555, hp_556, hs_557, hs_558, hs_559, hs_560, hs_561, hs_562, hs_563⟩ := hp
            have htk_564 : TK μ552 := TK.st hp_541 F_553 hp_555 hp_556 (((hs_557.trans (hs_545.trans hs_382))).trans ((hs_545.trans hs_382)).symm) hs_561 hs_562
            have hpx_565 : μ552.1 26 11 = 0 → PXE μ μ552 P tt 0 (-1) 1 := fun h0 => (hpx_551 (by have h9 : μ537.1 26 11 = μ.1 26 11 := (hs_544.trans hs_381); have h8 : μ552.1 26 11 = μ552.1 26 11 := rfl; omega)).fr (K := [26]) (Fr.tr Fr.rf F_553 (by decide)) (npL_p (L := [26]) (by decide) hprP).1 (npL_p (L := [26]) (by decide) hprP).2.1
            have e_566 : μ552.1 26 10 = μ537.1 26 10 := hs_561
            have e_567 : μ552.1 P 1 = μ.1 P 1 := ((F_553.1 P (ni hprP (fun P => P) (fun P => [26]) rfl) 1).trans ((F_539.1 P (ni hprP (fun P => P) (fun P => [26]) rfl) 1).trans (F_376.1 P (ni hprP (fun P => P) (fun P => [26]) rfl) 1)))
            have e_568 : μ552.1 P 1 = μ.1 P 1 := ((F_553.1 P (ni hprP (fun P => P) (fun P => [26]) rfl) 1).trans ((F_539.1 P (ni hprP (fun P => P) (fun P => [26]) rfl) 1).trans (F_376.1 P (ni hprP (fun P => P) (fun P => [26]) rfl) 1)))
            have e_569 : μ552.1 26 10 = μ537.1 26 10 := hs_561
            have e_570 : μ552.1 (P + 2) 3 = μ.1 (P + 2) 3 := ((F_553.1 (P + 2) (ni hprP (fun P => P + 2) (fun P => [26]) rfl) 3).trans ((F_539.1 (P + 2) (ni hprP (fun P => P + 2) (fun P => [26]) rfl) 3).trans (F_376.1 (P + 2) (ni hprP (fun P => P + 2) (fun P => [26]) rfl) 3)))
            have e_571 : μ552.1 P 1 = μ.1 P 1 := ((F_553.1 P (ni hprP (fun P => P) (fun P => [26]) rfl) 1).trans ((F_539.1 P (ni hprP (fun P => P) (fun P => [26]) rfl) 1).trans (F_376.1 P (ni hprP (fun P => P) (fun P => [26]) rfl) 1)))
            have e_572 : μ552.1 (P + 2) 3 = μ.1 (P + 2) 3 := ((F_553.1 (P + 2) (ni hprP (fun P => P + 2) (fun P => [26]) rfl) 3).trans ((F_539.1 (P + 2) (ni hprP (fun P => P + 2) (fun P => [26]) rfl) 3).trans (F_376.1 (P + 2) (ni hprP (fun P => P + 2) (fun P => [26]) rfl) 3)))
            exact xr_v G hret hlk dX7_ownPrimary_123 ⟨(Fr.tr (Fr.tr (Fr.tr Fr.rf F_376 (si hprP (fun P => [26]) (fun P => [2, 3, 4, 23, 24, 26, P, P + 1, P + 2, (P + 2) + 1, (P + 2) + 2, (P + 2) + 3]) rfl)) F_539 (si hprP (fun P => [26]) (fun P => [2, 3, 4, 23, 24, 26, P, P + 1, P + 2, (P + 2) + 1, (P + 2) + 2, (P + 2) + 3]) rfl)) F_553 (si hprP (fun P => [26]) (fun P => [2, 3, 4, 23, 24, 26, P, P + 1, P + 2, (P + 2) + 1, (P + 2) + 2, (P + 2) + 3]) rfl)), hI_554, htk_564, (by omega), (by omega), (by omega), (by omega), (fun h0 => (PXE.ex (hpx_565 h0)).e (by omega)), (((F_553.1 23 (by decide) 2).trans ((F_539.1 23 (by decide) 2).trans ((F_376.1 23 (by decide) 2).trans hP.symm)))).trans hP, ((F_553.1 23 (by decide) 5).trans ((F_539.1 23 (by decide) 5).trans (F_376.1 23 (by decide) 5))), ((F_553.1 23 (by decide) 6).trans ((F_539.1 23 (by decide) 6).trans (F_376.1 23 (by decide) 6))), ((F_553.1 23 (by decide) 7).trans ((F_539.1 23 (by decide) 7).trans (F_376.1 23 (by decide) 7))), (((F_553.1 23 (by decide) 8).trans ((F_539.1 23 (by decide) 8).trans ((F_376.1 23 (by decide) 8).trans htt.symm)))).trans htt, ((F_553.1 23 (by decide) 9).trans ((F_539.1 23 (by decide) 9).trans (F_376.1 23 (by decide) 9))), ((F_553.1 23 (by decide) 10).trans ((F_539.1 23 (by decide) 10).trans (F_376.1 23 (by decide) 10))), (hs_557.trans (hs_545.trans hs_382)), ((F_553.1 P (ni hprP (fun P => P) (fun P => [26]) rfl) 7).trans ((F_539.1 P (ni hprP (fun P => P) (fun P => [26]) rfl) 7).trans (F_376.1 P (ni hprP (fun P => P) (fun P => [26]) rfl) 7)))⟩
          · refine lv_aload_n hx hb dX7_ownPrimary_76 rfl (lv_at hl 0 rfl) ?_
            refine lv_sipush (v := iv 228) hx hb dX7_ownPrimary_77 rfl ?_
            have hpx_573 : μ537.1 26 11 = 0 → PXE μ μ537 P tt 0 (-1) 1 := fun h0 => (hpx_535 (by have h9 : μ374.1 26 11 = μ.1 26 11 := hs_381; have h8 : μ537.1 26 11 = μ.1 26 11 := (hs_544.trans hs_381); omega)).fr (K := [26]) (Fr.tr Fr.rf F_539 (by decide)) (npL_p (L := [26]) (by decide) hprP).1 (npL_p (L := [26]) (by decide) hprP).2.1
            have e_574 : μ537.1 26 11 = μ.1 26 11 := (hs_544.trans hs_381)
            refine xc_iV G (b := 23) (rest := []) (As := [.int (iv 228)]) (c_X7_took_b ω l μ537 228 (by unfold ir; omega) hI_540 hp_541 (by omega)) (wm 3 160 rfl rfl) (wm 3 162 rfl rfl) (wm 0 9 rfl rfl) rfl rfl (by decide) rfl (wm 1 12 rfl rfl) (wm 3 163 rfl rfl) (by decide) hR ⟨nfr hF (by decide), nlo hLo (by decide)⟩ (n := 1) rfl rfl (Nat.le_of_ble_eq_true rfl) hl.1 dX7_ownPrimary_80 (fun r_576 μ575 ρ d0 H locs hr_r_576 hp G => ?_)
            have hr_r_576 : -2147483648 ≤ r_576 ∧ r_576 ≤ 2147483647 := hr_r_576
            obtain ⟨F_577, hI_578, hp_579, hp_580, hp_581, hs_582, hs_583, hs_584, hs_585, hs_586⟩ := hp
            have hn_587 : -1 ≤ μ575.1 26 10 ∧ μ575.1 26 10 ≤ 3000 := hI_578.nm.2.2.2.2.2.2.2.2.2.2.2.2
            have htb_588 := hp_579.b
            refine xb_if_eq (tgt := 116) hx hb (by unfold ir; omega) dX7_ownPrimary_83 (by decide) (fun c_83 => ?_) (fun c_83 => ?_)
            · refine lv_aload_n hx hb dX7_ownPrimary_116 rfl (lv_at hl 0 rfl) ?_
              refine xa_getr G fd_X7 (a := 23) (x := 26) 0 rfl (by decide) rfl (wm 2 17 rfl rfl) ⟨rfl, rfl, rfl⟩ dX7_ownPrimary_117 rfl (G.sk 23 rfl) (by decide) rfl ?_
              have hpx_589 : μ575.1 26 11 = 0 → PXE μ μ575 P tt 0 (-1) 1 := fun h0 => (hpx_573 (by have h9 : μ537.1 26 11 = μ.1 26 11 := (hs_544.trans hs_381); have h8 : μ575.1 26 11 = μ.1 26 11 := (hs_582.trans (hs_544.trans hs_381)); omega)).fr (K := [26]) (Fr.tr Fr.rf F_577 (by decide)) (npL_p (L := [26]) (by decide) hprP).1 (npL_p (L := [26]) (by decide) hprP).2.1
              refine xc_vV G (b := 26) (rest := []) (As := []) (c_X10_stop ω l μ575  hI_578) (wm 3 173 rfl rfl) (wm 3 174 rfl rfl) (wm 3 175 rfl rfl) rfl rfl (by decide) rfl (wm 1 13 rfl rfl) (wm 3 176 rfl rfl) (by decide) hR ⟨nfr hF (by decide), nlo hLo (by decide)⟩ (n := 0) rfl rfl (Nat.le_of_ble_eq_true rfl) hl.1 dX7_ownPrimary_120 (fun μ590 ρ d0 H locs hp G => ?_)
              obtain ⟨F_591, hI_592, hp_593, hp_594, hs_595, hs_596, hs_597, hs_598, hs_599, hs_600, hs_601⟩ := hp
              have htk_602 : TK μ590 := TK.st hp_579 F_591 hp_593 hp_594 (((hs_595.trans (hs_583.trans (hs_545.trans hs_382)))).trans ((hs_583.trans (hs_545.trans hs_382))).symm) hs_599 hs_600
              have hpx_603 : μ590.1 26 11 = 0 → PXE μ μ590 P tt 0 (-1) 1 := fun h0 => (hpx_589 (by have h9 : μ575.1 26 11 = μ.1 26 11 := (hs_582.trans (hs_544.trans hs_381)); have h8 : μ590.1 26 11 = μ590.1 26 11 := rfl; omega)).fr (K := [26]) (Fr.tr Fr.rf F_591 (by decide)) (npL_p (L := [26]) (by decide) hprP).1 (npL_p (L := [26]) (by decide) hprP).2.1
              have e_604 : μ590.1 26 10 = μ575.1 26 10 := hs_599
              have e_605 : μ590.1 P 1 = μ.1 P 1 := ((F_591.1 P (ni hprP (fun P => P) (fun P => [26]) rfl) 1).trans ((F_577.1 P (ni hprP (fun P => P) (fun P => [26]) rfl) 1).trans ((F_539.1 P (ni hprP (fun P => P) (fun P => [26]) rfl) 1).trans (F_376.1 P (ni hprP (fun P => P) (fun P => [26]) rfl) 1))))
              have e_606 : μ590.1 P 1 = μ.1 P 1 := ((F_591.1 P (ni hprP (fun P => P) (fun P => [26]) rfl) 1).trans ((F_577.1 P (ni hprP (fun P => P) (fun P => [26]) rfl) 1).trans ((F_539.1 P (ni hprP (fun P => P) (fun P => [26]) rfl) 1).trans (F_376.1 P (ni hprP (fun P => P) (fun P => [26]) rfl) 1))))
              have e_607 : μ590.1 26 10 = μ575.1 26 10 := hs_599
              have e_608 : μ590.1 (P + 2) 3 = μ.1 (P + 2) 3 := ((F_591.1 (P + 2) (ni hprP (fun P => P + 2) (fun P => [26]) rfl) 3).trans ((F_577.1 (P + 2) (ni hprP (fun P => P + 2) (fun P => [26]) rfl) 3).trans ((F_539.1 (P + 2) (ni hprP (fun P => P + 2) (fun P => [26]) rfl) 3).trans (F_376.1 (P + 2) (ni hprP (fun P => P + 2) (fun P => [26]) rfl) 3))))
              have e_609 : μ590.1 P 1 = μ.1 P 1 := ((F_591.1 P (ni hprP (fun P => P) (fun P => [26]) rfl) 1).trans ((F_577.1 P (ni hprP (fun P => P) (fun P => [26]) rfl) 1).trans ((F_539.1 P (ni hprP (fun P => P) (fun P => [26]) rfl) 1).trans (F_376.1 P (ni hprP (fun P => P) (fun P => [26]) rfl) 1))))
              have e_610 : μ590.1 (P + 2) 3 = μ.1 (P + 2) 3 := ((F_591.1 (P + 2) (ni hprP (fun P => P + 2) (fun P => [26]) rfl) 3).trans ((F_577.1 (P + 2) (ni hprP (fun P => P + 2) (fun P => [26]) rfl) 3).trans ((F_539.1 (P + 2) (ni hprP (fun P => P + 2) (fun P => [26]) rfl) 3).trans (F_376.1 (P + 2) (ni hprP (fun P => P + 2) (fun P => [26]) rfl) 3))))
              exact xr_v G hret hlk dX7_ownPrimary_123 ⟨(Fr.tr (Fr.tr (Fr.tr (Fr.tr Fr.rf F_376 (si hprP (fun P => [26]) (fun P => [2, 3, 4, 23, 24, 26, P, P + 1, P + 2, (P + 2) + 1, (P + 2) + 2, (P + 2) + 3]) rfl)) F_539 (si hprP (fun P => [26]) (fun P => [2, 3, 4, 23, 24, 26, P, P + 1, P + 2, (P + 2) + 1, (P + 2) + 2, (P + 2) + 3]) rfl)) F_577 (si hprP (fun P => [26]) (fun P => [2, 3, 4, 23, 24, 26, P, P + 1, P + 2, (P + 2) + 1, (P + 2) + 2, (P + 2) + 3]) rfl)) F_591 (si hprP (fun P => [26]) (fun P => [2, 3, 4, 23, 24, 26, P, P + 1, P + 2, (P + 2) + 1, (P + 2) + 2, (P + 2) + 3]) rfl)), hI_592, htk_602, (by omega), (by omega), (by omega), (by omega), (fun h0 => (PXE.ex (hpx_603 h0)).e (by omega)), (((F_591.1 23 (by decide) 2).trans ((F_577.1 23 (by decide) 2).trans ((F_539.1 23 (by decide) 2).trans ((F_376.1 23 (by decide) 2).trans hP.symm))))).trans hP, ((F_591.1 23 (by decide) 5).trans ((F_577.1 23 (by decide) 5).trans ((F_539.1 23 (by decide) 5).trans (F_376.1 23 (by decide) 5)))), ((F_591.1 23 (by decide) 6).trans ((F_577.1 23 (by decide) 6).trans ((F_539.1 23 (by decide) 6).trans (F_376.1 23 (by decide) 6)))), ((F_591.1 23 (by decide) 7).trans ((F_577.1 23 (by decide) 7).trans ((F_539.1 23 (by decide) 7).trans (F_376.1 23 (by decide) 7)))), (((F_591.1 23 (by decide) 8).trans ((F_577.1 23 (by decide) 8).trans ((F_539.1 23 (by decide) 8).trans ((F_376.1 23 (by decide) 8).trans htt.symm))))).trans htt, ((F_591.1 23 (by decide) 9).trans ((F_577.1 23 (by decide) 9).trans ((F_539.1 23 (by decide) 9).trans (F_376.1 23 (by decide) 9)))), ((F_591.1 23 (by decide) 10).trans ((F_577.1 23 (by decide) 10).trans ((F_539.1 23 (by decide) 10).trans (F_376.1 23 (by decide) 10)))), (hs_595.trans (hs_583.trans (hs_545.trans hs_382))), ((F_591.1 P (ni hprP (fun P => P) (fun P => [26]) rfl) 7).trans ((F_577.1 P (ni hprP (fun P => P) (fun P => [26]) rfl) 7).trans ((F_539.1 P (ni hprP (fun P => P) (fun P => [26]) rfl) 7).trans (F_376.1 P (ni hprP (fun P => P) (fun P => [26]) rfl) 7))))⟩
            · refine lv_aload_n hx hb dX7_ownPrimary_86 rfl (lv_at hl 0 rfl) ?_
              have hpx_611 : μ575.1 26 11 = 0 → PXE μ μ575 P tt 0 (-1) 1 := fun h0 => (hpx_573 (by have h9 : μ537.1 26 11 = μ.1 26 11 := (hs_544.trans hs_381); have h8 : μ575.1 26 11 = μ.1 26 11 := (hs_582.trans (hs_544.trans hs_381)); omega)).fr (K := [26]) (Fr.tr Fr.rf F_577 (by decide)) (npL_p (L := [26]) (by decide) hprP).1 (npL_p (L := [26]) (by decide) hprP).2.1
              have e_612 : μ575.1 26 11 = μ.1 26 11 := (hs_582.trans (hs_544.trans hs_381))
              refine xc_iV G (b := 23) (rest := []) (As := []) (c_X7_nameOfFailing ω l μ575  hI_578 hp_579) (wm 4 112 rfl rfl) (wm 4 114 rfl rfl) (wm 0 44 rfl rfl) rfl rfl (by decide) rfl (wm 1 12 rfl rfl) (wm 4 115 rfl rfl) (by decide) hR ⟨nfr hF (by decide), nlo hLo (by decide)⟩ (n := 0) rfl rfl (Nat.le_of_ble_eq_true rfl) hl.1 dX7_ownPrimary_87 (fun r_614 μ613 ρ d0 H locs hr_r_614 hp G => ?_)
              have hr_r_614 : -2147483648 ≤ r_614 ∧ r_614 ≤ 2147483647 := hr_r_614
              obtain ⟨F_615, hI_616, hp_617, hp_618, hp_619, hs_620, hs_621, hs_622, hs_623, hs_624⟩ := hp
              have hn_625 : -1 ≤ μ613.1 26 10 ∧ μ613.1 26 10 ≤ 3000 := hI_616.nm.2.2.2.2.2.2.2.2.2.2.2.2
              have htb_626 := hp_617.b
              refine lv_istore_n (lv' := [(1, .int (iv r_614)), (0, .ref (oP ω 23))]) hx hb dX7_ownPrimary_90 rfl hl (by decide) rfl (fun ls hl => ?_)
              refine lv_aload_n hx hb dX7_ownPrimary_91 rfl (lv_at hl 1 rfl) ?_
              refine lv_bipush (v := iv 40) hx hb dX7_ownPrimary_92 rfl ?_
              refine lv_bipush (v := iv 41) hx hb dX7_ownPrimary_94 rfl ?_
              have hpx_627 : μ613.1 26 11 = 0 → PXE μ μ613 P tt 0 (-1) 1 := fun h0 => (hpx_611 (by have h9 : μ575.1 26 11 = μ.1 26 11 := (hs_582.trans (hs_544.trans hs_381)); have h8 : μ613.1 26 11 = μ613.1 26 11 := rfl; omega)).fr (K := [26, 2, 3, 4, 24]) (Fr.tr Fr.rf F_615 (by decide)) (npL_p (L := [26, 2, 3, 4, 24]) (by decide) hprP).1 (npL_p (L := [26, 2, 3, 4, 24]) (by decide) hprP).2.1
              have e_628 : μ613.1 23 2 = P := ((F_615.1 23 (by decide) 2).trans ((F_577.1 23 (by decide) 2).trans ((F_539.1 23 (by decide) 2).trans ((F_376.1 23 (by decide) 2).trans hP.symm))))
              have e_629 : μ613.1 23 8 = tt := ((F_615.1 23 (by decide) 8).trans ((F_577.1 23 (by decide) 8).trans ((F_539.1 23 (by decide) 8).trans ((F_376.1 23 (by decide) 8).trans htt.symm))))
              have e_630 : μ613.1 P 1 = μ.1 P 1 := ((F_615.1 P (ni hprP (fun P => P) (fun P => [26, 2, 3, 4, 24]) rfl) 1).trans ((F_577.1 P (ni hprP (fun P => P) (fun P => [26]) rfl) 1).trans ((F_539.1 P (ni hprP (fun P => P) (fun P => [26]) rfl) 1).trans (F_376.1 P (ni hprP (fun P => P) (fun P => [26]) rfl) 1))))
              have hk_631 := hI.row (r := P + 2) (hprP.row)
              unfold rk at hk_631
              have e_632 : μ613.1 (P + 2) 3 = μ.1 (P + 2) 3 := ((F_615.1 (P + 2) (ni hprP (fun P => P + 2) (fun P => [26, 2, 3, 4, 24]) rfl) 3).trans ((F_577.1 (P + 2) (ni hprP (fun P => P + 2) (fun P => [26]) rfl) 3).trans ((F_539.1 (P + 2) (ni hprP (fun P => P + 2) (fun P => [26]) rfl) 3).trans (F_376.1 (P + 2) (ni hprP (fun P => P + 2) (fun P => [26]) rfl) 3))))
              have e_633 : μ613.1 P 1 = μ.1 P 1 := ((F_615.1 P (ni hprP (fun P => P) (fun P => [26, 2, 3, 4, 24]) rfl) 1).trans ((F_577.1 P (ni hprP (fun P => P) (fun P => [26]) rfl) 1).trans ((F_539.1 P (ni hprP (fun P => P) (fun P => [26]) rfl) 1).trans (F_376.1 P (ni hprP (fun P => P) (fun P => [26]) rfl) 1))))
              have e_634 : μ613.1 23 9 = μ.1 23 9 := ((F_615.1 23 (by decide) 9).trans ((F_577.1 23 (by decide) 9).trans ((F_539.1 23 (by decide) 9).trans (F_376.1 23 (by decide) 9))))
              have e_635 : μ613.1 23 9 = μ.1 23 9 := ((F_615.1 23 (by decide) 9).trans ((F_577.1 23 (by decide) 9).trans ((F_539.1 23 (by decide) 9).trans (F_376.1 23 (by decide) 9))))
              have e_636 : μ613.1 23 9 = μ.1 23 9 := ((F_615.1 23 (by decide) 9).trans ((F_577.1 23 (by decide) 9).trans ((F_539.1 23 (by decide) 9).trans (F_376.1 23 (by decide) 9))))
              have e_637 : μ613.1 P 1 = μ.1 P 1 := ((F_615.1 P (ni hprP (fun P => P) (fun P => [26, 2, 3, 4, 24]) rfl) 1).trans ((F_577.1 P (ni hprP (fun P => P) (fun P => [26]) rfl) 1).trans ((F_539.1 P (ni hprP (fun P => P) (fun P => [26]) rfl) 1).trans (F_376.1 P (ni hprP (fun P => P) (fun P => [26]) rfl) 1))))
              have e_638 : μ613.1 P 1 = μ.1 P 1 := ((F_615.1 P (ni hprP (fun P => P) (fun P => [26, 2, 3, 4, 24]) rfl) 1).trans ((F_577.1 P (ni hprP (fun P => P) (fun P => [26]) rfl) 1).trans ((F_539.1 P (ni hprP (fun P => P) (fun P => [26]) rfl) 1).trans (F_376.1 P (ni hprP (fun P => P) (fun P => [26]) rfl) 1))))
              have e_639 : μ613.1 (P + 2) 3 = μ.1 (P + 2) 3 := ((F_615.1 (P + 2) (ni hprP (fun P => P + 2) (fun P => [26, 2, 3, 4, 24]) rfl) 3).trans ((F_577.1 (P + 2) (ni hprP (fun P => P + 2) (fun P => [26]) rfl) 3).trans ((F_539.1 (P + 2) (ni hprP (fun P => P + 2) (fun P => [26]) rfl) 3).trans (F_376.1 (P + 2) (ni hprP (fun P => P + 2) (fun P => [26]) rfl) 3))))
              have e_640 : μ613.1 P 1 = μ.1 P 1 := ((F_615.1 P (ni hprP (fun P => P) (fun P => [26, 2, 3, 4, 24]) rfl) 1).trans ((F_577.1 P (ni hprP (fun P => P) (fun P => [26]) rfl) 1).trans ((F_539.1 P (ni hprP (fun P => P) (fun P => [26]) rfl) 1).trans (F_376.1 P (ni hprP (fun P => P) (fun P => [26]) rfl) 1))))
              have e_641 : μ613.1 (P + 2) 3 = μ.1 (P + 2) 3 := ((F_615.1 (P + 2) (ni hprP (fun P => P + 2) (fun P => [26, 2, 3, 4, 24]) rfl) 3).trans ((F_577.1 (P + 2) (ni hprP (fun P => P + 2) (fun P => [26]) rfl) 3).trans ((F_539.1 (P + 2) (ni hprP (fun P => P + 2) (fun P => [26]) rfl) 3).trans (F_376.1 (P + 2) (ni hprP (fun P => P + 2) (fun P => [26]) rfl) 3))))
              refine xc_vV G (b := 23) (rest := []) (As := [.int (iv 40), .int (iv 41)]) (c_X7_inBrackets ω l μ613 40 41 F Lo Fu Lu kf P tt (by unfold ir; omega) (by unfold ir; omega) hI_616 (by omega) (by omega) hF hLo hFu hLu hE hU hp_617 (by omega) (by omega) (by omega) (by omega) (by omega) (by omega) (by omega)) (wm 4 92 rfl rfl) (wm 4 94 rfl rfl) (wm 0 39 rfl rfl) rfl rfl (by decide) rfl (wm 1 12 rfl rfl) (wm 4 95 rfl rfl) (by decide) hR ⟨sfr (F := F) (a := 1) (by decide), slo (L := Lo) (m := 3) (a := 22) (by decide)⟩ (n := 2) rfl rfl (Nat.le_of_ble_eq_true rfl) hl.1 dX7_ownPrimary_96 (fun μ642 ρ d0 H locs hp G => ?_)
              obtain ⟨F_643, hI_644, hp_645, hp_646, hp_647, hp_648, hp_649, hp_650, hs_651, hs_652, hs_653, hs_654, hs_655, hs_656, hs_657, hs_658, hs_659⟩ := hp
              have hn_660 : -1 ≤ μ642.1 26 10 ∧ μ642.1 26 10 ≤ 3000 := hI_644.nm.2.2.2.2.2.2.2.2.2.2.2.2
              have hk_661 := hI_644.pr (p := P) hprP
              unfold pk at hk_661
              have hc_662 : 16 ≤ μ642.2.1 (P + 1) ∧ μ642.2.1 (P + 1) ≤ 73024 := hI_644.rm.1 _ hprP.cap
              have hk_663 := hI_644.row (r := P + 2) (hprP.row)
              unfold rk at hk_663
              have htb_664 := hp_645.b
              have hpx_665 : μ642.1 26 11 = 0 → PXE μ μ642 P tt 1 (-1) 1 := fun h0 => (PXE.app (hpx_627 (by have h9 : μ613.1 26 11 = μ613.1 26 11 := rfl; have h8 : μ642.1 26 11 = μ642.1 26 11 := rfl; omega)) (hp_650 h0)).e (by omega)
              refine lv_aload_n hx hb dX7_ownPrimary_99 rfl (lv_at hl 1 rfl) ?_
              refine lv_bipush (v := iv 17) hx hb dX7_ownPrimary_100 rfl ?_
              refine lv_iload_n hx hb dX7_ownPrimary_102 rfl (lv_at hl 0 rfl) ?_
              refine lv_iconst (v := iv 0) hx hb dX7_ownPrimary_103 rfl ?_
              refine lv_aload_n hx hb dX7_ownPrimary_104 rfl (lv_at hl 1 rfl) ?_
              refine lv_iconst (v := iv (-1)) hx hb dX7_ownPrimary_105 rfl ?_
              refine lv_iconst (v := iv 0) hx hb dX7_ownPrimary_106 rfl ?_
              have e_666 : μ642.1 23 2 = P := (hs_651.trans ((F_615.1 23 (by decide) 2).trans ((F_577.1 23 (by decide) 2).trans ((F_539.1 23 (by decide) 2).trans ((F_376.1 23 (by decide) 2).trans hP.symm)))))
              have e_667 : μ642.1 23 8 = tt := (hs_655.trans ((F_615.1 23 (by decide) 8).trans ((F_577.1 23 (by decide) 8).trans ((F_539.1 23 (by decide) 8).trans ((F_376.1 23 (by decide) 8).trans htt.symm)))))
              refine xc_iV G (b := 23) (rest := [.int (iv 0), .int (iv r_614), .int (iv 17), .ref (oP ω 23)]) (As := [.int (iv (-1)), .int (iv 0)]) (c_X7_ifFails ω l μ642 (-1) 0 μ (1) (1) P tt (by unfold ir; omega) (by unfold ir; omega) hI_644 (by omega) (by omega) (by omega) hpx_665 (by omega) (by omega)) (wm 4 23 rfl rfl) (wm 4 25 rfl rfl) (wm 0 29 rfl rfl) rfl rfl (by decide) rfl (wm 1 12 rfl rfl) (wm 4 26 rfl rfl) (by decide) hR ⟨nfr hF (by decide), nlo hLo (by decide)⟩ (n := 2) rfl rfl (Nat.le_of_ble_eq_true rfl) hl.1 dX7_ownPrimary_107 (fun r_669 μ668 ρ d0 H locs hr_r_669 hp G => ?_)
              have hr_r_669 : -2147483648 ≤ r_669 ∧ r_669 ≤ 2147483647 := hr_r_669
              obtain ⟨F_670, hI_671, hp_672, hp_673, hs_674⟩ := hp
              have hk_675 := hI_671.pr (p := P) hprP
              unfold pk at hk_675
              have hc_676 : 16 ≤ μ668.2.1 (P + 1) ∧ μ668.2.1 (P + 1) ≤ 73024 := hI_671.rm.1 _ hprP.cap
              have hpx_677 : μ668.1 26 11 = 0 → PXE μ μ668 P tt 1 r_669 1 := fun h0 => hp_672 (by have h9 : μ642.1 26 11 = μ642.1 26 11 := rfl; have h8 : μ668.1 26 11 = μ642.1 26 11 := (F_670.1 26 (ni hprP (fun P => 26) (fun P => [P, P + 1]) rfl) 11); omega)
              clear hp_672
              have e_678 : μ668.1 23 2 = P := ((F_670.1 23 (ni hprP (fun P => 23) (fun P => [P, P + 1]) rfl) 2).trans (hs_651.trans ((F_615.1 23 (by decide) 2).trans ((F_577.1 23 (by decide) 2).trans ((F_539.1 23 (by decide) 2).trans ((F_376.1 23 (by decide) 2).trans hP.symm))))))
              have e_679 : μ668.1 23 8 = tt := ((F_670.1 23 (ni hprP (fun P => 23) (fun P => [P, P + 1]) rfl) 8).trans (hs_655.trans ((F_615.1 23 (by decide) 8).trans ((F_577.1 23 (by decide) 8).trans ((F_539.1 23 (by decide) 8).trans ((F_376.1 23 (by decide) 8).trans htt.symm))))))
              refine xc_vV G (b := 23) (rest := []) (As := [.int (iv 17), .int (iv r_614), .int (iv 0), .int (iv r_669)]) (c_X7_endOfParts ω l μ668 17 r_614 0 r_669 μ (1) (1) P tt (by unfold ir; omega) (by unfold ir; omega) (by unfold ir; omega) (by unfold ir; omega) hI_671 (by omega) (by omega) (by omega) hpx_677 (Or.inl (by unfold plain; omega)) (by omega) (by rw [show eff 17 r_614 = 0 from rfl]; omega)) (wm 4 27 rfl rfl) (wm 4 29 rfl rfl) (wm 0 30 rfl rfl) rfl rfl (by decide) rfl (wm 1 12 rfl rfl) (wm 4 30 rfl rfl) (by decide) hR ⟨nfr hF (by decide), nlo hLo (by decide)⟩ (n := 4) rfl rfl (Nat.le_of_ble_eq_true rfl) hl.1 dX7_ownPrimary_110 (fun μ680 ρ d0 H locs hp G => ?_)
              obtain ⟨F_681, hI_682, hp_683, hs_684, hs_685⟩ := hp
              have hpx_686 : μ680.1 26 11 = 0 → PXE μ μ680 P tt 1 (-1) 1 := fun h0 => PXE.of (hp_683 (by have h9 : μ668.1 26 11 = μ642.1 26 11 := (F_670.1 26 (ni hprP (fun P => 26) (fun P => [P, P + 1]) rfl) 11); have h8 : μ680.1 26 11 = μ642.1 26 11 := ((F_681.1 26 (ni hprP (fun P => 26) (fun P => [P, P + 1]) rfl) 11).trans (F_670.1 26 (ni hprP (fun P => 26) (fun P => [P, P + 1]) rfl) 11)); omega))
              clear hp_683
              refine lv_goto (tgt := 123) hx hb dX7_ownPrimary_113 (by decide) ?_
              have htk_687 : TK μ680 := hp_645.fr (K := [P, P + 1]) (Fr.tr (Fr.tr Fr.rf F_670 (si hprP (fun P => [P, P + 1]) (fun P => [P, P + 1]) rfl)) F_681 (si hprP (fun P => [P, P + 1]) (fun P => [P, P + 1]) rfl)) (ni hprP (fun P => 26) (fun P => [P, P + 1]) rfl) (ni hprP (fun P => 28) (fun P => [P, P + 1]) rfl) (ni hprP (fun P => 29) (fun P => [P, P + 1]) rfl)
              have e_688 : μ680.1 26 11 = μ642.1 26 11 := ((F_681.1 26 (ni hprP (fun P => 26) (fun P => [P, P + 1]) rfl) 11).trans (F_670.1 26 (ni hprP (fun P => 26) (fun P => [P, P + 1]) rfl) 11))
              have e_689 : μ680.1 26 11 = μ642.1 26 11 := ((F_681.1 26 (ni hprP (fun P => 26) (fun P => [P, P + 1]) rfl) 11).trans (F_670.1 26 (ni hprP (fun P => 26) (fun P => [P, P + 1]) rfl) 11))
              have e_690 : μ680.1 26 10 = μ642.1 26 10 := ((F_681.1 26 (ni hprP (fun P => 26) (fun P => [P, P + 1]) rfl) 10).trans (F_670.1 26 (ni hprP (fun P => 26) (fun P => [P, P + 1]) rfl) 10))
              have e_691 : μ680.1 P 1 = μ668.1 P 1 + 1 := hs_684
              have e_692 : μ680.1 P 1 = μ668.1 P 1 + 1 := hs_684
              have e_693 : μ680.1 26 10 = μ642.1 26 10 := ((F_681.1 26 (ni hprP (fun P => 26) (fun P => [P, P + 1]) rfl) 10).trans (F_670.1 26 (ni hprP (fun P => 26) (fun P => [P, P + 1]) rfl) 10))
              have e_694 : μ680.1 26 11 = μ642.1 26 11 := ((F_681.1 26 (ni hprP (fun P => 26) (fun P => [P, P + 1]) rfl) 11).trans (F_670.1 26 (ni hprP (fun P => 26) (fun P => [P, P + 1]) rfl) 11))
              have e_695 : μ680.1 (P + 2) 3 = μ642.1 (P + 2) 3 := ((F_681.1 (P + 2) (ni hprP (fun P => P + 2) (fun P => [P, P + 1]) rfl) 3).trans (F_670.1 (P + 2) (ni hprP (fun P => P + 2) (fun P => [P, P + 1]) rfl) 3))
              have e_696 : μ680.1 P 1 = μ668.1 P 1 + 1 := hs_684
              have e_697 : μ680.1 (P + 2) 3 = μ642.1 (P + 2) 3 := ((F_681.1 (P + 2) (ni hprP (fun P => P + 2) (fun P => [P, P + 1]) rfl) 3).trans (F_670.1 (P + 2) (ni hprP (fun P => P + 2) (fun P => [P, P + 1]) rfl) 3))
              exact xr_v G hret hlk dX7_ownPrimary_123 ⟨(Fr.tr (Fr.tr (Fr.tr (Fr.tr (Fr.tr (Fr.tr (Fr.tr Fr.rf F_376 (si hprP (fun P => [26]) (fun P => [2, 3, 4, 23, 24, 26, P, P + 1, P + 2, (P + 2) + 1, (P + 2) + 2, (P + 2) + 3]) rfl)) F_539 (si hprP (fun P => [26]) (fun P => [2, 3, 4, 23, 24, 26, P, P + 1, P + 2, (P + 2) + 1, (P + 2) + 2, (P + 2) + 3]) rfl)) F_577 (si hprP (fun P => [26]) (fun P => [2, 3, 4, 23, 24, 26, P, P + 1, P + 2, (P + 2) + 1, (P + 2) + 2, (P + 2) + 3]) rfl)) F_615 (si hprP (fun P => [26, 2, 3, 4, 24]) (fun P => [2, 3, 4, 23, 24, 26, P, P + 1, P + 2, (P + 2) + 1, (P + 2) + 2, (P + 2) + 3]) rfl)) F_643 (si hprP (fun P => [2, 3, 4, 23, 24, 26, P, P + 1, P + 2, (P + 2) + 1, (P + 2) + 2, (P + 2) + 3]) (fun P => [2, 3, 4, 23, 24, 26, P, P + 1, P + 2, (P + 2) + 1, (P + 2) + 2, (P + 2) + 3]) rfl)) F_670 (si hprP (fun P => [P, P + 1]) (fun P => [2, 3, 4, 23, 24, 26, P, P + 1, P + 2, (P + 2) + 1, (P + 2) + 2, (P + 2) + 3]) rfl)) F_681 (si hprP (fun P => [P, P + 1]) (fun P => [2, 3, 4, 23, 24, 26, P, P + 1, P + 2, (P + 2) + 1, (P + 2) + 2, (P + 2) + 3]) rfl)), hI_682, htk_687, (by omega), (by omega), (by omega), (by omega), (fun h0 => (PXE.ex (hpx_686 h0)).e (by omega)), (((F_681.1 23 (ni hprP (fun P => 23) (fun P => [P, P + 1]) rfl) 2).trans ((F_670.1 23 (ni hprP (fun P => 23) (fun P => [P, P + 1]) rfl) 2).trans (hs_651.trans ((F_615.1 23 (by decide) 2).trans ((F_577.1 23 (by decide) 2).trans ((F_539.1 23 (by decide) 2).trans ((F_376.1 23 (by decide) 2).trans hP.symm)))))))).trans hP, ((F_681.1 23 (ni hprP (fun P => 23) (fun P => [P, P + 1]) rfl) 5).trans ((F_670.1 23 (ni hprP (fun P => 23) (fun P => [P, P + 1]) rfl) 5).trans (hs_652.trans ((F_615.1 23 (by decide) 5).trans ((F_577.1 23 (by decide) 5).trans ((F_539.1 23 (by decide) 5).trans (F_376.1 23 (by decide) 5))))))), ((F_681.1 23 (ni hprP (fun P => 23) (fun P => [P, P + 1]) rfl) 6).trans ((F_670.1 23 (ni hprP (fun P => 23) (fun P => [P, P + 1]) rfl) 6).trans (hs_653.trans ((F_615.1 23 (by decide) 6).trans ((F_577.1 23 (by decide) 6).trans ((F_539.1 23 (by decide) 6).trans (F_376.1 23 (by decide) 6))))))), ((F_681.1 23 (ni hprP (fun P => 23) (fun P => [P, P + 1]) rfl) 7).trans ((F_670.1 23 (ni hprP (fun P => 23) (fun P => [P, P + 1]) rfl) 7).trans (hs_654.trans ((F_615.1 23 (by decide) 7).trans ((F_577.1 23 (by decide) 7).trans ((F_539.1 23 (by decide) 7).trans (F_376.1 23 (by decide) 7))))))), (((F_681.1 23 (ni hprP (fun P => 23) (fun P => [P, P + 1]) rfl) 8).trans ((F_670.1 23 (ni hprP (fun P => 23) (fun P => [P, P + 1]) rfl) 8).trans (hs_655.trans ((F_615.1 23 (by decide) 8).trans ((F_577.1 23 (by decide) 8).trans ((F_539.1 23 (by decide) 8).trans ((F_376.1 23 (by decide) 8).trans htt.symm)))))))).trans htt, ((F_681.1 23 (ni hprP (fun P => 23) (fun P => [P, P + 1]) rfl) 9).trans ((F_670.1 23 (ni hprP (fun P => 23) (fun P => [P, P + 1]) rfl) 9).trans (hs_656.trans ((F_615.1 23 (by decide) 9).trans ((F_577.1 23 (by decide) 9).trans ((F_539.1 23 (by decide) 9).trans (F_376.1 23 (by decide) 9))))))), ((F_681.1 23 (ni hprP (fun P => 23) (fun P => [P, P + 1]) rfl) 10).trans ((F_670.1 23 (ni hprP (fun P => 23) (fun P => [P, P + 1]) rfl) 10).trans (hs_657.trans ((F_615.1 23 (by decide) 10).trans ((F_577.1 23 (by decide) 10).trans ((F_539.1 23 (by decide) 10).trans (F_376.1 23 (by decide) 10))))))), ((F_681.1 26 (ni hprP (fun P => 26) (fun P => [P, P + 1]) rfl) 6).trans ((F_670.1 26 (ni hprP (fun P => 26) (fun P => [P, P + 1]) rfl) 6).trans (hs_658.trans (hs_620.trans (hs_583.trans (hs_545.trans hs_382)))))), (hs_685.trans (hs_674.trans (hs_659.trans ((F_615.1 P (ni hprP (fun P => P) (fun P => [26, 2, 3, 4, 24]) rfl) 7).trans ((F_577.1 P (ni hprP (fun P => P) (fun P => [26]) rfl) 7).trans ((F_539.1 P (ni hprP (fun P => P) (fun P => [26]) rfl) 7).trans (F_376.1 P (ni hprP (fun P => P) (fun P => [26]) rfl) 7)))))))⟩
        · refine lv_aload_n hx hb dX7_ownPrimary_48 rfl (lv_at hl 0 rfl) ?_
          refine lv_bipush (v := iv 40) hx hb dX7_ownPrimary_49 rfl ?_
          refine lv_bipush (v := iv 41) hx hb dX7_ownPrimary_51 rfl ?_
          have hpx_698 : μ537.1 26 11 = 0 → PXE μ μ537 P tt 0 (-1) 1 := fun h0 => (hpx_535 (by have h9 : μ374.1 26 11 = μ.1 26 11 := hs_381; have h8 : μ537.1 26 11 = μ.1 26 11 := (hs_544.trans hs_381); omega)).fr (K := [26]) (Fr.tr Fr.rf F_539 (by decide)) (npL_p (L := [26]) (by decide) hprP).1 (npL_p (L := [26]) (by decide) hprP).2.1
          have e_699 : μ537.1 23 2 = P := ((F_539.1 23 (by decide) 2).trans ((F_376.1 23 (by decide) 2).trans hP.symm))
          have e_700 : μ537.1 23 8 = tt := ((F_539.1 23 (by decide) 8).trans ((F_376.1 23 (by decide) 8).trans htt.symm))
          have e_701 : μ537.1 P 1 = μ.1 P 1 := ((F_539.1 P (ni hprP (fun P => P) (fun P => [26]) rfl) 1).trans (F_376.1 P (ni hprP (fun P => P) (fun P => [26]) rfl) 1))
          have e_702 : μ537.1 26 11 = μ.1 26 11 := (hs_544.trans hs_381)
          have hk_703 := hI.row (r := P + 2) (hprP.row)
          unfold rk at hk_703
          have e_704 : μ537.1 (P + 2) 3 = μ.1 (P + 2) 3 := ((F_539.1 (P + 2) (ni hprP (fun P => P + 2) (fun P => [26]) rfl) 3).trans (F_376.1 (P + 2) (ni hprP (fun P => P + 2) (fun P => [26]) rfl) 3))
          have e_705 : μ537.1 P 1 = μ.1 P 1 := ((F_539.1 P (ni hprP (fun P => P) (fun P => [26]) rfl) 1).trans (F_376.1 P (ni hprP (fun P => P) (fun P => [26]) rfl) 1))
          have e_706 : μ537.1 23 9 = μ.1 23 9 := ((F_539.1 23 (by decide) 9).trans (F_376.1 23 (by decide) 9))
          have e_707 : μ537.1 23 9 = μ.1 23 9 := ((F_539.1 23 (by decide) 9).trans (F_376.1 23 (by decide) 9))
          have e_708 : μ537.1 23 9 = μ.1 23 9 := ((F_539.1 23 (by decide) 9).trans (F_376.1 23 (by decide) 9))
          have e_709 : μ537.1 26 11 = μ.1 26 11 := (hs_544.trans hs_381)
          have e_710 : μ537.1 P 1 = μ.1 P 1 := ((F_539.1 P (ni hprP (fun P => P) (fun P => [26]) rfl) 1).trans (F_376.1 P (ni hprP (fun P => P) (fun P => [26]) rfl) 1))
          have e_711 : μ537.1 P 1 = μ.1 P 1 := ((F_539.1 P (ni hprP (fun P => P) (fun P => [26]) rfl) 1).trans (F_376.1 P (ni hprP (fun P => P) (fun P => [26]) rfl) 1))
          have e_712 : μ537.1 (P + 2) 3 = μ.1 (P + 2) 3 := ((F_539.1 (P + 2) (ni hprP (fun P => P + 2) (fun P => [26]) rfl) 3).trans (F_376.1 (P + 2) (ni hprP (fun P => P + 2) (fun P => [26]) rfl) 3))
          have e_713 : μ537.1 P 1 = μ.1 P 1 := ((F_539.1 P (ni hprP (fun P => P) (fun P => [26]) rfl) 1).trans (F_376.1 P (ni hprP (fun P => P) (fun P => [26]) rfl) 1))
          have e_714 : μ537.1 (P + 2) 3 = μ.1 (P + 2) 3 := ((F_539.1 (P + 2) (ni hprP (fun P => P + 2) (fun P => [26]) rfl) 3).trans (F_376.1 (P + 2) (ni hprP (fun P => P + 2) (fun P => [26]) rfl) 3))
          refine xc_vV G (b := 23) (rest := []) (As := [.int (iv 40), .int (iv 41)]) (c_X7_inBrackets ω l μ537 40 41 F Lo Fu Lu kf P tt (by unfold ir; omega) (by unfold ir; omega) hI_540 (by omega) (by omega) hF hLo hFu hLu hE hU hp_541 (by omega) (by omega) (by omega) (by omega) (by omega) (by omega) (by omega)) (wm 4 92 rfl rfl) (wm 4 94 rfl rfl) (wm 0 39 rfl rfl) rfl rfl (by decide) rfl (wm 1 12 rfl rfl) (wm 4 95 rfl rfl) (by decide) hR ⟨sfr (F := F) (a := 1) (by decide), slo (L := Lo) (m := 3) (a := 22) (by decide)⟩ (n := 2) rfl rfl (Nat.le_of_ble_eq_true rfl) hl.1 dX7_ownPrimary_53 (fun μ715 ρ d0 H locs hp G => ?_)
          obtain ⟨F_716, hI_717, hp_718, hp_719, hp_720, hp_721, hp_722, hp_723, hs_724, hs_725, hs_726, hs_727, hs_728, hs_729, hs_730, hs_731, hs_732⟩ := hp
          have hn_733 : -1 ≤ μ715.1 26 10 ∧ μ715.1 26 10 ≤ 3000 := hI_717.nm.2.2.2.2.2.2.2.2.2.2.2.2
          have hk_734 := hI_717.pr (p := P) hprP
          unfold pk at hk_734
          have hc_735 : 16 ≤ μ715.2.1 (P + 1) ∧ μ715.2.1 (P + 1) ≤ 73024 := hI_717.rm.1 _ hprP.cap
          have hk_736 := hI_717.row (r := P + 2) (hprP.row)
          unfold rk at hk_736
          have htb_737 := hp_718.b
          have hpx_738 : μ715.1 26 11 = 0 → PXE μ μ715 P tt 1 (-1) 1 := fun h0 => (PXE.app (hpx_698 (by have h9 : μ537.1 26 11 = μ.1 26 11 := (hs_544.trans hs_381); have h8 : μ715.1 26 11 = μ715.1 26 11 := rfl; omega)) (hp_723 h0)).e (by omega)
          refine lv_aload_n hx hb dX7_ownPrimary_56 rfl (lv_at hl 0 rfl) ?_
          refine lv_bipush (v := iv 16) hx hb dX7_ownPrimary_57 rfl ?_
          refine lv_iconst (v := iv 0) hx hb dX7_ownPrimary_59 rfl ?_
          refine lv_iconst (v := iv 0) hx hb dX7_ownPrimary_60 rfl ?_
          have e_739 : μ715.1 23 2 = P := (hs_724.trans ((F_539.1 23 (by decide) 2).trans ((F_376.1 23 (by decide) 2).trans hP.symm)))
          refine xc_iV G (b := 23) (rest := []) (As := [.int (iv 16), .int (iv 0), .int (iv 0)]) (c_X7_add ω l μ715 16 0 0 P (by unfold ir; omega) (by unfold ir; omega) (by unfold ir; omega) hI_717 (by omega) (by omega)) (wm 3 226 rfl rfl) (wm 3 228 rfl rfl) (wm 0 21 rfl rfl) rfl rfl (by decide) rfl (wm 1 12 rfl rfl) (wm 3 229 rfl rfl) (by decide) hR ⟨nfr hF (by decide), nlo hLo (by decide)⟩ (n := 3) rfl rfl (Nat.le_of_ble_eq_true rfl) hl.1 dX7_ownPrimary_61 (fun r_741 μ740 ρ d0 H locs hr_r_741 hp G => ?_)
          have hr_r_741 : -2147483648 ≤ r_741 ∧ r_741 ≤ 2147483647 := hr_r_741
          obtain ⟨F_742, hI_743, hp_744, hp_745, hs_746, hs_747⟩ := hp
          have hpx_748 : μ740.1 26 11 = 0 → PXE μ μ740 P tt 1 (-1) 1 := fun h0 => (PXE.app (hpx_738 (by have h9 : μ715.1 26 11 = μ715.1 26 11 := rfl; have h8 : μ740.1 26 11 = μ715.1 26 11 := (F_742.1 26 (ni hprP (fun P => 26) (fun P => [P, P + 1]) rfl) 11); omega)) (EX.pl hp_745 (by omega) (by unfold plain; omega) (e := 0) rfl (by have h9 := hs_1 (μ := μ715) (P := P) (i := μ715.1 P 1); omega))).e (by omega)
          refine lv_pop hx hb dX7_ownPrimary_64 rfl ?_
          refine lv_goto (tgt := 123) hx hb dX7_ownPrimary_65 (by decide) ?_
          have htk_749 : TK μ740 := hp_718.fr (K := [P, P + 1]) (Fr.tr Fr.rf F_742 (si hprP (fun P => [P, P + 1]) (fun P => [P, P + 1]) rfl)) (ni hprP (fun P => 26) (fun P => [P, P + 1]) rfl) (ni hprP (fun P => 28) (fun P => [P, P + 1]) rfl) (ni hprP (fun P => 29) (fun P => [P, P + 1]) rfl)
          have e_750 : μ740.1 26 11 = μ715.1 26 11 := (F_742.1 26 (ni hprP (fun P => 26) (fun P => [P, P + 1]) rfl) 11)
          have e_751 : μ740.1 26 11 = μ715.1 26 11 := (F_742.1 26 (ni hprP (fun P => 26) (fun P => [P, P + 1]) rfl) 11)
          have e_752 : μ740.1 26 10 = μ715.1 26 10 := (F_742.1 26 (ni hprP (fun P => 26) (fun P => [P, P + 1]) rfl) 10)
          have e_753 : μ740.1 P 1 = μ715.1 P 1 + 1 := hs_746
          have e_754 : μ740.1 P 1 = μ715.1 P 1 + 1 := hs_746
          have e_755 : μ740.1 26 10 = μ715.1 26 10 := (F_742.1 26 (ni hprP (fun P => 26) (fun P => [P, P + 1]) rfl) 10)
          have e_756 : μ740.1 26 11 = μ715.1 26 11 := (F_742.1 26 (ni hprP (fun P => 26) (fun P => [P, P + 1]) rfl) 11)
          have e_757 : μ740.1 (P + 2) 3 = μ715.1 (P + 2) 3 := (F_742.1 (P + 2) (ni hprP (fun P => P + 2) (fun P => [P, P + 1]) rfl) 3)
          have e_758 : μ740.1 P 1 = μ715.1 P 1 + 1 := hs_746
          have e_759 : μ740.1 (P + 2) 3 = μ715.1 (P + 2) 3 := (F_742.1 (P + 2) (ni hprP (fun P => P + 2) (fun P => [P, P + 1]) rfl) 3)
          exact xr_v G hret hlk dX7_ownPrimary_123 ⟨(Fr.tr (Fr.tr (Fr.tr (Fr.tr Fr.rf F_376 (si hprP (fun P => [26]) (fun P => [2, 3, 4, 23, 24, 26, P, P + 1, P + 2, (P + 2) + 1, (P + 2) + 2, (P + 2) + 3]) rfl)) F_539 (si hprP (fun P => [26]) (fun P => [2, 3, 4, 23, 24, 26, P, P + 1, P + 2, (P + 2) + 1, (P + 2) + 2, (P + 2) + 3]) rfl)) F_716 (si hprP (fun P => [2, 3, 4, 23, 24, 26, P, P + 1, P + 2, (P + 2) + 1, (P + 2) + 2, (P + 2) + 3]) (fun P => [2, 3, 4, 23, 24, 26, P, P + 1, P + 2, (P + 2) + 1, (P + 2) + 2, (P + 2) + 3]) rfl)) F_742 (si hprP (fun P => [P, P + 1]) (fun P => [2, 3, 4, 23, 24, 26, P, P + 1, P + 2, (P + 2) + 1, (P + 2) + 2, (P + 2) + 3]) rfl)), hI_743, htk_749, (by omega), (by omega), (by omega), (by omega), (fun h0 => (PXE.ex (hpx_748 h0)).e (by omega)), (((F_742.1 23 (ni hprP (fun P => 23) (fun P => [P, P + 1]) rfl) 2).trans (hs_724.trans ((F_539.1 23 (by decide) 2).trans ((F_376.1 23 (by decide) 2).trans hP.symm))))).trans hP, ((F_742.1 23 (ni hprP (fun P => 23) (fun P => [P, P + 1]) rfl) 5).trans (hs_725.trans ((F_539.1 23 (by decide) 5).trans (F_376.1 23 (by decide) 5)))), ((F_742.1 23 (ni hprP (fun P => 23) (fun P => [P, P + 1]) rfl) 6).trans (hs_726.trans ((F_539.1 23 (by decide) 6).trans (F_376.1 23 (by decide) 6)))), ((F_742.1 23 (ni hprP (fun P => 23) (fun P => [P, P + 1]) rfl) 7).trans (hs_727.trans ((F_539.1 23 (by decide) 7).trans (F_376.1 23 (by decide) 7)))), (((F_742.1 23 (ni hprP (fun P => 23) (fun P => [P, P + 1]) rfl) 8).trans (hs_728.trans ((F_539.1 23 (by decide) 8).trans ((F_376.1 23 (by decide) 8).trans htt.symm))))).trans htt, ((F_742.1 23 (ni hprP (fun P => 23) (fun P => [P, P + 1]) rfl) 9).trans (hs_729.trans ((F_539.1 23 (by decide) 9).trans (F_376.1 23 (by decide) 9)))), ((F_742.1 23 (ni hprP (fun P => 23) (fun P => [P, P + 1]) rfl) 10).trans (hs_730.trans ((F_539.1 23 (by decide) 10).trans (F_376.1 23 (by decide) 10)))), ((F_742.1 26 (ni hprP (fun P => 26) (fun P => [P, P + 1]) rfl) 6).trans (hs_731.trans (hs_545.trans hs_382))), (hs_747.trans (hs_732.trans ((F_539.1 P (ni hprP (fun P => P) (fun P => [26]) rfl) 7).trans (F_376.1 P (ni hprP (fun P => P) (fun P => [26]) rfl) 7))))⟩
    · refine lv_aload_n hx hb dX7_ownPrimary_18 rfl (lv_at hl 0 rfl) ?_
      refine lv_bipush (v := iv 18) hx hb dX7_ownPrimary_19 rfl ?_
      refine lv_iconst (v := iv 0) hx hb dX7_ownPrimary_21 rfl ?_
      refine lv_iconst (v := iv 0) hx hb dX7_ownPrimary_22 rfl ?_
      have hpx_760 : μ374.1 26 11 = 0 → PXE μ μ374 P tt 0 (-1) 1 := fun h0 => (hnil (by have h9 : μ.1 26 11 = μ.1 26 11 := rfl; have h8 : μ374.1 26 11 = μ.1 26 11 := hs_381; omega)).fr (K := [26]) (Fr.tr Fr.rf F_376 (by decide)) (npL_p (L := [26]) (by decide) hprP).1 (npL_p (L := [26]) (by decide) hprP).2.1
      have e_761 : μ374.1 23 2 = P := ((F_376.1 23 (by decide) 2).trans hP.symm)
      have e_762 : μ374.1 P 1 = μ.1 P 1 := (F_376.1 P (ni hprP (fun P => P) (fun P => [26]) rfl) 1)
      have e_763 : μ374.1 P 1 = μ.1 P 1 := (F_376.1 P (ni hprP (fun P => P) (fun P => [26]) rfl) 1)
      have e_764 : μ374.1 P 1 = μ.1 P 1 := (F_376.1 P (ni hprP (fun P => P) (fun P => [26]) rfl) 1)
      refine xc_iV G (b := 23) (rest := []) (As := [.int (iv 18), .int (iv 0), .int (iv 0)]) (c_X7_add ω l μ374 18 0 0 P (by unfold ir; omega) (by unfold ir; omega) (by unfold ir; omega) hI_377 (by omega) (by omega)) (wm 3 226 rfl rfl) (wm 3 228 rfl rfl) (wm 0 21 rfl rfl) rfl rfl (by decide) rfl (wm 1 12 rfl rfl) (wm 3 229 rfl rfl) (by decide) hR ⟨nfr hF (by decide), nlo hLo (by decide)⟩ (n := 3) rfl rfl (Nat.le_of_ble_eq_true rfl) hl.1 dX7_ownPrimary_23 (fun r_766 μ765 ρ d0 H locs hr_r_766 hp G => ?_)
      have hr_r_766 : -2147483648 ≤ r_766 ∧ r_766 ≤ 2147483647 := hr_r_766
      obtain ⟨F_767, hI_768, hp_769, hp_770, hs_771, hs_772⟩ := hp
      have hpx_773 : μ765.1 26 11 = 0 → PXE μ μ765 P tt 1 (-1) 1 := fun h0 => (PXE.app (hpx_760 (by have h9 : μ374.1 26 11 = μ.1 26 11 := hs_381; have h8 : μ765.1 26 11 = μ.1 26 11 := ((F_767.1 26 (ni hprP (fun P => 26) (fun P => [P, P + 1]) rfl) 11).trans hs_381); omega)) (EX.pl hp_770 (by omega) (by unfold plain; omega) (e := 1) rfl (by have h9 := hs_1 (μ := μ374) (P := P) (i := μ374.1 P 1); omega))).e (by omega)
      refine lv_pop hx hb dX7_ownPrimary_26 rfl ?_
      refine lv_goto (tgt := 123) hx hb dX7_ownPrimary_27 (by decide) ?_
      have htk_774 : TK μ765 := hp_378.fr (K := [P, P + 1]) (Fr.tr Fr.rf F_767 (si hprP (fun P => [P, P + 1]) (fun P => [P, P + 1]) rfl)) (ni hprP (fun P => 26) (fun P => [P, P + 1]) rfl) (ni hprP (fun P => 28) (fun P => [P, P + 1]) rfl) (ni hprP (fun P => 29) (fun P => [P, P + 1]) rfl)
      have e_775 : μ765.1 26 11 = μ.1 26 11 := ((F_767.1 26 (ni hprP (fun P => 26) (fun P => [P, P + 1]) rfl) 11).trans hs_381)
      have e_776 : μ765.1 26 11 = μ.1 26 11 := ((F_767.1 26 (ni hprP (fun P => 26) (fun P => [P, P + 1]) rfl) 11).trans hs_381)
      have e_777 : μ765.1 26 10 = μ374.1 26 10 := (F_767.1 26 (ni hprP (fun P => 26) (fun P => [P, P + 1]) rfl) 10)
      have e_778 : μ765.1 P 1 = μ374.1 P 1 + 1 := hs_771
      have e_779 : μ765.1 P 1 = μ374.1 P 1 + 1 := hs_771
      have e_780 : μ765.1 26 10 = μ374.1 26 10 := (F_767.1 26 (ni hprP (fun P => 26) (fun P => [P, P + 1]) rfl) 10)
      have e_781 : μ765.1 26 11 = μ.1 26 11 := ((F_767.1 26 (ni hprP (fun P => 26) (fun P => [P, P + 1]) rfl) 11).trans hs_381)
      have e_782 : μ765.1 (P + 2) 3 = μ.1 (P + 2) 3 := ((F_767.1 (P + 2) (ni hprP (fun P => P + 2) (fun P => [P, P + 1]) rfl) 3).trans (F_376.1 (P + 2) (ni hprP (fun P => P + 2) (fun P => [26]) rfl) 3))
      have e_783 : μ765.1 P 1 = μ374.1 P 1 + 1 := hs_771
      have e_784 : μ765.1 (P + 2) 3 = μ.1 (P + 2) 3 := ((F_767.1 (P + 2) (ni hprP (fun P => P + 2) (fun P => [P, P + 1]) rfl) 3).trans (F_376.1 (P + 2) (ni hprP (fun P => P + 2) (fun P => [26]) rfl) 3))
      exact xr_v G hret hlk dX7_ownPrimary_123 ⟨(Fr.tr (Fr.tr Fr.rf F_376 (si hprP (fun P => [26]) (fun P => [2, 3, 4, 23, 24, 26, P, P + 1, P + 2, (P + 2) + 1, (P + 2) + 2, (P + 2) + 3]) rfl)) F_767 (si hprP (fun P => [P, P + 1]) (fun P => [2, 3, 4, 23, 24, 26, P, P + 1, P + 2, (P + 2) + 1, (P + 2) + 2, (P + 2) + 3]) rfl)), hI_768, htk_774, (by omega), (by omega), (by omega), (by omega), (fun h0 => (PXE.ex (hpx_773 h0)).e (by omega)), (((F_767.1 23 (ni hprP (fun P => 23) (fun P => [P, P + 1]) rfl) 2).trans ((F_376.1 23 (by decide) 2).trans hP.symm))).trans hP, ((F_767.1 23 (ni hprP (fun P => 23) (fun P => [P, P + 1]) rfl) 5).trans (F_376.1 23 (by decide) 5)), ((F_767.1 23 (ni hprP (fun P => 23) (fun P => [P, P + 1]) rfl) 6).trans (F_376.1 23 (by decide) 6)), ((F_767.1 23 (ni hprP (fun P => 23) (fun P => [P, P + 1]) rfl) 7).trans (F_376.1 23 (by decide) 7)), (((F_767.1 23 (ni hprP (fun P => 23) (fun P => [P, P + 1]) rfl) 8).trans ((F_376.1 23 (by decide) 8).trans htt.symm))).trans htt, ((F_767.1 23 (ni hprP (fun P => 23) (fun P => [P, P + 1]) rfl) 9).trans (F_376.1 23 (by decide) 9)), ((F_767.1 23 (ni hprP (fun P => 23) (fun P => [P, P + 1]) rfl) 10).trans (F_376.1 23 (by decide) 10)), ((F_767.1 26 (ni hprP (fun P => 26) (fun P => [P, P + 1]) rfl) 6).trans hs_382), (hs_772.trans (F_376.1 P (ni hprP (fun P => P) (fun P => [26]) rfl) 7))⟩
