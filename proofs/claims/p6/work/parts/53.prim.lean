abbrev cX7_ownPrimary : ByteArray := prog_9_method_47_code
def yX7_ownPrimary : MethodName := ⟨RX7, "ownPrimary", "()V"⟩
abbrev cX7_afterName : ByteArray := prog_9_method_52_code
def yX7_afterName : MethodName := ⟨RX7, "afterName", "(JI)V"⟩
abbrev cX7_cellParts : ByteArray := prog_9_method_53_code
def yX7_cellParts : MethodName := ⟨RX7, "cellParts", "(I)I"⟩
theorem dX7_ownPrimary_0 : decode cX7_ownPrimary 0 = .ok (.aload_n 0, 1) := by decide +kernel
theorem dX7_ownPrimary_1 : decode cX7_ownPrimary 1 = .ok (.getfield 29, 3) := by decide +kernel
theorem dX7_ownPrimary_4 : decode cX7_ownPrimary 4 = .ok (.iconst 1, 1) := by decide +kernel
theorem dX7_ownPrimary_5 : decode cX7_ownPrimary 5 = .ok (.if_icmp .ne 25, 3) := by decide +kernel
theorem dX7_ownPrimary_8 : decode cX7_ownPrimary 8 = .ok (.aload_n 0, 1) := by decide +kernel
theorem dX7_ownPrimary_9 : decode cX7_ownPrimary 9 = .ok (.sipush 226, 3) := by decide +kernel
theorem dX7_ownPrimary_12 : decode cX7_ownPrimary 12 = .ok (.invokevirtual 83, 3) := by decide +kernel
theorem dX7_ownPrimary_15 : decode cX7_ownPrimary 15 = .ok (.ifCond .eq 15, 3) := by decide +kernel
theorem dX7_ownPrimary_18 : decode cX7_ownPrimary 18 = .ok (.aload_n 0, 1) := by decide +kernel
theorem dX7_ownPrimary_19 : decode cX7_ownPrimary 19 = .ok (.bipush 18, 2) := by decide +kernel
theorem dX7_ownPrimary_21 : decode cX7_ownPrimary 21 = .ok (.iconst 0, 1) := by decide +kernel
theorem dX7_ownPrimary_22 : decode cX7_ownPrimary 22 = .ok (.iconst 0, 1) := by decide +kernel
theorem dX7_ownPrimary_23 : decode cX7_ownPrimary 23 = .ok (.invokevirtual 157, 3) := by decide +kernel
theorem dX7_ownPrimary_26 : decode cX7_ownPrimary 26 = .ok (.pop, 1) := by decide +kernel
theorem dX7_ownPrimary_27 : decode cX7_ownPrimary 27 = .ok (.goto 96, 3) := by decide +kernel
theorem dX7_ownPrimary_30 : decode cX7_ownPrimary 30 = .ok (.aload_n 0, 1) := by decide +kernel
theorem dX7_ownPrimary_31 : decode cX7_ownPrimary 31 = .ok (.getfield 29, 3) := by decide +kernel
theorem dX7_ownPrimary_34 : decode cX7_ownPrimary 34 = .ok (.iconst 2, 1) := by decide +kernel
theorem dX7_ownPrimary_35 : decode cX7_ownPrimary 35 = .ok (.if_icmp .ne 33, 3) := by decide +kernel
theorem dX7_ownPrimary_38 : decode cX7_ownPrimary 38 = .ok (.aload_n 0, 1) := by decide +kernel
theorem dX7_ownPrimary_39 : decode cX7_ownPrimary 39 = .ok (.sipush 227, 3) := by decide +kernel
theorem dX7_ownPrimary_42 : decode cX7_ownPrimary 42 = .ok (.invokevirtual 83, 3) := by decide +kernel
theorem dX7_ownPrimary_45 : decode cX7_ownPrimary 45 = .ok (.ifCond .eq 23, 3) := by decide +kernel
theorem dX7_ownPrimary_48 : decode cX7_ownPrimary 48 = .ok (.aload_n 0, 1) := by decide +kernel
theorem dX7_ownPrimary_49 : decode cX7_ownPrimary 49 = .ok (.bipush 40, 2) := by decide +kernel
theorem dX7_ownPrimary_51 : decode cX7_ownPrimary 51 = .ok (.bipush 41, 2) := by decide +kernel
theorem dX7_ownPrimary_53 : decode cX7_ownPrimary 53 = .ok (.invokevirtual 288, 3) := by decide +kernel
theorem dX7_ownPrimary_56 : decode cX7_ownPrimary 56 = .ok (.aload_n 0, 1) := by decide +kernel
theorem dX7_ownPrimary_57 : decode cX7_ownPrimary 57 = .ok (.bipush 16, 2) := by decide +kernel
theorem dX7_ownPrimary_59 : decode cX7_ownPrimary 59 = .ok (.iconst 0, 1) := by decide +kernel
theorem dX7_ownPrimary_60 : decode cX7_ownPrimary 60 = .ok (.iconst 0, 1) := by decide +kernel
theorem dX7_ownPrimary_61 : decode cX7_ownPrimary 61 = .ok (.invokevirtual 157, 3) := by decide +kernel
theorem dX7_ownPrimary_64 : decode cX7_ownPrimary 64 = .ok (.pop, 1) := by decide +kernel
theorem dX7_ownPrimary_65 : decode cX7_ownPrimary 65 = .ok (.goto 58, 3) := by decide +kernel
theorem dX7_ownPrimary_68 : decode cX7_ownPrimary 68 = .ok (.aload_n 0, 1) := by decide +kernel
theorem dX7_ownPrimary_69 : decode cX7_ownPrimary 69 = .ok (.getfield 29, 3) := by decide +kernel
theorem dX7_ownPrimary_72 : decode cX7_ownPrimary 72 = .ok (.iconst 2, 1) := by decide +kernel
theorem dX7_ownPrimary_73 : decode cX7_ownPrimary 73 = .ok (.if_icmp .ne 43, 3) := by decide +kernel
theorem dX7_ownPrimary_76 : decode cX7_ownPrimary 76 = .ok (.aload_n 0, 1) := by decide +kernel
theorem dX7_ownPrimary_77 : decode cX7_ownPrimary 77 = .ok (.sipush 228, 3) := by decide +kernel
theorem dX7_ownPrimary_80 : decode cX7_ownPrimary 80 = .ok (.invokevirtual 83, 3) := by decide +kernel
theorem dX7_ownPrimary_83 : decode cX7_ownPrimary 83 = .ok (.ifCond .eq 33, 3) := by decide +kernel
theorem dX7_ownPrimary_86 : decode cX7_ownPrimary 86 = .ok (.aload_n 0, 1) := by decide +kernel
theorem dX7_ownPrimary_87 : decode cX7_ownPrimary 87 = .ok (.invokevirtual 118, 3) := by decide +kernel
theorem dX7_ownPrimary_90 : decode cX7_ownPrimary 90 = .ok (.istore_n 1, 1) := by decide +kernel
theorem dX7_ownPrimary_91 : decode cX7_ownPrimary 91 = .ok (.aload_n 0, 1) := by decide +kernel
theorem dX7_ownPrimary_92 : decode cX7_ownPrimary 92 = .ok (.bipush 40, 2) := by decide +kernel
theorem dX7_ownPrimary_94 : decode cX7_ownPrimary 94 = .ok (.bipush 41, 2) := by decide +kernel
theorem dX7_ownPrimary_96 : decode cX7_ownPrimary 96 = .ok (.invokevirtual 288, 3) := by decide +kernel
theorem dX7_ownPrimary_99 : decode cX7_ownPrimary 99 = .ok (.aload_n 0, 1) := by decide +kernel
theorem dX7_ownPrimary_100 : decode cX7_ownPrimary 100 = .ok (.bipush 17, 2) := by decide +kernel
theorem dX7_ownPrimary_102 : decode cX7_ownPrimary 102 = .ok (.iload_n 1, 1) := by decide +kernel
theorem dX7_ownPrimary_103 : decode cX7_ownPrimary 103 = .ok (.iconst 0, 1) := by decide +kernel
theorem dX7_ownPrimary_104 : decode cX7_ownPrimary 104 = .ok (.aload_n 0, 1) := by decide +kernel
theorem dX7_ownPrimary_105 : decode cX7_ownPrimary 105 = .ok (.iconst (-1), 1) := by decide +kernel
theorem dX7_ownPrimary_106 : decode cX7_ownPrimary 106 = .ok (.iconst 0, 1) := by decide +kernel
theorem dX7_ownPrimary_107 : decode cX7_ownPrimary 107 = .ok (.invokevirtual 273, 3) := by decide +kernel
theorem dX7_ownPrimary_110 : decode cX7_ownPrimary 110 = .ok (.invokevirtual 230, 3) := by decide +kernel
theorem dX7_ownPrimary_113 : decode cX7_ownPrimary 113 = .ok (.goto 10, 3) := by decide +kernel
theorem dX7_ownPrimary_116 : decode cX7_ownPrimary 116 = .ok (.aload_n 0, 1) := by decide +kernel
theorem dX7_ownPrimary_117 : decode cX7_ownPrimary 117 = .ok (.getfield 43, 3) := by decide +kernel
theorem dX7_ownPrimary_120 : decode cX7_ownPrimary 120 = .ok (.invokevirtual 93, 3) := by decide +kernel
theorem dX7_ownPrimary_123 : decode cX7_ownPrimary 123 = .ok (.return_, 1) := by decide +kernel
theorem dX7_afterName_0 : decode cX7_afterName 0 = .ok (.aload_n 0, 1) := by decide +kernel
theorem dX7_afterName_1 : decode cX7_afterName 1 = .ok (.getfield 43, 3) := by decide +kernel
theorem dX7_afterName_4 : decode cX7_afterName 4 = .ok (.getfield 80, 3) := by decide +kernel
theorem dX7_afterName_7 : decode cX7_afterName 7 = .ok (.bipush 40, 2) := by decide +kernel
theorem dX7_afterName_9 : decode cX7_afterName 9 = .ok (.if_icmp .ne 16, 3) := by decide +kernel
theorem dX7_afterName_12 : decode cX7_afterName 12 = .ok (.aload_n 0, 1) := by decide +kernel
theorem dX7_afterName_13 : decode cX7_afterName 13 = .ok (.bipush 13, 2) := by decide +kernel
theorem dX7_afterName_15 : decode cX7_afterName 15 = .ok (.aload_n 0, 1) := by decide +kernel
theorem dX7_afterName_16 : decode cX7_afterName 16 = .ok (.getfield 29, 3) := by decide +kernel
theorem dX7_afterName_19 : decode cX7_afterName 19 = .ok (.lload_n 1, 1) := by decide +kernel
theorem dX7_afterName_20 : decode cX7_afterName 20 = .ok (.iconst (-1), 1) := by decide +kernel
theorem dX7_afterName_21 : decode cX7_afterName 21 = .ok (.invokevirtual 297, 3) := by decide +kernel
theorem dX7_afterName_24 : decode cX7_afterName 24 = .ok (.return_, 1) := by decide +kernel
theorem dX7_afterName_25 : decode cX7_afterName 25 = .ok (.aload_n 0, 1) := by decide +kernel
theorem dX7_afterName_26 : decode cX7_afterName 26 = .ok (.lload_n 1, 1) := by decide +kernel
theorem dX7_afterName_27 : decode cX7_afterName 27 = .ok (.iload_n 3, 1) := by decide +kernel
theorem dX7_afterName_28 : decode cX7_afterName 28 = .ok (.invokevirtual 220, 3) := by decide +kernel
theorem dX7_afterName_31 : decode cX7_afterName 31 = .ok (.istore 4, 2) := by decide +kernel
theorem dX7_afterName_33 : decode cX7_afterName 33 = .ok (.aload_n 0, 1) := by decide +kernel
theorem dX7_afterName_34 : decode cX7_afterName 34 = .ok (.getfield 43, 3) := by decide +kernel
theorem dX7_afterName_37 : decode cX7_afterName 37 = .ok (.getfield 80, 3) := by decide +kernel
theorem dX7_afterName_40 : decode cX7_afterName 40 = .ok (.bipush 91, 2) := by decide +kernel
theorem dX7_afterName_42 : decode cX7_afterName 42 = .ok (.if_icmp .ne 18, 3) := by decide +kernel
theorem dX7_afterName_45 : decode cX7_afterName 45 = .ok (.aload_n 0, 1) := by decide +kernel
theorem dX7_afterName_46 : decode cX7_afterName 46 = .ok (.bipush 11, 2) := by decide +kernel
theorem dX7_afterName_48 : decode cX7_afterName 48 = .ok (.iconst 0, 1) := by decide +kernel
theorem dX7_afterName_49 : decode cX7_afterName 49 = .ok (.iconst 0, 1) := by decide +kernel
theorem dX7_afterName_50 : decode cX7_afterName 50 = .ok (.aload_n 0, 1) := by decide +kernel
theorem dX7_afterName_51 : decode cX7_afterName 51 = .ok (.iload 4, 2) := by decide +kernel
theorem dX7_afterName_53 : decode cX7_afterName 53 = .ok (.invokevirtual 224, 3) := by decide +kernel
theorem dX7_afterName_56 : decode cX7_afterName 56 = .ok (.invokevirtual 230, 3) := by decide +kernel
theorem dX7_afterName_59 : decode cX7_afterName 59 = .ok (.return_, 1) := by decide +kernel
theorem dX7_afterName_60 : decode cX7_afterName 60 = .ok (.aload_n 0, 1) := by decide +kernel
theorem dX7_afterName_61 : decode cX7_afterName 61 = .ok (.iconst 4, 1) := by decide +kernel
theorem dX7_afterName_62 : decode cX7_afterName 62 = .ok (.iload 4, 2) := by decide +kernel
theorem dX7_afterName_64 : decode cX7_afterName 64 = .ok (.iconst 0, 1) := by decide +kernel
theorem dX7_afterName_65 : decode cX7_afterName 65 = .ok (.invokevirtual 157, 3) := by decide +kernel
theorem dX7_afterName_68 : decode cX7_afterName 68 = .ok (.pop, 1) := by decide +kernel
theorem dX7_afterName_69 : decode cX7_afterName 69 = .ok (.aload_n 0, 1) := by decide +kernel
theorem dX7_afterName_70 : decode cX7_afterName 70 = .ok (.bipush 33, 2) := by decide +kernel
theorem dX7_afterName_72 : decode cX7_afterName 72 = .ok (.invokevirtual 83, 3) := by decide +kernel
theorem dX7_afterName_75 : decode cX7_afterName 75 = .ok (.ifCond .eq 17, 3) := by decide +kernel
theorem dX7_afterName_78 : decode cX7_afterName 78 = .ok (.aload_n 0, 1) := by decide +kernel
theorem dX7_afterName_79 : decode cX7_afterName 79 = .ok (.bipush 14, 2) := by decide +kernel
theorem dX7_afterName_81 : decode cX7_afterName 81 = .ok (.iconst 0, 1) := by decide +kernel
theorem dX7_afterName_82 : decode cX7_afterName 82 = .ok (.lconst 0, 1) := by decide +kernel
theorem dX7_afterName_83 : decode cX7_afterName 83 = .ok (.aload_n 0, 1) := by decide +kernel
theorem dX7_afterName_84 : decode cX7_afterName 84 = .ok (.iconst (-1), 1) := by decide +kernel
theorem dX7_afterName_85 : decode cX7_afterName 85 = .ok (.iconst 0, 1) := by decide +kernel
theorem dX7_afterName_86 : decode cX7_afterName 86 = .ok (.invokevirtual 273, 3) := by decide +kernel
theorem dX7_afterName_89 : decode cX7_afterName 89 = .ok (.invokevirtual 297, 3) := by decide +kernel
theorem dX7_afterName_92 : decode cX7_afterName 92 = .ok (.return_, 1) := by decide +kernel
theorem dX7_cellParts_0 : decode cX7_cellParts 0 = .ok (.aload_n 0, 1) := by decide +kernel
theorem dX7_cellParts_1 : decode cX7_cellParts 1 = .ok (.iconst 4, 1) := by decide +kernel
theorem dX7_cellParts_2 : decode cX7_cellParts 2 = .ok (.iload_n 1, 1) := by decide +kernel
theorem dX7_cellParts_3 : decode cX7_cellParts 3 = .ok (.iconst 0, 1) := by decide +kernel
theorem dX7_cellParts_4 : decode cX7_cellParts 4 = .ok (.invokevirtual 157, 3) := by decide +kernel
theorem dX7_cellParts_7 : decode cX7_cellParts 7 = .ok (.pop, 1) := by decide +kernel
theorem dX7_cellParts_8 : decode cX7_cellParts 8 = .ok (.aload_n 0, 1) := by decide +kernel
theorem dX7_cellParts_9 : decode cX7_cellParts 9 = .ok (.iconst (-1), 1) := by decide +kernel
theorem dX7_cellParts_10 : decode cX7_cellParts 10 = .ok (.iconst 0, 1) := by decide +kernel
theorem dX7_cellParts_11 : decode cX7_cellParts 11 = .ok (.invokevirtual 273, 3) := by decide +kernel
theorem dX7_cellParts_14 : decode cX7_cellParts 14 = .ok (.istore_n 2, 1) := by decide +kernel
theorem dX7_cellParts_15 : decode cX7_cellParts 15 = .ok (.aload_n 0, 1) := by decide +kernel
theorem dX7_cellParts_16 : decode cX7_cellParts 16 = .ok (.bipush 91, 2) := by decide +kernel
theorem dX7_cellParts_18 : decode cX7_cellParts 18 = .ok (.bipush 93, 2) := by decide +kernel
theorem dX7_cellParts_20 : decode cX7_cellParts 20 = .ok (.invokevirtual 288, 3) := by decide +kernel
theorem dX7_cellParts_23 : decode cX7_cellParts 23 = .ok (.aload_n 0, 1) := by decide +kernel
theorem dX7_cellParts_24 : decode cX7_cellParts 24 = .ok (.iload_n 2, 1) := by decide +kernel
theorem dX7_cellParts_25 : decode cX7_cellParts 25 = .ok (.iconst 1, 1) := by decide +kernel
theorem dX7_cellParts_26 : decode cX7_cellParts 26 = .ok (.invokevirtual 273, 3) := by decide +kernel
theorem dX7_cellParts_29 : decode cX7_cellParts 29 = .ok (.ireturn, 1) := by decide +kernel
set_option maxHeartbeats 4000000 in
set_option maxRecDepth 100000 in
theorem c_X7_cellParts (ω : Om) (l : Launch) (μ : M3) (x1 : Int) (F : Nat) (Lo : Nat) (kf : Int) (P : Int) (tt : Int) (hx1 : ir x1) (hI : IC μ) (hP : P = μ.1 23 2) (htt : tt = μ.1 23 8) (hF : 60 ≤ F) (hLo : 2000 ≤ Lo) (hE : ∀ (μ : M3) (x1 : Int) (P : Int) (tt : Int) (hx1 : x1 = 0 ∨ x1 = 1) (hI : IC μ) (hP : P = μ.1 23 2) (htt : tt = μ.1 23 8) (hTK : TK μ) (hB : μ.1 P 1 ≤ 2 * μ.1 26 10 + 100 + 40 * μ.1 26 11) (hKc : μ.1 (P + 2) 3 ≤ μ.1 P 1) (hdp : 0 ≤ μ.1 23 9 ∧ μ.1 23 9 ≤ 8 + μ.1 26 11) (hfu : (μ.1 26 11 = 1 ∧ 0 ≤ (kf - 1)) ∨ 9 ≤ μ.1 23 9 + (kf - 1)) (hbg : x1 = 0 ∨ μ.1 26 11 ≠ 0 ∨ 2 ≤ hs μ P (μ.1 P 1)), CtV ω l yX7_expression cX7_expression 3 (F + 0) (Lo + 0) [.ref (oP ω 23), .int (iv x1)] μ (fun (μ' : M3) => (Fr [2, 3, 4, 23, 24, 26, P, P + 1, P + 2, (P + 2) + 1, (P + 2) + 2, (P + 2) + 3] μ μ') ∧ (IC μ') ∧ (TK μ') ∧ (μ.1 26 11 ≤ μ'.1 26 11) ∧ (μ.1 26 10 ≤ μ'.1 26 10) ∧ (μ.1 P 1 ≤ μ'.1 P 1 ∧ μ'.1 P 1 ≤ μ.1 P 1 + 2 * (μ'.1 26 10 - μ.1 26 10) + (- 1 + 3 * μ'.1 26 11 - 2 * μ.1 26 11 + x1)) ∧ (μ'.1 (P + 2) 3 - μ.1 (P + 2) 3 ≤ μ'.1 P 1 - μ.1 P 1 ∧ μ.1 (P + 2) 3 ≤ μ'.1 (P + 2) 3) ∧ (μ'.1 26 11 = 0 → EX μ μ' P tt (1 - x1) 0) ∧ (μ'.1 23 2 = μ.1 23 2) ∧ (μ'.1 23 5 = μ.1 23 5) ∧ (μ'.1 23 6 = μ.1 23 6) ∧ (μ'.1 23 7 = μ.1 23 7) ∧ (μ'.1 23 8 = μ.1 23 8) ∧ (μ'.1 23 9 = μ.1 23 9) ∧ (μ'.1 23 10 = μ.1 23 10) ∧ (μ'.1 26 6 = μ.1 26 6) ∧ (μ'.1 P 7 = μ.1 P 7))) (hU : ∀ (μ : M3) (x1 : Int) (P : Int) (tt : Int) (hx1 : x1 = 0 ∨ x1 = 1) (hI : IC μ) (hP : P = μ.1 23 2) (htt : tt = μ.1 23 8) (hTK : TK μ) (hB : μ.1 P 1 ≤ 2 * μ.1 26 10 + 100 + 40 * μ.1 26 11) (hKc : μ.1 (P + 2) 3 ≤ μ.1 P 1) (hdp : 0 ≤ μ.1 23 9 ∧ μ.1 23 9 ≤ 8 + μ.1 26 11) (hfu : (μ.1 26 11 = 1 ∧ 0 ≤ (kf - 1)) ∨ 9 ≤ μ.1 23 9 + (kf - 1)) (hbg : x1 = 0 ∨ μ.1 26 11 ≠ 0 ∨ 2 ≤ hs μ P (μ.1 P 1)), CtV ω l yX7_unary cX7_unary 2 (F + 0) (Lo + 0) [.ref (oP ω 23), .int (iv x1)] μ (fun (μ' : M3) => (Fr [2, 3, 4, 23, 24, 26, P, P + 1, P + 2, (P + 2) + 1, (P + 2) + 2, (P + 2) + 3] μ μ') ∧ (IC μ') ∧ (TK μ') ∧ (μ.1 26 11 ≤ μ'.1 26 11) ∧ (μ.1 26 10 ≤ μ'.1 26 10) ∧ (μ.1 P 1 ≤ μ'.1 P 1 ∧ μ'.1 P 1 ≤ μ.1 P 1 + 2 * (μ'.1 26 10 - μ.1 26 10) + (- 1 + 3 * μ'.1 26 11 - 2 * μ.1 26 11 + x1)) ∧ (μ'.1 (P + 2) 3 - μ.1 (P + 2) 3 ≤ μ'.1 P 1 - μ.1 P 1 ∧ μ.1 (P + 2) 3 ≤ μ'.1 (P + 2) 3) ∧ (μ'.1 26 11 = 0 → EX μ μ' P tt (1 - x1) 0) ∧ (μ'.1 23 2 = μ.1 23 2) ∧ (μ'.1 23 5 = μ.1 23 5) ∧ (μ'.1 23 6 = μ.1 23 6) ∧ (μ'.1 23 7 = μ.1 23 7) ∧ (μ'.1 23 8 = μ.1 23 8) ∧ (μ'.1 23 9 = μ.1 23 9) ∧ (μ'.1 23 10 = μ.1 23 10) ∧ (μ'.1 26 6 = μ.1 26 6) ∧ (μ'.1 P 7 = μ.1 P 7))) (hTK : TK μ) (hB : μ.1 P 1 ≤ 2 * μ.1 26 10 + 100 + 40 * μ.1 26 11) (hKc : μ.1 (P + 2) 3 ≤ μ.1 P 1) (hdp : 0 ≤ μ.1 23 9 ∧ μ.1 23 9 ≤ 8) (hfu : 9 ≤ μ.1 23 9 + kf) (hx1b : 0 ≤ x1 ∧ x1 ≤ 1000) : CtI ω l yX7_cellParts cX7_cellParts 3 .int (F + 2) (Lo + 44) [.ref (oP ω 23), .int (iv x1)] μ (fun (r : Int) (μ' : M3) => (Fr [2, 3, 4, 23, 24, 26, P, P + 1, P + 2, (P + 2) + 1, (P + 2) + 2, (P + 2) + 3] μ μ') ∧ (IC μ') ∧ (TK μ') ∧ (μ.1 26 11 ≤ μ'.1 26 11) ∧ (μ.1 26 10 ≤ μ'.1 26 10) ∧ (μ.1 P 1 ≤ μ'.1 P 1 ∧ μ'.1 P 1 ≤ μ.1 P 1 + 2 * (μ'.1 26 10 - μ.1 26 10) + (- 2 + 5 * μ'.1 26 11)) ∧ (μ'.1 (P + 2) 3 - μ.1 (P + 2) 3 ≤ μ'.1 P 1 - μ.1 P 1 ∧ μ.1 (P + 2) 3 ≤ μ'.1 (P + 2) 3) ∧ (μ'.1 26 11 = 0 → PXE μ μ' P tt 2 r 1) ∧ (μ'.1 23 2 = μ.1 23 2) ∧ (μ'.1 23 5 = μ.1 23 5) ∧ (μ'.1 23 6 = μ.1 23 6) ∧ (μ'.1 23 7 = μ.1 23 7) ∧ (μ'.1 23 8 = μ.1 23 8) ∧ (μ'.1 23 9 = μ.1 23 9) ∧ (μ'.1 23 10 = μ.1 23 10) ∧ (μ'.1 26 6 = μ.1 26 6) ∧ (μ'.1 P 7 = μ.1 P 7)) := by
  refine CtI.go (by decide) (Nat.le_of_ble_eq_true rfl) (fun ρ p e s m below meth c R ls G hR hret hlk hl => ?_)
  have hx := G.1.1
  have hb := G.1.2.1
  have hl : lv_has ls 3 [(0, .ref (oP ω 23)), (1, .int (iv x1))] := hl
  generalize s.drawn = d0 at G ⊢
  have hr_x1 : -2147483648 ≤ x1 ∧ x1 ≤ 2147483647 := hx1
  have hTKb := hTK.b
  have hprP : isPr P := by have h9 := G.sr0.2.2.2.2.2; rw [← hP] at h9; exact h9
  have hprP_d : 13 ≤ P ∧ P ≤ 101 := by rcases hprP with h9 | h9 | h9 | h9 | h9 <;> omega
  have hk_1 := hI.pr (p := P) hprP
  unfold pk at hk_1
  have hc_2 : 16 ≤ μ.2.1 (P + 1) ∧ μ.2.1 (P + 1) ≤ 73024 := hI.rm.1 _ hprP.cap
  have hnil : μ.1 26 11 = 0 → PXE μ μ P tt 0 (-1) 1 := fun _ => PXE.nil (by omega)
  refine lv_aload_n hx hb dX7_cellParts_0 rfl (lv_at hl 0 rfl) ?_
  refine lv_iconst (v := iv 4) hx hb dX7_cellParts_1 rfl ?_
  refine lv_iload_n hx hb dX7_cellParts_2 rfl (lv_at hl 1 rfl) ?_
  refine lv_iconst (v := iv 0) hx hb dX7_cellParts_3 rfl ?_
  have e_3 : μ.1 23 2 = P := hP.symm
  refine xc_iV G (b := 23) (rest := []) (As := [.int (iv 4), .int (iv x1), .int (iv 0)]) (c_X7_add ω l μ 4 x1 0 P (by unfold ir; omega) (by unfold ir; omega) (by unfold ir; omega) hI (by omega) (by omega)) (wm 3 226 rfl rfl) (wm 3 228 rfl rfl) (wm 0 21 rfl rfl) rfl rfl (by decide) rfl (wm 1 12 rfl rfl) (wm 3 229 rfl rfl) (by decide) hR ⟨nfr hF (by decide), nlo hLo (by decide)⟩ (n := 3) rfl rfl (Nat.le_of_ble_eq_true rfl) hl.1 dX7_cellParts_4 (fun r_5 μ4 ρ d0 H locs hr_r_5 hp G => ?_)
  have hr_r_5 : -2147483648 ≤ r_5 ∧ r_5 ≤ 2147483647 := hr_r_5
  obtain ⟨F_6, hI_7, hp_8, hp_9, hs_10, hs_11⟩ := hp
  have hpx_12 : μ4.1 26 11 = 0 → PXE μ μ4 P tt 1 (-1) 1 := fun h0 => (PXE.app (hnil (by have h9 : μ.1 26 11 = μ.1 26 11 := rfl; have h8 : μ4.1 26 11 = μ.1 26 11 := (F_6.1 26 (ni hprP (fun P => 26) (fun P => [P, P + 1]) rfl) 11); omega)) (EX.pl hp_9 (by omega) (by unfold plain; omega) (e := 1) rfl (by have h9 := hs_1 (μ := μ) (P := P) (i := μ.1 P 1); omega))).e (by omega)
  refine lv_pop hx hb dX7_cellParts_7 rfl ?_
  refine lv_aload_n hx hb dX7_cellParts_8 rfl (lv_at hl 0 rfl) ?_
  refine lv_iconst (v := iv (-1)) hx hb dX7_cellParts_9 rfl ?_
  refine lv_iconst (v := iv 0) hx hb dX7_cellParts_10 rfl ?_
  have e_13 : μ4.1 23 2 = P := ((F_6.1 23 (ni hprP (fun P => 23) (fun P => [P, P + 1]) rfl) 2).trans hP.symm)
  have e_14 : μ4.1 23 8 = tt := ((F_6.1 23 (ni hprP (fun P => 23) (fun P => [P, P + 1]) rfl) 8).trans htt.symm)
  have e_15 : μ4.1 P 1 = μ.1 P 1 + 1 := hs_10
  have e_16 : μ4.1 P 1 = μ.1 P 1 + 1 := hs_10
  have e_17 : μ4.1 P 1 = μ.1 P 1 + 1 := hs_10
  have e_18 : μ4.1 P 7 = μ.1 P 7 := hs_11
  refine xc_iV G (b := 23) (rest := []) (As := [.int (iv (-1)), .int (iv 0)]) (c_X7_ifFails ω l μ4 (-1) 0 μ (1) (1) P tt (by unfold ir; omega) (by unfold ir; omega) hI_7 (by omega) (by omega) (by omega) hpx_12 (by omega) (by omega)) (wm 4 23 rfl rfl) (wm 4 25 rfl rfl) (wm 0 29 rfl rfl) rfl rfl (by decide) rfl (wm 1 12 rfl rfl) (wm 4 26 rfl rfl) (by decide) hR ⟨nfr hF (by decide), nlo hLo (by decide)⟩ (n := 2) rfl rfl (Nat.le_of_ble_eq_true rfl) hl.1 dX7_cellParts_11 (fun r_20 μ19 ρ d0 H locs hr_r_20 hp G => ?_)
  have hr_r_20 : -2147483648 ≤ r_20 ∧ r_20 ≤ 2147483647 := hr_r_20
  obtain ⟨F_21, hI_22, hp_23, hp_24, hs_25⟩ := hp
  have hk_26 := hI_22.pr (p := P) hprP
  unfold pk at hk_26
  have hc_27 : 16 ≤ μ19.2.1 (P + 1) ∧ μ19.2.1 (P + 1) ≤ 73024 := hI_22.rm.1 _ hprP.cap
  have hpx_28 : μ19.1 26 11 = 0 → PXE μ μ19 P tt 1 r_20 1 := fun h0 => hp_23 (by have h9 : μ4.1 26 11 = μ.1 26 11 := (F_6.1 26 (ni hprP (fun P => 26) (fun P => [P, P + 1]) rfl) 11); have h8 : μ19.1 26 11 = μ.1 26 11 := ((F_21.1 26 (ni hprP (fun P => 26) (fun P => [P, P + 1]) rfl) 11).trans (F_6.1 26 (ni hprP (fun P => 26) (fun P => [P, P + 1]) rfl) 11)); omega)
  clear hp_23
  refine lv_istore_n (lv' := [(2, .int (iv r_20)), (0, .ref (oP ω 23)), (1, .int (iv x1))]) hx hb dX7_cellParts_14 rfl hl (by decide) rfl (fun ls hl => ?_)
  refine lv_aload_n hx hb dX7_cellParts_15 rfl (lv_at hl 1 rfl) ?_
  refine lv_bipush (v := iv 91) hx hb dX7_cellParts_16 rfl ?_
  refine lv_bipush (v := iv 93) hx hb dX7_cellParts_18 rfl ?_
  have e_29 : μ19.1 23 2 = P := ((F_21.1 23 (ni hprP (fun P => 23) (fun P => [P, P + 1]) rfl) 2).trans ((F_6.1 23 (ni hprP (fun P => 23) (fun P => [P, P + 1]) rfl) 2).trans hP.symm))
  have e_30 : μ19.1 23 8 = tt := ((F_21.1 23 (ni hprP (fun P => 23) (fun P => [P, P + 1]) rfl) 8).trans ((F_6.1 23 (ni hprP (fun P => 23) (fun P => [P, P + 1]) rfl) 8).trans htt.symm))
  have htk_31 : TK μ19 := hTK.fr (K := [P, P + 1]) (Fr.tr (Fr.tr Fr.rf F_6 (si hprP (fun P => [P, P + 1]) (fun P => [P, P + 1]) rfl)) F_21 (si hprP (fun P => [P, P + 1]) (fun P => [P, P + 1]) rfl)) (ni hprP (fun P => 26) (fun P => [P, P + 1]) rfl) (ni hprP (fun P => 28) (fun P => [P, P + 1]) rfl)
  have hn_32 : -1 ≤ μ.1 26 10 ∧ μ.1 26 10 ≤ 3000 := hI.nm.2.2.2.2.2.2.2.2.2.2.2.2
  have e_33 : μ19.1 26 10 = μ.1 26 10 := ((F_21.1 26 (ni hprP (fun P => 26) (fun P => [P, P + 1]) rfl) 10).trans (F_6.1 26 (ni hprP (fun P => 26) (fun P => [P, P + 1]) rfl) 10))
  have e_34 : μ19.1 26 11 = μ.1 26 11 := ((F_21.1 26 (ni hprP (fun P => 26) (fun P => [P, P + 1]) rfl) 11).trans (F_6.1 26 (ni hprP (fun P => 26) (fun P => [P, P + 1]) rfl) 11))
  have hk_35 := hI.row (r := P + 2) (hprP.row)
  unfold rk at hk_35
  have e_36 : μ19.1 (P + 2) 3 = μ.1 (P + 2) 3 := ((F_21.1 (P + 2) (ni hprP (fun P => P + 2) (fun P => [P, P + 1]) rfl) 3).trans (F_6.1 (P + 2) (ni hprP (fun P => P + 2) (fun P => [P, P + 1]) rfl) 3))
  have e_37 : μ19.1 23 9 = μ.1 23 9 := ((F_21.1 23 (ni hprP (fun P => 23) (fun P => [P, P + 1]) rfl) 9).trans (F_6.1 23 (ni hprP (fun P => 23) (fun P => [P, P + 1]) rfl) 9))
  have e_38 : μ19.1 23 9 = μ.1 23 9 := ((F_21.1 23 (ni hprP (fun P => 23) (fun P => [P, P + 1]) rfl) 9).trans (F_6.1 23 (ni hprP (fun P => 23) (fun P => [P, P + 1]) rfl) 9))
  have e_39 : μ19.1 23 9 = μ.1 23 9 := ((F_21.1 23 (ni hprP (fun P => 23) (fun P => [P, P + 1]) rfl) 9).trans (F_6.1 23 (ni hprP (fun P => 23) (fun P => [P, P + 1]) rfl) 9))
  have e_40 : μ19.1 26 11 = μ.1 26 11 := ((F_21.1 26 (ni hprP (fun P => 26) (fun P => [P, P + 1]) rfl) 11).trans (F_6.1 26 (ni hprP (fun P => 26) (fun P => [P, P + 1]) rfl) 11))
  have e_41 : μ19.1 26 10 = μ.1 26 10 := ((F_21.1 26 (ni hprP (fun P => 26) (fun P => [P, P + 1]) rfl) 10).trans (F_6.1 26 (ni hprP (fun P => 26) (fun P => [P, P + 1]) rfl) 10))
  have e_42 : μ19.1 26 10 = μ.1 26 10 := ((F_21.1 26 (ni hprP (fun P => 26) (fun P => [P, P + 1]) rfl) 10).trans (F_6.1 26 (ni hprP (fun P => 26) (fun P => [P, P + 1]) rfl) 10))
  have e_43 : μ19.1 (P + 2) 3 = μ.1 (P + 2) 3 := ((F_21.1 (P + 2) (ni hprP (fun P => P + 2) (fun P => [P, P + 1]) rfl) 3).trans (F_6.1 (P + 2) (ni hprP (fun P => P + 2) (fun P => [P, P + 1]) rfl) 3))
  have e_44 : μ19.1 (P + 2) 3 = μ.1 (P + 2) 3 := ((F_21.1 (P + 2) (ni hprP (fun P => P + 2) (fun P => [P, P + 1]) rfl) 3).trans (F_6.1 (P + 2) (ni hprP (fun P => P + 2) (fun P => [P, P + 1]) rfl) 3))
  have e_45 : μ19.1 23 2 = P := ((F_21.1 23 (ni hprP (fun P => 23) (fun P => [P, P + 1]) rfl) 2).trans ((F_6.1 23 (ni hprP (fun P => 23) (fun P => [P, P + 1]) rfl) 2).trans hP.symm))
  have hn_46 : 0 ≤ μ.1 23 5 ∧ μ.1 23 5 ≤ 1000 := hI.nm.2.2.2.2.2.2.2.2.1
  have e_47 : μ19.1 23 5 = μ.1 23 5 := ((F_21.1 23 (ni hprP (fun P => 23) (fun P => [P, P + 1]) rfl) 5).trans (F_6.1 23 (ni hprP (fun P => 23) (fun P => [P, P + 1]) rfl) 5))
  have e_48 : μ19.1 23 6 = μ.1 23 6 := ((F_21.1 23 (ni hprP (fun P => 23) (fun P => [P, P + 1]) rfl) 6).trans (F_6.1 23 (ni hprP (fun P => 23) (fun P => [P, P + 1]) rfl) 6))
  have e_49 : μ19.1 23 7 = μ.1 23 7 := ((F_21.1 23 (ni hprP (fun P => 23) (fun P => [P, P + 1]) rfl) 7).trans (F_6.1 23 (ni hprP (fun P => 23) (fun P => [P, P + 1]) rfl) 7))
  have e_50 : μ19.1 23 8 = tt := ((F_21.1 23 (ni hprP (fun P => 23) (fun P => [P, P + 1]) rfl) 8).trans ((F_6.1 23 (ni hprP (fun P => 23) (fun P => [P, P + 1]) rfl) 8).trans htt.symm))
  have e_51 : μ19.1 23 9 = μ.1 23 9 := ((F_21.1 23 (ni hprP (fun P => 23) (fun P => [P, P + 1]) rfl) 9).trans (F_6.1 23 (ni hprP (fun P => 23) (fun P => [P, P + 1]) rfl) 9))
  have e_52 : μ19.1 23 10 = μ.1 23 10 := ((F_21.1 23 (ni hprP (fun P => 23) (fun P => [P, P + 1]) rfl) 10).trans (F_6.1 23 (ni hprP (fun P => 23) (fun P => [P, P + 1]) rfl) 10))
  have hn_53 : 0 ≤ μ.1 26 6 ∧ μ.1 26 6 ≤ 3001 := hI.nm.2.2.2.2.2.2.2.2.2.1
  have e_54 : μ19.1 26 6 = μ.1 26 6 := ((F_21.1 26 (ni hprP (fun P => 26) (fun P => [P, P + 1]) rfl) 6).trans (F_6.1 26 (ni hprP (fun P => 26) (fun P => [P, P + 1]) rfl) 6))
  have e_55 : μ19.1 P 7 = μ.1 P 7 := (hs_25.trans hs_11)
  refine xc_vV G (b := 23) (rest := []) (As := [.int (iv 91), .int (iv 93)]) (c_X7_inBrackets ω l μ19 91 93 F Lo kf P tt (by unfold ir; omega) (by unfold ir; omega) hI_22 (by omega) (by omega) hF hLo hE hU htk_31 (by omega) (by omega) (by omega) (by omega) (by omega) (by omega)) (wm 4 92 rfl rfl) (wm 4 94 rfl rfl) (wm 0 39 rfl rfl) rfl rfl (by decide) rfl (wm 1 12 rfl rfl) (wm 4 95 rfl rfl) (by decide) hR ⟨sfr (F := F) (a := 1) (by decide), slo (L := Lo) (m := 3) (a := 22) (by decide)⟩ (n := 2) rfl rfl (Nat.le_of_ble_eq_true rfl) hl.1 dX7_cellParts_20 (fun μ56 ρ d0 H locs hp G => ?_)
  obtain ⟨F_57, hI_58, hp_59, hp_60, hp_61, hp_62, hp_63, hp_64, hs_65, hs_66, hs_67, hs_68, hs_69, hs_70, hs_71, hs_72, hs_73⟩ := hp
  have hn_74 : -1 ≤ μ56.1 26 10 ∧ μ56.1 26 10 ≤ 3000 := hI_58.nm.2.2.2.2.2.2.2.2.2.2.2.2
  have hk_75 := hI_58.pr (p := P) hprP
  unfold pk at hk_75
  have hc_76 : 16 ≤ μ56.2.1 (P + 1) ∧ μ56.2.1 (P + 1) ≤ 73024 := hI_58.rm.1 _ hprP.cap
  have hk_77 := hI_58.row (r := P + 2) (hprP.row)
  unfold rk at hk_77
  have htb_78 := hp_59.b
  have hpx_79 : μ56.1 26 11 = 0 → PXE μ μ56 P tt 2 r_20 1 := fun h0 => (PXE.app (hpx_28 (by have h9 : μ19.1 26 11 = μ.1 26 11 := ((F_21.1 26 (ni hprP (fun P => 26) (fun P => [P, P + 1]) rfl) 11).trans (F_6.1 26 (ni hprP (fun P => 26) (fun P => [P, P + 1]) rfl) 11)); have h8 : μ56.1 26 11 = μ56.1 26 11 := rfl; omega)) (hp_64 h0)).e (by omega)
  refine lv_aload_n hx hb dX7_cellParts_23 rfl (lv_at hl 1 rfl) ?_
  refine lv_iload_n hx hb dX7_cellParts_24 rfl (lv_at hl 0 rfl) ?_
  refine lv_iconst (v := iv 1) hx hb dX7_cellParts_25 rfl ?_
  have e_80 : μ56.1 23 2 = P := (hs_65.trans ((F_21.1 23 (ni hprP (fun P => 23) (fun P => [P, P + 1]) rfl) 2).trans ((F_6.1 23 (ni hprP (fun P => 23) (fun P => [P, P + 1]) rfl) 2).trans hP.symm)))
  have e_81 : μ56.1 23 8 = tt := (hs_69.trans ((F_21.1 23 (ni hprP (fun P => 23) (fun P => [P, P + 1]) rfl) 8).trans ((F_6.1 23 (ni hprP (fun P => 23) (fun P => [P, P + 1]) rfl) 8).trans htt.symm)))
  have e_82 : μ56.1 P 7 = μ.1 P 7 := (hs_73.trans (hs_25.trans hs_11))
  refine xc_iV G (b := 23) (rest := []) (As := [.int (iv r_20), .int (iv 1)]) (c_X7_ifFails ω l μ56 r_20 1 μ (2) (1) P tt (by unfold ir; omega) (by unfold ir; omega) hI_58 (by omega) (by omega) (by omega) hpx_79 (by omega) (by omega)) (wm 4 23 rfl rfl) (wm 4 25 rfl rfl) (wm 0 29 rfl rfl) rfl rfl (by decide) rfl (wm 1 12 rfl rfl) (wm 4 26 rfl rfl) (by decide) hR ⟨nfr hF (by decide), nlo hLo (by decide)⟩ (n := 2) rfl rfl (Nat.le_of_ble_eq_true rfl) hl.1 dX7_cellParts_26 (fun r_84 μ83 ρ d0 H locs hr_r_84 hp G => ?_)
  have hr_r_84 : -2147483648 ≤ r_84 ∧ r_84 ≤ 2147483647 := hr_r_84
  obtain ⟨F_85, hI_86, hp_87, hp_88, hs_89⟩ := hp
  have hk_90 := hI_86.pr (p := P) hprP
  unfold pk at hk_90
  have hc_91 : 16 ≤ μ83.2.1 (P + 1) ∧ μ83.2.1 (P + 1) ≤ 73024 := hI_86.rm.1 _ hprP.cap
  have hpx_92 : μ83.1 26 11 = 0 → PXE μ μ83 P tt 2 r_84 1 := fun h0 => hp_87 (by have h9 : μ56.1 26 11 = μ56.1 26 11 := rfl; have h8 : μ83.1 26 11 = μ56.1 26 11 := (F_85.1 26 (ni hprP (fun P => 26) (fun P => [P, P + 1]) rfl) 11); omega)
  clear hp_87
  have htk_93 : TK μ83 := hp_59.fr (K := [P, P + 1]) (Fr.tr Fr.rf F_85 (si hprP (fun P => [P, P + 1]) (fun P => [P, P + 1]) rfl)) (ni hprP (fun P => 26) (fun P => [P, P + 1]) rfl) (ni hprP (fun P => 28) (fun P => [P, P + 1]) rfl)
  have e_94 : μ83.1 26 11 = μ56.1 26 11 := (F_85.1 26 (ni hprP (fun P => 26) (fun P => [P, P + 1]) rfl) 11)
  have e_95 : μ83.1 26 11 = μ56.1 26 11 := (F_85.1 26 (ni hprP (fun P => 26) (fun P => [P, P + 1]) rfl) 11)
  have e_96 : μ83.1 26 10 = μ56.1 26 10 := (F_85.1 26 (ni hprP (fun P => 26) (fun P => [P, P + 1]) rfl) 10)
  have e_97 : μ83.1 26 10 = μ56.1 26 10 := (F_85.1 26 (ni hprP (fun P => 26) (fun P => [P, P + 1]) rfl) 10)
  have e_98 : μ83.1 26 11 = μ56.1 26 11 := (F_85.1 26 (ni hprP (fun P => 26) (fun P => [P, P + 1]) rfl) 11)
  have e_99 : μ83.1 (P + 2) 3 = μ56.1 (P + 2) 3 := (F_85.1 (P + 2) (ni hprP (fun P => P + 2) (fun P => [P, P + 1]) rfl) 3)
  have e_100 : μ83.1 (P + 2) 3 = μ56.1 (P + 2) 3 := (F_85.1 (P + 2) (ni hprP (fun P => P + 2) (fun P => [P, P + 1]) rfl) 3)
  have e_101 : μ83.1 23 2 = P := ((F_85.1 23 (ni hprP (fun P => 23) (fun P => [P, P + 1]) rfl) 2).trans (hs_65.trans ((F_21.1 23 (ni hprP (fun P => 23) (fun P => [P, P + 1]) rfl) 2).trans ((F_6.1 23 (ni hprP (fun P => 23) (fun P => [P, P + 1]) rfl) 2).trans hP.symm))))
  have e_102 : μ83.1 23 5 = μ.1 23 5 := ((F_85.1 23 (ni hprP (fun P => 23) (fun P => [P, P + 1]) rfl) 5).trans (hs_66.trans ((F_21.1 23 (ni hprP (fun P => 23) (fun P => [P, P + 1]) rfl) 5).trans (F_6.1 23 (ni hprP (fun P => 23) (fun P => [P, P + 1]) rfl) 5))))
  have e_103 : μ83.1 23 6 = μ.1 23 6 := ((F_85.1 23 (ni hprP (fun P => 23) (fun P => [P, P + 1]) rfl) 6).trans (hs_67.trans ((F_21.1 23 (ni hprP (fun P => 23) (fun P => [P, P + 1]) rfl) 6).trans (F_6.1 23 (ni hprP (fun P => 23) (fun P => [P, P + 1]) rfl) 6))))
  have e_104 : μ83.1 23 7 = μ.1 23 7 := ((F_85.1 23 (ni hprP (fun P => 23) (fun P => [P, P + 1]) rfl) 7).trans (hs_68.trans ((F_21.1 23 (ni hprP (fun P => 23) (fun P => [P, P + 1]) rfl) 7).trans (F_6.1 23 (ni hprP (fun P => 23) (fun P => [P, P + 1]) rfl) 7))))
  have e_105 : μ83.1 23 8 = tt := ((F_85.1 23 (ni hprP (fun P => 23) (fun P => [P, P + 1]) rfl) 8).trans (hs_69.trans ((F_21.1 23 (ni hprP (fun P => 23) (fun P => [P, P + 1]) rfl) 8).trans ((F_6.1 23 (ni hprP (fun P => 23) (fun P => [P, P + 1]) rfl) 8).trans htt.symm))))
  have e_106 : μ83.1 23 9 = μ.1 23 9 := ((F_85.1 23 (ni hprP (fun P => 23) (fun P => [P, P + 1]) rfl) 9).trans (hs_70.trans ((F_21.1 23 (ni hprP (fun P => 23) (fun P => [P, P + 1]) rfl) 9).trans (F_6.1 23 (ni hprP (fun P => 23) (fun P => [P, P + 1]) rfl) 9))))
  have e_107 : μ83.1 23 10 = μ.1 23 10 := ((F_85.1 23 (ni hprP (fun P => 23) (fun P => [P, P + 1]) rfl) 10).trans (hs_71.trans ((F_21.1 23 (ni hprP (fun P => 23) (fun P => [P, P + 1]) rfl) 10).trans (F_6.1 23 (ni hprP (fun P => 23) (fun P => [P, P + 1]) rfl) 10))))
  have e_108 : μ83.1 26 6 = μ.1 26 6 := ((F_85.1 26 (ni hprP (fun P => 26) (fun P => [P, P + 1]) rfl) 6).trans (hs_72.trans ((F_21.1 26 (ni hprP (fun P => 26) (fun P => [P, P + 1]) rfl) 6).trans (F_6.1 26 (ni hprP (fun P => 26) (fun P => [P, P + 1]) rfl) 6))))
  have e_109 : μ83.1 P 7 = μ.1 P 7 := (hs_89.trans (hs_73.trans (hs_25.trans hs_11)))
  exact xr_i G (x := r_84) hret hlk (by unfold ir; omega) rfl dX7_cellParts_29 ⟨(Fr.tr (Fr.tr (Fr.tr (Fr.tr Fr.rf F_6 (si hprP (fun P => [P, P + 1]) (fun P => [2, 3, 4, 23, 24, 26, P, P + 1, P + 2, (P + 2) + 1, (P + 2) + 2, (P + 2) + 3]) rfl)) F_21 (si hprP (fun P => [P, P + 1]) (fun P => [2, 3, 4, 23, 24, 26, P, P + 1, P + 2, (P + 2) + 1, (P + 2) + 2, (P + 2) + 3]) rfl)) F_57 (si hprP (fun P => [2, 3, 4, 23, 24, 26, P, P + 1, P + 2, (P + 2) + 1, (P + 2) + 2, (P + 2) + 3]) (fun P => [2, 3, 4, 23, 24, 26, P, P + 1, P + 2, (P + 2) + 1, (P + 2) + 2, (P + 2) + 3]) rfl)) F_85 (si hprP (fun P => [P, P + 1]) (fun P => [2, 3, 4, 23, 24, 26, P, P + 1, P + 2, (P + 2) + 1, (P + 2) + 2, (P + 2) + 3]) rfl)), hI_86, htk_93, (by omega), (by omega), (by omega), (by omega), (fun h0 => (hpx_92 h0).e (by omega)), (by omega), (by omega), (by omega), (by omega), (by omega), (by omega), (by omega), (by omega), (by omega)⟩

set_option maxHeartbeats 4000000 in
set_option maxRecDepth 100000 in
theorem c_X7_afterName (ω : Om) (l : Launch) (μ : M3) (x1 : Int) (x2 : Int) (F : Nat) (Lo : Nat) (kf : Int) (P : Int) (tt : Int) (hx1 : jr x1) (hx2 : ir x2) (hI : IC μ) (hP : P = μ.1 23 2) (htt : tt = μ.1 23 8) (hF : 60 ≤ F) (hLo : 2000 ≤ Lo) (hE : ∀ (μ : M3) (x1 : Int) (P : Int) (tt : Int) (hx1 : x1 = 0 ∨ x1 = 1) (hI : IC μ) (hP : P = μ.1 23 2) (htt : tt = μ.1 23 8) (hTK : TK μ) (hB : μ.1 P 1 ≤ 2 * μ.1 26 10 + 100 + 40 * μ.1 26 11) (hKc : μ.1 (P + 2) 3 ≤ μ.1 P 1) (hdp : 0 ≤ μ.1 23 9 ∧ μ.1 23 9 ≤ 8 + μ.1 26 11) (hfu : (μ.1 26 11 = 1 ∧ 0 ≤ (kf - 1)) ∨ 9 ≤ μ.1 23 9 + (kf - 1)) (hbg : x1 = 0 ∨ μ.1 26 11 ≠ 0 ∨ 2 ≤ hs μ P (μ.1 P 1)), CtV ω l yX7_expression cX7_expression 3 (F + 0) (Lo + 0) [.ref (oP ω 23), .int (iv x1)] μ (fun (μ' : M3) => (Fr [2, 3, 4, 23, 24, 26, P, P + 1, P + 2, (P + 2) + 1, (P + 2) + 2, (P + 2) + 3] μ μ') ∧ (IC μ') ∧ (TK μ') ∧ (μ.1 26 11 ≤ μ'.1 26 11) ∧ (μ.1 26 10 ≤ μ'.1 26 10) ∧ (μ.1 P 1 ≤ μ'.1 P 1 ∧ μ'.1 P 1 ≤ μ.1 P 1 + 2 * (μ'.1 26 10 - μ.1 26 10) + (- 1 + 3 * μ'.1 26 11 - 2 * μ.1 26 11 + x1)) ∧ (μ'.1 (P + 2) 3 - μ.1 (P + 2) 3 ≤ μ'.1 P 1 - μ.1 P 1 ∧ μ.1 (P + 2) 3 ≤ μ'.1 (P + 2) 3) ∧ (μ'.1 26 11 = 0 → EX μ μ' P tt (1 - x1) 0) ∧ (μ'.1 23 2 = μ.1 23 2) ∧ (μ'.1 23 5 = μ.1 23 5) ∧ (μ'.1 23 6 = μ.1 23 6) ∧ (μ'.1 23 7 = μ.1 23 7) ∧ (μ'.1 23 8 = μ.1 23 8) ∧ (μ'.1 23 9 = μ.1 23 9) ∧ (μ'.1 23 10 = μ.1 23 10) ∧ (μ'.1 26 6 = μ.1 26 6) ∧ (μ'.1 P 7 = μ.1 P 7))) (hU : ∀ (μ : M3) (x1 : Int) (P : Int) (tt : Int) (hx1 : x1 = 0 ∨ x1 = 1) (hI : IC μ) (hP : P = μ.1 23 2) (htt : tt = μ.1 23 8) (hTK : TK μ) (hB : μ.1 P 1 ≤ 2 * μ.1 26 10 + 100 + 40 * μ.1 26 11) (hKc : μ.1 (P + 2) 3 ≤ μ.1 P 1) (hdp : 0 ≤ μ.1 23 9 ∧ μ.1 23 9 ≤ 8 + μ.1 26 11) (hfu : (μ.1 26 11 = 1 ∧ 0 ≤ (kf - 1)) ∨ 9 ≤ μ.1 23 9 + (kf - 1)) (hbg : x1 = 0 ∨ μ.1 26 11 ≠ 0 ∨ 2 ≤ hs μ P (μ.1 P 1)), CtV ω l yX7_unary cX7_unary 2 (F + 0) (Lo + 0) [.ref (oP ω 23), .int (iv x1)] μ (fun (μ' : M3) => (Fr [2, 3, 4, 23, 24, 26, P, P + 1, P + 2, (P + 2) + 1, (P + 2) + 2, (P + 2) + 3] μ μ') ∧ (IC μ') ∧ (TK μ') ∧ (μ.1 26 11 ≤ μ'.1 26 11) ∧ (μ.1 26 10 ≤ μ'.1 26 10) ∧ (μ.1 P 1 ≤ μ'.1 P 1 ∧ μ'.1 P 1 ≤ μ.1 P 1 + 2 * (μ'.1 26 10 - μ.1 26 10) + (- 1 + 3 * μ'.1 26 11 - 2 * μ.1 26 11 + x1)) ∧ (μ'.1 (P + 2) 3 - μ.1 (P + 2) 3 ≤ μ'.1 P 1 - μ.1 P 1 ∧ μ.1 (P + 2) 3 ≤ μ'.1 (P + 2) 3) ∧ (μ'.1 26 11 = 0 → EX μ μ' P tt (1 - x1) 0) ∧ (μ'.1 23 2 = μ.1 23 2) ∧ (μ'.1 23 5 = μ.1 23 5) ∧ (μ'.1 23 6 = μ.1 23 6) ∧ (μ'.1 23 7 = μ.1 23 7) ∧ (μ'.1 23 8 = μ.1 23 8) ∧ (μ'.1 23 9 = μ.1 23 9) ∧ (μ'.1 23 10 = μ.1 23 10) ∧ (μ'.1 26 6 = μ.1 26 6) ∧ (μ'.1 P 7 = μ.1 P 7))) (hTK : TK μ) (hB : μ.1 P 1 ≤ 2 * μ.1 26 10 + 100 + 40 * μ.1 26 11) (hKc : μ.1 (P + 2) 3 ≤ μ.1 P 1) (hdp : 0 ≤ μ.1 23 9 ∧ μ.1 23 9 ≤ 8) (hfu : 9 ≤ μ.1 23 9 + kf) (hs0 : μ.1 26 11 = 0) (ht3 : 0 ≤ tt ∧ tt ≤ 3) : CtV ω l yX7_afterName cX7_afterName 5 (F + 3) (Lo + 66) [.ref (oP ω 23), .long (jv x1), .int (iv x2)] μ (fun (μ' : M3) => (Fr [2, 3, 4, 23, 24, 26, P, P + 1, P + 2, (P + 2) + 1, (P + 2) + 2, (P + 2) + 3] μ μ') ∧ (IC μ') ∧ (TK μ') ∧ (μ.1 26 11 ≤ μ'.1 26 11) ∧ (μ.1 26 10 ≤ μ'.1 26 10) ∧ (μ.1 P 1 ≤ μ'.1 P 1 ∧ μ'.1 P 1 ≤ μ.1 P 1 + 2 * (μ'.1 26 10 - μ.1 26 10) + (1 + 3 * μ'.1 26 11)) ∧ (μ'.1 (P + 2) 3 - μ.1 (P + 2) 3 ≤ μ'.1 P 1 - μ.1 P 1 ∧ μ.1 (P + 2) 3 ≤ μ'.1 (P + 2) 3) ∧ (μ'.1 26 11 = 0 → EX μ μ' P tt 1 0) ∧ (μ'.1 23 2 = μ.1 23 2) ∧ (μ'.1 23 5 = μ.1 23 5) ∧ (μ'.1 23 6 = μ.1 23 6) ∧ (μ'.1 23 7 = μ.1 23 7) ∧ (μ'.1 23 8 = μ.1 23 8) ∧ (μ'.1 23 9 = μ.1 23 9) ∧ (μ'.1 23 10 = μ.1 23 10) ∧ (μ'.1 26 6 = μ.1 26 6) ∧ (μ'.1 P 7 = μ.1 P 7)) := by
  refine CtV.go (by decide) (Nat.le_of_ble_eq_true rfl) (fun ρ p e s m below meth c R ls G hR hret hlk hl => ?_)
  have hx := G.1.1
  have hb := G.1.2.1
  have hl : lv_has ls 5 [(0, .ref (oP ω 23)), (1, .long (jv x1)), (3, .int (iv x2))] := hl
  generalize s.drawn = d0 at G ⊢
  have hr_x2 : -2147483648 ≤ x2 ∧ x2 ≤ 2147483647 := hx2
  have hTKb := hTK.b
  have hprP : isPr P := by have h9 := G.sr0.2.2.2.2.2; rw [← hP] at h9; exact h9
  have hprP_d : 13 ≤ P ∧ P ≤ 101 := by rcases hprP with h9 | h9 | h9 | h9 | h9 <;> omega
  have hk_1 := hI.pr (p := P) hprP
  unfold pk at hk_1
  have hc_2 : 16 ≤ μ.2.1 (P + 1) ∧ μ.2.1 (P + 1) ≤ 73024 := hI.rm.1 _ hprP.cap
  have hnil : μ.1 26 11 = 0 → PXE μ μ P tt 0 (-1) 1 := fun _ => PXE.nil (by omega)
  refine lv_aload_n hx hb dX7_afterName_0 rfl (lv_at hl 0 rfl) ?_
  refine xa_getr G fd_X7 (a := 23) (x := 26) 0 rfl (by decide) rfl (wm 2 17 rfl rfl) ⟨rfl, rfl, rfl⟩ dX7_afterName_1 rfl (G.sk 23 rfl) (by decide) rfl ?_
  refine xa_getN G fd_X10 (host := "FourTongues") (a := 26) 12 rfl (by decide) (by decide) ⟨rfl, rfl, rfl⟩ dX7_afterName_4 rfl (v := .int (iv (μ.1 26 12))) (by rw [show μ.1 26 12 = μ.1 26 12 from rfl]; rfl) ?_
  have hr_3 : -2147483648 ≤ μ.1 26 12 ∧ μ.1 26 12 ≤ 2147483647 := by have h9 := G.hr (a := 26) (k := 12) rfl; exact h9
  refine lv_bipush (v := iv 40) hx hb dX7_afterName_7 rfl ?_
  refine xb_icmp_ne (tgt := 25) hx hb (by unfold ir; omega) (by unfold ir; omega) dX7_afterName_9 (by decide) (fun c_9 => ?_) (fun c_9 => ?_)
  · refine lv_aload_n hx hb dX7_afterName_25 rfl (lv_at hl 0 rfl) ?_
    refine lv_lload_n hx hb dX7_afterName_26 rfl (lv_at hl 1 rfl) ?_
    refine lv_iload_n hx hb dX7_afterName_27 rfl (lv_at hl 2 rfl) ?_
    refine xc_iV G (b := 23) (rest := []) (As := [.long (jv x1), .int (iv x2)]) (c_X7_variableAt ω l μ x1 x2 hx1 (by unfold ir; omega) hI) (wm 4 84 rfl rfl) (wm 4 86 rfl rfl) (wm 0 37 rfl rfl) rfl rfl (by decide) rfl (wm 1 12 rfl rfl) (wm 4 87 rfl rfl) (by decide) hR ⟨nfr hF (by decide), nlo hLo (by decide)⟩ (n := 2) rfl rfl (Nat.le_of_ble_eq_true rfl) hl.1 dX7_afterName_28 (fun r_5 μ4 ρ d0 H locs hr_r_5 hp G => ?_)
    have hr_r_5 : -2147483648 ≤ r_5 ∧ r_5 ≤ 2147483647 := hr_r_5
    obtain ⟨F_6, hI_7, hp_8⟩ := hp
    refine lv_istore (lv' := [(4, .int (iv r_5)), (0, .ref (oP ω 23)), (1, .long (jv x1)), (3, .int (iv x2))]) hx hb dX7_afterName_31 hl (by decide) rfl (fun ls hl => ?_)
    refine lv_aload_n hx hb dX7_afterName_33 rfl (lv_at hl 1 rfl) ?_
    refine xa_getr G fd_X7 (a := 23) (x := 26) 0 rfl (by decide) rfl (wm 2 17 rfl rfl) ⟨rfl, rfl, rfl⟩ dX7_afterName_34 rfl (G.sk 23 rfl) (by decide) rfl ?_
    refine xa_getN G fd_X10 (host := "FourTongues") (a := 26) 12 rfl (by decide) (by decide) ⟨rfl, rfl, rfl⟩ dX7_afterName_37 rfl (v := .int (iv (μ.1 26 12))) (by rw [show μ4.1 26 12 = μ.1 26 12 from (F_6.1 26 (by decide) 12)]; rfl) ?_
    refine lv_bipush (v := iv 91) hx hb dX7_afterName_40 rfl ?_
    refine xb_icmp_ne (tgt := 60) hx hb (by unfold ir; omega) (by unfold ir; omega) dX7_afterName_42 (by decide) (fun c_42 => ?_) (fun c_42 => ?_)
    · refine lv_aload_n hx hb dX7_afterName_60 rfl (lv_at hl 1 rfl) ?_
      refine lv_iconst (v := iv 4) hx hb dX7_afterName_61 rfl ?_
      refine lv_iload hx hb dX7_afterName_62 (lv_at hl 0 rfl) ?_
      refine lv_iconst (v := iv 0) hx hb dX7_afterName_64 rfl ?_
      have hpx_9 : μ4.1 26 11 = 0 → PXE μ μ4 P tt 0 (-1) 1 := fun h0 => (hnil (by have h9 : μ.1 26 11 = μ.1 26 11 := rfl; have h8 : μ4.1 26 11 = μ.1 26 11 := (F_6.1 26 (by decide) 11); omega)).fr (K := [24]) (Fr.tr Fr.rf F_6 (by decide)) (npL_p (L := [24]) (by decide) hprP).1 (npL_p (L := [24]) (by decide) hprP).2.1
      have e_10 : μ4.1 23 2 = P := ((F_6.1 23 (by decide) 2).trans hP.symm)
      have e_11 : μ4.1 P 1 = μ.1 P 1 := (F_6.1 P (ni hprP (fun P => P) (fun P => [24]) rfl) 1)
      have e_12 : μ4.1 P 1 = μ.1 P 1 := (F_6.1 P (ni hprP (fun P => P) (fun P => [24]) rfl) 1)
      have e_13 : μ4.1 P 1 = μ.1 P 1 := (F_6.1 P (ni hprP (fun P => P) (fun P => [24]) rfl) 1)
      have e_14 : μ4.1 P 7 = μ.1 P 7 := (F_6.1 P (ni hprP (fun P => P) (fun P => [24]) rfl) 7)
      refine xc_iV G (b := 23) (rest := []) (As := [.int (iv 4), .int (iv r_5), .int (iv 0)]) (c_X7_add ω l μ4 4 r_5 0 P (by unfold ir; omega) (by unfold ir; omega) (by unfold ir; omega) hI_7 (by omega) (by omega)) (wm 3 226 rfl rfl) (wm 3 228 rfl rfl) (wm 0 21 rfl rfl) rfl rfl (by decide) rfl (wm 1 12 rfl rfl) (wm 3 229 rfl rfl) (by decide) hR ⟨nfr hF (by decide), nlo hLo (by decide)⟩ (n := 3) rfl rfl (Nat.le_of_ble_eq_true rfl) hl.1 dX7_afterName_65 (fun r_16 μ15 ρ d0 H locs hr_r_16 hp G => ?_)
      have hr_r_16 : -2147483648 ≤ r_16 ∧ r_16 ≤ 2147483647 := hr_r_16
      obtain ⟨F_17, hI_18, hp_19, hp_20, hs_21, hs_22⟩ := hp
      have hpx_23 : μ15.1 26 11 = 0 → PXE μ μ15 P tt 1 (-1) 1 := fun h0 => (PXE.app (hpx_9 (by have h9 : μ4.1 26 11 = μ.1 26 11 := (F_6.1 26 (by decide) 11); have h8 : μ15.1 26 11 = μ.1 26 11 := ((F_17.1 26 (ni hprP (fun P => 26) (fun P => [P, P + 1]) rfl) 11).trans (F_6.1 26 (by decide) 11)); omega)) (EX.pl hp_20 (by omega) (by unfold plain; omega) (e := 1) rfl (by have h9 := hs_1 (μ := μ4) (P := P) (i := μ4.1 P 1); omega))).e (by omega)
      refine lv_pop hx hb dX7_afterName_68 rfl ?_
      refine lv_aload_n hx hb dX7_afterName_69 rfl (lv_at hl 1 rfl) ?_
      refine lv_bipush (v := iv 33) hx hb dX7_afterName_70 rfl ?_
      have htk_24 : TK μ15 := hTK.fr (K := [P, P + 1, 24]) (Fr.tr (Fr.tr Fr.rf F_6 (si hprP (fun P => [24]) (fun P => [P, P + 1, 24]) rfl)) F_17 (si hprP (fun P => [P, P + 1]) (fun P => [P, P + 1, 24]) rfl)) (ni hprP (fun P => 26) (fun P => [P, P + 1, 24]) rfl) (ni hprP (fun P => 28) (fun P => [P, P + 1, 24]) rfl)
      have e_25 : μ15.1 26 12 = μ.1 26 12 := ((F_17.1 26 (ni hprP (fun P => 26) (fun P => [P, P + 1]) rfl) 12).trans (F_6.1 26 (by decide) 12))
      have hn_26 : -1 ≤ μ.1 26 10 ∧ μ.1 26 10 ≤ 3000 := hI.nm.2.2.2.2.2.2.2.2.2.2.2.2
      have e_27 : μ15.1 26 10 = μ.1 26 10 := ((F_17.1 26 (ni hprP (fun P => 26) (fun P => [P, P + 1]) rfl) 10).trans (F_6.1 26 (by decide) 10))
      have e_28 : μ15.1 26 11 = μ.1 26 11 := ((F_17.1 26 (ni hprP (fun P => 26) (fun P => [P, P + 1]) rfl) 11).trans (F_6.1 26 (by decide) 11))
      have e_29 : μ15.1 26 12 = μ.1 26 12 := ((F_17.1 26 (ni hprP (fun P => 26) (fun P => [P, P + 1]) rfl) 12).trans (F_6.1 26 (by decide) 12))
      have e_30 : μ15.1 26 10 = μ.1 26 10 := ((F_17.1 26 (ni hprP (fun P => 26) (fun P => [P, P + 1]) rfl) 10).trans (F_6.1 26 (by decide) 10))
      have e_31 : μ15.1 26 12 = μ.1 26 12 := ((F_17.1 26 (ni hprP (fun P => 26) (fun P => [P, P + 1]) rfl) 12).trans (F_6.1 26 (by decide) 12))
      have e_32 : μ15.1 26 11 = μ.1 26 11 := ((F_17.1 26 (ni hprP (fun P => 26) (fun P => [P, P + 1]) rfl) 11).trans (F_6.1 26 (by decide) 11))
      have hn_33 : 0 ≤ μ.1 26 6 ∧ μ.1 26 6 ≤ 3001 := hI.nm.2.2.2.2.2.2.2.2.2.1
      have e_34 : μ15.1 26 6 = μ.1 26 6 := ((F_17.1 26 (ni hprP (fun P => 26) (fun P => [P, P + 1]) rfl) 6).trans (F_6.1 26 (by decide) 6))
      have hn_35 : 0 ≤ μ.1 26 7 ∧ μ.1 26 7 ≤ 3000 := hI.nm.2.2.2.2.2.2.2.2.2.2.1
      have e_36 : μ15.1 26 7 = μ.1 26 7 := ((F_17.1 26 (ni hprP (fun P => 26) (fun P => [P, P + 1]) rfl) 7).trans (F_6.1 26 (by decide) 7))
      have e_37 : μ15.1 26 8 = μ.1 26 8 := ((F_17.1 26 (ni hprP (fun P => 26) (fun P => [P, P + 1]) rfl) 8).trans (F_6.1 26 (by decide) 8))
      have hn_38 : 0 ≤ μ.1 26 9 ∧ μ.1 26 9 ≤ 3000 := hI.nm.2.2.2.2.2.2.2.2.2.2.2.1
      have e_39 : μ15.1 26 9 = μ.1 26 9 := ((F_17.1 26 (ni hprP (fun P => 26) (fun P => [P, P + 1]) rfl) 9).trans (F_6.1 26 (by decide) 9))
      refine xc_iV G (b := 23) (rest := []) (As := [.int (iv 33)]) (c_X7_took ω l μ15 33 (by unfold ir; omega) hI_18 htk_24 (by omega)) (wm 3 160 rfl rfl) (wm 3 162 rfl rfl) (wm 0 9 rfl rfl) rfl rfl (by decide) rfl (wm 1 12 rfl rfl) (wm 3 163 rfl rfl) (by decide) hR ⟨nfr hF (by decide), nlo hLo (by decide)⟩ (n := 1) rfl rfl (Nat.le_of_ble_eq_true rfl) hl.1 dX7_afterName_72 (fun r_41 μ40 ρ d0 H locs hr_r_41 hp G => ?_)
      have hr_r_41 : -2147483648 ≤ r_41 ∧ r_41 ≤ 2147483647 := hr_r_41
      obtain ⟨F_42, hI_43, hp_44, hp_45, hs_46, hs_47, hs_48, hs_49, hs_50⟩ := hp
      have hn_51 : -1 ≤ μ40.1 26 10 ∧ μ40.1 26 10 ≤ 3000 := hI_43.nm.2.2.2.2.2.2.2.2.2.2.2.2
      have htb_52 := hp_44.b
      refine xb_if_eq (tgt := 92) hx hb (by unfold ir; omega) dX7_afterName_75 (by decide) (fun c_75 => ?_) (fun c_75 => ?_)
      · have hpx_53 : μ40.1 26 11 = 0 → PXE μ μ40 P tt 1 (-1) 1 := fun h0 => (hpx_23 (by have h9 : μ15.1 26 11 = μ.1 26 11 := ((F_17.1 26 (ni hprP (fun P => 26) (fun P => [P, P + 1]) rfl) 11).trans (F_6.1 26 (by decide) 11)); have h8 : μ40.1 26 11 = μ.1 26 11 := (hs_46.trans ((F_17.1 26 (ni hprP (fun P => 26) (fun P => [P, P + 1]) rfl) 11).trans (F_6.1 26 (by decide) 11))); omega)).fr (K := [26]) (Fr.tr Fr.rf F_42 (by decide)) (npL_p (L := [26]) (by decide) hprP).1 (npL_p (L := [26]) (by decide) hprP).2.1
        have e_54 : μ40.1 26 11 = μ.1 26 11 := (hs_46.trans ((F_17.1 26 (ni hprP (fun P => 26) (fun P => [P, P + 1]) rfl) 11).trans (F_6.1 26 (by decide) 11)))
        have e_55 : μ40.1 26 11 = μ.1 26 11 := (hs_46.trans ((F_17.1 26 (ni hprP (fun P => 26) (fun P => [P, P + 1]) rfl) 11).trans (F_6.1 26 (by decide) 11)))
        have e_56 : μ40.1 P 1 = μ4.1 P 1 + 1 := ((F_42.1 P (ni hprP (fun P => P) (fun P => [26]) rfl) 1).trans hs_21)
        have e_57 : μ40.1 P 1 = μ4.1 P 1 + 1 := ((F_42.1 P (ni hprP (fun P => P) (fun P => [26]) rfl) 1).trans hs_21)
        have e_58 : μ40.1 26 11 = μ.1 26 11 := (hs_46.trans ((F_17.1 26 (ni hprP (fun P => 26) (fun P => [P, P + 1]) rfl) 11).trans (F_6.1 26 (by decide) 11)))
        have e_59 : μ40.1 (P + 2) 3 = μ.1 (P + 2) 3 := ((F_42.1 (P + 2) (ni hprP (fun P => P + 2) (fun P => [26]) rfl) 3).trans ((F_17.1 (P + 2) (ni hprP (fun P => P + 2) (fun P => [P, P + 1]) rfl) 3).trans (F_6.1 (P + 2) (ni hprP (fun P => P + 2) (fun P => [24]) rfl) 3)))
        have e_60 : μ40.1 P 1 = μ4.1 P 1 + 1 := ((F_42.1 P (ni hprP (fun P => P) (fun P => [26]) rfl) 1).trans hs_21)
        have e_61 : μ40.1 (P + 2) 3 = μ.1 (P + 2) 3 := ((F_42.1 (P + 2) (ni hprP (fun P => P + 2) (fun P => [26]) rfl) 3).trans ((F_17.1 (P + 2) (ni hprP (fun P => P + 2) (fun P => [P, P + 1]) rfl) 3).trans (F_6.1 (P + 2) (ni hprP (fun P => P + 2) (fun P => [24]) rfl) 3)))
        have e_62 : μ40.1 23 2 = P := ((F_42.1 23 (by decide) 2).trans ((F_17.1 23 (ni hprP (fun P => 23) (fun P => [P, P + 1]) rfl) 2).trans ((F_6.1 23 (by decide) 2).trans hP.symm)))
        have e_63 : μ40.1 23 5 = μ.1 23 5 := ((F_42.1 23 (by decide) 5).trans ((F_17.1 23 (ni hprP (fun P => 23) (fun P => [P, P + 1]) rfl) 5).trans (F_6.1 23 (by decide) 5)))
        have e_64 : μ40.1 23 6 = μ.1 23 6 := ((F_42.1 23 (by decide) 6).trans ((F_17.1 23 (ni hprP (fun P => 23) (fun P => [P, P + 1]) rfl) 6).trans (F_6.1 23 (by decide) 6)))
        have e_65 : μ40.1 23 7 = μ.1 23 7 := ((F_42.1 23 (by decide) 7).trans ((F_17.1 23 (ni hprP (fun P => 23) (fun P => [P, P + 1]) rfl) 7).trans (F_6.1 23 (by decide) 7)))
        have e_66 : μ40.1 23 8 = tt := ((F_42.1 23 (by decide) 8).trans ((F_17.1 23 (ni hprP (fun P => 23) (fun P => [P, P + 1]) rfl) 8).trans ((F_6.1 23 (by decide) 8).trans htt.symm)))
        have e_67 : μ40.1 23 9 = μ.1 23 9 := ((F_42.1 23 (by decide) 9).trans ((F_17.1 23 (ni hprP (fun P => 23) (fun P => [P, P + 1]) rfl) 9).trans (F_6.1 23 (by decide) 9)))
        have e_68 : μ40.1 23 10 = μ.1 23 10 := ((F_42.1 23 (by decide) 10).trans ((F_17.1 23 (ni hprP (fun P => 23) (fun P => [P, P + 1]) rfl) 10).trans (F_6.1 23 (by decide) 10)))
        have e_69 : μ40.1 26 6 = μ.1 26 6 := (hs_47.trans ((F_17.1 26 (ni hprP (fun P => 26) (fun P => [P, P + 1]) rfl) 6).trans (F_6.1 26 (by decide) 6)))
        have e_70 : μ40.1 P 7 = μ.1 P 7 := ((F_42.1 P (ni hprP (fun P => P) (fun P => [26]) rfl) 7).trans (hs_22.trans (F_6.1 P (ni hprP (fun P => P) (fun P => [24]) rfl) 7)))
        exact xr_v G hret hlk dX7_afterName_92 ⟨(Fr.tr (Fr.tr (Fr.tr Fr.rf F_6 (si hprP (fun P => [24]) (fun P => [2, 3, 4, 23, 24, 26, P, P + 1, P + 2, (P + 2) + 1, (P + 2) + 2, (P + 2) + 3]) rfl)) F_17 (si hprP (fun P => [P, P + 1]) (fun P => [2, 3, 4, 23, 24, 26, P, P + 1, P + 2, (P + 2) + 1, (P + 2) + 2, (P + 2) + 3]) rfl)) F_42 (si hprP (fun P => [26]) (fun P => [2, 3, 4, 23, 24, 26, P, P + 1, P + 2, (P + 2) + 1, (P + 2) + 2, (P + 2) + 3]) rfl)), hI_43, hp_44, (by omega), (by omega), (by omega), (by omega), (fun h0 => (PXE.ex (hpx_53 h0)).e (by omega)), (by omega), (by omega), (by omega), (by omega), (by omega), (by omega), (by omega), (by omega), (by omega)⟩
      · refine lv_aload_n hx hb dX7_afterName_78 rfl (lv_at hl 1 rfl) ?_
        refine lv_bipush (v := iv 14) hx hb dX7_afterName_79 rfl ?_
        refine lv_iconst (v := iv 0) hx hb dX7_afterName_81 rfl ?_
        refine lv_lconst (v := jv 0) hx hb dX7_afterName_82 rfl ?_
        refine lv_aload_n hx hb dX7_afterName_83 rfl (lv_at hl 1 rfl) ?_
        refine lv_iconst (v := iv (-1)) hx hb dX7_afterName_84 rfl ?_
        refine lv_iconst (v := iv 0) hx hb dX7_afterName_85 rfl ?_
        have hpx_71 : μ40.1 26 11 = 0 → PXE μ μ40 P tt 1 (-1) 1 := fun h0 => (hpx_23 (by have h9 : μ15.1 26 11 = μ.1 26 11 := ((F_17.1 26 (ni hprP (fun P => 26) (fun P => [P, P + 1]) rfl) 11).trans (F_6.1 26 (by decide) 11)); have h8 : μ40.1 26 11 = μ.1 26 11 := (hs_46.trans ((F_17.1 26 (ni hprP (fun P => 26) (fun P => [P, P + 1]) rfl) 11).trans (F_6.1 26 (by decide) 11))); omega)).fr (K := [26]) (Fr.tr Fr.rf F_42 (by decide)) (npL_p (L := [26]) (by decide) hprP).1 (npL_p (L := [26]) (by decide) hprP).2.1
        have e_72 : μ40.1 23 2 = P := ((F_42.1 23 (by decide) 2).trans ((F_17.1 23 (ni hprP (fun P => 23) (fun P => [P, P + 1]) rfl) 2).trans ((F_6.1 23 (by decide) 2).trans hP.symm)))
        have e_73 : μ40.1 23 8 = tt := ((F_42.1 23 (by decide) 8).trans ((F_17.1 23 (ni hprP (fun P => 23) (fun P => [P, P + 1]) rfl) 8).trans ((F_6.1 23 (by decide) 8).trans htt.symm)))
        have e_74 : μ40.1 P 1 = μ4.1 P 1 + 1 := ((F_42.1 P (ni hprP (fun P => P) (fun P => [26]) rfl) 1).trans hs_21)
        have e_75 : μ40.1 P 1 = μ4.1 P 1 + 1 := ((F_42.1 P (ni hprP (fun P => P) (fun P => [26]) rfl) 1).trans hs_21)
        have e_76 : μ40.1 P 1 = μ4.1 P 1 + 1 := ((F_42.1 P (ni hprP (fun P => P) (fun P => [26]) rfl) 1).trans hs_21)
        have e_77 : μ40.1 P 7 = μ.1 P 7 := ((F_42.1 P (ni hprP (fun P => P) (fun P => [26]) rfl) 7).trans (hs_22.trans (F_6.1 P (ni hprP (fun P => P) (fun P => [24]) rfl) 7)))
        refine xc_iV G (b := 23) (rest := [.long (jv 0), .int (iv 0), .int (iv 14), .ref (oP ω 23)]) (As := [.int (iv (-1)), .int (iv 0)]) (c_X7_ifFails ω l μ40 (-1) 0 μ (1) (1) P tt (by unfold ir; omega) (by unfold ir; omega) hI_43 (by omega) (by omega) (by omega) hpx_71 (by omega) (by omega)) (wm 4 23 rfl rfl) (wm 4 25 rfl rfl) (wm 0 29 rfl rfl) rfl rfl (by decide) rfl (wm 1 12 rfl rfl) (wm 4 26 rfl rfl) (by decide) hR ⟨nfr hF (by decide), nlo hLo (by decide)⟩ (n := 2) rfl rfl (Nat.le_of_ble_eq_true rfl) hl.1 dX7_afterName_86 (fun r_79 μ78 ρ d0 H locs hr_r_79 hp G => ?_)
        have hr_r_79 : -2147483648 ≤ r_79 ∧ r_79 ≤ 2147483647 := hr_r_79
        obtain ⟨F_80, hI_81, hp_82, hp_83, hs_84⟩ := hp
        have hk_85 := hI_81.pr (p := P) hprP
        unfold pk at hk_85
        have hc_86 : 16 ≤ μ78.2.1 (P + 1) ∧ μ78.2.1 (P + 1) ≤ 73024 := hI_81.rm.1 _ hprP.cap
        have hpx_87 : μ78.1 26 11 = 0 → PXE μ μ78 P tt 1 r_79 1 := fun h0 => hp_82 (by have h9 : μ40.1 26 11 = μ.1 26 11 := (hs_46.trans ((F_17.1 26 (ni hprP (fun P => 26) (fun P => [P, P + 1]) rfl) 11).trans (F_6.1 26 (by decide) 11))); have h8 : μ78.1 26 11 = μ.1 26 11 := ((F_80.1 26 (ni hprP (fun P => 26) (fun P => [P, P + 1]) rfl) 11).trans (hs_46.trans ((F_17.1 26 (ni hprP (fun P => 26) (fun P => [P, P + 1]) rfl) 11).trans (F_6.1 26 (by decide) 11)))); omega)
        clear hp_82
        have e_88 : μ78.1 23 2 = P := ((F_80.1 23 (ni hprP (fun P => 23) (fun P => [P, P + 1]) rfl) 2).trans ((F_42.1 23 (by decide) 2).trans ((F_17.1 23 (ni hprP (fun P => 23) (fun P => [P, P + 1]) rfl) 2).trans ((F_6.1 23 (by decide) 2).trans hP.symm))))
        have e_89 : μ78.1 23 8 = tt := ((F_80.1 23 (ni hprP (fun P => 23) (fun P => [P, P + 1]) rfl) 8).trans ((F_42.1 23 (by decide) 8).trans ((F_17.1 23 (ni hprP (fun P => 23) (fun P => [P, P + 1]) rfl) 8).trans ((F_6.1 23 (by decide) 8).trans htt.symm))))
        have htk_90 : TK μ78 := hp_44.fr (K := [P, P + 1]) (Fr.tr Fr.rf F_80 (si hprP (fun P => [P, P + 1]) (fun P => [P, P + 1]) rfl)) (ni hprP (fun P => 26) (fun P => [P, P + 1]) rfl) (ni hprP (fun P => 28) (fun P => [P, P + 1]) rfl)
        have e_91 : μ78.1 26 10 = μ40.1 26 10 := (F_80.1 26 (ni hprP (fun P => 26) (fun P => [P, P + 1]) rfl) 10)
        have e_92 : μ78.1 26 11 = μ.1 26 11 := ((F_80.1 26 (ni hprP (fun P => 26) (fun P => [P, P + 1]) rfl) 11).trans (hs_46.trans ((F_17.1 26 (ni hprP (fun P => 26) (fun P => [P, P + 1]) rfl) 11).trans (F_6.1 26 (by decide) 11))))
        have hk_93 := hI.row (r := P + 2) (hprP.row)
        unfold rk at hk_93
        have e_94 : μ78.1 (P + 2) 3 = μ.1 (P + 2) 3 := ((F_80.1 (P + 2) (ni hprP (fun P => P + 2) (fun P => [P, P + 1]) rfl) 3).trans ((F_42.1 (P + 2) (ni hprP (fun P => P + 2) (fun P => [26]) rfl) 3).trans ((F_17.1 (P + 2) (ni hprP (fun P => P + 2) (fun P => [P, P + 1]) rfl) 3).trans (F_6.1 (P + 2) (ni hprP (fun P => P + 2) (fun P => [24]) rfl) 3))))
        have e_95 : μ78.1 23 9 = μ.1 23 9 := ((F_80.1 23 (ni hprP (fun P => 23) (fun P => [P, P + 1]) rfl) 9).trans ((F_42.1 23 (by decide) 9).trans ((F_17.1 23 (ni hprP (fun P => 23) (fun P => [P, P + 1]) rfl) 9).trans (F_6.1 23 (by decide) 9))))
        have e_96 : μ78.1 23 9 = μ.1 23 9 := ((F_80.1 23 (ni hprP (fun P => 23) (fun P => [P, P + 1]) rfl) 9).trans ((F_42.1 23 (by decide) 9).trans ((F_17.1 23 (ni hprP (fun P => 23) (fun P => [P, P + 1]) rfl) 9).trans (F_6.1 23 (by decide) 9))))
        have e_97 : μ78.1 23 9 = μ.1 23 9 := ((F_80.1 23 (ni hprP (fun P => 23) (fun P => [P, P + 1]) rfl) 9).trans ((F_42.1 23 (by decide) 9).trans ((F_17.1 23 (ni hprP (fun P => 23) (fun P => [P, P + 1]) rfl) 9).trans (F_6.1 23 (by decide) 9))))
        have e_98 : μ78.1 26 11 = μ.1 26 11 := ((F_80.1 26 (ni hprP (fun P => 26) (fun P => [P, P + 1]) rfl) 11).trans (hs_46.trans ((F_17.1 26 (ni hprP (fun P => 26) (fun P => [P, P + 1]) rfl) 11).trans (F_6.1 26 (by decide) 11))))
        have e_99 : μ78.1 26 10 = μ40.1 26 10 := (F_80.1 26 (ni hprP (fun P => 26) (fun P => [P, P + 1]) rfl) 10)
        have e_100 : μ78.1 26 10 = μ40.1 26 10 := (F_80.1 26 (ni hprP (fun P => 26) (fun P => [P, P + 1]) rfl) 10)
        have e_101 : μ78.1 (P + 2) 3 = μ.1 (P + 2) 3 := ((F_80.1 (P + 2) (ni hprP (fun P => P + 2) (fun P => [P, P + 1]) rfl) 3).trans ((F_42.1 (P + 2) (ni hprP (fun P => P + 2) (fun P => [26]) rfl) 3).trans ((F_17.1 (P + 2) (ni hprP (fun P => P + 2) (fun P => [P, P + 1]) rfl) 3).trans (F_6.1 (P + 2) (ni hprP (fun P => P + 2) (fun P => [24]) rfl) 3))))
        have e_102 : μ78.1 (P + 2) 3 = μ.1 (P + 2) 3 := ((F_80.1 (P + 2) (ni hprP (fun P => P + 2) (fun P => [P, P + 1]) rfl) 3).trans ((F_42.1 (P + 2) (ni hprP (fun P => P + 2) (fun P => [26]) rfl) 3).trans ((F_17.1 (P + 2) (ni hprP (fun P => P + 2) (fun P => [P, P + 1]) rfl) 3).trans (F_6.1 (P + 2) (ni hprP (fun P => P + 2) (fun P => [24]) rfl) 3))))
        have e_103 : μ78.1 23 2 = P := ((F_80.1 23 (ni hprP (fun P => 23) (fun P => [P, P + 1]) rfl) 2).trans ((F_42.1 23 (by decide) 2).trans ((F_17.1 23 (ni hprP (fun P => 23) (fun P => [P, P + 1]) rfl) 2).trans ((F_6.1 23 (by decide) 2).trans hP.symm))))
        have hn_104 : 0 ≤ μ.1 23 5 ∧ μ.1 23 5 ≤ 1000 := hI.nm.2.2.2.2.2.2.2.2.1
        have e_105 : μ78.1 23 5 = μ.1 23 5 := ((F_80.1 23 (ni hprP (fun P => 23) (fun P => [P, P + 1]) rfl) 5).trans ((F_42.1 23 (by decide) 5).trans ((F_17.1 23 (ni hprP (fun P => 23) (fun P => [P, P + 1]) rfl) 5).trans (F_6.1 23 (by decide) 5))))
        have e_106 : μ78.1 23 6 = μ.1 23 6 := ((F_80.1 23 (ni hprP (fun P => 23) (fun P => [P, P + 1]) rfl) 6).trans ((F_42.1 23 (by decide) 6).trans ((F_17.1 23 (ni hprP (fun P => 23) (fun P => [P, P + 1]) rfl) 6).trans (F_6.1 23 (by decide) 6))))
        have e_107 : μ78.1 23 7 = μ.1 23 7 := ((F_80.1 23 (ni hprP (fun P => 23) (fun P => [P, P + 1]) rfl) 7).trans ((F_42.1 23 (by decide) 7).trans ((F_17.1 23 (ni hprP (fun P => 23) (fun P => [P, P + 1]) rfl) 7).trans (F_6.1 23 (by decide) 7))))
        have e_108 : μ78.1 23 8 = tt := ((F_80.1 23 (ni hprP (fun P => 23) (fun P => [P, P + 1]) rfl) 8).trans ((F_42.1 23 (by decide) 8).trans ((F_17.1 23 (ni hprP (fun P => 23) (fun P => [P, P + 1]) rfl) 8).trans ((F_6.1 23 (by decide) 8).trans htt.symm))))
        have e_109 : μ78.1 23 9 = μ.1 23 9 := ((F_80.1 23 (ni hprP (fun P => 23) (fun P => [P, P + 1]) rfl) 9).trans ((F_42.1 23 (by decide) 9).trans ((F_17.1 23 (ni hprP (fun P => 23) (fun P => [P, P + 1]) rfl) 9).trans (F_6.1 23 (by decide) 9))))
        have e_110 : μ78.1 23 10 = μ.1 23 10 := ((F_80.1 23 (ni hprP (fun P => 23) (fun P => [P, P + 1]) rfl) 10).trans ((F_42.1 23 (by decide) 10).trans ((F_17.1 23 (ni hprP (fun P => 23) (fun P => [P, P + 1]) rfl) 10).trans (F_6.1 23 (by decide) 10))))
        have e_111 : μ78.1 26 6 = μ.1 26 6 := ((F_80.1 26 (ni hprP (fun P => 26) (fun P => [P, P + 1]) rfl) 6).trans (hs_47.trans ((F_17.1 26 (ni hprP (fun P => 26) (fun P => [P, P + 1]) rfl) 6).trans (F_6.1 26 (by decide) 6))))
        have e_112 : μ78.1 P 7 = μ.1 P 7 := (hs_84.trans ((F_42.1 P (ni hprP (fun P => P) (fun P => [26]) rfl) 7).trans (hs_22.trans (F_6.1 P (ni hprP (fun P => P) (fun P => [24]) rfl) 7))))
        refine xc_vV G (b := 23) (rest := []) (As := [.int (iv 14), .int (iv 0), .long (jv 0), .int (iv r_79)]) (c_X7_arguments ω l μ78 14 0 0 r_79 F Lo kf μ (1) (1) P tt (by unfold ir; omega) (by unfold ir; omega) (by unfold jr; omega) (by unfold ir; omega) hI_81 (by omega) (by omega) hF hLo hE hU htk_90 (by omega) (by omega) (by omega) (by omega) (by omega) (by omega) hpx_87 rfl) (wm 4 63 rfl rfl) (wm 4 65 rfl rfl) (wm 0 36 rfl rfl) rfl rfl (by decide) rfl (wm 1 12 rfl rfl) (wm 4 66 rfl rfl) (by decide) hR ⟨sfr (F := F) (a := 1) (by decide), slo (L := Lo) (m := 11) (a := 22) (by decide)⟩ (n := 4) rfl rfl (Nat.le_of_ble_eq_true rfl) hl.1 dX7_afterName_89 (fun μ113 ρ d0 H locs hp G => ?_)
        obtain ⟨F_114, hI_115, hp_116, hp_117, hp_118, hp_119, hp_120, hp_121, hs_122, hs_123, hs_124, hs_125, hs_126, hs_127, hs_128, hs_129, hs_130⟩ := hp
        have hn_131 : -1 ≤ μ113.1 26 10 ∧ μ113.1 26 10 ≤ 3000 := hI_115.nm.2.2.2.2.2.2.2.2.2.2.2.2
        have hk_132 := hI_115.pr (p := P) hprP
        unfold pk at hk_132
        have hc_133 : 16 ≤ μ113.2.1 (P + 1) ∧ μ113.2.1 (P + 1) ≤ 73024 := hI_115.rm.1 _ hprP.cap
        have hk_134 := hI_115.row (r := P + 2) (hprP.row)
        unfold rk at hk_134
        have htb_135 := hp_116.b
        have hpx_136 : μ113.1 26 11 = 0 → PXE μ μ113 P tt 1 (-1) 1 := fun h0 => PXE.of (hp_121 h0)
        have e_137 : μ113.1 23 2 = P := (hs_122.trans ((F_80.1 23 (ni hprP (fun P => 23) (fun P => [P, P + 1]) rfl) 2).trans ((F_42.1 23 (by decide) 2).trans ((F_17.1 23 (ni hprP (fun P => 23) (fun P => [P, P + 1]) rfl) 2).trans ((F_6.1 23 (by decide) 2).trans hP.symm)))))
        have e_138 : μ113.1 23 5 = μ.1 23 5 := (hs_123.trans ((F_80.1 23 (ni hprP (fun P => 23) (fun P => [P, P + 1]) rfl) 5).trans ((F_42.1 23 (by decide) 5).trans ((F_17.1 23 (ni hprP (fun P => 23) (fun P => [P, P + 1]) rfl) 5).trans (F_6.1 23 (by decide) 5)))))
        have e_139 : μ113.1 23 6 = μ.1 23 6 := (hs_124.trans ((F_80.1 23 (ni hprP (fun P => 23) (fun P => [P, P + 1]) rfl) 6).trans ((F_42.1 23 (by decide) 6).trans ((F_17.1 23 (ni hprP (fun P => 23) (fun P => [P, P + 1]) rfl) 6).trans (F_6.1 23 (by decide) 6)))))
        have e_140 : μ113.1 23 7 = μ.1 23 7 := (hs_125.trans ((F_80.1 23 (ni hprP (fun P => 23) (fun P => [P, P + 1]) rfl) 7).trans ((F_42.1 23 (by decide) 7).trans ((F_17.1 23 (ni hprP (fun P => 23) (fun P => [P, P + 1]) rfl) 7).trans (F_6.1 23 (by decide) 7)))))
        have e_141 : μ113.1 23 8 = tt := (hs_126.trans ((F_80.1 23 (ni hprP (fun P => 23) (fun P => [P, P + 1]) rfl) 8).trans ((F_42.1 23 (by decide) 8).trans ((F_17.1 23 (ni hprP (fun P => 23) (fun P => [P, P + 1]) rfl) 8).trans ((F_6.1 23 (by decide) 8).trans htt.symm)))))
        have e_142 : μ113.1 23 9 = μ.1 23 9 := (hs_127.trans ((F_80.1 23 (ni hprP (fun P => 23) (fun P => [P, P + 1]) rfl) 9).trans ((F_42.1 23 (by decide) 9).trans ((F_17.1 23 (ni hprP (fun P => 23) (fun P => [P, P + 1]) rfl) 9).trans (F_6.1 23 (by decide) 9)))))
        have e_143 : μ113.1 23 10 = μ.1 23 10 := (hs_128.trans ((F_80.1 23 (ni hprP (fun P => 23) (fun P => [P, P + 1]) rfl) 10).trans ((F_42.1 23 (by decide) 10).trans ((F_17.1 23 (ni hprP (fun P => 23) (fun P => [P, P + 1]) rfl) 10).trans (F_6.1 23 (by decide) 10)))))
        have e_144 : μ113.1 26 6 = μ.1 26 6 := (hs_129.trans ((F_80.1 26 (ni hprP (fun P => 26) (fun P => [P, P + 1]) rfl) 6).trans (hs_47.trans ((F_17.1 26 (ni hprP (fun P => 26) (fun P => [P, P + 1]) rfl) 6).trans (F_6.1 26 (by decide) 6)))))
        have e_145 : μ113.1 P 7 = μ.1 P 7 := (hs_130.trans (hs_84.trans ((F_42.1 P (ni hprP (fun P => P) (fun P => [26]) rfl) 7).trans (hs_22.trans (F_6.1 P (ni hprP (fun P => P) (fun P => [24]) rfl) 7)))))
        exact xr_v G hret hlk dX7_afterName_92 ⟨(Fr.tr (Fr.tr (Fr.tr (Fr.tr (Fr.tr Fr.rf F_6 (si hprP (fun P => [24]) (fun P => [2, 3, 4, 23, 24, 26, P, P + 1, P + 2, (P + 2) + 1, (P + 2) + 2, (P + 2) + 3]) rfl)) F_17 (si hprP (fun P => [P, P + 1]) (fun P => [2, 3, 4, 23, 24, 26, P, P + 1, P + 2, (P + 2) + 1, (P + 2) + 2, (P + 2) + 3]) rfl)) F_42 (si hprP (fun P => [26]) (fun P => [2, 3, 4, 23, 24, 26, P, P + 1, P + 2, (P + 2) + 1, (P + 2) + 2, (P + 2) + 3]) rfl)) F_80 (si hprP (fun P => [P, P + 1]) (fun P => [2, 3, 4, 23, 24, 26, P, P + 1, P + 2, (P + 2) + 1, (P + 2) + 2, (P + 2) + 3]) rfl)) F_114 (si hprP (fun P => [2, 3, 4, 23, 24, 26, P, P + 1, P + 2, (P + 2) + 1, (P + 2) + 2, (P + 2) + 3]) (fun P => [2, 3, 4, 23, 24, 26, P, P + 1, P + 2, (P + 2) + 1, (P + 2) + 2, (P + 2) + 3]) rfl)), hI_115, hp_116, (by omega), (by omega), (by omega), (by omega), (fun h0 => (PXE.ex (hpx_136 h0)).e (by omega)), (by omega), (by omega), (by omega), (by omega), (by omega), (by omega), (by omega), (by omega), (by omega)⟩
    · refine lv_aload_n hx hb dX7_afterName_45 rfl (lv_at hl 1 rfl) ?_
      refine lv_bipush (v := iv 11) hx hb dX7_afterName_46 rfl ?_
      refine lv_iconst (v := iv 0) hx hb dX7_afterName_48 rfl ?_
      refine lv_iconst (v := iv 0) hx hb dX7_afterName_49 rfl ?_
      refine lv_aload_n hx hb dX7_afterName_50 rfl (lv_at hl 1 rfl) ?_
      refine lv_iload hx hb dX7_afterName_51 (lv_at hl 0 rfl) ?_
      have hpx_146 : μ4.1 26 11 = 0 → PXE μ μ4 P tt 0 (-1) 1 := fun h0 => (hnil (by have h9 : μ.1 26 11 = μ.1 26 11 := rfl; have h8 : μ4.1 26 11 = μ.1 26 11 := (F_6.1 26 (by decide) 11); omega)).fr (K := [24]) (Fr.tr Fr.rf F_6 (by decide)) (npL_p (L := [24]) (by decide) hprP).1 (npL_p (L := [24]) (by decide) hprP).2.1
      have e_147 : μ4.1 23 2 = P := ((F_6.1 23 (by decide) 2).trans hP.symm)
      have e_148 : μ4.1 23 8 = tt := ((F_6.1 23 (by decide) 8).trans htt.symm)
      have htk_149 : TK μ4 := hTK.fr (K := [24]) (Fr.tr Fr.rf F_6 (by decide)) (by decide) (by decide)
      have e_150 : μ4.1 P 1 = μ.1 P 1 := (F_6.1 P (ni hprP (fun P => P) (fun P => [24]) rfl) 1)
      have hn_151 : -1 ≤ μ.1 26 10 ∧ μ.1 26 10 ≤ 3000 := hI.nm.2.2.2.2.2.2.2.2.2.2.2.2
      have e_152 : μ4.1 26 10 = μ.1 26 10 := (F_6.1 26 (by decide) 10)
      have e_153 : μ4.1 26 11 = μ.1 26 11 := (F_6.1 26 (by decide) 11)
      have hk_154 := hI.row (r := P + 2) (hprP.row)
      unfold rk at hk_154
      have e_155 : μ4.1 (P + 2) 3 = μ.1 (P + 2) 3 := (F_6.1 (P + 2) (ni hprP (fun P => P + 2) (fun P => [24]) rfl) 3)
      have e_156 : μ4.1 P 1 = μ.1 P 1 := (F_6.1 P (ni hprP (fun P => P) (fun P => [24]) rfl) 1)
      have e_157 : μ4.1 23 9 = μ.1 23 9 := (F_6.1 23 (by decide) 9)
      have e_158 : μ4.1 23 9 = μ.1 23 9 := (F_6.1 23 (by decide) 9)
      have e_159 : μ4.1 23 9 = μ.1 23 9 := (F_6.1 23 (by decide) 9)
      have e_160 : μ4.1 26 11 = μ.1 26 11 := (F_6.1 26 (by decide) 11)
      have e_161 : μ4.1 26 10 = μ.1 26 10 := (F_6.1 26 (by decide) 10)
      have e_162 : μ4.1 P 1 = μ.1 P 1 := (F_6.1 P (ni hprP (fun P => P) (fun P => [24]) rfl) 1)
      have e_163 : μ4.1 P 1 = μ.1 P 1 := (F_6.1 P (ni hprP (fun P => P) (fun P => [24]) rfl) 1)
      have e_164 : μ4.1 26 10 = μ.1 26 10 := (F_6.1 26 (by decide) 10)
      have e_165 : μ4.1 (P + 2) 3 = μ.1 (P + 2) 3 := (F_6.1 (P + 2) (ni hprP (fun P => P + 2) (fun P => [24]) rfl) 3)
      have e_166 : μ4.1 P 1 = μ.1 P 1 := (F_6.1 P (ni hprP (fun P => P) (fun P => [24]) rfl) 1)
      have e_167 : μ4.1 (P + 2) 3 = μ.1 (P + 2) 3 := (F_6.1 (P + 2) (ni hprP (fun P => P + 2) (fun P => [24]) rfl) 3)
      have e_168 : μ4.1 23 2 = P := ((F_6.1 23 (by decide) 2).trans hP.symm)
      have hn_169 : 0 ≤ μ.1 23 5 ∧ μ.1 23 5 ≤ 1000 := hI.nm.2.2.2.2.2.2.2.2.1
      have e_170 : μ4.1 23 5 = μ.1 23 5 := (F_6.1 23 (by decide) 5)
      have e_171 : μ4.1 23 6 = μ.1 23 6 := (F_6.1 23 (by decide) 6)
      have e_172 : μ4.1 23 7 = μ.1 23 7 := (F_6.1 23 (by decide) 7)
      have e_173 : μ4.1 23 8 = tt := ((F_6.1 23 (by decide) 8).trans htt.symm)
      have e_174 : μ4.1 23 9 = μ.1 23 9 := (F_6.1 23 (by decide) 9)
      have e_175 : μ4.1 23 10 = μ.1 23 10 := (F_6.1 23 (by decide) 10)
      have hn_176 : 0 ≤ μ.1 26 6 ∧ μ.1 26 6 ≤ 3001 := hI.nm.2.2.2.2.2.2.2.2.2.1
      have e_177 : μ4.1 26 6 = μ.1 26 6 := (F_6.1 26 (by decide) 6)
      have e_178 : μ4.1 P 7 = μ.1 P 7 := (F_6.1 P (ni hprP (fun P => P) (fun P => [24]) rfl) 7)
      refine xc_iV G (b := 23) (rest := [.int (iv 0), .int (iv 0), .int (iv 11), .ref (oP ω 23)]) (As := [.int (iv r_5)]) (c_X7_cellParts ω l μ4 r_5 F Lo kf P tt (by unfold ir; omega) hI_7 (by omega) (by omega) hF hLo hE hU htk_149 (by omega) (by omega) (by omega) (by omega) (by omega)) (wm 4 88 rfl rfl) (wm 4 90 rfl rfl) (wm 0 38 rfl rfl) rfl rfl (by decide) rfl (wm 1 12 rfl rfl) (wm 4 91 rfl rfl) (by decide) hR ⟨sfr (F := F) (a := 2) (by decide), slo (L := Lo) (m := 3) (a := 44) (by decide)⟩ (n := 1) rfl rfl (Nat.le_of_ble_eq_true rfl) hl.1 dX7_afterName_53 (fun r_180 μ179 ρ d0 H locs hr_r_180 hp G => ?_)
      have hr_r_180 : -2147483648 ≤ r_180 ∧ r_180 ≤ 2147483647 := hr_r_180
      obtain ⟨F_181, hI_182, hp_183, hp_184, hp_185, hp_186, hp_187, hp_188, hs_189, hs_190, hs_191, hs_192, hs_193, hs_194, hs_195, hs_196, hs_197⟩ := hp
      have hn_198 : -1 ≤ μ179.1 26 10 ∧ μ179.1 26 10 ≤ 3000 := hI_182.nm.2.2.2.2.2.2.2.2.2.2.2.2
      have hk_199 := hI_182.pr (p := P) hprP
      unfold pk at hk_199
      have hc_200 : 16 ≤ μ179.2.1 (P + 1) ∧ μ179.2.1 (P + 1) ≤ 73024 := hI_182.rm.1 _ hprP.cap
      have hk_201 := hI_182.row (r := P + 2) (hprP.row)
      unfold rk at hk_201
      have htb_202 := hp_183.b
      have hpx_203 : μ179.1 26 11 = 0 → PXE μ μ179 P tt 2 r_180 1 := (fun h0 => PXE.fl (K := [24]) (Fr.tr Fr.rf F_6 (by decide)) (npL_p (L := [24]) (by decide) hprP).1 (npL_p (L := [24]) (by decide) hprP).2.1 (hp_188 h0))
      have e_204 : μ179.1 23 2 = P := (hs_189.trans ((F_6.1 23 (by decide) 2).trans hP.symm))
      have e_205 : μ179.1 23 8 = tt := (hs_193.trans ((F_6.1 23 (by decide) 8).trans htt.symm))
      have e_206 : μ179.1 P 7 = μ.1 P 7 := (hs_197.trans (F_6.1 P (ni hprP (fun P => P) (fun P => [24]) rfl) 7))
      refine xc_vV G (b := 23) (rest := []) (As := [.int (iv 11), .int (iv 0), .int (iv 0), .int (iv r_180)]) (c_X7_endOfParts ω l μ179 11 0 0 r_180 μ (2) (1) P tt (by unfold ir; omega) (by unfold ir; omega) (by unfold ir; omega) (by unfold ir; omega) hI_182 (by omega) (by omega) (by omega) hpx_203 (Or.inl (by unfold plain; omega)) (by omega) (by rw [show eff 11 0 = -1 from rfl]; omega)) (wm 4 27 rfl rfl) (wm 4 29 rfl rfl) (wm 0 30 rfl rfl) rfl rfl (by decide) rfl (wm 1 12 rfl rfl) (wm 4 30 rfl rfl) (by decide) hR ⟨nfr hF (by decide), nlo hLo (by decide)⟩ (n := 4) rfl rfl (Nat.le_of_ble_eq_true rfl) hl.1 dX7_afterName_56 (fun μ207 ρ d0 H locs hp G => ?_)
      obtain ⟨F_208, hI_209, hp_210, hs_211, hs_212⟩ := hp
      have hpx_213 : μ207.1 26 11 = 0 → PXE μ μ207 P tt 1 (-1) 1 := fun h0 => PXE.of (hp_210 (by have h9 : μ179.1 26 11 = μ179.1 26 11 := rfl; have h8 : μ207.1 26 11 = μ179.1 26 11 := (F_208.1 26 (ni hprP (fun P => 26) (fun P => [P, P + 1]) rfl) 11); omega))
      clear hp_210
      have htk_214 : TK μ207 := hp_183.fr (K := [P, P + 1]) (Fr.tr Fr.rf F_208 (si hprP (fun P => [P, P + 1]) (fun P => [P, P + 1]) rfl)) (ni hprP (fun P => 26) (fun P => [P, P + 1]) rfl) (ni hprP (fun P => 28) (fun P => [P, P + 1]) rfl)
      have e_215 : μ207.1 26 11 = μ179.1 26 11 := (F_208.1 26 (ni hprP (fun P => 26) (fun P => [P, P + 1]) rfl) 11)
      have e_216 : μ207.1 26 11 = μ179.1 26 11 := (F_208.1 26 (ni hprP (fun P => 26) (fun P => [P, P + 1]) rfl) 11)
      have e_217 : μ207.1 26 10 = μ179.1 26 10 := (F_208.1 26 (ni hprP (fun P => 26) (fun P => [P, P + 1]) rfl) 10)
      have e_218 : μ207.1 P 1 = μ179.1 P 1 + 1 := hs_211
      have e_219 : μ207.1 P 1 = μ179.1 P 1 + 1 := hs_211
      have e_220 : μ207.1 26 10 = μ179.1 26 10 := (F_208.1 26 (ni hprP (fun P => 26) (fun P => [P, P + 1]) rfl) 10)
      have e_221 : μ207.1 26 11 = μ179.1 26 11 := (F_208.1 26 (ni hprP (fun P => 26) (fun P => [P, P + 1]) rfl) 11)
      have e_222 : μ207.1 (P + 2) 3 = μ179.1 (P + 2) 3 := (F_208.1 (P + 2) (ni hprP (fun P => P + 2) (fun P => [P, P + 1]) rfl) 3)
      have e_223 : μ207.1 P 1 = μ179.1 P 1 + 1 := hs_211
      have e_224 : μ207.1 (P + 2) 3 = μ179.1 (P + 2) 3 := (F_208.1 (P + 2) (ni hprP (fun P => P + 2) (fun P => [P, P + 1]) rfl) 3)
      have e_225 : μ207.1 23 2 = P := ((F_208.1 23 (ni hprP (fun P => 23) (fun P => [P, P + 1]) rfl) 2).trans (hs_189.trans ((F_6.1 23 (by decide) 2).trans hP.symm)))
      have e_226 : μ207.1 23 5 = μ.1 23 5 := ((F_208.1 23 (ni hprP (fun P => 23) (fun P => [P, P + 1]) rfl) 5).trans (hs_190.trans (F_6.1 23 (by decide) 5)))
      have e_227 : μ207.1 23 6 = μ.1 23 6 := ((F_208.1 23 (ni hprP (fun P => 23) (fun P => [P, P + 1]) rfl) 6).trans (hs_191.trans (F_6.1 23 (by decide) 6)))
      have e_228 : μ207.1 23 7 = μ.1 23 7 := ((F_208.1 23 (ni hprP (fun P => 23) (fun P => [P, P + 1]) rfl) 7).trans (hs_192.trans (F_6.1 23 (by decide) 7)))
      have e_229 : μ207.1 23 8 = tt := ((F_208.1 23 (ni hprP (fun P => 23) (fun P => [P, P + 1]) rfl) 8).trans (hs_193.trans ((F_6.1 23 (by decide) 8).trans htt.symm)))
      have e_230 : μ207.1 23 9 = μ.1 23 9 := ((F_208.1 23 (ni hprP (fun P => 23) (fun P => [P, P + 1]) rfl) 9).trans (hs_194.trans (F_6.1 23 (by decide) 9)))
      have e_231 : μ207.1 23 10 = μ.1 23 10 := ((F_208.1 23 (ni hprP (fun P => 23) (fun P => [P, P + 1]) rfl) 10).trans (hs_195.trans (F_6.1 23 (by decide) 10)))
      have e_232 : μ207.1 26 6 = μ.1 26 6 := ((F_208.1 26 (ni hprP (fun P => 26) (fun P => [P, P + 1]) rfl) 6).trans (hs_196.trans (F_6.1 26 (by decide) 6)))
      have e_233 : μ207.1 P 7 = μ.1 P 7 := (hs_212.trans (hs_197.trans (F_6.1 P (ni hprP (fun P => P) (fun P => [24]) rfl) 7)))
      exact xr_v G hret hlk dX7_afterName_59 ⟨(Fr.tr (Fr.tr (Fr.tr Fr.rf F_6 (si hprP (fun P => [24]) (fun P => [2, 3, 4, 23, 24, 26, P, P + 1, P + 2, (P + 2) + 1, (P + 2) + 2, (P + 2) + 3]) rfl)) F_181 (si hprP (fun P => [2, 3, 4, 23, 24, 26, P, P + 1, P + 2, (P + 2) + 1, (P + 2) + 2, (P + 2) + 3]) (fun P => [2, 3, 4, 23, 24, 26, P, P + 1, P + 2, (P + 2) + 1, (P + 2) + 2, (P + 2) + 3]) rfl)) F_208 (si hprP (fun P => [P, P + 1]) (fun P => [2, 3, 4, 23, 24, 26, P, P + 1, P + 2, (P + 2) + 1, (P + 2) + 2, (P + 2) + 3]) rfl)), hI_209, htk_214, (by omega), (by omega), (by omega), (by omega), (fun h0 => (PXE.ex (hpx_213 h0)).e (by omega)), (by omega), (by omega), (by omega), (by omega), (by omega), (by omega), (by omega), (by omega), (by omega)⟩
  · refine lv_aload_n hx hb dX7_afterName_12 rfl (lv_at hl 0 rfl) ?_
    refine lv_bipush (v := iv 13) hx hb dX7_afterName_13 rfl ?_
    refine lv_aload_n hx hb dX7_afterName_15 rfl (lv_at hl 0 rfl) ?_
    refine xa_geti G fd_X7 (a := 23) (x := tt) 8 rfl (by decide) rfl (wm 2 25 rfl rfl) ⟨rfl, rfl, rfl⟩ dX7_afterName_16 rfl htt.symm ?_
    have hr_234 : -2147483648 ≤ tt ∧ tt ≤ 2147483647 := by have h9 := G.hr (a := 23) (k := 8) rfl; rw [show μ.1 23 8 = tt from htt.symm] at h9; exact h9
    refine lv_lload_n hx hb dX7_afterName_19 rfl (lv_at hl 1 rfl) ?_
    refine lv_iconst (v := iv (-1)) hx hb dX7_afterName_20 rfl ?_
    have e_235 : μ.1 23 2 = P := hP.symm
    have e_236 : μ.1 23 8 = tt := htt.symm
    have hn_237 : -1 ≤ μ.1 26 10 ∧ μ.1 26 10 ≤ 3000 := hI.nm.2.2.2.2.2.2.2.2.2.2.2.2
    have hk_238 := hI.row (r := P + 2) (hprP.row)
    unfold rk at hk_238
    have e_239 : μ.1 23 2 = P := hP.symm
    have hn_240 : 0 ≤ μ.1 23 5 ∧ μ.1 23 5 ≤ 1000 := hI.nm.2.2.2.2.2.2.2.2.1
    have e_241 : μ.1 23 8 = tt := htt.symm
    have hn_242 : 0 ≤ μ.1 26 6 ∧ μ.1 26 6 ≤ 3001 := hI.nm.2.2.2.2.2.2.2.2.2.1
    refine xc_vV G (b := 23) (rest := []) (As := [.int (iv 13), .int (iv tt), .long (jv x1), .int (iv (-1))]) (c_X7_arguments ω l μ 13 tt x1 (-1) F Lo kf μ (0) (1) P tt (by unfold ir; omega) (by unfold ir; omega) hx1 (by unfold ir; omega) hI (by omega) (by omega) hF hLo hE hU hTK (by omega) (by omega) (by omega) (by omega) (by omega) (by omega) hnil rfl) (wm 4 63 rfl rfl) (wm 4 65 rfl rfl) (wm 0 36 rfl rfl) rfl rfl (by decide) rfl (wm 1 12 rfl rfl) (wm 4 66 rfl rfl) (by decide) hR ⟨sfr (F := F) (a := 1) (by decide), slo (L := Lo) (m := 11) (a := 22) (by decide)⟩ (n := 4) rfl rfl (Nat.le_of_ble_eq_true rfl) hl.1 dX7_afterName_21 (fun μ243 ρ d0 H locs hp G => ?_)
    obtain ⟨F_244, hI_245, hp_246, hp_247, hp_248, hp_249, hp_250, hp_251, hs_252, hs_253, hs_254, hs_255, hs_256, hs_257, hs_258, hs_259, hs_260⟩ := hp
    have hn_261 : -1 ≤ μ243.1 26 10 ∧ μ243.1 26 10 ≤ 3000 := hI_245.nm.2.2.2.2.2.2.2.2.2.2.2.2
    have hk_262 := hI_245.pr (p := P) hprP
    unfold pk at hk_262
    have hc_263 : 16 ≤ μ243.2.1 (P + 1) ∧ μ243.2.1 (P + 1) ≤ 73024 := hI_245.rm.1 _ hprP.cap
    have hk_264 := hI_245.row (r := P + 2) (hprP.row)
    unfold rk at hk_264
    have htb_265 := hp_246.b
    have hpx_266 : μ243.1 26 11 = 0 → PXE μ μ243 P tt 1 (-1) 1 := fun h0 => PXE.of (hp_251 h0)
    have e_267 : μ243.1 23 2 = P := (hs_252.trans hP.symm)
    have e_268 : μ243.1 23 5 = μ.1 23 5 := hs_253
    have e_269 : μ243.1 23 6 = μ.1 23 6 := hs_254
    have e_270 : μ243.1 23 7 = μ.1 23 7 := hs_255
    have e_271 : μ243.1 23 8 = tt := (hs_256.trans htt.symm)
    have e_272 : μ243.1 23 9 = μ.1 23 9 := hs_257
    have e_273 : μ243.1 23 10 = μ.1 23 10 := hs_258
    have e_274 : μ243.1 26 6 = μ.1 26 6 := hs_259
    have e_275 : μ243.1 P 7 = μ.1 P 7 := hs_260
    exact xr_v G hret hlk dX7_afterName_24 ⟨(Fr.tr Fr.rf F_244 (si hprP (fun P => [2, 3, 4, 23, 24, 26, P, P + 1, P + 2, (P + 2) + 1, (P + 2) + 2, (P + 2) + 3]) (fun P => [2, 3, 4, 23, 24, 26, P, P + 1, P + 2, (P + 2) + 1, (P + 2) + 2, (P + 2) + 3]) rfl)), hI_245, hp_246, (by omega), (by omega), (by omega), (by omega), (fun h0 => (PXE.ex (hpx_266 h0)).e (by omega)), (by omega), (by omega), (by omega), (by omega), (by omega), (by omega), (by omega), (by omega), (by omega)⟩

set_option maxHeartbeats 4000000 in
set_option maxRecDepth 100000 in
theorem c_X7_ownPrimary (ω : Om) (l : Launch) (μ : M3) (F : Nat) (Lo : Nat) (kf : Int) (P : Int) (tt : Int) (hI : IC μ) (hP : P = μ.1 23 2) (htt : tt = μ.1 23 8) (hF : 60 ≤ F) (hLo : 2000 ≤ Lo) (hE : ∀ (μ : M3) (x1 : Int) (P : Int) (tt : Int) (hx1 : x1 = 0 ∨ x1 = 1) (hI : IC μ) (hP : P = μ.1 23 2) (htt : tt = μ.1 23 8) (hTK : TK μ) (hB : μ.1 P 1 ≤ 2 * μ.1 26 10 + 100 + 40 * μ.1 26 11) (hKc : μ.1 (P + 2) 3 ≤ μ.1 P 1) (hdp : 0 ≤ μ.1 23 9 ∧ μ.1 23 9 ≤ 8 + μ.1 26 11) (hfu : (μ.1 26 11 = 1 ∧ 0 ≤ (kf - 1)) ∨ 9 ≤ μ.1 23 9 + (kf - 1)) (hbg : x1 = 0 ∨ μ.1 26 11 ≠ 0 ∨ 2 ≤ hs μ P (μ.1 P 1)), CtV ω l yX7_expression cX7_expression 3 (F + 0) (Lo + 0) [.ref (oP ω 23), .int (iv x1)] μ (fun (μ' : M3) => (Fr [2, 3, 4, 23, 24, 26, P, P + 1, P + 2, (P + 2) + 1, (P + 2) + 2, (P + 2) + 3] μ μ') ∧ (IC μ') ∧ (TK μ') ∧ (μ.1 26 11 ≤ μ'.1 26 11) ∧ (μ.1 26 10 ≤ μ'.1 26 10) ∧ (μ.1 P 1 ≤ μ'.1 P 1 ∧ μ'.1 P 1 ≤ μ.1 P 1 + 2 * (μ'.1 26 10 - μ.1 26 10) + (- 1 + 3 * μ'.1 26 11 - 2 * μ.1 26 11 + x1)) ∧ (μ'.1 (P + 2) 3 - μ.1 (P + 2) 3 ≤ μ'.1 P 1 - μ.1 P 1 ∧ μ.1 (P + 2) 3 ≤ μ'.1 (P + 2) 3) ∧ (μ'.1 26 11 = 0 → EX μ μ' P tt (1 - x1) 0) ∧ (μ'.1 23 2 = μ.1 23 2) ∧ (μ'.1 23 5 = μ.1 23 5) ∧ (μ'.1 23 6 = μ.1 23 6) ∧ (μ'.1 23 7 = μ.1 23 7) ∧ (μ'.1 23 8 = μ.1 23 8) ∧ (μ'.1 23 9 = μ.1 23 9) ∧ (μ'.1 23 10 = μ.1 23 10) ∧ (μ'.1 26 6 = μ.1 26 6) ∧ (μ'.1 P 7 = μ.1 P 7))) (hU : ∀ (μ : M3) (x1 : Int) (P : Int) (tt : Int) (hx1 : x1 = 0 ∨ x1 = 1) (hI : IC μ) (hP : P = μ.1 23 2) (htt : tt = μ.1 23 8) (hTK : TK μ) (hB : μ.1 P 1 ≤ 2 * μ.1 26 10 + 100 + 40 * μ.1 26 11) (hKc : μ.1 (P + 2) 3 ≤ μ.1 P 1) (hdp : 0 ≤ μ.1 23 9 ∧ μ.1 23 9 ≤ 8 + μ.1 26 11) (hfu : (μ.1 26 11 = 1 ∧ 0 ≤ (kf - 1)) ∨ 9 ≤ μ.1 23 9 + (kf - 1)) (hbg : x1 = 0 ∨ μ.1 26 11 ≠ 0 ∨ 2 ≤ hs μ P (μ.1 P 1)), CtV ω l yX7_unary cX7_unary 2 (F + 0) (Lo + 0) [.ref (oP ω 23), .int (iv x1)] μ (fun (μ' : M3) => (Fr [2, 3, 4, 23, 24, 26, P, P + 1, P + 2, (P + 2) + 1, (P + 2) + 2, (P + 2) + 3] μ μ') ∧ (IC μ') ∧ (TK μ') ∧ (μ.1 26 11 ≤ μ'.1 26 11) ∧ (μ.1 26 10 ≤ μ'.1 26 10) ∧ (μ.1 P 1 ≤ μ'.1 P 1 ∧ μ'.1 P 1 ≤ μ.1 P 1 + 2 * (μ'.1 26 10 - μ.1 26 10) + (- 1 + 3 * μ'.1 26 11 - 2 * μ.1 26 11 + x1)) ∧ (μ'.1 (P + 2) 3 - μ.1 (P + 2) 3 ≤ μ'.1 P 1 - μ.1 P 1 ∧ μ.1 (P + 2) 3 ≤ μ'.1 (P + 2) 3) ∧ (μ'.1 26 11 = 0 → EX μ μ' P tt (1 - x1) 0) ∧ (μ'.1 23 2 = μ.1 23 2) ∧ (μ'.1 23 5 = μ.1 23 5) ∧ (μ'.1 23 6 = μ.1 23 6) ∧ (μ'.1 23 7 = μ.1 23 7) ∧ (μ'.1 23 8 = μ.1 23 8) ∧ (μ'.1 23 9 = μ.1 23 9) ∧ (μ'.1 23 10 = μ.1 23 10) ∧ (μ'.1 26 6 = μ.1 26 6) ∧ (μ'.1 P 7 = μ.1 P 7))) (hTK : TK μ) (hB : μ.1 P 1 ≤ 2 * μ.1 26 10 + 100 + 40 * μ.1 26 11) (hKc : μ.1 (P + 2) 3 ≤ μ.1 P 1) (hdp : 0 ≤ μ.1 23 9 ∧ μ.1 23 9 ≤ 8 + μ.1 26 11) (hfu : (μ.1 26 11 = 1 ∧ 0 ≤ kf) ∨ 9 ≤ μ.1 23 9 + kf) : CtV ω l yX7_ownPrimary cX7_ownPrimary 2 (F + 2) (Lo + 44) [.ref (oP ω 23)] μ (fun (μ' : M3) => (Fr [2, 3, 4, 23, 24, 26, P, P + 1, P + 2, (P + 2) + 1, (P + 2) + 2, (P + 2) + 3] μ μ') ∧ (IC μ') ∧ (TK μ') ∧ (μ.1 26 11 ≤ μ'.1 26 11) ∧ (μ.1 26 10 ≤ μ'.1 26 10) ∧ (μ.1 P 1 ≤ μ'.1 P 1 ∧ μ'.1 P 1 ≤ μ.1 P 1 + 2 * (μ'.1 26 10 - μ.1 26 10) + (- 1 + 3 * μ'.1 26 11 - 2 * μ.1 26 11)) ∧ (μ'.1 (P + 2) 3 - μ.1 (P + 2) 3 ≤ μ'.1 P 1 - μ.1 P 1 ∧ μ.1 (P + 2) 3 ≤ μ'.1 (P + 2) 3) ∧ (μ'.1 26 11 = 0 → EX μ μ' P tt 1 0) ∧ (μ'.1 23 2 = μ.1 23 2) ∧ (μ'.1 23 5 = μ.1 23 5) ∧ (μ'.1 23 6 = μ.1 23 6) ∧ (μ'.1 23 7 = μ.1 23 7) ∧ (μ'.1 23 8 = μ.1 23 8) ∧ (μ'.1 23 9 = μ.1 23 9) ∧ (μ'.1 23 10 = μ.1 23 10) ∧ (μ'.1 26 6 = μ.1 26 6) ∧ (μ'.1 P 7 = μ.1 P 7)) := by
  refine CtV.go (by decide) (Nat.le_of_ble_eq_true rfl) (fun ρ p e s m below meth c R ls G hR hret hlk hl => ?_)
  have hx := G.1.1
  have hb := G.1.2.1
  have hl : lv_has ls 2 [(0, .ref (oP ω 23))] := hl
  generalize s.drawn = d0 at G ⊢
  have hTKb := hTK.b
  have hprP : isPr P := by have h9 := G.sr0.2.2.2.2.2; rw [← hP] at h9; exact h9
  have hprP_d : 13 ≤ P ∧ P ≤ 101 := by rcases hprP with h9 | h9 | h9 | h9 | h9 <;> omega
  have hk_1 := hI.pr (p := P) hprP
  unfold pk at hk_1
  have hc_2 : 16 ≤ μ.2.1 (P + 1) ∧ μ.2.1 (P + 1) ≤ 73024 := hI.rm.1 _ hprP.cap
  have hnil : μ.1 26 11 = 0 → PXE μ μ P tt 0 (-1) 1 := fun _ => PXE.nil (by omega)
  refine lv_aload_n hx hb dX7_ownPrimary_0 rfl (lv_at hl 0 rfl) ?_
  refine xa_geti G fd_X7 (a := 23) (x := tt) 8 rfl (by decide) rfl (wm 2 25 rfl rfl) ⟨rfl, rfl, rfl⟩ dX7_ownPrimary_1 rfl htt.symm ?_
  have hr_3 : -2147483648 ≤ tt ∧ tt ≤ 2147483647 := by have h9 := G.hr (a := 23) (k := 8) rfl; rw [show μ.1 23 8 = tt from htt.symm] at h9; exact h9
  refine lv_iconst (v := iv 1) hx hb dX7_ownPrimary_4 rfl ?_
  refine xb_icmp_ne (tgt := 30) hx hb (by unfold ir; omega) (by unfold ir; omega) dX7_ownPrimary_5 (by decide) (fun c_5 => ?_) (fun c_5 => ?_)
  · refine lv_aload_n hx hb dX7_ownPrimary_30 rfl (lv_at hl 0 rfl) ?_
    refine xa_geti G fd_X7 (a := 23) (x := tt) 8 rfl (by decide) rfl (wm 2 25 rfl rfl) ⟨rfl, rfl, rfl⟩ dX7_ownPrimary_31 rfl htt.symm ?_
    refine lv_iconst (v := iv 2) hx hb dX7_ownPrimary_34 rfl ?_
    refine xb_icmp_ne (tgt := 68) hx hb (by unfold ir; omega) (by unfold ir; omega) dX7_ownPrimary_35 (by decide) (fun c_35 => ?_) (fun c_35 => ?_)
    · refine lv_aload_n hx hb dX7_ownPrimary_68 rfl (lv_at hl 0 rfl) ?_
      refine xa_geti G fd_X7 (a := 23) (x := tt) 8 rfl (by decide) rfl (wm 2 25 rfl rfl) ⟨rfl, rfl, rfl⟩ dX7_ownPrimary_69 rfl htt.symm ?_
      refine lv_iconst (v := iv 2) hx hb dX7_ownPrimary_72 rfl ?_
      refine xb_icmp_ne (tgt := 116) hx hb (by unfold ir; omega) (by unfold ir; omega) dX7_ownPrimary_73 (by decide) (fun c_73 => ?_) (fun c_73 => ?_)
      · refine lv_aload_n hx hb dX7_ownPrimary_116 rfl (lv_at hl 0 rfl) ?_
        refine xa_getr G fd_X7 (a := 23) (x := 26) 0 rfl (by decide) rfl (wm 2 17 rfl rfl) ⟨rfl, rfl, rfl⟩ dX7_ownPrimary_117 rfl (G.sk 23 rfl) (by decide) rfl ?_
        have hn_4 : 0 ≤ μ.1 26 6 ∧ μ.1 26 6 ≤ 3001 := hI.nm.2.2.2.2.2.2.2.2.2.1
        have hn_5 : 0 ≤ μ.1 26 7 ∧ μ.1 26 7 ≤ 3000 := hI.nm.2.2.2.2.2.2.2.2.2.2.1
        have hn_6 : 0 ≤ μ.1 26 9 ∧ μ.1 26 9 ≤ 3000 := hI.nm.2.2.2.2.2.2.2.2.2.2.2.1
        have hn_7 : -1 ≤ μ.1 26 10 ∧ μ.1 26 10 ≤ 3000 := hI.nm.2.2.2.2.2.2.2.2.2.2.2.2
        refine xc_vV G (b := 26) (rest := []) (As := []) (c_X10_stop ω l μ  hI) (wm 3 173 rfl rfl) (wm 3 174 rfl rfl) (wm 3 175 rfl rfl) rfl rfl (by decide) rfl (wm 1 13 rfl rfl) (wm 3 176 rfl rfl) (by decide) hR ⟨nfr hF (by decide), nlo hLo (by decide)⟩ (n := 0) rfl rfl (Nat.le_of_ble_eq_true rfl) hl.1 dX7_ownPrimary_120 (fun μ8 ρ d0 H locs hp G => ?_)
        obtain ⟨F_9, hI_10, hp_11, hp_12, hs_13, hs_14, hs_15, hs_16, hs_17, hs_18, hs_19⟩ := hp
        have htk_20 : TK μ8 := TK.st hTK F_9 hp_11 hp_12 hs_13 hs_17
        have hpx_21 : μ8.1 26 11 = 0 → PXE μ μ8 P tt 0 (-1) 1 := fun h0 => (hnil (by have h9 : μ.1 26 11 = μ.1 26 11 := rfl; have h8 : μ8.1 26 11 = μ8.1 26 11 := rfl; omega)).fr (K := [26]) (Fr.tr Fr.rf F_9 (by decide)) (npL_p (L := [26]) (by decide) hprP).1 (npL_p (L := [26]) (by decide) hprP).2.1
        have e_22 : μ8.1 26 10 = μ.1 26 10 := hs_17
        have e_23 : μ8.1 P 1 = μ.1 P 1 := (F_9.1 P (ni hprP (fun P => P) (fun P => [26]) rfl) 1)
        have e_24 : μ8.1 P 1 = μ.1 P 1 := (F_9.1 P (ni hprP (fun P => P) (fun P => [26]) rfl) 1)
        have e_25 : μ8.1 26 10 = μ.1 26 10 := hs_17
        have e_26 : μ8.1 (P + 2) 3 = μ.1 (P + 2) 3 := (F_9.1 (P + 2) (ni hprP (fun P => P + 2) (fun P => [26]) rfl) 3)
        have e_27 : μ8.1 P 1 = μ.1 P 1 := (F_9.1 P (ni hprP (fun P => P) (fun P => [26]) rfl) 1)
        have e_28 : μ8.1 (P + 2) 3 = μ.1 (P + 2) 3 := (F_9.1 (P + 2) (ni hprP (fun P => P + 2) (fun P => [26]) rfl) 3)
        have e_29 : μ8.1 23 2 = P := ((F_9.1 23 (by decide) 2).trans hP.symm)
        have e_30 : μ8.1 23 5 = μ.1 23 5 := (F_9.1 23 (by decide) 5)
        have e_31 : μ8.1 23 6 = μ.1 23 6 := (F_9.1 23 (by decide) 6)
        have e_32 : μ8.1 23 7 = μ.1 23 7 := (F_9.1 23 (by decide) 7)
        have e_33 : μ8.1 23 8 = tt := ((F_9.1 23 (by decide) 8).trans htt.symm)
        have e_34 : μ8.1 23 9 = μ.1 23 9 := (F_9.1 23 (by decide) 9)
        have e_35 : μ8.1 23 10 = μ.1 23 10 := (F_9.1 23 (by decide) 10)
        have e_36 : μ8.1 26 6 = μ.1 26 6 := hs_13
        have e_37 : μ8.1 P 7 = μ.1 P 7 := (F_9.1 P (ni hprP (fun P => P) (fun P => [26]) rfl) 7)
        exact xr_v G hret hlk dX7_ownPrimary_123 ⟨(Fr.tr Fr.rf F_9 (si hprP (fun P => [26]) (fun P => [2, 3, 4, 23, 24, 26, P, P + 1, P + 2, (P + 2) + 1, (P + 2) + 2, (P + 2) + 3]) rfl)), hI_10, htk_20, (by omega), (by omega), (by omega), (by omega), (fun h0 => (PXE.ex (hpx_21 h0)).e (by omega)), (by omega), (by omega), (by omega), (by omega), (by omega), (by omega), (by omega), (by omega), (by omega)⟩
      · refine lv_aload_n hx hb dX7_ownPrimary_76 rfl (lv_at hl 0 rfl) ?_
        refine lv_sipush (v := iv 228) hx hb dX7_ownPrimary_77 rfl ?_
        have hn_38 : -1 ≤ μ.1 26 10 ∧ μ.1 26 10 ≤ 3000 := hI.nm.2.2.2.2.2.2.2.2.2.2.2.2
        have hn_39 : 0 ≤ μ.1 26 6 ∧ μ.1 26 6 ≤ 3001 := hI.nm.2.2.2.2.2.2.2.2.2.1
        have hn_40 : 0 ≤ μ.1 26 7 ∧ μ.1 26 7 ≤ 3000 := hI.nm.2.2.2.2.2.2.2.2.2.2.1
        have hn_41 : 0 ≤ μ.1 26 9 ∧ μ.1 26 9 ≤ 3000 := hI.nm.2.2.2.2.2.2.2.2.2.2.2.1
        refine xc_iV G (b := 23) (rest := []) (As := [.int (iv 228)]) (c_X7_took ω l μ 228 (by unfold ir; omega) hI hTK (by omega)) (wm 3 160 rfl rfl) (wm 3 162 rfl rfl) (wm 0 9 rfl rfl) rfl rfl (by decide) rfl (wm 1 12 rfl rfl) (wm 3 163 rfl rfl) (by decide) hR ⟨nfr hF (by decide), nlo hLo (by decide)⟩ (n := 1) rfl rfl (Nat.le_of_ble_eq_true rfl) hl.1 dX7_ownPrimary_80 (fun r_43 μ42 ρ d0 H locs hr_r_43 hp G => ?_)
        have hr_r_43 : -2147483648 ≤ r_43 ∧ r_43 ≤ 2147483647 := hr_r_43
        obtain ⟨F_44, hI_45, hp_46, hp_47, hs_48, hs_49, hs_50, hs_51, hs_52⟩ := hp
        have hn_53 : -1 ≤ μ42.1 26 10 ∧ μ42.1 26 10 ≤ 3000 := hI_45.nm.2.2.2.2.2.2.2.2.2.2.2.2
        have htb_54 := hp_46.b
        refine xb_if_eq (tgt := 116) hx hb (by unfold ir; omega) dX7_ownPrimary_83 (by decide) (fun c_83 => ?_) (fun c_83 => ?_)
        · refine lv_aload_n hx hb dX7_ownPrimary_116 rfl (lv_at hl 0 rfl) ?_
          refine xa_getr G fd_X7 (a := 23) (x := 26) 0 rfl (by decide) rfl (wm 2 17 rfl rfl) ⟨rfl, rfl, rfl⟩ dX7_ownPrimary_117 rfl (G.sk 23 rfl) (by decide) rfl ?_
          have hpx_55 : μ42.1 26 11 = 0 → PXE μ μ42 P tt 0 (-1) 1 := fun h0 => (hnil (by have h9 : μ.1 26 11 = μ.1 26 11 := rfl; have h8 : μ42.1 26 11 = μ.1 26 11 := hs_48; omega)).fr (K := [26]) (Fr.tr Fr.rf F_44 (by decide)) (npL_p (L := [26]) (by decide) hprP).1 (npL_p (L := [26]) (by decide) hprP).2.1
          have e_56 : μ42.1 26 6 = μ.1 26 6 := hs_49
          have e_57 : μ42.1 26 7 = μ.1 26 7 := hs_50
          have e_58 : μ42.1 26 8 = μ.1 26 8 := hs_51
          have e_59 : μ42.1 26 9 = μ.1 26 9 := hs_52
          refine xc_vV G (b := 26) (rest := []) (As := []) (c_X10_stop ω l μ42  hI_45) (wm 3 173 rfl rfl) (wm 3 174 rfl rfl) (wm 3 175 rfl rfl) rfl rfl (by decide) rfl (wm 1 13 rfl rfl) (wm 3 176 rfl rfl) (by decide) hR ⟨nfr hF (by decide), nlo hLo (by decide)⟩ (n := 0) rfl rfl (Nat.le_of_ble_eq_true rfl) hl.1 dX7_ownPrimary_120 (fun μ60 ρ d0 H locs hp G => ?_)
          obtain ⟨F_61, hI_62, hp_63, hp_64, hs_65, hs_66, hs_67, hs_68, hs_69, hs_70, hs_71⟩ := hp
          have htk_72 : TK μ60 := TK.st hp_46 F_61 hp_63 hp_64 (((hs_65.trans hs_49)).trans (hs_49).symm) hs_69
          have hpx_73 : μ60.1 26 11 = 0 → PXE μ μ60 P tt 0 (-1) 1 := fun h0 => (hpx_55 (by have h9 : μ42.1 26 11 = μ.1 26 11 := hs_48; have h8 : μ60.1 26 11 = μ60.1 26 11 := rfl; omega)).fr (K := [26]) (Fr.tr Fr.rf F_61 (by decide)) (npL_p (L := [26]) (by decide) hprP).1 (npL_p (L := [26]) (by decide) hprP).2.1
          have e_74 : μ60.1 26 10 = μ42.1 26 10 := hs_69
          have e_75 : μ60.1 P 1 = μ.1 P 1 := ((F_61.1 P (ni hprP (fun P => P) (fun P => [26]) rfl) 1).trans (F_44.1 P (ni hprP (fun P => P) (fun P => [26]) rfl) 1))
          have e_76 : μ60.1 P 1 = μ.1 P 1 := ((F_61.1 P (ni hprP (fun P => P) (fun P => [26]) rfl) 1).trans (F_44.1 P (ni hprP (fun P => P) (fun P => [26]) rfl) 1))
          have e_77 : μ60.1 26 10 = μ42.1 26 10 := hs_69
          have e_78 : μ60.1 (P + 2) 3 = μ.1 (P + 2) 3 := ((F_61.1 (P + 2) (ni hprP (fun P => P + 2) (fun P => [26]) rfl) 3).trans (F_44.1 (P + 2) (ni hprP (fun P => P + 2) (fun P => [26]) rfl) 3))
          have e_79 : μ60.1 P 1 = μ.1 P 1 := ((F_61.1 P (ni hprP (fun P => P) (fun P => [26]) rfl) 1).trans (F_44.1 P (ni hprP (fun P => P) (fun P => [26]) rfl) 1))
          have e_80 : μ60.1 (P + 2) 3 = μ.1 (P + 2) 3 := ((F_61.1 (P + 2) (ni hprP (fun P => P + 2) (fun P => [26]) rfl) 3).trans (F_44.1 (P + 2) (ni hprP (fun P => P + 2) (fun P => [26]) rfl) 3))
          have e_81 : μ60.1 23 2 = P := ((F_61.1 23 (by decide) 2).trans ((F_44.1 23 (by decide) 2).trans hP.symm))
          have e_82 : μ60.1 23 5 = μ.1 23 5 := ((F_61.1 23 (by decide) 5).trans (F_44.1 23 (by decide) 5))
          have e_83 : μ60.1 23 6 = μ.1 23 6 := ((F_61.1 23 (by decide) 6).trans (F_44.1 23 (by decide) 6))
          have e_84 : μ60.1 23 7 = μ.1 23 7 := ((F_61.1 23 (by decide) 7).trans (F_44.1 23 (by decide) 7))
          have e_85 : μ60.1 23 8 = tt := ((F_61.1 23 (by decide) 8).trans ((F_44.1 23 (by decide) 8).trans htt.symm))
          have e_86 : μ60.1 23 9 = μ.1 23 9 := ((F_61.1 23 (by decide) 9).trans (F_44.1 23 (by decide) 9))
          have e_87 : μ60.1 23 10 = μ.1 23 10 := ((F_61.1 23 (by decide) 10).trans (F_44.1 23 (by decide) 10))
          have e_88 : μ60.1 26 6 = μ.1 26 6 := (hs_65.trans hs_49)
          have e_89 : μ60.1 P 7 = μ.1 P 7 := ((F_61.1 P (ni hprP (fun P => P) (fun P => [26]) rfl) 7).trans (F_44.1 P (ni hprP (fun P => P) (fun P => [26]) rfl) 7))
          exact xr_v G hret hlk dX7_ownPrimary_123 ⟨(Fr.tr (Fr.tr Fr.rf F_44 (si hprP (fun P => [26]) (fun P => [2, 3, 4, 23, 24, 26, P, P + 1, P + 2, (P + 2) + 1, (P + 2) + 2, (P + 2) + 3]) rfl)) F_61 (si hprP (fun P => [26]) (fun P => [2, 3, 4, 23, 24, 26, P, P + 1, P + 2, (P + 2) + 1, (P + 2) + 2, (P + 2) + 3]) rfl)), hI_62, htk_72, (by omega), (by omega), (by omega), (by omega), (fun h0 => (PXE.ex (hpx_73 h0)).e (by omega)), (by omega), (by omega), (by omega), (by omega), (by omega), (by omega), (by omega), (by omega), (by omega)⟩
        · refine lv_aload_n hx hb dX7_ownPrimary_86 rfl (lv_at hl 0 rfl) ?_
          have hpx_90 : μ42.1 26 11 = 0 → PXE μ μ42 P tt 0 (-1) 1 := fun h0 => (hnil (by have h9 : μ.1 26 11 = μ.1 26 11 := rfl; have h8 : μ42.1 26 11 = μ.1 26 11 := hs_48; omega)).fr (K := [26]) (Fr.tr Fr.rf F_44 (by decide)) (npL_p (L := [26]) (by decide) hprP).1 (npL_p (L := [26]) (by decide) hprP).2.1
          have e_91 : μ42.1 26 11 = μ.1 26 11 := hs_48
          have e_92 : μ42.1 26 6 = μ.1 26 6 := hs_49
          have e_93 : μ42.1 26 7 = μ.1 26 7 := hs_50
          have e_94 : μ42.1 26 8 = μ.1 26 8 := hs_51
          have e_95 : μ42.1 26 9 = μ.1 26 9 := hs_52
          have hn_96 : 0 ≤ μ.1 2 4 ∧ μ.1 2 4 ≤ 51 := hI.nm.2.2.1
          have e_97 : μ42.1 2 4 = μ.1 2 4 := (F_44.1 2 (by decide) 4)
          refine xc_iV G (b := 23) (rest := []) (As := []) (c_X7_nameOfFailing ω l μ42  hI_45 hp_46) (wm 4 112 rfl rfl) (wm 4 114 rfl rfl) (wm 0 44 rfl rfl) rfl rfl (by decide) rfl (wm 1 12 rfl rfl) (wm 4 115 rfl rfl) (by decide) hR ⟨nfr hF (by decide), nlo hLo (by decide)⟩ (n := 0) rfl rfl (Nat.le_of_ble_eq_true rfl) hl.1 dX7_ownPrimary_87 (fun r_99 μ98 ρ d0 H locs hr_r_99 hp G => ?_)
          have hr_r_99 : -2147483648 ≤ r_99 ∧ r_99 ≤ 2147483647 := hr_r_99
          obtain ⟨F_100, hI_101, hp_102, hp_103, hp_104, hs_105, hs_106, hs_107, hs_108, hs_109⟩ := hp
          have hn_110 : -1 ≤ μ98.1 26 10 ∧ μ98.1 26 10 ≤ 3000 := hI_101.nm.2.2.2.2.2.2.2.2.2.2.2.2
          have htb_111 := hp_102.b
          refine lv_istore_n (lv' := [(1, .int (iv r_99)), (0, .ref (oP ω 23))]) hx hb dX7_ownPrimary_90 rfl hl (by decide) rfl (fun ls hl => ?_)
          refine lv_aload_n hx hb dX7_ownPrimary_91 rfl (lv_at hl 1 rfl) ?_
          refine lv_bipush (v := iv 40) hx hb dX7_ownPrimary_92 rfl ?_
          refine lv_bipush (v := iv 41) hx hb dX7_ownPrimary_94 rfl ?_
          have hpx_112 : μ98.1 26 11 = 0 → PXE μ μ98 P tt 0 (-1) 1 := fun h0 => (hpx_90 (by have h9 : μ42.1 26 11 = μ.1 26 11 := hs_48; have h8 : μ98.1 26 11 = μ98.1 26 11 := rfl; omega)).fr (K := [26, 2, 3, 4, 24]) (Fr.tr Fr.rf F_100 (by decide)) (npL_p (L := [26, 2, 3, 4, 24]) (by decide) hprP).1 (npL_p (L := [26, 2, 3, 4, 24]) (by decide) hprP).2.1
          have e_113 : μ98.1 23 2 = P := ((F_100.1 23 (by decide) 2).trans ((F_44.1 23 (by decide) 2).trans hP.symm))
          have e_114 : μ98.1 23 8 = tt := ((F_100.1 23 (by decide) 8).trans ((F_44.1 23 (by decide) 8).trans htt.symm))
          have e_115 : μ98.1 P 1 = μ.1 P 1 := ((F_100.1 P (ni hprP (fun P => P) (fun P => [26, 2, 3, 4, 24]) rfl) 1).trans (F_44.1 P (ni hprP (fun P => P) (fun P => [26]) rfl) 1))
          have hk_116 := hI.row (r := P + 2) (hprP.row)
          unfold rk at hk_116
          have e_117 : μ98.1 (P + 2) 3 = μ.1 (P + 2) 3 := ((F_100.1 (P + 2) (ni hprP (fun P => P + 2) (fun P => [26, 2, 3, 4, 24]) rfl) 3).trans (F_44.1 (P + 2) (ni hprP (fun P => P + 2) (fun P => [26]) rfl) 3))
          have e_118 : μ98.1 P 1 = μ.1 P 1 := ((F_100.1 P (ni hprP (fun P => P) (fun P => [26, 2, 3, 4, 24]) rfl) 1).trans (F_44.1 P (ni hprP (fun P => P) (fun P => [26]) rfl) 1))
          have e_119 : μ98.1 23 9 = μ.1 23 9 := ((F_100.1 23 (by decide) 9).trans (F_44.1 23 (by decide) 9))
          have e_120 : μ98.1 23 9 = μ.1 23 9 := ((F_100.1 23 (by decide) 9).trans (F_44.1 23 (by decide) 9))
          have e_121 : μ98.1 23 9 = μ.1 23 9 := ((F_100.1 23 (by decide) 9).trans (F_44.1 23 (by decide) 9))
          have e_122 : μ98.1 P 1 = μ.1 P 1 := ((F_100.1 P (ni hprP (fun P => P) (fun P => [26, 2, 3, 4, 24]) rfl) 1).trans (F_44.1 P (ni hprP (fun P => P) (fun P => [26]) rfl) 1))
          have e_123 : μ98.1 P 1 = μ.1 P 1 := ((F_100.1 P (ni hprP (fun P => P) (fun P => [26, 2, 3, 4, 24]) rfl) 1).trans (F_44.1 P (ni hprP (fun P => P) (fun P => [26]) rfl) 1))
          have e_124 : μ98.1 (P + 2) 3 = μ.1 (P + 2) 3 := ((F_100.1 (P + 2) (ni hprP (fun P => P + 2) (fun P => [26, 2, 3, 4, 24]) rfl) 3).trans (F_44.1 (P + 2) (ni hprP (fun P => P + 2) (fun P => [26]) rfl) 3))
          have e_125 : μ98.1 P 1 = μ.1 P 1 := ((F_100.1 P (ni hprP (fun P => P) (fun P => [26, 2, 3, 4, 24]) rfl) 1).trans (F_44.1 P (ni hprP (fun P => P) (fun P => [26]) rfl) 1))
          have e_126 : μ98.1 (P + 2) 3 = μ.1 (P + 2) 3 := ((F_100.1 (P + 2) (ni hprP (fun P => P + 2) (fun P => [26, 2, 3, 4, 24]) rfl) 3).trans (F_44.1 (P + 2) (ni hprP (fun P => P + 2) (fun P => [26]) rfl) 3))
          have e_127 : μ98.1 23 2 = P := ((F_100.1 23 (by decide) 2).trans ((F_44.1 23 (by decide) 2).trans hP.symm))
          have hn_128 : 0 ≤ μ.1 23 5 ∧ μ.1 23 5 ≤ 1000 := hI.nm.2.2.2.2.2.2.2.2.1
          have e_129 : μ98.1 23 5 = μ.1 23 5 := ((F_100.1 23 (by decide) 5).trans (F_44.1 23 (by decide) 5))
          have e_130 : μ98.1 23 6 = μ.1 23 6 := ((F_100.1 23 (by decide) 6).trans (F_44.1 23 (by decide) 6))
          have e_131 : μ98.1 23 7 = μ.1 23 7 := ((F_100.1 23 (by decide) 7).trans (F_44.1 23 (by decide) 7))
          have e_132 : μ98.1 23 8 = tt := ((F_100.1 23 (by decide) 8).trans ((F_44.1 23 (by decide) 8).trans htt.symm))
          have e_133 : μ98.1 23 9 = μ.1 23 9 := ((F_100.1 23 (by decide) 9).trans (F_44.1 23 (by decide) 9))
          have e_134 : μ98.1 23 10 = μ.1 23 10 := ((F_100.1 23 (by decide) 10).trans (F_44.1 23 (by decide) 10))
          have e_135 : μ98.1 26 6 = μ.1 26 6 := (hs_105.trans hs_49)
          have e_136 : μ98.1 P 7 = μ.1 P 7 := ((F_100.1 P (ni hprP (fun P => P) (fun P => [26, 2, 3, 4, 24]) rfl) 7).trans (F_44.1 P (ni hprP (fun P => P) (fun P => [26]) rfl) 7))
          refine xc_vV G (b := 23) (rest := []) (As := [.int (iv 40), .int (iv 41)]) (c_X7_inBrackets ω l μ98 40 41 F Lo kf P tt (by unfold ir; omega) (by unfold ir; omega) hI_101 (by omega) (by omega) hF hLo hE hU hp_102 (by omega) (by omega) (by omega) (by omega) (by omega) (by omega)) (wm 4 92 rfl rfl) (wm 4 94 rfl rfl) (wm 0 39 rfl rfl) rfl rfl (by decide) rfl (wm 1 12 rfl rfl) (wm 4 95 rfl rfl) (by decide) hR ⟨sfr (F := F) (a := 1) (by decide), slo (L := Lo) (m := 3) (a := 22) (by decide)⟩ (n := 2) rfl rfl (Nat.le_of_ble_eq_true rfl) hl.1 dX7_ownPrimary_96 (fun μ137 ρ d0 H locs hp G => ?_)
          obtain ⟨F_138, hI_139, hp_140, hp_141, hp_142, hp_143, hp_144, hp_145, hs_146, hs_147, hs_148, hs_149, hs_150, hs_151, hs_152, hs_153, hs_154⟩ := hp
          have hn_155 : -1 ≤ μ137.1 26 10 ∧ μ137.1 26 10 ≤ 3000 := hI_139.nm.2.2.2.2.2.2.2.2.2.2.2.2
          have hk_156 := hI_139.pr (p := P) hprP
          unfold pk at hk_156
          have hc_157 : 16 ≤ μ137.2.1 (P + 1) ∧ μ137.2.1 (P + 1) ≤ 73024 := hI_139.rm.1 _ hprP.cap
          have hk_158 := hI_139.row (r := P + 2) (hprP.row)
          unfold rk at hk_158
          have htb_159 := hp_140.b
          have hpx_160 : μ137.1 26 11 = 0 → PXE μ μ137 P tt 1 (-1) 1 := fun h0 => (PXE.app (hpx_112 (by have h9 : μ98.1 26 11 = μ98.1 26 11 := rfl; have h8 : μ137.1 26 11 = μ137.1 26 11 := rfl; omega)) (hp_145 h0)).e (by omega)
          refine lv_aload_n hx hb dX7_ownPrimary_99 rfl (lv_at hl 1 rfl) ?_
          refine lv_bipush (v := iv 17) hx hb dX7_ownPrimary_100 rfl ?_
          refine lv_iload_n hx hb dX7_ownPrimary_102 rfl (lv_at hl 0 rfl) ?_
          refine lv_iconst (v := iv 0) hx hb dX7_ownPrimary_103 rfl ?_
          refine lv_aload_n hx hb dX7_ownPrimary_104 rfl (lv_at hl 1 rfl) ?_
          refine lv_iconst (v := iv (-1)) hx hb dX7_ownPrimary_105 rfl ?_
          refine lv_iconst (v := iv 0) hx hb dX7_ownPrimary_106 rfl ?_
          have e_161 : μ137.1 23 2 = P := (hs_146.trans ((F_100.1 23 (by decide) 2).trans ((F_44.1 23 (by decide) 2).trans hP.symm)))
          have e_162 : μ137.1 23 8 = tt := (hs_150.trans ((F_100.1 23 (by decide) 8).trans ((F_44.1 23 (by decide) 8).trans htt.symm)))
          have e_163 : μ137.1 P 7 = μ.1 P 7 := (hs_154.trans ((F_100.1 P (ni hprP (fun P => P) (fun P => [26, 2, 3, 4, 24]) rfl) 7).trans (F_44.1 P (ni hprP (fun P => P) (fun P => [26]) rfl) 7)))
          refine xc_iV G (b := 23) (rest := [.int (iv 0), .int (iv r_99), .int (iv 17), .ref (oP ω 23)]) (As := [.int (iv (-1)), .int (iv 0)]) (c_X7_ifFails ω l μ137 (-1) 0 μ (1) (1) P tt (by unfold ir; omega) (by unfold ir; omega) hI_139 (by omega) (by omega) (by omega) hpx_160 (by omega) (by omega)) (wm 4 23 rfl rfl) (wm 4 25 rfl rfl) (wm 0 29 rfl rfl) rfl rfl (by decide) rfl (wm 1 12 rfl rfl) (wm 4 26 rfl rfl) (by decide) hR ⟨nfr hF (by decide), nlo hLo (by decide)⟩ (n := 2) rfl rfl (Nat.le_of_ble_eq_true rfl) hl.1 dX7_ownPrimary_107 (fun r_165 μ164 ρ d0 H locs hr_r_165 hp G => ?_)
          have hr_r_165 : -2147483648 ≤ r_165 ∧ r_165 ≤ 2147483647 := hr_r_165
          obtain ⟨F_166, hI_167, hp_168, hp_169, hs_170⟩ := hp
          have hk_171 := hI_167.pr (p := P) hprP
          unfold pk at hk_171
          have hc_172 : 16 ≤ μ164.2.1 (P + 1) ∧ μ164.2.1 (P + 1) ≤ 73024 := hI_167.rm.1 _ hprP.cap
          have hpx_173 : μ164.1 26 11 = 0 → PXE μ μ164 P tt 1 r_165 1 := fun h0 => hp_168 (by have h9 : μ137.1 26 11 = μ137.1 26 11 := rfl; have h8 : μ164.1 26 11 = μ137.1 26 11 := (F_166.1 26 (ni hprP (fun P => 26) (fun P => [P, P + 1]) rfl) 11); omega)
          clear hp_168
          have e_174 : μ164.1 23 2 = P := ((F_166.1 23 (ni hprP (fun P => 23) (fun P => [P, P + 1]) rfl) 2).trans (hs_146.trans ((F_100.1 23 (by decide) 2).trans ((F_44.1 23 (by decide) 2).trans hP.symm))))
          have e_175 : μ164.1 23 8 = tt := ((F_166.1 23 (ni hprP (fun P => 23) (fun P => [P, P + 1]) rfl) 8).trans (hs_150.trans ((F_100.1 23 (by decide) 8).trans ((F_44.1 23 (by decide) 8).trans htt.symm))))
          have e_176 : μ164.1 P 7 = μ.1 P 7 := (hs_170.trans (hs_154.trans ((F_100.1 P (ni hprP (fun P => P) (fun P => [26, 2, 3, 4, 24]) rfl) 7).trans (F_44.1 P (ni hprP (fun P => P) (fun P => [26]) rfl) 7))))
          refine xc_vV G (b := 23) (rest := []) (As := [.int (iv 17), .int (iv r_99), .int (iv 0), .int (iv r_165)]) (c_X7_endOfParts ω l μ164 17 r_99 0 r_165 μ (1) (1) P tt (by unfold ir; omega) (by unfold ir; omega) (by unfold ir; omega) (by unfold ir; omega) hI_167 (by omega) (by omega) (by omega) hpx_173 (Or.inl (by unfold plain; omega)) (by omega) (by rw [show eff 17 r_99 = 0 from rfl]; omega)) (wm 4 27 rfl rfl) (wm 4 29 rfl rfl) (wm 0 30 rfl rfl) rfl rfl (by decide) rfl (wm 1 12 rfl rfl) (wm 4 30 rfl rfl) (by decide) hR ⟨nfr hF (by decide), nlo hLo (by decide)⟩ (n := 4) rfl rfl (Nat.le_of_ble_eq_true rfl) hl.1 dX7_ownPrimary_110 (fun μ177 ρ d0 H locs hp G => ?_)
          obtain ⟨F_178, hI_179, hp_180, hs_181, hs_182⟩ := hp
          have hpx_183 : μ177.1 26 11 = 0 → PXE μ μ177 P tt 1 (-1) 1 := fun h0 => PXE.of (hp_180 (by have h9 : μ164.1 26 11 = μ137.1 26 11 := (F_166.1 26 (ni hprP (fun P => 26) (fun P => [P, P + 1]) rfl) 11); have h8 : μ177.1 26 11 = μ137.1 26 11 := ((F_178.1 26 (ni hprP (fun P => 26) (fun P => [P, P + 1]) rfl) 11).trans (F_166.1 26 (ni hprP (fun P => 26) (fun P => [P, P + 1]) rfl) 11)); omega))
          clear hp_180
          refine lv_goto (tgt := 123) hx hb dX7_ownPrimary_113 (by decide) ?_
          have htk_184 : TK μ177 := hp_140.fr (K := [P, P + 1]) (Fr.tr (Fr.tr Fr.rf F_166 (si hprP (fun P => [P, P + 1]) (fun P => [P, P + 1]) rfl)) F_178 (si hprP (fun P => [P, P + 1]) (fun P => [P, P + 1]) rfl)) (ni hprP (fun P => 26) (fun P => [P, P + 1]) rfl) (ni hprP (fun P => 28) (fun P => [P, P + 1]) rfl)
          have e_185 : μ177.1 26 11 = μ137.1 26 11 := ((F_178.1 26 (ni hprP (fun P => 26) (fun P => [P, P + 1]) rfl) 11).trans (F_166.1 26 (ni hprP (fun P => 26) (fun P => [P, P + 1]) rfl) 11))
          have e_186 : μ177.1 26 11 = μ137.1 26 11 := ((F_178.1 26 (ni hprP (fun P => 26) (fun P => [P, P + 1]) rfl) 11).trans (F_166.1 26 (ni hprP (fun P => 26) (fun P => [P, P + 1]) rfl) 11))
          have e_187 : μ177.1 26 10 = μ137.1 26 10 := ((F_178.1 26 (ni hprP (fun P => 26) (fun P => [P, P + 1]) rfl) 10).trans (F_166.1 26 (ni hprP (fun P => 26) (fun P => [P, P + 1]) rfl) 10))
          have e_188 : μ177.1 P 1 = μ164.1 P 1 + 1 := hs_181
          have e_189 : μ177.1 P 1 = μ164.1 P 1 + 1 := hs_181
          have e_190 : μ177.1 26 10 = μ137.1 26 10 := ((F_178.1 26 (ni hprP (fun P => 26) (fun P => [P, P + 1]) rfl) 10).trans (F_166.1 26 (ni hprP (fun P => 26) (fun P => [P, P + 1]) rfl) 10))
          have e_191 : μ177.1 26 11 = μ137.1 26 11 := ((F_178.1 26 (ni hprP (fun P => 26) (fun P => [P, P + 1]) rfl) 11).trans (F_166.1 26 (ni hprP (fun P => 26) (fun P => [P, P + 1]) rfl) 11))
          have e_192 : μ177.1 (P + 2) 3 = μ137.1 (P + 2) 3 := ((F_178.1 (P + 2) (ni hprP (fun P => P + 2) (fun P => [P, P + 1]) rfl) 3).trans (F_166.1 (P + 2) (ni hprP (fun P => P + 2) (fun P => [P, P + 1]) rfl) 3))
          have e_193 : μ177.1 P 1 = μ164.1 P 1 + 1 := hs_181
          have e_194 : μ177.1 (P + 2) 3 = μ137.1 (P + 2) 3 := ((F_178.1 (P + 2) (ni hprP (fun P => P + 2) (fun P => [P, P + 1]) rfl) 3).trans (F_166.1 (P + 2) (ni hprP (fun P => P + 2) (fun P => [P, P + 1]) rfl) 3))
          have e_195 : μ177.1 23 2 = P := ((F_178.1 23 (ni hprP (fun P => 23) (fun P => [P, P + 1]) rfl) 2).trans ((F_166.1 23 (ni hprP (fun P => 23) (fun P => [P, P + 1]) rfl) 2).trans (hs_146.trans ((F_100.1 23 (by decide) 2).trans ((F_44.1 23 (by decide) 2).trans hP.symm)))))
          have e_196 : μ177.1 23 5 = μ.1 23 5 := ((F_178.1 23 (ni hprP (fun P => 23) (fun P => [P, P + 1]) rfl) 5).trans ((F_166.1 23 (ni hprP (fun P => 23) (fun P => [P, P + 1]) rfl) 5).trans (hs_147.trans ((F_100.1 23 (by decide) 5).trans (F_44.1 23 (by decide) 5)))))
          have e_197 : μ177.1 23 6 = μ.1 23 6 := ((F_178.1 23 (ni hprP (fun P => 23) (fun P => [P, P + 1]) rfl) 6).trans ((F_166.1 23 (ni hprP (fun P => 23) (fun P => [P, P + 1]) rfl) 6).trans (hs_148.trans ((F_100.1 23 (by decide) 6).trans (F_44.1 23 (by decide) 6)))))
          have e_198 : μ177.1 23 7 = μ.1 23 7 := ((F_178.1 23 (ni hprP (fun P => 23) (fun P => [P, P + 1]) rfl) 7).trans ((F_166.1 23 (ni hprP (fun P => 23) (fun P => [P, P + 1]) rfl) 7).trans (hs_149.trans ((F_100.1 23 (by decide) 7).trans (F_44.1 23 (by decide) 7)))))
          have e_199 : μ177.1 23 8 = tt := ((F_178.1 23 (ni hprP (fun P => 23) (fun P => [P, P + 1]) rfl) 8).trans ((F_166.1 23 (ni hprP (fun P => 23) (fun P => [P, P + 1]) rfl) 8).trans (hs_150.trans ((F_100.1 23 (by decide) 8).trans ((F_44.1 23 (by decide) 8).trans htt.symm)))))
          have e_200 : μ177.1 23 9 = μ.1 23 9 := ((F_178.1 23 (ni hprP (fun P => 23) (fun P => [P, P + 1]) rfl) 9).trans ((F_166.1 23 (ni hprP (fun P => 23) (fun P => [P, P + 1]) rfl) 9).trans (hs_151.trans ((F_100.1 23 (by decide) 9).trans (F_44.1 23 (by decide) 9)))))
          have e_201 : μ177.1 23 10 = μ.1 23 10 := ((F_178.1 23 (ni hprP (fun P => 23) (fun P => [P, P + 1]) rfl) 10).trans ((F_166.1 23 (ni hprP (fun P => 23) (fun P => [P, P + 1]) rfl) 10).trans (hs_152.trans ((F_100.1 23 (by decide) 10).trans (F_44.1 23 (by decide) 10)))))
          have e_202 : μ177.1 26 6 = μ.1 26 6 := ((F_178.1 26 (ni hprP (fun P => 26) (fun P => [P, P + 1]) rfl) 6).trans ((F_166.1 26 (ni hprP (fun P => 26) (fun P => [P, P + 1]) rfl) 6).trans (hs_153.trans (hs_105.trans hs_49))))
          have e_203 : μ177.1 P 7 = μ.1 P 7 := (hs_182.trans (hs_170.trans (hs_154.trans ((F_100.1 P (ni hprP (fun P => P) (fun P => [26, 2, 3, 4, 24]) rfl) 7).trans (F_44.1 P (ni hprP (fun P => P) (fun P => [26]) rfl) 7)))))
          exact xr_v G hret hlk dX7_ownPrimary_123 ⟨(Fr.tr (Fr.tr (Fr.tr (Fr.tr (Fr.tr Fr.rf F_44 (si hprP (fun P => [26]) (fun P => [2, 3, 4, 23, 24, 26, P, P + 1, P + 2, (P + 2) + 1, (P + 2) + 2, (P + 2) + 3]) rfl)) F_100 (si hprP (fun P => [26, 2, 3, 4, 24]) (fun P => [2, 3, 4, 23, 24, 26, P, P + 1, P + 2, (P + 2) + 1, (P + 2) + 2, (P + 2) + 3]) rfl)) F_138 (si hprP (fun P => [2, 3, 4, 23, 24, 26, P, P + 1, P + 2, (P + 2) + 1, (P + 2) + 2, (P + 2) + 3]) (fun P => [2, 3, 4, 23, 24, 26, P, P + 1, P + 2, (P + 2) + 1, (P + 2) + 2, (P + 2) + 3]) rfl)) F_166 (si hprP (fun P => [P, P + 1]) (fun P => [2, 3, 4, 23, 24, 26, P, P + 1, P + 2, (P + 2) + 1, (P + 2) + 2, (P + 2) + 3]) rfl)) F_178 (si hprP (fun P => [P, P + 1]) (fun P => [2, 3, 4, 23, 24, 26, P, P + 1, P + 2, (P + 2) + 1, (P + 2) + 2, (P + 2) + 3]) rfl)), hI_179, htk_184, (by omega), (by omega), (by omega), (by omega), (fun h0 => (PXE.ex (hpx_183 h0)).e (by omega)), (by omega), (by omega), (by omega), (by omega), (by omega), (by omega), (by omega), (by omega), (by omega)⟩
    · refine lv_aload_n hx hb dX7_ownPrimary_38 rfl (lv_at hl 0 rfl) ?_
      refine lv_sipush (v := iv 227) hx hb dX7_ownPrimary_39 rfl ?_
      have hn_204 : -1 ≤ μ.1 26 10 ∧ μ.1 26 10 ≤ 3000 := hI.nm.2.2.2.2.2.2.2.2.2.2.2.2
      have hn_205 : 0 ≤ μ.1 26 6 ∧ μ.1 26 6 ≤ 3001 := hI.nm.2.2.2.2.2.2.2.2.2.1
      have hn_206 : 0 ≤ μ.1 26 7 ∧ μ.1 26 7 ≤ 3000 := hI.nm.2.2.2.2.2.2.2.2.2.2.1
      have hn_207 : 0 ≤ μ.1 26 9 ∧ μ.1 26 9 ≤ 3000 := hI.nm.2.2.2.2.2.2.2.2.2.2.2.1
      refine xc_iV G (b := 23) (rest := []) (As := [.int (iv 227)]) (c_X7_took ω l μ 227 (by unfold ir; omega) hI hTK (by omega)) (wm 3 160 rfl rfl) (wm 3 162 rfl rfl) (wm 0 9 rfl rfl) rfl rfl (by decide) rfl (wm 1 12 rfl rfl) (wm 3 163 rfl rfl) (by decide) hR ⟨nfr hF (by decide), nlo hLo (by decide)⟩ (n := 1) rfl rfl (Nat.le_of_ble_eq_true rfl) hl.1 dX7_ownPrimary_42 (fun r_209 μ208 ρ d0 H locs hr_r_209 hp G => ?_)
      have hr_r_209 : -2147483648 ≤ r_209 ∧ r_209 ≤ 2147483647 := hr_r_209
      obtain ⟨F_210, hI_211, hp_212, hp_213, hs_214, hs_215, hs_216, hs_217, hs_218⟩ := hp
      have hn_219 : -1 ≤ μ208.1 26 10 ∧ μ208.1 26 10 ≤ 3000 := hI_211.nm.2.2.2.2.2.2.2.2.2.2.2.2
      have htb_220 := hp_212.b
      refine xb_if_eq (tgt := 68) hx hb (by unfold ir; omega) dX7_ownPrimary_45 (by decide) (fun c_45 => ?_) (fun c_45 => ?_)
      · refine lv_aload_n hx hb dX7_ownPrimary_68 rfl (lv_at hl 0 rfl) ?_
        refine xa_geti G fd_X7 (a := 23) (x := tt) 8 rfl (by decide) rfl (wm 2 25 rfl rfl) ⟨rfl, rfl, rfl⟩ dX7_ownPrimary_69 rfl ((F_210.1 23 (by decide) 8).trans htt.symm) ?_
        refine lv_iconst (v := iv 2) hx hb dX7_ownPrimary_72 rfl ?_
        refine xb_icmp_ne (tgt := 116) hx hb (by unfold ir; omega) (by unfold ir; omega) dX7_ownPrimary_73 (by decide) (fun c_73 => ?_) (fun c_73 => ?_)
        · refine lv_aload_n hx hb dX7_ownPrimary_116 rfl (lv_at hl 0 rfl) ?_
          refine xa_getr G fd_X7 (a := 23) (x := 26) 0 rfl (by decide) rfl (wm 2 17 rfl rfl) ⟨rfl, rfl, rfl⟩ dX7_ownPrimary_117 rfl (G.sk 23 rfl) (by decide) rfl ?_
          have hpx_221 : μ208.1 26 11 = 0 → PXE μ μ208 P tt 0 (-1) 1 := fun h0 => (hnil (by have h9 : μ.1 26 11 = μ.1 26 11 := rfl; have h8 : μ208.1 26 11 = μ.1 26 11 := hs_214; omega)).fr (K := [26]) (Fr.tr Fr.rf F_210 (by decide)) (npL_p (L := [26]) (by decide) hprP).1 (npL_p (L := [26]) (by decide) hprP).2.1
          have e_222 : μ208.1 26 6 = μ.1 26 6 := hs_215
          have e_223 : μ208.1 26 7 = μ.1 26 7 := hs_216
          have e_224 : μ208.1 26 8 = μ.1 26 8 := hs_217
          have e_225 : μ208.1 26 9 = μ.1 26 9 := hs_218
          refine xc_vV G (b := 26) (rest := []) (As := []) (c_X10_stop ω l μ208  hI_211) (wm 3 173 rfl rfl) (wm 3 174 rfl rfl) (wm 3 175 rfl rfl) rfl rfl (by decide) rfl (wm 1 13 rfl rfl) (wm 3 176 rfl rfl) (by decide) hR ⟨nfr hF (by decide), nlo hLo (by decide)⟩ (n := 0) rfl rfl (Nat.le_of_ble_eq_true rfl) hl.1 dX7_ownPrimary_120 (fun μ226 ρ d0 H locs hp G => ?_)
          obtain ⟨F_227, hI_228, hp_229, hp_230, hs_231, hs_232, hs_233, hs_234, hs_235, hs_236, hs_237⟩ := hp
          have htk_238 : TK μ226 := TK.st hp_212 F_227 hp_229 hp_230 (((hs_231.trans hs_215)).trans (hs_215).symm) hs_235
          have hpx_239 : μ226.1 26 11 = 0 → PXE μ μ226 P tt 0 (-1) 1 := fun h0 => (hpx_221 (by have h9 : μ208.1 26 11 = μ.1 26 11 := hs_214; have h8 : μ226.1 26 11 = μ226.1 26 11 := rfl; omega)).fr (K := [26]) (Fr.tr Fr.rf F_227 (by decide)) (npL_p (L := [26]) (by decide) hprP).1 (npL_p (L := [26]) (by decide) hprP).2.1
          have e_240 : μ226.1 26 10 = μ208.1 26 10 := hs_235
          have e_241 : μ226.1 P 1 = μ.1 P 1 := ((F_227.1 P (ni hprP (fun P => P) (fun P => [26]) rfl) 1).trans (F_210.1 P (ni hprP (fun P => P) (fun P => [26]) rfl) 1))
          have e_242 : μ226.1 P 1 = μ.1 P 1 := ((F_227.1 P (ni hprP (fun P => P) (fun P => [26]) rfl) 1).trans (F_210.1 P (ni hprP (fun P => P) (fun P => [26]) rfl) 1))
          have e_243 : μ226.1 26 10 = μ208.1 26 10 := hs_235
          have e_244 : μ226.1 (P + 2) 3 = μ.1 (P + 2) 3 := ((F_227.1 (P + 2) (ni hprP (fun P => P + 2) (fun P => [26]) rfl) 3).trans (F_210.1 (P + 2) (ni hprP (fun P => P + 2) (fun P => [26]) rfl) 3))
          have e_245 : μ226.1 P 1 = μ.1 P 1 := ((F_227.1 P (ni hprP (fun P => P) (fun P => [26]) rfl) 1).trans (F_210.1 P (ni hprP (fun P => P) (fun P => [26]) rfl) 1))
          have e_246 : μ226.1 (P + 2) 3 = μ.1 (P + 2) 3 := ((F_227.1 (P + 2) (ni hprP (fun P => P + 2) (fun P => [26]) rfl) 3).trans (F_210.1 (P + 2) (ni hprP (fun P => P + 2) (fun P => [26]) rfl) 3))
          have e_247 : μ226.1 23 2 = P := ((F_227.1 23 (by decide) 2).trans ((F_210.1 23 (by decide) 2).trans hP.symm))
          have e_248 : μ226.1 23 5 = μ.1 23 5 := ((F_227.1 23 (by decide) 5).trans (F_210.1 23 (by decide) 5))
          have e_249 : μ226.1 23 6 = μ.1 23 6 := ((F_227.1 23 (by decide) 6).trans (F_210.1 23 (by decide) 6))
          have e_250 : μ226.1 23 7 = μ.1 23 7 := ((F_227.1 23 (by decide) 7).trans (F_210.1 23 (by decide) 7))
          have e_251 : μ226.1 23 8 = tt := ((F_227.1 23 (by decide) 8).trans ((F_210.1 23 (by decide) 8).trans htt.symm))
          have e_252 : μ226.1 23 9 = μ.1 23 9 := ((F_227.1 23 (by decide) 9).trans (F_210.1 23 (by decide) 9))
          have e_253 : μ226.1 23 10 = μ.1 23 10 := ((F_227.1 23 (by decide) 10).trans (F_210.1 23 (by decide) 10))
          have e_254 : μ226.1 26 6 = μ.1 26 6 := (hs_231.trans hs_215)
          have e_255 : μ226.1 P 7 = μ.1 P 7 := ((F_227.1 P (ni hprP (fun P => P) (fun P => [26]) rfl) 7).trans (F_210.1 P (ni hprP (fun P => P) (fun P => [26]) rfl) 7))
          exact xr_v G hret hlk dX7_ownPrimary_123 ⟨(Fr.tr (Fr.tr Fr.rf F_210 (si hprP (fun P => [26]) (fun P => [2, 3, 4, 23, 24, 26, P, P + 1, P + 2, (P + 2) + 1, (P + 2) + 2, (P + 2) + 3]) rfl)) F_227 (si hprP (fun P => [26]) (fun P => [2, 3, 4, 23, 24, 26, P, P + 1, P + 2, (P + 2) + 1, (P + 2) + 2, (P + 2) + 3]) rfl)), hI_228, htk_238, (by omega), (by omega), (by omega), (by omega), (fun h0 => (PXE.ex (hpx_239 h0)).e (by omega)), (by omega), (by omega), (by omega), (by omega), (by omega), (by omega), (by omega), (by omega), (by omega)⟩
        · refine lv_aload_n hx hb dX7_ownPrimary_76 rfl (lv_at hl 0 rfl) ?_
          refine lv_sipush (v := iv 228) hx hb dX7_ownPrimary_77 rfl ?_
          have hpx_256 : μ208.1 26 11 = 0 → PXE μ μ208 P tt 0 (-1) 1 := fun h0 => (hnil (by have h9 : μ.1 26 11 = μ.1 26 11 := rfl; have h8 : μ208.1 26 11 = μ.1 26 11 := hs_214; omega)).fr (K := [26]) (Fr.tr Fr.rf F_210 (by decide)) (npL_p (L := [26]) (by decide) hprP).1 (npL_p (L := [26]) (by decide) hprP).2.1
          have e_257 : μ208.1 26 11 = μ.1 26 11 := hs_214
          have e_258 : μ208.1 26 11 = μ.1 26 11 := hs_214
          have e_259 : μ208.1 26 6 = μ.1 26 6 := hs_215
          have e_260 : μ208.1 26 7 = μ.1 26 7 := hs_216
          have e_261 : μ208.1 26 8 = μ.1 26 8 := hs_217
          have e_262 : μ208.1 26 9 = μ.1 26 9 := hs_218
          refine xc_iV G (b := 23) (rest := []) (As := [.int (iv 228)]) (c_X7_took ω l μ208 228 (by unfold ir; omega) hI_211 hp_212 (by omega)) (wm 3 160 rfl rfl) (wm 3 162 rfl rfl) (wm 0 9 rfl rfl) rfl rfl (by decide) rfl (wm 1 12 rfl rfl) (wm 3 163 rfl rfl) (by decide) hR ⟨nfr hF (by decide), nlo hLo (by decide)⟩ (n := 1) rfl rfl (Nat.le_of_ble_eq_true rfl) hl.1 dX7_ownPrimary_80 (fun r_264 μ263 ρ d0 H locs hr_r_264 hp G => ?_)
          have hr_r_264 : -2147483648 ≤ r_264 ∧ r_264 ≤ 2147483647 := hr_r_264
          obtain ⟨F_265, hI_266, hp_267, hp_268, hs_269, hs_270, hs_271, hs_272, hs_273⟩ := hp
          have hn_274 : -1 ≤ μ263.1 26 10 ∧ μ263.1 26 10 ≤ 3000 := hI_266.nm.2.2.2.2.2.2.2.2.2.2.2.2
          have htb_275 := hp_267.b
          refine xb_if_eq (tgt := 116) hx hb (by unfold ir; omega) dX7_ownPrimary_83 (by decide) (fun c_83 => ?_) (fun c_83 => ?_)
          · refine lv_aload_n hx hb dX7_ownPrimary_116 rfl (lv_at hl 0 rfl) ?_
            refine xa_getr G fd_X7 (a := 23) (x := 26) 0 rfl (by decide) rfl (wm 2 17 rfl rfl) ⟨rfl, rfl, rfl⟩ dX7_ownPrimary_117 rfl (G.sk 23 rfl) (by decide) rfl ?_
            have hpx_276 : μ263.1 26 11 = 0 → PXE μ μ263 P tt 0 (-1) 1 := fun h0 => (hpx_256 (by have h9 : μ208.1 26 11 = μ.1 26 11 := hs_214; have h8 : μ263.1 26 11 = μ.1 26 11 := (hs_269.trans hs_214); omega)).fr (K := [26]) (Fr.tr Fr.rf F_265 (by decide)) (npL_p (L := [26]) (by decide) hprP).1 (npL_p (L := [26]) (by decide) hprP).2.1
            have e_277 : μ263.1 26 6 = μ.1 26 6 := (hs_270.trans hs_215)
            have e_278 : μ263.1 26 7 = μ.1 26 7 := (hs_271.trans hs_216)
            have e_279 : μ263.1 26 8 = μ.1 26 8 := (hs_272.trans hs_217)
            have e_280 : μ263.1 26 9 = μ.1 26 9 := (hs_273.trans hs_218)
            refine xc_vV G (b := 26) (rest := []) (As := []) (c_X10_stop ω l μ263  hI_266) (wm 3 173 rfl rfl) (wm 3 174 rfl rfl) (wm 3 175 rfl rfl) rfl rfl (by decide) rfl (wm 1 13 rfl rfl) (wm 3 176 rfl rfl) (by decide) hR ⟨nfr hF (by decide), nlo hLo (by decide)⟩ (n := 0) rfl rfl (Nat.le_of_ble_eq_true rfl) hl.1 dX7_ownPrimary_120 (fun μ281 ρ d0 H locs hp G => ?_)
            obtain ⟨F_282, hI_283, hp_284, hp_285, hs_286, hs_287, hs_288, hs_289, hs_290, hs_291, hs_292⟩ := hp
            have htk_293 : TK μ281 := TK.st hp_267 F_282 hp_284 hp_285 (((hs_286.trans (hs_270.trans hs_215))).trans ((hs_270.trans hs_215)).symm) hs_290
            have hpx_294 : μ281.1 26 11 = 0 → PXE μ μ281 P tt 0 (-1) 1 := fun h0 => (hpx_276 (by have h9 : μ263.1 26 11 = μ.1 26 11 := (hs_269.trans hs_214); have h8 : μ281.1 26 11 = μ281.1 26 11 := rfl; omega)).fr (K := [26]) (Fr.tr Fr.rf F_282 (by decide)) (npL_p (L := [26]) (by decide) hprP).1 (npL_p (L := [26]) (by decide) hprP).2.1
            have e_295 : μ281.1 26 10 = μ263.1 26 10 := hs_290
            have e_296 : μ281.1 P 1 = μ.1 P 1 := ((F_282.1 P (ni hprP (fun P => P) (fun P => [26]) rfl) 1).trans ((F_265.1 P (ni hprP (fun P => P) (fun P => [26]) rfl) 1).trans (F_210.1 P (ni hprP (fun P => P) (fun P => [26]) rfl) 1)))
            have e_297 : μ281.1 P 1 = μ.1 P 1 := ((F_282.1 P (ni hprP (fun P => P) (fun P => [26]) rfl) 1).trans ((F_265.1 P (ni hprP (fun P => P) (fun P => [26]) rfl) 1).trans (F_210.1 P (ni hprP (fun P => P) (fun P => [26]) rfl) 1)))
            have e_298 : μ281.1 26 10 = μ263.1 26 10 := hs_290
            have e_299 : μ281.1 (P + 2) 3 = μ.1 (P + 2) 3 := ((F_282.1 (P + 2) (ni hprP (fun P => P + 2) (fun P => [26]) rfl) 3).trans ((F_265.1 (P + 2) (ni hprP (fun P => P + 2) (fun P => [26]) rfl) 3).trans (F_210.1 (P + 2) (ni hprP (fun P => P + 2) (fun P => [26]) rfl) 3)))
            have e_300 : μ281.1 P 1 = μ.1 P 1 := ((F_282.1 P (ni hprP (fun P => P) (fun P => [26]) rfl) 1).trans ((F_265.1 P (ni hprP (fun P => P) (fun P => [26]) rfl) 1).trans (F_210.1 P (ni hprP (fun P => P) (fun P => [26]) rfl) 1)))
            have e_301 : μ281.1 (P + 2) 3 = μ.1 (P + 2) 3 := ((F_282.1 (P + 2) (ni hprP (fun P => P + 2) (fun P => [26]) rfl) 3).trans ((F_265.1 (P + 2) (ni hprP (fun P => P + 2) (fun P => [26]) rfl) 3).trans (F_210.1 (P + 2) (ni hprP (fun P => P + 2) (fun P => [26]) rfl) 3)))
            have e_302 : μ281.1 23 2 = P := ((F_282.1 23 (by decide) 2).trans ((F_265.1 23 (by decide) 2).trans ((F_210.1 23 (by decide) 2).trans hP.symm)))
            have e_303 : μ281.1 23 5 = μ.1 23 5 := ((F_282.1 23 (by decide) 5).trans ((F_265.1 23 (by decide) 5).trans (F_210.1 23 (by decide) 5)))
            have e_304 : μ281.1 23 6 = μ.1 23 6 := ((F_282.1 23 (by decide) 6).trans ((F_265.1 23 (by decide) 6).trans (F_210.1 23 (by decide) 6)))
            have e_305 : μ281.1 23 7 = μ.1 23 7 := ((F_282.1 23 (by decide) 7).trans ((F_265.1 23 (by decide) 7).trans (F_210.1 23 (by decide) 7)))
            have e_306 : μ281.1 23 8 = tt := ((F_282.1 23 (by decide) 8).trans ((F_265.1 23 (by decide) 8).trans ((F_210.1 23 (by decide) 8).trans htt.symm)))
            have e_307 : μ281.1 23 9 = μ.1 23 9 := ((F_282.1 23 (by decide) 9).trans ((F_265.1 23 (by decide) 9).trans (F_210.1 23 (by decide) 9)))
            have e_308 : μ281.1 23 10 = μ.1 23 10 := ((F_282.1 23 (by decide) 10).trans ((F_265.1 23 (by decide) 10).trans (F_210.1 23 (by decide) 10)))
            have e_309 : μ281.1 26 6 = μ.1 26 6 := (hs_286.trans (hs_270.trans hs_215))
            have e_310 : μ281.1 P 7 = μ.1 P 7 := ((F_282.1 P (ni hprP (fun P => P) (fun P => [26]) rfl) 7).trans ((F_265.1 P (ni hprP (fun P => P) (fun P => [26]) rfl) 7).trans (F_210.1 P (ni hprP (fun P => P) (fun P => [26]) rfl) 7)))
            exact xr_v G hret hlk dX7_ownPrimary_123 ⟨(Fr.tr (Fr.tr (Fr.tr Fr.rf F_210 (si hprP (fun P => [26]) (fun P => [2, 3, 4, 23, 24, 26, P, P + 1, P + 2, (P + 2) + 1, (P + 2) + 2, (P + 2) + 3]) rfl)) F_265 (si hprP (fun P => [26]) (fun P => [2, 3, 4, 23, 24, 26, P, P + 1, P + 2, (P + 2) + 1, (P + 2) + 2, (P + 2) + 3]) rfl)) F_282 (si hprP (fun P => [26]) (fun P => [2, 3, 4, 23, 24, 26, P, P + 1, P + 2, (P + 2) + 1, (P + 2) + 2, (P + 2) + 3]) rfl)), hI_283, htk_293, (by omega), (by omega), (by omega), (by omega), (fun h0 => (PXE.ex (hpx_294 h0)).e (by omega)), (by omega), (by omega), (by omega), (by omega), (by omega), (by omega), (by omega), (by omega), (by omega)⟩
          · refine lv_aload_n hx hb dX7_ownPrimary_86 rfl (lv_at hl 0 rfl) ?_
            have hpx_311 : μ263.1 26 11 = 0 → PXE μ μ263 P tt 0 (-1) 1 := fun h0 => (hpx_256 (by have h9 : μ208.1 26 11 = μ.1 26 11 := hs_214; have h8 : μ263.1 26 11 = μ.1 26 11 := (hs_269.trans hs_214); omega)).fr (K := [26]) (Fr.tr Fr.rf F_265 (by decide)) (npL_p (L := [26]) (by decide) hprP).1 (npL_p (L := [26]) (by decide) hprP).2.1
            have e_312 : μ263.1 26 11 = μ.1 26 11 := (hs_269.trans hs_214)
            have e_313 : μ263.1 26 6 = μ.1 26 6 := (hs_270.trans hs_215)
            have e_314 : μ263.1 26 7 = μ.1 26 7 := (hs_271.trans hs_216)
            have e_315 : μ263.1 26 8 = μ.1 26 8 := (hs_272.trans hs_217)
            have e_316 : μ263.1 26 9 = μ.1 26 9 := (hs_273.trans hs_218)
            have hn_317 : 0 ≤ μ.1 2 4 ∧ μ.1 2 4 ≤ 51 := hI.nm.2.2.1
            have e_318 : μ263.1 2 4 = μ.1 2 4 := ((F_265.1 2 (by decide) 4).trans (F_210.1 2 (by decide) 4))
            refine xc_iV G (b := 23) (rest := []) (As := []) (c_X7_nameOfFailing ω l μ263  hI_266 hp_267) (wm 4 112 rfl rfl) (wm 4 114 rfl rfl) (wm 0 44 rfl rfl) rfl rfl (by decide) rfl (wm 1 12 rfl rfl) (wm 4 115 rfl rfl) (by decide) hR ⟨nfr hF (by decide), nlo hLo (by decide)⟩ (n := 0) rfl rfl (Nat.le_of_ble_eq_true rfl) hl.1 dX7_ownPrimary_87 (fun r_320 μ319 ρ d0 H locs hr_r_320 hp G => ?_)
            have hr_r_320 : -2147483648 ≤ r_320 ∧ r_320 ≤ 2147483647 := hr_r_320
            obtain ⟨F_321, hI_322, hp_323, hp_324, hp_325, hs_326, hs_327, hs_328, hs_329, hs_330⟩ := hp
            have hn_331 : -1 ≤ μ319.1 26 10 ∧ μ319.1 26 10 ≤ 3000 := hI_322.nm.2.2.2.2.2.2.2.2.2.2.2.2
            have htb_332 := hp_323.b
            refine lv_istore_n (lv' := [(1, .int (iv r_320)), (0, .ref (oP ω 23))]) hx hb dX7_ownPrimary_90 rfl hl (by decide) rfl (fun ls hl => ?_)
            refine lv_aload_n hx hb dX7_ownPrimary_91 rfl (lv_at hl 1 rfl) ?_
            refine lv_bipush (v := iv 40) hx hb dX7_ownPrimary_92 rfl ?_
            refine lv_bipush (v := iv 41) hx hb dX7_ownPrimary_94 rfl ?_
            have hpx_333 : μ319.1 26 11 = 0 → PXE μ μ319 P tt 0 (-1) 1 := fun h0 => (hpx_311 (by have h9 : μ263.1 26 11 = μ.1 26 11 := (hs_269.trans hs_214); have h8 : μ319.1 26 11 = μ319.1 26 11 := rfl; omega)).fr (K := [26, 2, 3, 4, 24]) (Fr.tr Fr.rf F_321 (by decide)) (npL_p (L := [26, 2, 3, 4, 24]) (by decide) hprP).1 (npL_p (L := [26, 2, 3, 4, 24]) (by decide) hprP).2.1
            have e_334 : μ319.1 23 2 = P := ((F_321.1 23 (by decide) 2).trans ((F_265.1 23 (by decide) 2).trans ((F_210.1 23 (by decide) 2).trans hP.symm)))
            have e_335 : μ319.1 23 8 = tt := ((F_321.1 23 (by decide) 8).trans ((F_265.1 23 (by decide) 8).trans ((F_210.1 23 (by decide) 8).trans htt.symm)))
            have e_336 : μ319.1 P 1 = μ.1 P 1 := ((F_321.1 P (ni hprP (fun P => P) (fun P => [26, 2, 3, 4, 24]) rfl) 1).trans ((F_265.1 P (ni hprP (fun P => P) (fun P => [26]) rfl) 1).trans (F_210.1 P (ni hprP (fun P => P) (fun P => [26]) rfl) 1)))
            have hk_337 := hI.row (r := P + 2) (hprP.row)
            unfold rk at hk_337
            have e_338 : μ319.1 (P + 2) 3 = μ.1 (P + 2) 3 := ((F_321.1 (P + 2) (ni hprP (fun P => P + 2) (fun P => [26, 2, 3, 4, 24]) rfl) 3).trans ((F_265.1 (P + 2) (ni hprP (fun P => P + 2) (fun P => [26]) rfl) 3).trans (F_210.1 (P + 2) (ni hprP (fun P => P + 2) (fun P => [26]) rfl) 3)))
            have e_339 : μ319.1 P 1 = μ.1 P 1 := ((F_321.1 P (ni hprP (fun P => P) (fun P => [26, 2, 3, 4, 24]) rfl) 1).trans ((F_265.1 P (ni hprP (fun P => P) (fun P => [26]) rfl) 1).trans (F_210.1 P (ni hprP (fun P => P) (fun P => [26]) rfl) 1)))
            have e_340 : μ319.1 23 9 = μ.1 23 9 := ((F_321.1 23 (by decide) 9).trans ((F_265.1 23 (by decide) 9).trans (F_210.1 23 (by decide) 9)))
            have e_341 : μ319.1 23 9 = μ.1 23 9 := ((F_321.1 23 (by decide) 9).trans ((F_265.1 23 (by decide) 9).trans (F_210.1 23 (by decide) 9)))
            have e_342 : μ319.1 23 9 = μ.1 23 9 := ((F_321.1 23 (by decide) 9).trans ((F_265.1 23 (by decide) 9).trans (F_210.1 23 (by decide) 9)))
            have e_343 : μ319.1 P 1 = μ.1 P 1 := ((F_321.1 P (ni hprP (fun P => P) (fun P => [26, 2, 3, 4, 24]) rfl) 1).trans ((F_265.1 P (ni hprP (fun P => P) (fun P => [26]) rfl) 1).trans (F_210.1 P (ni hprP (fun P => P) (fun P => [26]) rfl) 1)))
            have e_344 : μ319.1 P 1 = μ.1 P 1 := ((F_321.1 P (ni hprP (fun P => P) (fun P => [26, 2, 3, 4, 24]) rfl) 1).trans ((F_265.1 P (ni hprP (fun P => P) (fun P => [26]) rfl) 1).trans (F_210.1 P (ni hprP (fun P => P) (fun P => [26]) rfl) 1)))
            have e_345 : μ319.1 (P + 2) 3 = μ.1 (P + 2) 3 := ((F_321.1 (P + 2) (ni hprP (fun P => P + 2) (fun P => [26, 2, 3, 4, 24]) rfl) 3).trans ((F_265.1 (P + 2) (ni hprP (fun P => P + 2) (fun P => [26]) rfl) 3).trans (F_210.1 (P + 2) (ni hprP (fun P => P + 2) (fun P => [26]) rfl) 3)))
            have e_346 : μ319.1 P 1 = μ.1 P 1 := ((F_321.1 P (ni hprP (fun P => P) (fun P => [26, 2, 3, 4, 24]) rfl) 1).trans ((F_265.1 P (ni hprP (fun P => P) (fun P => [26]) rfl) 1).trans (F_210.1 P (ni hprP (fun P => P) (fun P => [26]) rfl) 1)))
            have e_347 : μ319.1 (P + 2) 3 = μ.1 (P + 2) 3 := ((F_321.1 (P + 2) (ni hprP (fun P => P + 2) (fun P => [26, 2, 3, 4, 24]) rfl) 3).trans ((F_265.1 (P + 2) (ni hprP (fun P => P + 2) (fun P => [26]) rfl) 3).trans (F_210.1 (P + 2) (ni hprP (fun P => P + 2) (fun P => [26]) rfl) 3)))
            have e_348 : μ319.1 23 2 = P := ((F_321.1 23 (by decide) 2).trans ((F_265.1 23 (by decide) 2).trans ((F_210.1 23 (by decide) 2).trans hP.symm)))
            have hn_349 : 0 ≤ μ.1 23 5 ∧ μ.1 23 5 ≤ 1000 := hI.nm.2.2.2.2.2.2.2.2.1
            have e_350 : μ319.1 23 5 = μ.1 23 5 := ((F_321.1 23 (by decide) 5).trans ((F_265.1 23 (by decide) 5).trans (F_210.1 23 (by decide) 5)))
            have e_351 : μ319.1 23 6 = μ.1 23 6 := ((F_321.1 23 (by decide) 6).trans ((F_265.1 23 (by decide) 6).trans (F_210.1 23 (by decide) 6)))
            have e_352 : μ319.1 23 7 = μ.1 23 7 := ((F_321.1 23 (by decide) 7).trans ((F_265.1 23 (by decide) 7).trans (F_210.1 23 (by decide) 7)))
            have e_353 : μ319.1 23 8 = tt := ((F_321.1 23 (by decide) 8).trans ((F_265.1 23 (by decide) 8).trans ((F_210.1 23 (by decide) 8).trans htt.symm)))
            have e_354 : μ319.1 23 9 = μ.1 23 9 := ((F_321.1 23 (by decide) 9).trans ((F_265.1 23 (by decide) 9).trans (F_210.1 23 (by decide) 9)))
            have e_355 : μ319.1 23 10 = μ.1 23 10 := ((F_321.1 23 (by decide) 10).trans ((F_265.1 23 (by decide) 10).trans (F_210.1 23 (by decide) 10)))
            have e_356 : μ319.1 26 6 = μ.1 26 6 := (hs_326.trans (hs_270.trans hs_215))
            have e_357 : μ319.1 P 7 = μ.1 P 7 := ((F_321.1 P (ni hprP (fun P => P) (fun P => [26, 2, 3, 4, 24]) rfl) 7).trans ((F_265.1 P (ni hprP (fun P => P) (fun P => [26]) rfl) 7).trans (F_210.1 P (ni hprP (fun P => P) (fun P => [26]) rfl) 7)))
            refine xc_vV G (b := 23) (rest := []) (As := [.int (iv 40), .int (iv 41)]) (c_X7_inBrackets ω l μ319 40 41 F Lo kf P tt (by unfold ir; omega) (by unfold ir; omega) hI_322 (by omega) (by omega) hF hLo hE hU hp_323 (by omega) (by omega) (by omega) (by omega) (by omega) (by omega)) (wm 4 92 rfl rfl) (wm 4 94 rfl rfl) (wm 0 39 rfl rfl) rfl rfl (by decide) rfl (wm 1 12 rfl rfl) (wm 4 95 rfl rfl) (by decide) hR ⟨sfr (F := F) (a := 1) (by decide), slo (L := Lo) (m := 3) (a := 22) (by decide)⟩ (n := 2) rfl rfl (Nat.le_of_ble_eq_true rfl) hl.1 dX7_ownPrimary_96 (fun μ358 ρ d0 H locs hp G => ?_)
            obtain ⟨F_359, hI_360, hp_361, hp_362, hp_363, hp_364, hp_365, hp_366, hs_367, hs_368, hs_369, hs_370, hs_371, hs_372, hs_373, hs_374, hs_375⟩ := hp
            have hn_376 : -1 ≤ μ358.1 26 10 ∧ μ358.1 26 10 ≤ 3000 := hI_360.nm.2.2.2.2.2.2.2.2.2.2.2.2
            have hk_377 := hI_360.pr (p := P) hprP
            unfold pk at hk_377
            have hc_378 : 16 ≤ μ358.2.1 (P + 1) ∧ μ358.2.1 (P + 1) ≤ 73024 := hI_360.rm.1 _ hprP.cap
            have hk_379 := hI_360.row (r := P + 2) (hprP.row)
            unfold rk at hk_379
            have htb_380 := hp_361.b
            have hpx_381 : μ358.1 26 11 = 0 → PXE μ μ358 P tt 1 (-1) 1 := fun h0 => (PXE.app (hpx_333 (by have h9 : μ319.1 26 11 = μ319.1 26 11 := rfl; have h8 : μ358.1 26 11 = μ358.1 26 11 := rfl; omega)) (hp_366 h0)).e (by omega)
            refine lv_aload_n hx hb dX7_ownPrimary_99 rfl (lv_at hl 1 rfl) ?_
            refine lv_bipush (v := iv 17) hx hb dX7_ownPrimary_100 rfl ?_
            refine lv_iload_n hx hb dX7_ownPrimary_102 rfl (lv_at hl 0 rfl) ?_
            refine lv_iconst (v := iv 0) hx hb dX7_ownPrimary_103 rfl ?_
            refine lv_aload_n hx hb dX7_ownPrimary_104 rfl (lv_at hl 1 rfl) ?_
            refine lv_iconst (v := iv (-1)) hx hb dX7_ownPrimary_105 rfl ?_
            refine lv_iconst (v := iv 0) hx hb dX7_ownPrimary_106 rfl ?_
            have e_382 : μ358.1 23 2 = P := (hs_367.trans ((F_321.1 23 (by decide) 2).trans ((F_265.1 23 (by decide) 2).trans ((F_210.1 23 (by decide) 2).trans hP.symm))))
            have e_383 : μ358.1 23 8 = tt := (hs_371.trans ((F_321.1 23 (by decide) 8).trans ((F_265.1 23 (by decide) 8).trans ((F_210.1 23 (by decide) 8).trans htt.symm))))
            have e_384 : μ358.1 P 7 = μ.1 P 7 := (hs_375.trans ((F_321.1 P (ni hprP (fun P => P) (fun P => [26, 2, 3, 4, 24]) rfl) 7).trans ((F_265.1 P (ni hprP (fun P => P) (fun P => [26]) rfl) 7).trans (F_210.1 P (ni hprP (fun P => P) (fun P => [26]) rfl) 7))))
            refine xc_iV G (b := 23) (rest := [.int (iv 0), .int (iv r_320), .int (iv 17), .ref (oP ω 23)]) (As := [.int (iv (-1)), .int (iv 0)]) (c_X7_ifFails ω l μ358 (-1) 0 μ (1) (1) P tt (by unfold ir; omega) (by unfold ir; omega) hI_360 (by omega) (by omega) (by omega) hpx_381 (by omega) (by omega)) (wm 4 23 rfl rfl) (wm 4 25 rfl rfl) (wm 0 29 rfl rfl) rfl rfl (by decide) rfl (wm 1 12 rfl rfl) (wm 4 26 rfl rfl) (by decide) hR ⟨nfr hF (by decide), nlo hLo (by decide)⟩ (n := 2) rfl rfl (Nat.le_of_ble_eq_true rfl) hl.1 dX7_ownPrimary_107 (fun r_386 μ385 ρ d0 H locs hr_r_386 hp G => ?_)
            have hr_r_386 : -2147483648 ≤ r_386 ∧ r_386 ≤ 2147483647 := hr_r_386
            obtain ⟨F_387, hI_388, hp_389, hp_390, hs_391⟩ := hp
            have hk_392 := hI_388.pr (p := P) hprP
            unfold pk at hk_392
            have hc_393 : 16 ≤ μ385.2.1 (P + 1) ∧ μ385.2.1 (P + 1) ≤ 73024 := hI_388.rm.1 _ hprP.cap
            have hpx_394 : μ385.1 26 11 = 0 → PXE μ μ385 P tt 1 r_386 1 := fun h0 => hp_389 (by have h9 : μ358.1 26 11 = μ358.1 26 11 := rfl; have h8 : μ385.1 26 11 = μ358.1 26 11 := (F_387.1 26 (ni hprP (fun P => 26) (fun P => [P, P + 1]) rfl) 11); omega)
            clear hp_389
            have e_395 : μ385.1 23 2 = P := ((F_387.1 23 (ni hprP (fun P => 23) (fun P => [P, P + 1]) rfl) 2).trans (hs_367.trans ((F_321.1 23 (by decide) 2).trans ((F_265.1 23 (by decide) 2).trans ((F_210.1 23 (by decide) 2).trans hP.symm)))))
            have e_396 : μ385.1 23 8 = tt := ((F_387.1 23 (ni hprP (fun P => 23) (fun P => [P, P + 1]) rfl) 8).trans (hs_371.trans ((F_321.1 23 (by decide) 8).trans ((F_265.1 23 (by decide) 8).trans ((F_210.1 23 (by decide) 8).trans htt.symm)))))
            have e_397 : μ385.1 P 7 = μ.1 P 7 := (hs_391.trans (hs_375.trans ((F_321.1 P (ni hprP (fun P => P) (fun P => [26, 2, 3, 4, 24]) rfl) 7).trans ((F_265.1 P (ni hprP (fun P => P) (fun P => [26]) rfl) 7).trans (F_210.1 P (ni hprP (fun P => P) (fun P => [26]) rfl) 7)))))
            refine xc_vV G (b := 23) (rest := []) (As := [.int (iv 17), .int (iv r_320), .int (iv 0), .int (iv r_386)]) (c_X7_endOfParts ω l μ385 17 r_320 0 r_386 μ (1) (1) P tt (by unfold ir; omega) (by unfold ir; omega) (by unfold ir; omega) (by unfold ir; omega) hI_388 (by omega) (by omega) (by omega) hpx_394 (Or.inl (by unfold plain; omega)) (by omega) (by rw [show eff 17 r_320 = 0 from rfl]; omega)) (wm 4 27 rfl rfl) (wm 4 29 rfl rfl) (wm 0 30 rfl rfl) rfl rfl (by decide) rfl (wm 1 12 rfl rfl) (wm 4 30 rfl rfl) (by decide) hR ⟨nfr hF (by decide), nlo hLo (by decide)⟩ (n := 4) rfl rfl (Nat.le_of_ble_eq_true rfl) hl.1 dX7_ownPrimary_110 (fun μ398 ρ d0 H locs hp G => ?_)
            obtain ⟨F_399, hI_400, hp_401, hs_402, hs_403⟩ := hp
            have hpx_404 : μ398.1 26 11 = 0 → PXE μ μ398 P tt 1 (-1) 1 := fun h0 => PXE.of (hp_401 (by have h9 : μ385.1 26 11 = μ358.1 26 11 := (F_387.1 26 (ni hprP (fun P => 26) (fun P => [P, P + 1]) rfl) 11); have h8 : μ398.1 26 11 = μ358.1 26 11 := ((F_399.1 26 (ni hprP (fun P => 26) (fun P => [P, P + 1]) rfl) 11).trans (F_387.1 26 (ni hprP (fun P => 26) (fun P => [P, P + 1]) rfl) 11)); omega))
            clear hp_401
            refine lv_goto (tgt := 123) hx hb dX7_ownPrimary_113 (by decide) ?_
            have htk_405 : TK μ398 := hp_361.fr (K := [P, P + 1]) (Fr.tr (Fr.tr Fr.rf F_387 (si hprP (fun P => [P, P + 1]) (fun P => [P, P + 1]) rfl)) F_399 (si hprP (fun P => [P, P + 1]) (fun P => [P, P + 1]) rfl)) (ni hprP (fun P => 26) (fun P => [P, P + 1]) rfl) (ni hprP (fun P => 28) (fun P => [P, P + 1]) rfl)
            have e_406 : μ398.1 26 11 = μ358.1 26 11 := ((F_399.1 26 (ni hprP (fun P => 26) (fun P => [P, P + 1]) rfl) 11).trans (F_387.1 26 (ni hprP (fun P => 26) (fun P => [P, P + 1]) rfl) 11))
            have e_407 : μ398.1 26 11 = μ358.1 26 11 := ((F_399.1 26 (ni hprP (fun P => 26) (fun P => [P, P + 1]) rfl) 11).trans (F_387.1 26 (ni hprP (fun P => 26) (fun P => [P, P + 1]) rfl) 11))
            have e_408 : μ398.1 26 10 = μ358.1 26 10 := ((F_399.1 26 (ni hprP (fun P => 26) (fun P => [P, P + 1]) rfl) 10).trans (F_387.1 26 (ni hprP (fun P => 26) (fun P => [P, P + 1]) rfl) 10))
            have e_409 : μ398.1 P 1 = μ385.1 P 1 + 1 := hs_402
            have e_410 : μ398.1 P 1 = μ385.1 P 1 + 1 := hs_402
            have e_411 : μ398.1 26 10 = μ358.1 26 10 := ((F_399.1 26 (ni hprP (fun P => 26) (fun P => [P, P + 1]) rfl) 10).trans (F_387.1 26 (ni hprP (fun P => 26) (fun P => [P, P + 1]) rfl) 10))
            have e_412 : μ398.1 26 11 = μ358.1 26 11 := ((F_399.1 26 (ni hprP (fun P => 26) (fun P => [P, P + 1]) rfl) 11).trans (F_387.1 26 (ni hprP (fun P => 26) (fun P => [P, P + 1]) rfl) 11))
            have e_413 : μ398.1 (P + 2) 3 = μ358.1 (P + 2) 3 := ((F_399.1 (P + 2) (ni hprP (fun P => P + 2) (fun P => [P, P + 1]) rfl) 3).trans (F_387.1 (P + 2) (ni hprP (fun P => P + 2) (fun P => [P, P + 1]) rfl) 3))
            have e_414 : μ398.1 P 1 = μ385.1 P 1 + 1 := hs_402
            have e_415 : μ398.1 (P + 2) 3 = μ358.1 (P + 2) 3 := ((F_399.1 (P + 2) (ni hprP (fun P => P + 2) (fun P => [P, P + 1]) rfl) 3).trans (F_387.1 (P + 2) (ni hprP (fun P => P + 2) (fun P => [P, P + 1]) rfl) 3))
            have e_416 : μ398.1 23 2 = P := ((F_399.1 23 (ni hprP (fun P => 23) (fun P => [P, P + 1]) rfl) 2).trans ((F_387.1 23 (ni hprP (fun P => 23) (fun P => [P, P + 1]) rfl) 2).trans (hs_367.trans ((F_321.1 23 (by decide) 2).trans ((F_265.1 23 (by decide) 2).trans ((F_210.1 23 (by decide) 2).trans hP.symm))))))
            have e_417 : μ398.1 23 5 = μ.1 23 5 := ((F_399.1 23 (ni hprP (fun P => 23) (fun P => [P, P + 1]) rfl) 5).trans ((F_387.1 23 (ni hprP (fun P => 23) (fun P => [P, P + 1]) rfl) 5).trans (hs_368.trans ((F_321.1 23 (by decide) 5).trans ((F_265.1 23 (by decide) 5).trans (F_210.1 23 (by decide) 5))))))
            have e_418 : μ398.1 23 6 = μ.1 23 6 := ((F_399.1 23 (ni hprP (fun P => 23) (fun P => [P, P + 1]) rfl) 6).trans ((F_387.1 23 (ni hprP (fun P => 23) (fun P => [P, P + 1]) rfl) 6).trans (hs_369.trans ((F_321.1 23 (by decide) 6).trans ((F_265.1 23 (by decide) 6).trans (F_210.1 23 (by decide) 6))))))
            have e_419 : μ398.1 23 7 = μ.1 23 7 := ((F_399.1 23 (ni hprP (fun P => 23) (fun P => [P, P + 1]) rfl) 7).trans ((F_387.1 23 (ni hprP (fun P => 23) (fun P => [P, P + 1]) rfl) 7).trans (hs_370.trans ((F_321.1 23 (by decide) 7).trans ((F_265.1 23 (by decide) 7).trans (F_210.1 23 (by decide) 7))))))
            have e_420 : μ398.1 23 8 = tt := ((F_399.1 23 (ni hprP (fun P => 23) (fun P => [P, P + 1]) rfl) 8).trans ((F_387.1 23 (ni hprP (fun P => 23) (fun P => [P, P + 1]) rfl) 8).trans (hs_371.trans ((F_321.1 23 (by decide) 8).trans ((F_265.1 23 (by decide) 8).trans ((F_210.1 23 (by decide) 8).trans htt.symm))))))
            have e_421 : μ398.1 23 9 = μ.1 23 9 := ((F_399.1 23 (ni hprP (fun P => 23) (fun P => [P, P + 1]) rfl) 9).trans ((F_387.1 23 (ni hprP (fun P => 23) (fun P => [P, P + 1]) rfl) 9).trans (hs_372.trans ((F_321.1 23 (by decide) 9).trans ((F_265.1 23 (by decide) 9).trans (F_210.1 23 (by decide) 9))))))
            have e_422 : μ398.1 23 10 = μ.1 23 10 := ((F_399.1 23 (ni hprP (fun P => 23) (fun P => [P, P + 1]) rfl) 10).trans ((F_387.1 23 (ni hprP (fun P => 23) (fun P => [P, P + 1]) rfl) 10).trans (hs_373.trans ((F_321.1 23 (by decide) 10).trans ((F_265.1 23 (by decide) 10).trans (F_210.1 23 (by decide) 10))))))
            have e_423 : μ398.1 26 6 = μ.1 26 6 := ((F_399.1 26 (ni hprP (fun P => 26) (fun P => [P, P + 1]) rfl) 6).trans ((F_387.1 26 (ni hprP (fun P => 26) (fun P => [P, P + 1]) rfl) 6).trans (hs_374.trans (hs_326.trans (hs_270.trans hs_215)))))
            have e_424 : μ398.1 P 7 = μ.1 P 7 := (hs_403.trans (hs_391.trans (hs_375.trans ((F_321.1 P (ni hprP (fun P => P) (fun P => [26, 2, 3, 4, 24]) rfl) 7).trans ((F_265.1 P (ni hprP (fun P => P) (fun P => [26]) rfl) 7).trans (F_210.1 P (ni hprP (fun P => P) (fun P => [26]) rfl) 7))))))
            exact xr_v G hret hlk dX7_ownPrimary_123 ⟨(Fr.tr (Fr.tr (Fr.tr (Fr.tr (Fr.tr (Fr.tr Fr.rf F_210 (si hprP (fun P => [26]) (fun P => [2, 3, 4, 23, 24, 26, P, P + 1, P + 2, (P + 2) + 1, (P + 2) + 2, (P + 2) + 3]) rfl)) F_265 (si hprP (fun P => [26]) (fun P => [2, 3, 4, 23, 24, 26, P, P + 1, P + 2, (P + 2) + 1, (P + 2) + 2, (P + 2) + 3]) rfl)) F_321 (si hprP (fun P => [26, 2, 3, 4, 24]) (fun P => [2, 3, 4, 23, 24, 26, P, P + 1, P + 2, (P + 2) + 1, (P + 2) + 2, (P + 2) + 3]) rfl)) F_359 (si hprP (fun P => [2, 3, 4, 23, 24, 26, P, P + 1, P + 2, (P + 2) + 1, (P + 2) + 2, (P + 2) + 3]) (fun P => [2, 3, 4, 23, 24, 26, P, P + 1, P + 2, (P + 2) + 1, (P + 2) + 2, (P + 2) + 3]) rfl)) F_387 (si hprP (fun P => [P, P + 1]) (fun P => [2, 3, 4, 23, 24, 26, P, P + 1, P + 2, (P + 2) + 1, (P + 2) + 2, (P + 2) + 3]) rfl)) F_399 (si hprP (fun P => [P, P + 1]) (fun P => [2, 3, 4, 23, 24, 26, P, P + 1, P + 2, (P + 2) + 1, (P + 2) + 2, (P + 2) + 3]) rfl)), hI_400, htk_405, (by omega), (by omega), (by omega), (by omega), (fun h0 => (PXE.ex (hpx_404 h0)).e (by omega)), (by omega), (by omega), (by omega), (by omega), (by omega), (by omega), (by omega), (by omega), (by omega)⟩
      · refine lv_aload_n hx hb dX7_ownPrimary_48 rfl (lv_at hl 0 rfl) ?_
        refine lv_bipush (v := iv 40) hx hb dX7_ownPrimary_49 rfl ?_
        refine lv_bipush (v := iv 41) hx hb dX7_ownPrimary_51 rfl ?_
        have hpx_425 : μ208.1 26 11 = 0 → PXE μ μ208 P tt 0 (-1) 1 := fun h0 => (hnil (by have h9 : μ.1 26 11 = μ.1 26 11 := rfl; have h8 : μ208.1 26 11 = μ.1 26 11 := hs_214; omega)).fr (K := [26]) (Fr.tr Fr.rf F_210 (by decide)) (npL_p (L := [26]) (by decide) hprP).1 (npL_p (L := [26]) (by decide) hprP).2.1
        have e_426 : μ208.1 23 2 = P := ((F_210.1 23 (by decide) 2).trans hP.symm)
        have e_427 : μ208.1 23 8 = tt := ((F_210.1 23 (by decide) 8).trans htt.symm)
        have e_428 : μ208.1 P 1 = μ.1 P 1 := (F_210.1 P (ni hprP (fun P => P) (fun P => [26]) rfl) 1)
        have e_429 : μ208.1 26 11 = μ.1 26 11 := hs_214
        have hk_430 := hI.row (r := P + 2) (hprP.row)
        unfold rk at hk_430
        have e_431 : μ208.1 (P + 2) 3 = μ.1 (P + 2) 3 := (F_210.1 (P + 2) (ni hprP (fun P => P + 2) (fun P => [26]) rfl) 3)
        have e_432 : μ208.1 P 1 = μ.1 P 1 := (F_210.1 P (ni hprP (fun P => P) (fun P => [26]) rfl) 1)
        have e_433 : μ208.1 23 9 = μ.1 23 9 := (F_210.1 23 (by decide) 9)
        have e_434 : μ208.1 23 9 = μ.1 23 9 := (F_210.1 23 (by decide) 9)
        have e_435 : μ208.1 23 9 = μ.1 23 9 := (F_210.1 23 (by decide) 9)
        have e_436 : μ208.1 26 11 = μ.1 26 11 := hs_214
        have e_437 : μ208.1 P 1 = μ.1 P 1 := (F_210.1 P (ni hprP (fun P => P) (fun P => [26]) rfl) 1)
        have e_438 : μ208.1 P 1 = μ.1 P 1 := (F_210.1 P (ni hprP (fun P => P) (fun P => [26]) rfl) 1)
        have e_439 : μ208.1 (P + 2) 3 = μ.1 (P + 2) 3 := (F_210.1 (P + 2) (ni hprP (fun P => P + 2) (fun P => [26]) rfl) 3)
        have e_440 : μ208.1 P 1 = μ.1 P 1 := (F_210.1 P (ni hprP (fun P => P) (fun P => [26]) rfl) 1)
        have e_441 : μ208.1 (P + 2) 3 = μ.1 (P + 2) 3 := (F_210.1 (P + 2) (ni hprP (fun P => P + 2) (fun P => [26]) rfl) 3)
        have e_442 : μ208.1 23 2 = P := ((F_210.1 23 (by decide) 2).trans hP.symm)
        have hn_443 : 0 ≤ μ.1 23 5 ∧ μ.1 23 5 ≤ 1000 := hI.nm.2.2.2.2.2.2.2.2.1
        have e_444 : μ208.1 23 5 = μ.1 23 5 := (F_210.1 23 (by decide) 5)
        have e_445 : μ208.1 23 6 = μ.1 23 6 := (F_210.1 23 (by decide) 6)
        have e_446 : μ208.1 23 7 = μ.1 23 7 := (F_210.1 23 (by decide) 7)
        have e_447 : μ208.1 23 8 = tt := ((F_210.1 23 (by decide) 8).trans htt.symm)
        have e_448 : μ208.1 23 9 = μ.1 23 9 := (F_210.1 23 (by decide) 9)
        have e_449 : μ208.1 23 10 = μ.1 23 10 := (F_210.1 23 (by decide) 10)
        have e_450 : μ208.1 26 6 = μ.1 26 6 := hs_215
        have e_451 : μ208.1 P 7 = μ.1 P 7 := (F_210.1 P (ni hprP (fun P => P) (fun P => [26]) rfl) 7)
        refine xc_vV G (b := 23) (rest := []) (As := [.int (iv 40), .int (iv 41)]) (c_X7_inBrackets ω l μ208 40 41 F Lo kf P tt (by unfold ir; omega) (by unfold ir; omega) hI_211 (by omega) (by omega) hF hLo hE hU hp_212 (by omega) (by omega) (by omega) (by omega) (by omega) (by omega)) (wm 4 92 rfl rfl) (wm 4 94 rfl rfl) (wm 0 39 rfl rfl) rfl rfl (by decide) rfl (wm 1 12 rfl rfl) (wm 4 95 rfl rfl) (by decide) hR ⟨sfr (F := F) (a := 1) (by decide), slo (L := Lo) (m := 3) (a := 22) (by decide)⟩ (n := 2) rfl rfl (Nat.le_of_ble_eq_true rfl) hl.1 dX7_ownPrimary_53 (fun μ452 ρ d0 H locs hp G => ?_)
        obtain ⟨F_453, hI_454, hp_455, hp_456, hp_457, hp_458, hp_459, hp_460, hs_461, hs_462, hs_463, hs_464, hs_465, hs_466, hs_467, hs_468, hs_469⟩ := hp
        have hn_470 : -1 ≤ μ452.1 26 10 ∧ μ452.1 26 10 ≤ 3000 := hI_454.nm.2.2.2.2.2.2.2.2.2.2.2.2
        have hk_471 := hI_454.pr (p := P) hprP
        unfold pk at hk_471
        have hc_472 : 16 ≤ μ452.2.1 (P + 1) ∧ μ452.2.1 (P + 1) ≤ 73024 := hI_454.rm.1 _ hprP.cap
        have hk_473 := hI_454.row (r := P + 2) (hprP.row)
        unfold rk at hk_473
        have htb_474 := hp_455.b
        have hpx_475 : μ452.1 26 11 = 0 → PXE μ μ452 P tt 1 (-1) 1 := fun h0 => (PXE.app (hpx_425 (by have h9 : μ208.1 26 11 = μ.1 26 11 := hs_214; have h8 : μ452.1 26 11 = μ452.1 26 11 := rfl; omega)) (hp_460 h0)).e (by omega)
        refine lv_aload_n hx hb dX7_ownPrimary_56 rfl (lv_at hl 0 rfl) ?_
        refine lv_bipush (v := iv 16) hx hb dX7_ownPrimary_57 rfl ?_
        refine lv_iconst (v := iv 0) hx hb dX7_ownPrimary_59 rfl ?_
        refine lv_iconst (v := iv 0) hx hb dX7_ownPrimary_60 rfl ?_
        have e_476 : μ452.1 23 2 = P := (hs_461.trans ((F_210.1 23 (by decide) 2).trans hP.symm))
        have e_477 : μ452.1 P 7 = μ.1 P 7 := (hs_469.trans (F_210.1 P (ni hprP (fun P => P) (fun P => [26]) rfl) 7))
        refine xc_iV G (b := 23) (rest := []) (As := [.int (iv 16), .int (iv 0), .int (iv 0)]) (c_X7_add ω l μ452 16 0 0 P (by unfold ir; omega) (by unfold ir; omega) (by unfold ir; omega) hI_454 (by omega) (by omega)) (wm 3 226 rfl rfl) (wm 3 228 rfl rfl) (wm 0 21 rfl rfl) rfl rfl (by decide) rfl (wm 1 12 rfl rfl) (wm 3 229 rfl rfl) (by decide) hR ⟨nfr hF (by decide), nlo hLo (by decide)⟩ (n := 3) rfl rfl (Nat.le_of_ble_eq_true rfl) hl.1 dX7_ownPrimary_61 (fun r_479 μ478 ρ d0 H locs hr_r_479 hp G => ?_)
        have hr_r_479 : -2147483648 ≤ r_479 ∧ r_479 ≤ 2147483647 := hr_r_479
        obtain ⟨F_480, hI_481, hp_482, hp_483, hs_484, hs_485⟩ := hp
        have hpx_486 : μ478.1 26 11 = 0 → PXE μ μ478 P tt 1 (-1) 1 := fun h0 => (PXE.app (hpx_475 (by have h9 : μ452.1 26 11 = μ452.1 26 11 := rfl; have h8 : μ478.1 26 11 = μ452.1 26 11 := (F_480.1 26 (ni hprP (fun P => 26) (fun P => [P, P + 1]) rfl) 11); omega)) (EX.pl hp_483 (by omega) (by unfold plain; omega) (e := 0) rfl (by have h9 := hs_1 (μ := μ452) (P := P) (i := μ452.1 P 1); omega))).e (by omega)
        refine lv_pop hx hb dX7_ownPrimary_64 rfl ?_
        refine lv_goto (tgt := 123) hx hb dX7_ownPrimary_65 (by decide) ?_
        have htk_487 : TK μ478 := hp_455.fr (K := [P, P + 1]) (Fr.tr Fr.rf F_480 (si hprP (fun P => [P, P + 1]) (fun P => [P, P + 1]) rfl)) (ni hprP (fun P => 26) (fun P => [P, P + 1]) rfl) (ni hprP (fun P => 28) (fun P => [P, P + 1]) rfl)
        have e_488 : μ478.1 26 11 = μ452.1 26 11 := (F_480.1 26 (ni hprP (fun P => 26) (fun P => [P, P + 1]) rfl) 11)
        have e_489 : μ478.1 26 11 = μ452.1 26 11 := (F_480.1 26 (ni hprP (fun P => 26) (fun P => [P, P + 1]) rfl) 11)
        have e_490 : μ478.1 26 10 = μ452.1 26 10 := (F_480.1 26 (ni hprP (fun P => 26) (fun P => [P, P + 1]) rfl) 10)
        have e_491 : μ478.1 P 1 = μ452.1 P 1 + 1 := hs_484
        have e_492 : μ478.1 P 1 = μ452.1 P 1 + 1 := hs_484
        have e_493 : μ478.1 26 10 = μ452.1 26 10 := (F_480.1 26 (ni hprP (fun P => 26) (fun P => [P, P + 1]) rfl) 10)
        have e_494 : μ478.1 26 11 = μ452.1 26 11 := (F_480.1 26 (ni hprP (fun P => 26) (fun P => [P, P + 1]) rfl) 11)
        have e_495 : μ478.1 (P + 2) 3 = μ452.1 (P + 2) 3 := (F_480.1 (P + 2) (ni hprP (fun P => P + 2) (fun P => [P, P + 1]) rfl) 3)
        have e_496 : μ478.1 P 1 = μ452.1 P 1 + 1 := hs_484
        have e_497 : μ478.1 (P + 2) 3 = μ452.1 (P + 2) 3 := (F_480.1 (P + 2) (ni hprP (fun P => P + 2) (fun P => [P, P + 1]) rfl) 3)
        have e_498 : μ478.1 23 2 = P := ((F_480.1 23 (ni hprP (fun P => 23) (fun P => [P, P + 1]) rfl) 2).trans (hs_461.trans ((F_210.1 23 (by decide) 2).trans hP.symm)))
        have e_499 : μ478.1 23 5 = μ.1 23 5 := ((F_480.1 23 (ni hprP (fun P => 23) (fun P => [P, P + 1]) rfl) 5).trans (hs_462.trans (F_210.1 23 (by decide) 5)))
        have e_500 : μ478.1 23 6 = μ.1 23 6 := ((F_480.1 23 (ni hprP (fun P => 23) (fun P => [P, P + 1]) rfl) 6).trans (hs_463.trans (F_210.1 23 (by decide) 6)))
        have e_501 : μ478.1 23 7 = μ.1 23 7 := ((F_480.1 23 (ni hprP (fun P => 23) (fun P => [P, P + 1]) rfl) 7).trans (hs_464.trans (F_210.1 23 (by decide) 7)))
        have e_502 : μ478.1 23 8 = tt := ((F_480.1 23 (ni hprP (fun P => 23) (fun P => [P, P + 1]) rfl) 8).trans (hs_465.trans ((F_210.1 23 (by decide) 8).trans htt.symm)))
        have e_503 : μ478.1 23 9 = μ.1 23 9 := ((F_480.1 23 (ni hprP (fun P => 23) (fun P => [P, P + 1]) rfl) 9).trans (hs_466.trans (F_210.1 23 (by decide) 9)))
        have e_504 : μ478.1 23 10 = μ.1 23 10 := ((F_480.1 23 (ni hprP (fun P => 23) (fun P => [P, P + 1]) rfl) 10).trans (hs_467.trans (F_210.1 23 (by decide) 10)))
        have e_505 : μ478.1 26 6 = μ.1 26 6 := ((F_480.1 26 (ni hprP (fun P => 26) (fun P => [P, P + 1]) rfl) 6).trans (hs_468.trans hs_215))
        have e_506 : μ478.1 P 7 = μ.1 P 7 := (hs_485.trans (hs_469.trans (F_210.1 P (ni hprP (fun P => P) (fun P => [26]) rfl) 7)))
        exact xr_v G hret hlk dX7_ownPrimary_123 ⟨(Fr.tr (Fr.tr (Fr.tr Fr.rf F_210 (si hprP (fun P => [26]) (fun P => [2, 3, 4, 23, 24, 26, P, P + 1, P + 2, (P + 2) + 1, (P + 2) + 2, (P + 2) + 3]) rfl)) F_453 (si hprP (fun P => [2, 3, 4, 23, 24, 26, P, P + 1, P + 2, (P + 2) + 1, (P + 2) + 2, (P + 2) + 3]) (fun P => [2, 3, 4, 23, 24, 26, P, P + 1, P + 2, (P + 2) + 1, (P + 2) + 2, (P + 2) + 3]) rfl)) F_480 (si hprP (fun P => [P, P + 1]) (fun P => [2, 3, 4, 23, 24, 26, P, P + 1, P + 2, (P + 2) + 1, (P + 2) + 2, (P + 2) + 3]) rfl)), hI_481, htk_487, (by omega), (by omega), (by omega), (by omega), (fun h0 => (PXE.ex (hpx_486 h0)).e (by omega)), (by omega), (by omega), (by omega), (by omega), (by omega), (by omega), (by omega), (by omega), (by omega)⟩
  · refine lv_aload_n hx hb dX7_ownPrimary_8 rfl (lv_at hl 0 rfl) ?_
    refine lv_sipush (v := iv 226) hx hb dX7_ownPrimary_9 rfl ?_
    have hn_507 : -1 ≤ μ.1 26 10 ∧ μ.1 26 10 ≤ 3000 := hI.nm.2.2.2.2.2.2.2.2.2.2.2.2
    have hn_508 : 0 ≤ μ.1 26 6 ∧ μ.1 26 6 ≤ 3001 := hI.nm.2.2.2.2.2.2.2.2.2.1
    have hn_509 : 0 ≤ μ.1 26 7 ∧ μ.1 26 7 ≤ 3000 := hI.nm.2.2.2.2.2.2.2.2.2.2.1
    have hn_510 : 0 ≤ μ.1 26 9 ∧ μ.1 26 9 ≤ 3000 := hI.nm.2.2.2.2.2.2.2.2.2.2.2.1
    refine xc_iV G (b := 23) (rest := []) (As := [.int (iv 226)]) (c_X7_took ω l μ 226 (by unfold ir; omega) hI hTK (by omega)) (wm 3 160 rfl rfl) (wm 3 162 rfl rfl) (wm 0 9 rfl rfl) rfl rfl (by decide) rfl (wm 1 12 rfl rfl) (wm 3 163 rfl rfl) (by decide) hR ⟨nfr hF (by decide), nlo hLo (by decide)⟩ (n := 1) rfl rfl (Nat.le_of_ble_eq_true rfl) hl.1 dX7_ownPrimary_12 (fun r_512 μ511 ρ d0 H locs hr_r_512 hp G => ?_)
    have hr_r_512 : -2147483648 ≤ r_512 ∧ r_512 ≤ 2147483647 := hr_r_512
    obtain ⟨F_513, hI_514, hp_515, hp_516, hs_517, hs_518, hs_519, hs_520, hs_521⟩ := hp
    have hn_522 : -1 ≤ μ511.1 26 10 ∧ μ511.1 26 10 ≤ 3000 := hI_514.nm.2.2.2.2.2.2.2.2.2.2.2.2
    have htb_523 := hp_515.b
    refine xb_if_eq (tgt := 30) hx hb (by unfold ir; omega) dX7_ownPrimary_15 (by decide) (fun c_15 => ?_) (fun c_15 => ?_)
    · refine lv_aload_n hx hb dX7_ownPrimary_30 rfl (lv_at hl 0 rfl) ?_
      refine xa_geti G fd_X7 (a := 23) (x := tt) 8 rfl (by decide) rfl (wm 2 25 rfl rfl) ⟨rfl, rfl, rfl⟩ dX7_ownPrimary_31 rfl ((F_513.1 23 (by decide) 8).trans htt.symm) ?_
      refine lv_iconst (v := iv 2) hx hb dX7_ownPrimary_34 rfl ?_
      refine xb_icmp_ne (tgt := 68) hx hb (by unfold ir; omega) (by unfold ir; omega) dX7_ownPrimary_35 (by decide) (fun c_35 => ?_) (fun c_35 => ?_)
      · refine lv_aload_n hx hb dX7_ownPrimary_68 rfl (lv_at hl 0 rfl) ?_
        refine xa_geti G fd_X7 (a := 23) (x := tt) 8 rfl (by decide) rfl (wm 2 25 rfl rfl) ⟨rfl, rfl, rfl⟩ dX7_ownPrimary_69 rfl ((F_513.1 23 (by decide) 8).trans htt.symm) ?_
        refine lv_iconst (v := iv 2) hx hb dX7_ownPrimary_72 rfl ?_
        refine xb_icmp_ne (tgt := 116) hx hb (by unfold ir; omega) (by unfold ir; omega) dX7_ownPrimary_73 (by decide) (fun c_73 => ?_) (fun c_73 => ?_)
        · refine lv_aload_n hx hb dX7_ownPrimary_116 rfl (lv_at hl 0 rfl) ?_
          refine xa_getr G fd_X7 (a := 23) (x := 26) 0 rfl (by decide) rfl (wm 2 17 rfl rfl) ⟨rfl, rfl, rfl⟩ dX7_ownPrimary_117 rfl (G.sk 23 rfl) (by decide) rfl ?_
          have hpx_524 : μ511.1 26 11 = 0 → PXE μ μ511 P tt 0 (-1) 1 := fun h0 => (hnil (by have h9 : μ.1 26 11 = μ.1 26 11 := rfl; have h8 : μ511.1 26 11 = μ.1 26 11 := hs_517; omega)).fr (K := [26]) (Fr.tr Fr.rf F_513 (by decide)) (npL_p (L := [26]) (by decide) hprP).1 (npL_p (L := [26]) (by decide) hprP).2.1
          have e_525 : μ511.1 26 6 = μ.1 26 6 := hs_518
          have e_526 : μ511.1 26 7 = μ.1 26 7 := hs_519
          have e_527 : μ511.1 26 8 = μ.1 26 8 := hs_520
          have e_528 : μ511.1 26 9 = μ.1 26 9 := hs_521
          refine xc_vV G (b := 26) (rest := []) (As := []) (c_X10_stop ω l μ511  hI_514) (wm 3 173 rfl rfl) (wm 3 174 rfl rfl) (wm 3 175 rfl rfl) rfl rfl (by decide) rfl (wm 1 13 rfl rfl) (wm 3 176 rfl rfl) (by decide) hR ⟨nfr hF (by decide), nlo hLo (by decide)⟩ (n := 0) rfl rfl (Nat.le_of_ble_eq_true rfl) hl.1 dX7_ownPrimary_120 (fun μ529 ρ d0 H locs hp G => ?_)
          obtain ⟨F_530, hI_531, hp_532, hp_533, hs_534, hs_535, hs_536, hs_537, hs_538, hs_539, hs_540⟩ := hp
          have htk_541 : TK μ529 := TK.st hp_515 F_530 hp_532 hp_533 (((hs_534.trans hs_518)).trans (hs_518).symm) hs_538
          have hpx_542 : μ529.1 26 11 = 0 → PXE μ μ529 P tt 0 (-1) 1 := fun h0 => (hpx_524 (by have h9 : μ511.1 26 11 = μ.1 26 11 := hs_517; have h8 : μ529.1 26 11 = μ529.1 26 11 := rfl; omega)).fr (K := [26]) (Fr.tr Fr.rf F_530 (by decide)) (npL_p (L := [26]) (by decide) hprP).1 (npL_p (L := [26]) (by decide) hprP).2.1
          have e_543 : μ529.1 26 10 = μ511.1 26 10 := hs_538
          have e_544 : μ529.1 P 1 = μ.1 P 1 := ((F_530.1 P (ni hprP (fun P => P) (fun P => [26]) rfl) 1).trans (F_513.1 P (ni hprP (fun P => P) (fun P => [26]) rfl) 1))
          have e_545 : μ529.1 P 1 = μ.1 P 1 := ((F_530.1 P (ni hprP (fun P => P) (fun P => [26]) rfl) 1).trans (F_513.1 P (ni hprP (fun P => P) (fun P => [26]) rfl) 1))
          have e_546 : μ529.1 26 10 = μ511.1 26 10 := hs_538
          have e_547 : μ529.1 (P + 2) 3 = μ.1 (P + 2) 3 := ((F_530.1 (P + 2) (ni hprP (fun P => P + 2) (fun P => [26]) rfl) 3).trans (F_513.1 (P + 2) (ni hprP (fun P => P + 2) (fun P => [26]) rfl) 3))
          have e_548 : μ529.1 P 1 = μ.1 P 1 := ((F_530.1 P (ni hprP (fun P => P) (fun P => [26]) rfl) 1).trans (F_513.1 P (ni hprP (fun P => P) (fun P => [26]) rfl) 1))
          have e_549 : μ529.1 (P + 2) 3 = μ.1 (P + 2) 3 := ((F_530.1 (P + 2) (ni hprP (fun P => P + 2) (fun P => [26]) rfl) 3).trans (F_513.1 (P + 2) (ni hprP (fun P => P + 2) (fun P => [26]) rfl) 3))
          have e_550 : μ529.1 23 2 = P := ((F_530.1 23 (by decide) 2).trans ((F_513.1 23 (by decide) 2).trans hP.symm))
          have e_551 : μ529.1 23 5 = μ.1 23 5 := ((F_530.1 23 (by decide) 5).trans (F_513.1 23 (by decide) 5))
          have e_552 : μ529.1 23 6 = μ.1 23 6 := ((F_530.1 23 (by decide) 6).trans (F_513.1 23 (by decide) 6))
          have e_553 : μ529.1 23 7 = μ.1 23 7 := ((F_530.1 23 (by decide) 7).trans (F_513.1 23 (by decide) 7))
          have e_554 : μ529.1 23 8 = tt := ((F_530.1 23 (by decide) 8).trans ((F_513.1 23 (by decide) 8).trans htt.symm))
          have e_555 : μ529.1 23 9 = μ.1 23 9 := ((F_530.1 23 (by decide) 9).trans (F_513.1 23 (by decide) 9))
          have e_556 : μ529.1 23 10 = μ.1 23 10 := ((F_530.1 23 (by decide) 10).trans (F_513.1 23 (by decide) 10))
          have e_557 : μ529.1 26 6 = μ.1 26 6 := (hs_534.trans hs_518)
          have e_558 : μ529.1 P 7 = μ.1 P 7 := ((F_530.1 P (ni hprP (fun P => P) (fun P => [26]) rfl) 7).trans (F_513.1 P (ni hprP (fun P => P) (fun P => [26]) rfl) 7))
          exact xr_v G hret hlk dX7_ownPrimary_123 ⟨(Fr.tr (Fr.tr Fr.rf F_513 (si hprP (fun P => [26]) (fun P => [2, 3, 4, 23, 24, 26, P, P + 1, P + 2, (P + 2) + 1, (P + 2) + 2, (P + 2) + 3]) rfl)) F_530 (si hprP (fun P => [26]) (fun P => [2, 3, 4, 23, 24, 26, P, P + 1, P + 2, (P + 2) + 1, (P + 2) + 2, (P + 2) + 3]) rfl)), hI_531, htk_541, (by omega), (by omega), (by omega), (by omega), (fun h0 => (PXE.ex (hpx_542 h0)).e (by omega)), (by omega), (by omega), (by omega), (by omega), (by omega), (by omega), (by omega), (by omega), (by omega)⟩
        · refine lv_aload_n hx hb dX7_ownPrimary_76 rfl (lv_at hl 0 rfl) ?_
          refine lv_sipush (v := iv 228) hx hb dX7_ownPrimary_77 rfl ?_
          have hpx_559 : μ511.1 26 11 = 0 → PXE μ μ511 P tt 0 (-1) 1 := fun h0 => (hnil (by have h9 : μ.1 26 11 = μ.1 26 11 := rfl; have h8 : μ511.1 26 11 = μ.1 26 11 := hs_517; omega)).fr (K := [26]) (Fr.tr Fr.rf F_513 (by decide)) (npL_p (L := [26]) (by decide) hprP).1 (npL_p (L := [26]) (by decide) hprP).2.1
          have e_560 : μ511.1 26 11 = μ.1 26 11 := hs_517
          have e_561 : μ511.1 26 11 = μ.1 26 11 := hs_517
          have e_562 : μ511.1 26 6 = μ.1 26 6 := hs_518
          have e_563 : μ511.1 26 7 = μ.1 26 7 := hs_519
          have e_564 : μ511.1 26 8 = μ.1 26 8 := hs_520
          have e_565 : μ511.1 26 9 = μ.1 26 9 := hs_521
          refine xc_iV G (b := 23) (rest := []) (As := [.int (iv 228)]) (c_X7_took ω l μ511 228 (by unfold ir; omega) hI_514 hp_515 (by omega)) (wm 3 160 rfl rfl) (wm 3 162 rfl rfl) (wm 0 9 rfl rfl) rfl rfl (by decide) rfl (wm 1 12 rfl rfl) (wm 3 163 rfl rfl) (by decide) hR ⟨nfr hF (by decide), nlo hLo (by decide)⟩ (n := 1) rfl rfl (Nat.le_of_ble_eq_true rfl) hl.1 dX7_ownPrimary_80 (fun r_567 μ566 ρ d0 H locs hr_r_567 hp G => ?_)
          have hr_r_567 : -2147483648 ≤ r_567 ∧ r_567 ≤ 2147483647 := hr_r_567
          obtain ⟨F_568, hI_569, hp_570, hp_571, hs_572, hs_573, hs_574, hs_575, hs_576⟩ := hp
          have hn_577 : -1 ≤ μ566.1 26 10 ∧ μ566.1 26 10 ≤ 3000 := hI_569.nm.2.2.2.2.2.2.2.2.2.2.2.2
          have htb_578 := hp_570.b
          refine xb_if_eq (tgt := 116) hx hb (by unfold ir; omega) dX7_ownPrimary_83 (by decide) (fun c_83 => ?_) (fun c_83 => ?_)
          · refine lv_aload_n hx hb dX7_ownPrimary_116 rfl (lv_at hl 0 rfl) ?_
            refine xa_getr G fd_X7 (a := 23) (x := 26) 0 rfl (by decide) rfl (wm 2 17 rfl rfl) ⟨rfl, rfl, rfl⟩ dX7_ownPrimary_117 rfl (G.sk 23 rfl) (by decide) rfl ?_
            have hpx_579 : μ566.1 26 11 = 0 → PXE μ μ566 P tt 0 (-1) 1 := fun h0 => (hpx_559 (by have h9 : μ511.1 26 11 = μ.1 26 11 := hs_517; have h8 : μ566.1 26 11 = μ.1 26 11 := (hs_572.trans hs_517); omega)).fr (K := [26]) (Fr.tr Fr.rf F_568 (by decide)) (npL_p (L := [26]) (by decide) hprP).1 (npL_p (L := [26]) (by decide) hprP).2.1
            have e_580 : μ566.1 26 6 = μ.1 26 6 := (hs_573.trans hs_518)
            have e_581 : μ566.1 26 7 = μ.1 26 7 := (hs_574.trans hs_519)
            have e_582 : μ566.1 26 8 = μ.1 26 8 := (hs_575.trans hs_520)
            have e_583 : μ566.1 26 9 = μ.1 26 9 := (hs_576.trans hs_521)
            refine xc_vV G (b := 26) (rest := []) (As := []) (c_X10_stop ω l μ566  hI_569) (wm 3 173 rfl rfl) (wm 3 174 rfl rfl) (wm 3 175 rfl rfl) rfl rfl (by decide) rfl (wm 1 13 rfl rfl) (wm 3 176 rfl rfl) (by decide) hR ⟨nfr hF (by decide), nlo hLo (by decide)⟩ (n := 0) rfl rfl (Nat.le_of_ble_eq_true rfl) hl.1 dX7_ownPrimary_120 (fun μ584 ρ d0 H locs hp G => ?_)
            obtain ⟨F_585, hI_586, hp_587, hp_588, hs_589, hs_590, hs_591, hs_592, hs_593, hs_594, hs_595⟩ := hp
            have htk_596 : TK μ584 := TK.st hp_570 F_585 hp_587 hp_588 (((hs_589.trans (hs_573.trans hs_518))).trans ((hs_573.trans hs_518)).symm) hs_593
            have hpx_597 : μ584.1 26 11 = 0 → PXE μ μ584 P tt 0 (-1) 1 := fun h0 => (hpx_579 (by have h9 : μ566.1 26 11 = μ.1 26 11 := (hs_572.trans hs_517); have h8 : μ584.1 26 11 = μ584.1 26 11 := rfl; omega)).fr (K := [26]) (Fr.tr Fr.rf F_585 (by decide)) (npL_p (L := [26]) (by decide) hprP).1 (npL_p (L := [26]) (by decide) hprP).2.1
            have e_598 : μ584.1 26 10 = μ566.1 26 10 := hs_593
            have e_599 : μ584.1 P 1 = μ.1 P 1 := ((F_585.1 P (ni hprP (fun P => P) (fun P => [26]) rfl) 1).trans ((F_568.1 P (ni hprP (fun P => P) (fun P => [26]) rfl) 1).trans (F_513.1 P (ni hprP (fun P => P) (fun P => [26]) rfl) 1)))
            have e_600 : μ584.1 P 1 = μ.1 P 1 := ((F_585.1 P (ni hprP (fun P => P) (fun P => [26]) rfl) 1).trans ((F_568.1 P (ni hprP (fun P => P) (fun P => [26]) rfl) 1).trans (F_513.1 P (ni hprP (fun P => P) (fun P => [26]) rfl) 1)))
            have e_601 : μ584.1 26 10 = μ566.1 26 10 := hs_593
            have e_602 : μ584.1 (P + 2) 3 = μ.1 (P + 2) 3 := ((F_585.1 (P + 2) (ni hprP (fun P => P + 2) (fun P => [26]) rfl) 3).trans ((F_568.1 (P + 2) (ni hprP (fun P => P + 2) (fun P => [26]) rfl) 3).trans (F_513.1 (P + 2) (ni hprP (fun P => P + 2) (fun P => [26]) rfl) 3)))
            have e_603 : μ584.1 P 1 = μ.1 P 1 := ((F_585.1 P (ni hprP (fun P => P) (fun P => [26]) rfl) 1).trans ((F_568.1 P (ni hprP (fun P => P) (fun P => [26]) rfl) 1).trans (F_513.1 P (ni hprP (fun P => P) (fun P => [26]) rfl) 1)))
            have e_604 : μ584.1 (P + 2) 3 = μ.1 (P + 2) 3 := ((F_585.1 (P + 2) (ni hprP (fun P => P + 2) (fun P => [26]) rfl) 3).trans ((F_568.1 (P + 2) (ni hprP (fun P => P + 2) (fun P => [26]) rfl) 3).trans (F_513.1 (P + 2) (ni hprP (fun P => P + 2) (fun P => [26]) rfl) 3)))
            have e_605 : μ584.1 23 2 = P := ((F_585.1 23 (by decide) 2).trans ((F_568.1 23 (by decide) 2).trans ((F_513.1 23 (by decide) 2).trans hP.symm)))
            have e_606 : μ584.1 23 5 = μ.1 23 5 := ((F_585.1 23 (by decide) 5).trans ((F_568.1 23 (by decide) 5).trans (F_513.1 23 (by decide) 5)))
            have e_607 : μ584.1 23 6 = μ.1 23 6 := ((F_585.1 23 (by decide) 6).trans ((F_568.1 23 (by decide) 6).trans (F_513.1 23 (by decide) 6)))
            have e_608 : μ584.1 23 7 = μ.1 23 7 := ((F_585.1 23 (by decide) 7).trans ((F_568.1 23 (by decide) 7).trans (F_513.1 23 (by decide) 7)))
            have e_609 : μ584.1 23 8 = tt := ((F_585.1 23 (by decide) 8).trans ((F_568.1 23 (by decide) 8).trans ((F_513.1 23 (by decide) 8).trans htt.symm)))
            have e_610 : μ584.1 23 9 = μ.1 23 9 := ((F_585.1 23 (by decide) 9).trans ((F_568.1 23 (by decide) 9).trans (F_513.1 23 (by decide) 9)))
            have e_611 : μ584.1 23 10 = μ.1 23 10 := ((F_585.1 23 (by decide) 10).trans ((F_568.1 23 (by decide) 10).trans (F_513.1 23 (by decide) 10)))
            have e_612 : μ584.1 26 6 = μ.1 26 6 := (hs_589.trans (hs_573.trans hs_518))
            have e_613 : μ584.1 P 7 = μ.1 P 7 := ((F_585.1 P (ni hprP (fun P => P) (fun P => [26]) rfl) 7).trans ((F_568.1 P (ni hprP (fun P => P) (fun P => [26]) rfl) 7).trans (F_513.1 P (ni hprP (fun P => P) (fun P => [26]) rfl) 7)))
            exact xr_v G hret hlk dX7_ownPrimary_123 ⟨(Fr.tr (Fr.tr (Fr.tr Fr.rf F_513 (si hprP (fun P => [26]) (fun P => [2, 3, 4, 23, 24, 26, P, P + 1, P + 2, (P + 2) + 1, (P + 2) + 2, (P + 2) + 3]) rfl)) F_568 (si hprP (fun P => [26]) (fun P => [2, 3, 4, 23, 24, 26, P, P + 1, P + 2, (P + 2) + 1, (P + 2) + 2, (P + 2) + 3]) rfl)) F_585 (si hprP (fun P => [26]) (fun P => [2, 3, 4, 23, 24, 26, P, P + 1, P + 2, (P + 2) + 1, (P + 2) + 2, (P + 2) + 3]) rfl)), hI_586, htk_596, (by omega), (by omega), (by omega), (by omega), (fun h0 => (PXE.ex (hpx_597 h0)).e (by omega)), (by omega), (by omega), (by omega), (by omega), (by omega), (by omega), (by omega), (by omega), (by omega)⟩
          · refine lv_aload_n hx hb dX7_ownPrimary_86 rfl (lv_at hl 0 rfl) ?_
            have hpx_614 : μ566.1 26 11 = 0 → PXE μ μ566 P tt 0 (-1) 1 := fun h0 => (hpx_559 (by have h9 : μ511.1 26 11 = μ.1 26 11 := hs_517; have h8 : μ566.1 26 11 = μ.1 26 11 := (hs_572.trans hs_517); omega)).fr (K := [26]) (Fr.tr Fr.rf F_568 (by decide)) (npL_p (L := [26]) (by decide) hprP).1 (npL_p (L := [26]) (by decide) hprP).2.1
            have e_615 : μ566.1 26 11 = μ.1 26 11 := (hs_572.trans hs_517)
            have e_616 : μ566.1 26 6 = μ.1 26 6 := (hs_573.trans hs_518)
            have e_617 : μ566.1 26 7 = μ.1 26 7 := (hs_574.trans hs_519)
            have e_618 : μ566.1 26 8 = μ.1 26 8 := (hs_575.trans hs_520)
            have e_619 : μ566.1 26 9 = μ.1 26 9 := (hs_576.trans hs_521)
            have hn_620 : 0 ≤ μ.1 2 4 ∧ μ.1 2 4 ≤ 51 := hI.nm.2.2.1
            have e_621 : μ566.1 2 4 = μ.1 2 4 := ((F_568.1 2 (by decide) 4).trans (F_513.1 2 (by decide) 4))
            refine xc_iV G (b := 23) (rest := []) (As := []) (c_X7_nameOfFailing ω l μ566  hI_569 hp_570) (wm 4 112 rfl rfl) (wm 4 114 rfl rfl) (wm 0 44 rfl rfl) rfl rfl (by decide) rfl (wm 1 12 rfl rfl) (wm 4 115 rfl rfl) (by decide) hR ⟨nfr hF (by decide), nlo hLo (by decide)⟩ (n := 0) rfl rfl (Nat.le_of_ble_eq_true rfl) hl.1 dX7_ownPrimary_87 (fun r_623 μ622 ρ d0 H locs hr_r_623 hp G => ?_)
            have hr_r_623 : -2147483648 ≤ r_623 ∧ r_623 ≤ 2147483647 := hr_r_623
            obtain ⟨F_624, hI_625, hp_626, hp_627, hp_628, hs_629, hs_630, hs_631, hs_632, hs_633⟩ := hp
            have hn_634 : -1 ≤ μ622.1 26 10 ∧ μ622.1 26 10 ≤ 3000 := hI_625.nm.2.2.2.2.2.2.2.2.2.2.2.2
            have htb_635 := hp_626.b
            refine lv_istore_n (lv' := [(1, .int (iv r_623)), (0, .ref (oP ω 23))]) hx hb dX7_ownPrimary_90 rfl hl (by decide) rfl (fun ls hl => ?_)
            refine lv_aload_n hx hb dX7_ownPrimary_91 rfl (lv_at hl 1 rfl) ?_
            refine lv_bipush (v := iv 40) hx hb dX7_ownPrimary_92 rfl ?_
            refine lv_bipush (v := iv 41) hx hb dX7_ownPrimary_94 rfl ?_
            have hpx_636 : μ622.1 26 11 = 0 → PXE μ μ622 P tt 0 (-1) 1 := fun h0 => (hpx_614 (by have h9 : μ566.1 26 11 = μ.1 26 11 := (hs_572.trans hs_517); have h8 : μ622.1 26 11 = μ622.1 26 11 := rfl; omega)).fr (K := [26, 2, 3, 4, 24]) (Fr.tr Fr.rf F_624 (by decide)) (npL_p (L := [26, 2, 3, 4, 24]) (by decide) hprP).1 (npL_p (L := [26, 2, 3, 4, 24]) (by decide) hprP).2.1
            have e_637 : μ622.1 23 2 = P := ((F_624.1 23 (by decide) 2).trans ((F_568.1 23 (by decide) 2).trans ((F_513.1 23 (by decide) 2).trans hP.symm)))
            have e_638 : μ622.1 23 8 = tt := ((F_624.1 23 (by decide) 8).trans ((F_568.1 23 (by decide) 8).trans ((F_513.1 23 (by decide) 8).trans htt.symm)))
            have e_639 : μ622.1 P 1 = μ.1 P 1 := ((F_624.1 P (ni hprP (fun P => P) (fun P => [26, 2, 3, 4, 24]) rfl) 1).trans ((F_568.1 P (ni hprP (fun P => P) (fun P => [26]) rfl) 1).trans (F_513.1 P (ni hprP (fun P => P) (fun P => [26]) rfl) 1)))
            have hk_640 := hI.row (r := P + 2) (hprP.row)
            unfold rk at hk_640
            have e_641 : μ622.1 (P + 2) 3 = μ.1 (P + 2) 3 := ((F_624.1 (P + 2) (ni hprP (fun P => P + 2) (fun P => [26, 2, 3, 4, 24]) rfl) 3).trans ((F_568.1 (P + 2) (ni hprP (fun P => P + 2) (fun P => [26]) rfl) 3).trans (F_513.1 (P + 2) (ni hprP (fun P => P + 2) (fun P => [26]) rfl) 3)))
            have e_642 : μ622.1 P 1 = μ.1 P 1 := ((F_624.1 P (ni hprP (fun P => P) (fun P => [26, 2, 3, 4, 24]) rfl) 1).trans ((F_568.1 P (ni hprP (fun P => P) (fun P => [26]) rfl) 1).trans (F_513.1 P (ni hprP (fun P => P) (fun P => [26]) rfl) 1)))
            have e_643 : μ622.1 23 9 = μ.1 23 9 := ((F_624.1 23 (by decide) 9).trans ((F_568.1 23 (by decide) 9).trans (F_513.1 23 (by decide) 9)))
            have e_644 : μ622.1 23 9 = μ.1 23 9 := ((F_624.1 23 (by decide) 9).trans ((F_568.1 23 (by decide) 9).trans (F_513.1 23 (by decide) 9)))
            have e_645 : μ622.1 23 9 = μ.1 23 9 := ((F_624.1 23 (by decide) 9).trans ((F_568.1 23 (by decide) 9).trans (F_513.1 23 (by decide) 9)))
            have e_646 : μ622.1 P 1 = μ.1 P 1 := ((F_624.1 P (ni hprP (fun P => P) (fun P => [26, 2, 3, 4, 24]) rfl) 1).trans ((F_568.1 P (ni hprP (fun P => P) (fun P => [26]) rfl) 1).trans (F_513.1 P (ni hprP (fun P => P) (fun P => [26]) rfl) 1)))
            have e_647 : μ622.1 P 1 = μ.1 P 1 := ((F_624.1 P (ni hprP (fun P => P) (fun P => [26, 2, 3, 4, 24]) rfl) 1).trans ((F_568.1 P (ni hprP (fun P => P) (fun P => [26]) rfl) 1).trans (F_513.1 P (ni hprP (fun P => P) (fun P => [26]) rfl) 1)))
            have e_648 : μ622.1 (P + 2) 3 = μ.1 (P + 2) 3 := ((F_624.1 (P + 2) (ni hprP (fun P => P + 2) (fun P => [26, 2, 3, 4, 24]) rfl) 3).trans ((F_568.1 (P + 2) (ni hprP (fun P => P + 2) (fun P => [26]) rfl) 3).trans (F_513.1 (P + 2) (ni hprP (fun P => P + 2) (fun P => [26]) rfl) 3)))
            have e_649 : μ622.1 P 1 = μ.1 P 1 := ((F_624.1 P (ni hprP (fun P => P) (fun P => [26, 2, 3, 4, 24]) rfl) 1).trans ((F_568.1 P (ni hprP (fun P => P) (fun P => [26]) rfl) 1).trans (F_513.1 P (ni hprP (fun P => P) (fun P => [26]) rfl) 1)))
            have e_650 : μ622.1 (P + 2) 3 = μ.1 (P + 2) 3 := ((F_624.1 (P + 2) (ni hprP (fun P => P + 2) (fun P => [26, 2, 3, 4, 24]) rfl) 3).trans ((F_568.1 (P + 2) (ni hprP (fun P => P + 2) (fun P => [26]) rfl) 3).trans (F_513.1 (P + 2) (ni hprP (fun P => P + 2) (fun P => [26]) rfl) 3)))
            have e_651 : μ622.1 23 2 = P := ((F_624.1 23 (by decide) 2).trans ((F_568.1 23 (by decide) 2).trans ((F_513.1 23 (by decide) 2).trans hP.symm)))
            have hn_652 : 0 ≤ μ.1 23 5 ∧ μ.1 23 5 ≤ 1000 := hI.nm.2.2.2.2.2.2.2.2.1
            have e_653 : μ622.1 23 5 = μ.1 23 5 := ((F_624.1 23 (by decide) 5).trans ((F_568.1 23 (by decide) 5).trans (F_513.1 23 (by decide) 5)))
            have e_654 : μ622.1 23 6 = μ.1 23 6 := ((F_624.1 23 (by decide) 6).trans ((F_568.1 23 (by decide) 6).trans (F_513.1 23 (by decide) 6)))
            have e_655 : μ622.1 23 7 = μ.1 23 7 := ((F_624.1 23 (by decide) 7).trans ((F_568.1 23 (by decide) 7).trans (F_513.1 23 (by decide) 7)))
            have e_656 : μ622.1 23 8 = tt := ((F_624.1 23 (by decide) 8).trans ((F_568.1 23 (by decide) 8).trans ((F_513.1 23 (by decide) 8).trans htt.symm)))
            have e_657 : μ622.1 23 9 = μ.1 23 9 := ((F_624.1 23 (by decide) 9).trans ((F_568.1 23 (by decide) 9).trans (F_513.1 23 (by decide) 9)))
            have e_658 : μ622.1 23 10 = μ.1 23 10 := ((F_624.1 23 (by decide) 10).trans ((F_568.1 23 (by decide) 10).trans (F_513.1 23 (by decide) 10)))
            have e_659 : μ622.1 26 6 = μ.1 26 6 := (hs_629.trans (hs_573.trans hs_518))
            have e_660 : μ622.1 P 7 = μ.1 P 7 := ((F_624.1 P (ni hprP (fun P => P) (fun P => [26, 2, 3, 4, 24]) rfl) 7).trans ((F_568.1 P (ni hprP (fun P => P) (fun P => [26]) rfl) 7).trans (F_513.1 P (ni hprP (fun P => P) (fun P => [26]) rfl) 7)))
            refine xc_vV G (b := 23) (rest := []) (As := [.int (iv 40), .int (iv 41)]) (c_X7_inBrackets ω l μ622 40 41 F Lo kf P tt (by unfold ir; omega) (by unfold ir; omega) hI_625 (by omega) (by omega) hF hLo hE hU hp_626 (by omega) (by omega) (by omega) (by omega) (by omega) (by omega)) (wm 4 92 rfl rfl) (wm 4 94 rfl rfl) (wm 0 39 rfl rfl) rfl rfl (by decide) rfl (wm 1 12 rfl rfl) (wm 4 95 rfl rfl) (by decide) hR ⟨sfr (F := F) (a := 1) (by decide), slo (L := Lo) (m := 3) (a := 22) (by decide)⟩ (n := 2) rfl rfl (Nat.le_of_ble_eq_true rfl) hl.1 dX7_ownPrimary_96 (fun μ661 ρ d0 H locs hp G => ?_)
            obtain ⟨F_662, hI_663, hp_664, hp_665, hp_666, hp_667, hp_668, hp_669, hs_670, hs_671, hs_672, hs_673, hs_674, hs_675, hs_676, hs_677, hs_678⟩ := hp
            have hn_679 : -1 ≤ μ661.1 26 10 ∧ μ661.1 26 10 ≤ 3000 := hI_663.nm.2.2.2.2.2.2.2.2.2.2.2.2
            have hk_680 := hI_663.pr (p := P) hprP
            unfold pk at hk_680
            have hc_681 : 16 ≤ μ661.2.1 (P + 1) ∧ μ661.2.1 (P + 1) ≤ 73024 := hI_663.rm.1 _ hprP.cap
            have hk_682 := hI_663.row (r := P + 2) (hprP.row)
            unfold rk at hk_682
            have htb_683 := hp_664.b
            have hpx_684 : μ661.1 26 11 = 0 → PXE μ μ661 P tt 1 (-1) 1 := fun h0 => (PXE.app (hpx_636 (by have h9 : μ622.1 26 11 = μ622.1 26 11 := rfl; have h8 : μ661.1 26 11 = μ661.1 26 11 := rfl; omega)) (hp_669 h0)).e (by omega)
            refine lv_aload_n hx hb dX7_ownPrimary_99 rfl (lv_at hl 1 rfl) ?_
            refine lv_bipush (v := iv 17) hx hb dX7_ownPrimary_100 rfl ?_
            refine lv_iload_n hx hb dX7_ownPrimary_102 rfl (lv_at hl 0 rfl) ?_
            refine lv_iconst (v := iv 0) hx hb dX7_ownPrimary_103 rfl ?_
            refine lv_aload_n hx hb dX7_ownPrimary_104 rfl (lv_at hl 1 rfl) ?_
            refine lv_iconst (v := iv (-1)) hx hb dX7_ownPrimary_105 rfl ?_
            refine lv_iconst (v := iv 0) hx hb dX7_ownPrimary_106 rfl ?_
            have e_685 : μ661.1 23 2 = P := (hs_670.trans ((F_624.1 23 (by decide) 2).trans ((F_568.1 23 (by decide) 2).trans ((F_513.1 23 (by decide) 2).trans hP.symm))))
            have e_686 : μ661.1 23 8 = tt := (hs_674.trans ((F_624.1 23 (by decide) 8).trans ((F_568.1 23 (by decide) 8).trans ((F_513.1 23 (by decide) 8).trans htt.symm))))
            have e_687 : μ661.1 P 7 = μ.1 P 7 := (hs_678.trans ((F_624.1 P (ni hprP (fun P => P) (fun P => [26, 2, 3, 4, 24]) rfl) 7).trans ((F_568.1 P (ni hprP (fun P => P) (fun P => [26]) rfl) 7).trans (F_513.1 P (ni hprP (fun P => P) (fun P => [26]) rfl) 7))))
            refine xc_iV G (b := 23) (rest := [.int (iv 0), .int (iv r_623), .int (iv 17), .ref (oP ω 23)]) (As := [.int (iv (-1)), .int (iv 0)]) (c_X7_ifFails ω l μ661 (-1) 0 μ (1) (1) P tt (by unfold ir; omega) (by unfold ir; omega) hI_663 (by omega) (by omega) (by omega) hpx_684 (by omega) (by omega)) (wm 4 23 rfl rfl) (wm 4 25 rfl rfl) (wm 0 29 rfl rfl) rfl rfl (by decide) rfl (wm 1 12 rfl rfl) (wm 4 26 rfl rfl) (by decide) hR ⟨nfr hF (by decide), nlo hLo (by decide)⟩ (n := 2) rfl rfl (Nat.le_of_ble_eq_true rfl) hl.1 dX7_ownPrimary_107 (fun r_689 μ688 ρ d0 H locs hr_r_689 hp G => ?_)
            have hr_r_689 : -2147483648 ≤ r_689 ∧ r_689 ≤ 2147483647 := hr_r_689
            obtain ⟨F_690, hI_691, hp_692, hp_693, hs_694⟩ := hp
            have hk_695 := hI_691.pr (p := P) hprP
            unfold pk at hk_695
            have hc_696 : 16 ≤ μ688.2.1 (P + 1) ∧ μ688.2.1 (P + 1) ≤ 73024 := hI_691.rm.1 _ hprP.cap
            have hpx_697 : μ688.1 26 11 = 0 → PXE μ μ688 P tt 1 r_689 1 := fun h0 => hp_692 (by have h9 : μ661.1 26 11 = μ661.1 26 11 := rfl; have h8 : μ688.1 26 11 = μ661.1 26 11 := (F_690.1 26 (ni hprP (fun P => 26) (fun P => [P, P + 1]) rfl) 11); omega)
            clear hp_692
            have e_698 : μ688.1 23 2 = P := ((F_690.1 23 (ni hprP (fun P => 23) (fun P => [P, P + 1]) rfl) 2).trans (hs_670.trans ((F_624.1 23 (by decide) 2).trans ((F_568.1 23 (by decide) 2).trans ((F_513.1 23 (by decide) 2).trans hP.symm)))))
            have e_699 : μ688.1 23 8 = tt := ((F_690.1 23 (ni hprP (fun P => 23) (fun P => [P, P + 1]) rfl) 8).trans (hs_674.trans ((F_624.1 23 (by decide) 8).trans ((F_568.1 23 (by decide) 8).trans ((F_513.1 23 (by decide) 8).trans htt.symm)))))
            have e_700 : μ688.1 P 7 = μ.1 P 7 := (hs_694.trans (hs_678.trans ((F_624.1 P (ni hprP (fun P => P) (fun P => [26, 2, 3, 4, 24]) rfl) 7).trans ((F_568.1 P (ni hprP (fun P => P) (fun P => [26]) rfl) 7).trans (F_513.1 P (ni hprP (fun P => P) (fun P => [26]) rfl) 7)))))
            refine xc_vV G (b := 23) (rest := []) (As := [.int (iv 17), .int (iv r_623), .int (iv 0), .int (iv r_689)]) (c_X7_endOfParts ω l μ688 17 r_623 0 r_689 μ (1) (1) P tt (by unfold ir; omega) (by unfold ir; omega) (by unfold ir; omega) (by unfold ir; omega) hI_691 (by omega) (by omega) (by omega) hpx_697 (Or.inl (by unfold plain; omega)) (by omega) (by rw [show eff 17 r_623 = 0 from rfl]; omega)) (wm 4 27 rfl rfl) (wm 4 29 rfl rfl) (wm 0 30 rfl rfl) rfl rfl (by decide) rfl (wm 1 12 rfl rfl) (wm 4 30 rfl rfl) (by decide) hR ⟨nfr hF (by decide), nlo hLo (by decide)⟩ (n := 4) rfl rfl (Nat.le_of_ble_eq_true rfl) hl.1 dX7_ownPrimary_110 (fun μ701 ρ d0 H locs hp G => ?_)
            obtain ⟨F_702, hI_703, hp_704, hs_705, hs_706⟩ := hp
            have hpx_707 : μ701.1 26 11 = 0 → PXE μ μ701 P tt 1 (-1) 1 := fun h0 => PXE.of (hp_704 (by have h9 : μ688.1 26 11 = μ661.1 26 11 := (F_690.1 26 (ni hprP (fun P => 26) (fun P => [P, P + 1]) rfl) 11); have h8 : μ701.1 26 11 = μ661.1 26 11 := ((F_702.1 26 (ni hprP (fun P => 26) (fun P => [P, P + 1]) rfl) 11).trans (F_690.1 26 (ni hprP (fun P => 26) (fun P => [P, P + 1]) rfl) 11)); omega))
            clear hp_704
            refine lv_goto (tgt := 123) hx hb dX7_ownPrimary_113 (by decide) ?_
            have htk_708 : TK μ701 := hp_664.fr (K := [P, P + 1]) (Fr.tr (Fr.tr Fr.rf F_690 (si hprP (fun P => [P, P + 1]) (fun P => [P, P + 1]) rfl)) F_702 (si hprP (fun P => [P, P + 1]) (fun P => [P, P + 1]) rfl)) (ni hprP (fun P => 26) (fun P => [P, P + 1]) rfl) (ni hprP (fun P => 28) (fun P => [P, P + 1]) rfl)
            have e_709 : μ701.1 26 11 = μ661.1 26 11 := ((F_702.1 26 (ni hprP (fun P => 26) (fun P => [P, P + 1]) rfl) 11).trans (F_690.1 26 (ni hprP (fun P => 26) (fun P => [P, P + 1]) rfl) 11))
            have e_710 : μ701.1 26 11 = μ661.1 26 11 := ((F_702.1 26 (ni hprP (fun P => 26) (fun P => [P, P + 1]) rfl) 11).trans (F_690.1 26 (ni hprP (fun P => 26) (fun P => [P, P + 1]) rfl) 11))
            have e_711 : μ701.1 26 10 = μ661.1 26 10 := ((F_702.1 26 (ni hprP (fun P => 26) (fun P => [P, P + 1]) rfl) 10).trans (F_690.1 26 (ni hprP (fun P => 26) (fun P => [P, P + 1]) rfl) 10))
            have e_712 : μ701.1 P 1 = μ688.1 P 1 + 1 := hs_705
            have e_713 : μ701.1 P 1 = μ688.1 P 1 + 1 := hs_705
            have e_714 : μ701.1 26 10 = μ661.1 26 10 := ((F_702.1 26 (ni hprP (fun P => 26) (fun P => [P, P + 1]) rfl) 10).trans (F_690.1 26 (ni hprP (fun P => 26) (fun P => [P, P + 1]) rfl) 10))
            have e_715 : μ701.1 26 11 = μ661.1 26 11 := ((F_702.1 26 (ni hprP (fun P => 26) (fun P => [P, P + 1]) rfl) 11).trans (F_690.1 26 (ni hprP (fun P => 26) (fun P => [P, P + 1]) rfl) 11))
            have e_716 : μ701.1 (P + 2) 3 = μ661.1 (P + 2) 3 := ((F_702.1 (P + 2) (ni hprP (fun P => P + 2) (fun P => [P, P + 1]) rfl) 3).trans (F_690.1 (P + 2) (ni hprP (fun P => P + 2) (fun P => [P, P + 1]) rfl) 3))
            have e_717 : μ701.1 P 1 = μ688.1 P 1 + 1 := hs_705
            have e_718 : μ701.1 (P + 2) 3 = μ661.1 (P + 2) 3 := ((F_702.1 (P + 2) (ni hprP (fun P => P + 2) (fun P => [P, P + 1]) rfl) 3).trans (F_690.1 (P + 2) (ni hprP (fun P => P + 2) (fun P => [P, P + 1]) rfl) 3))
            have e_719 : μ701.1 23 2 = P := ((F_702.1 23 (ni hprP (fun P => 23) (fun P => [P, P + 1]) rfl) 2).trans ((F_690.1 23 (ni hprP (fun P => 23) (fun P => [P, P + 1]) rfl) 2).trans (hs_670.trans ((F_624.1 23 (by decide) 2).trans ((F_568.1 23 (by decide) 2).trans ((F_513.1 23 (by decide) 2).trans hP.symm))))))
            have e_720 : μ701.1 23 5 = μ.1 23 5 := ((F_702.1 23 (ni hprP (fun P => 23) (fun P => [P, P + 1]) rfl) 5).trans ((F_690.1 23 (ni hprP (fun P => 23) (fun P => [P, P + 1]) rfl) 5).trans (hs_671.trans ((F_624.1 23 (by decide) 5).trans ((F_568.1 23 (by decide) 5).trans (F_513.1 23 (by decide) 5))))))
            have e_721 : μ701.1 23 6 = μ.1 23 6 := ((F_702.1 23 (ni hprP (fun P => 23) (fun P => [P, P + 1]) rfl) 6).trans ((F_690.1 23 (ni hprP (fun P => 23) (fun P => [P, P + 1]) rfl) 6).trans (hs_672.trans ((F_624.1 23 (by decide) 6).trans ((F_568.1 23 (by decide) 6).trans (F_513.1 23 (by decide) 6))))))
            have e_722 : μ701.1 23 7 = μ.1 23 7 := ((F_702.1 23 (ni hprP (fun P => 23) (fun P => [P, P + 1]) rfl) 7).trans ((F_690.1 23 (ni hprP (fun P => 23) (fun P => [P, P + 1]) rfl) 7).trans (hs_673.trans ((F_624.1 23 (by decide) 7).trans ((F_568.1 23 (by decide) 7).trans (F_513.1 23 (by decide) 7))))))
            have e_723 : μ701.1 23 8 = tt := ((F_702.1 23 (ni hprP (fun P => 23) (fun P => [P, P + 1]) rfl) 8).trans ((F_690.1 23 (ni hprP (fun P => 23) (fun P => [P, P + 1]) rfl) 8).trans (hs_674.trans ((F_624.1 23 (by decide) 8).trans ((F_568.1 23 (by decide) 8).trans ((F_513.1 23 (by decide) 8).trans htt.symm))))))
            have e_724 : μ701.1 23 9 = μ.1 23 9 := ((F_702.1 23 (ni hprP (fun P => 23) (fun P => [P, P + 1]) rfl) 9).trans ((F_690.1 23 (ni hprP (fun P => 23) (fun P => [P, P + 1]) rfl) 9).trans (hs_675.trans ((F_624.1 23 (by decide) 9).trans ((F_568.1 23 (by decide) 9).trans (F_513.1 23 (by decide) 9))))))
            have e_725 : μ701.1 23 10 = μ.1 23 10 := ((F_702.1 23 (ni hprP (fun P => 23) (fun P => [P, P + 1]) rfl) 10).trans ((F_690.1 23 (ni hprP (fun P => 23) (fun P => [P, P + 1]) rfl) 10).trans (hs_676.trans ((F_624.1 23 (by decide) 10).trans ((F_568.1 23 (by decide) 10).trans (F_513.1 23 (by decide) 10))))))
            have e_726 : μ701.1 26 6 = μ.1 26 6 := ((F_702.1 26 (ni hprP (fun P => 26) (fun P => [P, P + 1]) rfl) 6).trans ((F_690.1 26 (ni hprP (fun P => 26) (fun P => [P, P + 1]) rfl) 6).trans (hs_677.trans (hs_629.trans (hs_573.trans hs_518)))))
            have e_727 : μ701.1 P 7 = μ.1 P 7 := (hs_706.trans (hs_694.trans (hs_678.trans ((F_624.1 P (ni hprP (fun P => P) (fun P => [26, 2, 3, 4, 24]) rfl) 7).trans ((F_568.1 P (ni hprP (fun P => P) (fun P => [26]) rfl) 7).trans (F_513.1 P (ni hprP (fun P => P) (fun P => [26]) rfl) 7))))))
            exact xr_v G hret hlk dX7_ownPrimary_123 ⟨(Fr.tr (Fr.tr (Fr.tr (Fr.tr (Fr.tr (Fr.tr Fr.rf F_513 (si hprP (fun P => [26]) (fun P => [2, 3, 4, 23, 24, 26, P, P + 1, P + 2, (P + 2) + 1, (P + 2) + 2, (P + 2) + 3]) rfl)) F_568 (si hprP (fun P => [26]) (fun P => [2, 3, 4, 23, 24, 26, P, P + 1, P + 2, (P + 2) + 1, (P + 2) + 2, (P + 2) + 3]) rfl)) F_624 (si hprP (fun P => [26, 2, 3, 4, 24]) (fun P => [2, 3, 4, 23, 24, 26, P, P + 1, P + 2, (P + 2) + 1, (P + 2) + 2, (P + 2) + 3]) rfl)) F_662 (si hprP (fun P => [2, 3, 4, 23, 24, 26, P, P + 1, P + 2, (P + 2) + 1, (P + 2) + 2, (P + 2) + 3]) (fun P => [2, 3, 4, 23, 24, 26, P, P + 1, P + 2, (P + 2) + 1, (P + 2) + 2, (P + 2) + 3]) rfl)) F_690 (si hprP (fun P => [P, P + 1]) (fun P => [2, 3, 4, 23, 24, 26, P, P + 1, P + 2, (P + 2) + 1, (P + 2) + 2, (P + 2) + 3]) rfl)) F_702 (si hprP (fun P => [P, P + 1]) (fun P => [2, 3, 4, 23, 24, 26, P, P + 1, P + 2, (P + 2) + 1, (P + 2) + 2, (P + 2) + 3]) rfl)), hI_703, htk_708, (by omega), (by omega), (by omega), (by omega), (fun h0 => (PXE.ex (hpx_707 h0)).e (by omega)), (by omega), (by omega), (by omega), (by omega), (by omega), (by omega), (by omega), (by omega), (by omega)⟩
      · refine lv_aload_n hx hb dX7_ownPrimary_38 rfl (lv_at hl 0 rfl) ?_
        refine lv_sipush (v := iv 227) hx hb dX7_ownPrimary_39 rfl ?_
        have hpx_728 : μ511.1 26 11 = 0 → PXE μ μ511 P tt 0 (-1) 1 := fun h0 => (hnil (by have h9 : μ.1 26 11 = μ.1 26 11 := rfl; have h8 : μ511.1 26 11 = μ.1 26 11 := hs_517; omega)).fr (K := [26]) (Fr.tr Fr.rf F_513 (by decide)) (npL_p (L := [26]) (by decide) hprP).1 (npL_p (L := [26]) (by decide) hprP).2.1
        have e_729 : μ511.1 26 11 = μ.1 26 11 := hs_517
        have e_730 : μ511.1 26 11 = μ.1 26 11 := hs_517
        have e_731 : μ511.1 26 6 = μ.1 26 6 := hs_518
        have e_732 : μ511.1 26 7 = μ.1 26 7 := hs_519
        have e_733 : μ511.1 26 8 = μ.1 26 8 := hs_520
        have e_734 : μ511.1 26 9 = μ.1 26 9 := hs_521
        refine xc_iV G (b := 23) (rest := []) (As := [.int (iv 227)]) (c_X7_took ω l μ511 227 (by unfold ir; omega) hI_514 hp_515 (by omega)) (wm 3 160 rfl rfl) (wm 3 162 rfl rfl) (wm 0 9 rfl rfl) rfl rfl (by decide) rfl (wm 1 12 rfl rfl) (wm 3 163 rfl rfl) (by decide) hR ⟨nfr hF (by decide), nlo hLo (by decide)⟩ (n := 1) rfl rfl (Nat.le_of_ble_eq_true rfl) hl.1 dX7_ownPrimary_42 (fun r_736 μ735 ρ d0 H locs hr_r_736 hp G => ?_)
        have hr_r_736 : -2147483648 ≤ r_736 ∧ r_736 ≤ 2147483647 := hr_r_736
        obtain ⟨F_737, hI_738, hp_739, hp_740, hs_741, hs_742, hs_743, hs_744, hs_745⟩ := hp
        have hn_746 : -1 ≤ μ735.1 26 10 ∧ μ735.1 26 10 ≤ 3000 := hI_738.nm.2.2.2.2.2.2.2.2.2.2.2.2
        have htb_747 := hp_739.b
        refine xb_if_eq (tgt := 68) hx hb (by unfold ir; omega) dX7_ownPrimary_45 (by decide) (fun c_45 => ?_) (fun c_45 => ?_)
        · refine lv_aload_n hx hb dX7_ownPrimary_68 rfl (lv_at hl 0 rfl) ?_
          refine xa_geti G fd_X7 (a := 23) (x := tt) 8 rfl (by decide) rfl (wm 2 25 rfl rfl) ⟨rfl, rfl, rfl⟩ dX7_ownPrimary_69 rfl ((F_737.1 23 (by decide) 8).trans ((F_513.1 23 (by decide) 8).trans htt.symm)) ?_
          refine lv_iconst (v := iv 2) hx hb dX7_ownPrimary_72 rfl ?_
          refine xb_icmp_ne (tgt := 116) hx hb (by unfold ir; omega) (by unfold ir; omega) dX7_ownPrimary_73 (by decide) (fun c_73 => ?_) (fun c_73 => ?_)
          · refine lv_aload_n hx hb dX7_ownPrimary_116 rfl (lv_at hl 0 rfl) ?_
            refine xa_getr G fd_X7 (a := 23) (x := 26) 0 rfl (by decide) rfl (wm 2 17 rfl rfl) ⟨rfl, rfl, rfl⟩ dX7_ownPrimary_117 rfl (G.sk 23 rfl) (by decide) rfl ?_
            have hpx_748 : μ735.1 26 11 = 0 → PXE μ μ735 P tt 0 (-1) 1 := fun h0 => (hpx_728 (by have h9 : μ511.1 26 11 = μ.1 26 11 := hs_517; have h8 : μ735.1 26 11 = μ.1 26 11 := (hs_741.trans hs_517); omega)).fr (K := [26]) (Fr.tr Fr.rf F_737 (by decide)) (npL_p (L := [26]) (by decide) hprP).1 (npL_p (L := [26]) (by decide) hprP).2.1
            have e_749 : μ735.1 26 6 = μ.1 26 6 := (hs_742.trans hs_518)
            have e_750 : μ735.1 26 7 = μ.1 26 7 := (hs_743.trans hs_519)
            have e_751 : μ735.1 26 8 = μ.1 26 8 := (hs_744.trans hs_520)
            have e_752 : μ735.1 26 9 = μ.1 26 9 := (hs_745.trans hs_521)
            refine xc_vV G (b := 26) (rest := []) (As := []) (c_X10_stop ω l μ735  hI_738) (wm 3 173 rfl rfl) (wm 3 174 rfl rfl) (wm 3 175 rfl rfl) rfl rfl (by decide) rfl (wm 1 13 rfl rfl) (wm 3 176 rfl rfl) (by decide) hR ⟨nfr hF (by decide), nlo hLo (by decide)⟩ (n := 0) rfl rfl (Nat.le_of_ble_eq_true rfl) hl.1 dX7_ownPrimary_120 (fun μ753 ρ d0 H locs hp G => ?_)
            obtain ⟨F_754, hI_755, hp_756, hp_757, hs_758, hs_759, hs_760, hs_761, hs_762, hs_763, hs_764⟩ := hp
            have htk_765 : TK μ753 := TK.st hp_739 F_754 hp_756 hp_757 (((hs_758.trans (hs_742.trans hs_518))).trans ((hs_742.trans hs_518)).symm) hs_762
            have hpx_766 : μ753.1 26 11 = 0 → PXE μ μ753 P tt 0 (-1) 1 := fun h0 => (hpx_748 (by have h9 : μ735.1 26 11 = μ.1 26 11 := (hs_741.trans hs_517); have h8 : μ753.1 26 11 = μ753.1 26 11 := rfl; omega)).fr (K := [26]) (Fr.tr Fr.rf F_754 (by decide)) (npL_p (L := [26]) (by decide) hprP).1 (npL_p (L := [26]) (by decide) hprP).2.1
            have e_767 : μ753.1 26 10 = μ735.1 26 10 := hs_762
            have e_768 : μ753.1 P 1 = μ.1 P 1 := ((F_754.1 P (ni hprP (fun P => P) (fun P => [26]) rfl) 1).trans ((F_737.1 P (ni hprP (fun P => P) (fun P => [26]) rfl) 1).trans (F_513.1 P (ni hprP (fun P => P) (fun P => [26]) rfl) 1)))
            have e_769 : μ753.1 P 1 = μ.1 P 1 := ((F_754.1 P (ni hprP (fun P => P) (fun P => [26]) rfl) 1).trans ((F_737.1 P (ni hprP (fun P => P) (fun P => [26]) rfl) 1).trans (F_513.1 P (ni hprP (fun P => P) (fun P => [26]) rfl) 1)))
            have e_770 : μ753.1 26 10 = μ735.1 26 10 := hs_762
            have e_771 : μ753.1 (P + 2) 3 = μ.1 (P + 2) 3 := ((F_754.1 (P + 2) (ni hprP (fun P => P + 2) (fun P => [26]) rfl) 3).trans ((F_737.1 (P + 2) (ni hprP (fun P => P + 2) (fun P => [26]) rfl) 3).trans (F_513.1 (P + 2) (ni hprP (fun P => P + 2) (fun P => [26]) rfl) 3)))
            have e_772 : μ753.1 P 1 = μ.1 P 1 := ((F_754.1 P (ni hprP (fun P => P) (fun P => [26]) rfl) 1).trans ((F_737.1 P (ni hprP (fun P => P) (fun P => [26]) rfl) 1).trans (F_513.1 P (ni hprP (fun P => P) (fun P => [26]) rfl) 1)))
            have e_773 : μ753.1 (P + 2) 3 = μ.1 (P + 2) 3 := ((F_754.1 (P + 2) (ni hprP (fun P => P + 2) (fun P => [26]) rfl) 3).trans ((F_737.1 (P + 2) (ni hprP (fun P => P + 2) (fun P => [26]) rfl) 3).trans (F_513.1 (P + 2) (ni hprP (fun P => P + 2) (fun P => [26]) rfl) 3)))
            have e_774 : μ753.1 23 2 = P := ((F_754.1 23 (by decide) 2).trans ((F_737.1 23 (by decide) 2).trans ((F_513.1 23 (by decide) 2).trans hP.symm)))
            have e_775 : μ753.1 23 5 = μ.1 23 5 := ((F_754.1 23 (by decide) 5).trans ((F_737.1 23 (by decide) 5).trans (F_513.1 23 (by decide) 5)))
            have e_776 : μ753.1 23 6 = μ.1 23 6 := ((F_754.1 23 (by decide) 6).trans ((F_737.1 23 (by decide) 6).trans (F_513.1 23 (by decide) 6)))
            have e_777 : μ753.1 23 7 = μ.1 23 7 := ((F_754.1 23 (by decide) 7).trans ((F_737.1 23 (by decide) 7).trans (F_513.1 23 (by decide) 7)))
            have e_778 : μ753.1 23 8 = tt := ((F_754.1 23 (by decide) 8).trans ((F_737.1 23 (by decide) 8).trans ((F_513.1 23 (by decide) 8).trans htt.symm)))
            have e_779 : μ753.1 23 9 = μ.1 23 9 := ((F_754.1 23 (by decide) 9).trans ((F_737.1 23 (by decide) 9).trans (F_513.1 23 (by decide) 9)))
            have e_780 : μ753.1 23 10 = μ.1 23 10 := ((F_754.1 23 (by decide) 10).trans ((F_737.1 23 (by decide) 10).trans (F_513.1 23 (by decide) 10)))
            have e_781 : μ753.1 26 6 = μ.1 26 6 := (hs_758.trans (hs_742.trans hs_518))
            have e_782 : μ753.1 P 7 = μ.1 P 7 := ((F_754.1 P (ni hprP (fun P => P) (fun P => [26]) rfl) 7).trans ((F_737.1 P (ni hprP (fun P => P) (fun P => [26]) rfl) 7).trans (F_513.1 P (ni hprP (fun P => P) (fun P => [26]) rfl) 7)))
            exact xr_v G hret hlk dX7_ownPrimary_123 ⟨(Fr.tr (Fr.tr (Fr.tr Fr.rf F_513 (si hprP (fun P => [26]) (fun P => [2, 3, 4, 23, 24, 26, P, P + 1, P + 2, (P + 2) + 1, (P + 2) + 2, (P + 2) + 3]) rfl)) F_737 (si hprP (fun P => [26]) (fun P => [2, 3, 4, 23, 24, 26, P, P + 1, P + 2, (P + 2) + 1, (P + 2) + 2, (P + 2) + 3]) rfl)) F_754 (si hprP (fun P => [26]) (fun P => [2, 3, 4, 23, 24, 26, P, P + 1, P + 2, (P + 2) + 1, (P + 2) + 2, (P + 2) + 3]) rfl)), hI_755, htk_765, (by omega), (by omega), (by omega), (by omega), (fun h0 => (PXE.ex (hpx_766 h0)).e (by omega)), (by omega), (by omega), (by omega), (by omega), (by omega), (by omega), (by omega), (by omega), (by omega)⟩
          · refine lv_aload_n hx hb dX7_ownPrimary_76 rfl (lv_at hl 0 rfl) ?_
            refine lv_sipush (v := iv 228) hx hb dX7_ownPrimary_77 rfl ?_
            have hpx_783 : μ735.1 26 11 = 0 → PXE μ μ735 P tt 0 (-1) 1 := fun h0 => (hpx_728 (by have h9 : μ511.1 26 11 = μ.1 26 11 := hs_517; have h8 : μ735.1 26 11 = μ.1 26 11 := (hs_741.trans hs_517); omega)).fr (K := [26]) (Fr.tr Fr.rf F_737 (by decide)) (npL_p (L := [26]) (by decide) hprP).1 (npL_p (L := [26]) (by decide) hprP).2.1
            have e_784 : μ735.1 26 11 = μ.1 26 11 := (hs_741.trans hs_517)
            have e_785 : μ735.1 26 11 = μ.1 26 11 := (hs_741.trans hs_517)
            have e_786 : μ735.1 26 6 = μ.1 26 6 := (hs_742.trans hs_518)
            have e_787 : μ735.1 26 7 = μ.1 26 7 := (hs_743.trans hs_519)
            have e_788 : μ735.1 26 8 = μ.1 26 8 := (hs_744.trans hs_520)
            have e_789 : μ735.1 26 9 = μ.1 26 9 := (hs_745.trans hs_521)
            refine xc_iV G (b := 23) (rest := []) (As := [.int (iv 228)]) (c_X7_took ω l μ735 228 (by unfold ir; omega) hI_738 hp_739 (by omega)) (wm 3 160 rfl rfl) (wm 3 162 rfl rfl) (wm 0 9 rfl rfl) rfl rfl (by decide) rfl (wm 1 12 rfl rfl) (wm 3 163 rfl rfl) (by decide) hR ⟨nfr hF (by decide), nlo hLo (by decide)⟩ (n := 1) rfl rfl (Nat.le_of_ble_eq_true rfl) hl.1 dX7_ownPrimary_80 (fun r_791 μ790 ρ d0 H locs hr_r_791 hp G => ?_)
            have hr_r_791 : -2147483648 ≤ r_791 ∧ r_791 ≤ 2147483647 := hr_r_791
            obtain ⟨F_792, hI_793, hp_794, hp_795, hs_796, hs_797, hs_798, hs_799, hs_800⟩ := hp
            have hn_801 : -1 ≤ μ790.1 26 10 ∧ μ790.1 26 10 ≤ 3000 := hI_793.nm.2.2.2.2.2.2.2.2.2.2.2.2
            have htb_802 := hp_794.b
            refine xb_if_eq (tgt := 116) hx hb (by unfold ir; omega) dX7_ownPrimary_83 (by decide) (fun c_83 => ?_) (fun c_83 => ?_)
            · refine lv_aload_n hx hb dX7_ownPrimary_116 rfl (lv_at hl 0 rfl) ?_
              refine xa_getr G fd_X7 (a := 23) (x := 26) 0 rfl (by decide) rfl (wm 2 17 rfl rfl) ⟨rfl, rfl, rfl⟩ dX7_ownPrimary_117 rfl (G.sk 23 rfl) (by decide) rfl ?_
              have hpx_803 : μ790.1 26 11 = 0 → PXE μ μ790 P tt 0 (-1) 1 := fun h0 => (hpx_783 (by have h9 : μ735.1 26 11 = μ.1 26 11 := (hs_741.trans hs_517); have h8 : μ790.1 26 11 = μ.1 26 11 := (hs_796.trans (hs_741.trans hs_517)); omega)).fr (K := [26]) (Fr.tr Fr.rf F_792 (by decide)) (npL_p (L := [26]) (by decide) hprP).1 (npL_p (L := [26]) (by decide) hprP).2.1
              have e_804 : μ790.1 26 6 = μ.1 26 6 := (hs_797.trans (hs_742.trans hs_518))
              have e_805 : μ790.1 26 7 = μ.1 26 7 := (hs_798.trans (hs_743.trans hs_519))
              have e_806 : μ790.1 26 8 = μ.1 26 8 := (hs_799.trans (hs_744.trans hs_520))
              have e_807 : μ790.1 26 9 = μ.1 26 9 := (hs_800.trans (hs_745.trans hs_521))
              refine xc_vV G (b := 26) (rest := []) (As := []) (c_X10_stop ω l μ790  hI_793) (wm 3 173 rfl rfl) (wm 3 174 rfl rfl) (wm 3 175 rfl rfl) rfl rfl (by decide) rfl (wm 1 13 rfl rfl) (wm 3 176 rfl rfl) (by decide) hR ⟨nfr hF (by decide), nlo hLo (by decide)⟩ (n := 0) rfl rfl (Nat.le_of_ble_eq_true rfl) hl.1 dX7_ownPrimary_120 (fun μ808 ρ d0 H locs hp G => ?_)
              obtain ⟨F_809, hI_810, hp_811, hp_812, hs_813, hs_814, hs_815, hs_816, hs_817, hs_818, hs_819⟩ := hp
              have htk_820 : TK μ808 := TK.st hp_794 F_809 hp_811 hp_812 (((hs_813.trans (hs_797.trans (hs_742.trans hs_518)))).trans ((hs_797.trans (hs_742.trans hs_518))).symm) hs_817
              have hpx_821 : μ808.1 26 11 = 0 → PXE μ μ808 P tt 0 (-1) 1 := fun h0 => (hpx_803 (by have h9 : μ790.1 26 11 = μ.1 26 11 := (hs_796.trans (hs_741.trans hs_517)); have h8 : μ808.1 26 11 = μ808.1 26 11 := rfl; omega)).fr (K := [26]) (Fr.tr Fr.rf F_809 (by decide)) (npL_p (L := [26]) (by decide) hprP).1 (npL_p (L := [26]) (by decide) hprP).2.1
              have e_822 : μ808.1 26 10 = μ790.1 26 10 := hs_817
              have e_823 : μ808.1 P 1 = μ.1 P 1 := ((F_809.1 P (ni hprP (fun P => P) (fun P => [26]) rfl) 1).trans ((F_792.1 P (ni hprP (fun P => P) (fun P => [26]) rfl) 1).trans ((F_737.1 P (ni hprP (fun P => P) (fun P => [26]) rfl) 1).trans (F_513.1 P (ni hprP (fun P => P) (fun P => [26]) rfl) 1))))
              have e_824 : μ808.1 P 1 = μ.1 P 1 := ((F_809.1 P (ni hprP (fun P => P) (fun P => [26]) rfl) 1).trans ((F_792.1 P (ni hprP (fun P => P) (fun P => [26]) rfl) 1).trans ((F_737.1 P (ni hprP (fun P => P) (fun P => [26]) rfl) 1).trans (F_513.1 P (ni hprP (fun P => P) (fun P => [26]) rfl) 1))))
              have e_825 : μ808.1 26 10 = μ790.1 26 10 := hs_817
              have e_826 : μ808.1 (P + 2) 3 = μ.1 (P + 2) 3 := ((F_809.1 (P + 2) (ni hprP (fun P => P + 2) (fun P => [26]) rfl) 3).trans ((F_792.1 (P + 2) (ni hprP (fun P => P + 2) (fun P => [26]) rfl) 3).trans ((F_737.1 (P + 2) (ni hprP (fun P => P + 2) (fun P => [26]) rfl) 3).trans (F_513.1 (P + 2) (ni hprP (fun P => P + 2) (fun P => [26]) rfl) 3))))
              have e_827 : μ808.1 P 1 = μ.1 P 1 := ((F_809.1 P (ni hprP (fun P => P) (fun P => [26]) rfl) 1).trans ((F_792.1 P (ni hprP (fun P => P) (fun P => [26]) rfl) 1).trans ((F_737.1 P (ni hprP (fun P => P) (fun P => [26]) rfl) 1).trans (F_513.1 P (ni hprP (fun P => P) (fun P => [26]) rfl) 1))))
              have e_828 : μ808.1 (P + 2) 3 = μ.1 (P + 2) 3 := ((F_809.1 (P + 2) (ni hprP (fun P => P + 2) (fun P => [26]) rfl) 3).trans ((F_792.1 (P + 2) (ni hprP (fun P => P + 2) (fun P => [26]) rfl) 3).trans ((F_737.1 (P + 2) (ni hprP (fun P => P + 2) (fun P => [26]) rfl) 3).trans (F_513.1 (P + 2) (ni hprP (fun P => P + 2) (fun P => [26]) rfl) 3))))
              have e_829 : μ808.1 23 2 = P := ((F_809.1 23 (by decide) 2).trans ((F_792.1 23 (by decide) 2).trans ((F_737.1 23 (by decide) 2).trans ((F_513.1 23 (by decide) 2).trans hP.symm))))
              have e_830 : μ808.1 23 5 = μ.1 23 5 := ((F_809.1 23 (by decide) 5).trans ((F_792.1 23 (by decide) 5).trans ((F_737.1 23 (by decide) 5).trans (F_513.1 23 (by decide) 5))))
              have e_831 : μ808.1 23 6 = μ.1 23 6 := ((F_809.1 23 (by decide) 6).trans ((F_792.1 23 (by decide) 6).trans ((F_737.1 23 (by decide) 6).trans (F_513.1 23 (by decide) 6))))
              have e_832 : μ808.1 23 7 = μ.1 23 7 := ((F_809.1 23 (by decide) 7).trans ((F_792.1 23 (by decide) 7).trans ((F_737.1 23 (by decide) 7).trans (F_513.1 23 (by decide) 7))))
              have e_833 : μ808.1 23 8 = tt := ((F_809.1 23 (by decide) 8).trans ((F_792.1 23 (by decide) 8).trans ((F_737.1 23 (by decide) 8).trans ((F_513.1 23 (by decide) 8).trans htt.symm))))
              have e_834 : μ808.1 23 9 = μ.1 23 9 := ((F_809.1 23 (by decide) 9).trans ((F_792.1 23 (by decide) 9).trans ((F_737.1 23 (by decide) 9).trans (F_513.1 23 (by decide) 9))))
              have e_835 : μ808.1 23 10 = μ.1 23 10 := ((F_809.1 23 (by decide) 10).trans ((F_792.1 23 (by decide) 10).trans ((F_737.1 23 (by decide) 10).trans (F_513.1 23 (by decide) 10))))
              have e_836 : μ808.1 26 6 = μ.1 26 6 := (hs_813.trans (hs_797.trans (hs_742.trans hs_518)))
              have e_837 : μ808.1 P 7 = μ.1 P 7 := ((F_809.1 P (ni hprP (fun P => P) (fun P => [26]) rfl) 7).trans ((F_792.1 P (ni hprP (fun P => P) (fun P => [26]) rfl) 7).trans ((F_737.1 P (ni hprP (fun P => P) (fun P => [26]) rfl) 7).trans (F_513.1 P (ni hprP (fun P => P) (fun P => [26]) rfl) 7))))
              exact xr_v G hret hlk dX7_ownPrimary_123 ⟨(Fr.tr (Fr.tr (Fr.tr (Fr.tr Fr.rf F_513 (si hprP (fun P => [26]) (fun P => [2, 3, 4, 23, 24, 26, P, P + 1, P + 2, (P + 2) + 1, (P + 2) + 2, (P + 2) + 3]) rfl)) F_737 (si hprP (fun P => [26]) (fun P => [2, 3, 4, 23, 24, 26, P, P + 1, P + 2, (P + 2) + 1, (P + 2) + 2, (P + 2) + 3]) rfl)) F_792 (si hprP (fun P => [26]) (fun P => [2, 3, 4, 23, 24, 26, P, P + 1, P + 2, (P + 2) + 1, (P + 2) + 2, (P + 2) + 3]) rfl)) F_809 (si hprP (fun P => [26]) (fun P => [2, 3, 4, 23, 24, 26, P, P + 1, P + 2, (P + 2) + 1, (P + 2) + 2, (P + 2) + 3]) rfl)), hI_810, htk_820, (by omega), (by omega), (by omega), (by omega), (fun h0 => (PXE.ex (hpx_821 h0)).e (by omega)), (by omega), (by omega), (by omega), (by omega), (by omega), (by omega), (by omega), (by omega), (by omega)⟩
            · refine lv_aload_n hx hb dX7_ownPrimary_86 rfl (lv_at hl 0 rfl) ?_
              have hpx_838 : μ790.1 26 11 = 0 → PXE μ μ790 P tt 0 (-1) 1 := fun h0 => (hpx_783 (by have h9 : μ735.1 26 11 = μ.1 26 11 := (hs_741.trans hs_517); have h8 : μ790.1 26 11 = μ.1 26 11 := (hs_796.trans (hs_741.trans hs_517)); omega)).fr (K := [26]) (Fr.tr Fr.rf F_792 (by decide)) (npL_p (L := [26]) (by decide) hprP).1 (npL_p (L := [26]) (by decide) hprP).2.1
              have e_839 : μ790.1 26 11 = μ.1 26 11 := (hs_796.trans (hs_741.trans hs_517))
              have e_840 : μ790.1 26 6 = μ.1 26 6 := (hs_797.trans (hs_742.trans hs_518))
              have e_841 : μ790.1 26 7 = μ.1 26 7 := (hs_798.trans (hs_743.trans hs_519))
              have e_842 : μ790.1 26 8 = μ.1 26 8 := (hs_799.trans (hs_744.trans hs_520))
              have e_843 : μ790.1 26 9 = μ.1 26 9 := (hs_800.trans (hs_745.trans hs_521))
              have hn_844 : 0 ≤ μ.1 2 4 ∧ μ.1 2 4 ≤ 51 := hI.nm.2.2.1
              have e_845 : μ790.1 2 4 = μ.1 2 4 := ((F_792.1 2 (by decide) 4).trans ((F_737.1 2 (by decide) 4).trans (F_513.1 2 (by decide) 4)))
              refine xc_iV G (b := 23) (rest := []) (As := []) (c_X7_nameOfFailing ω l μ790  hI_793 hp_794) (wm 4 112 rfl rfl) (wm 4 114 rfl rfl) (wm 0 44 rfl rfl) rfl rfl (by decide) rfl (wm 1 12 rfl rfl) (wm 4 115 rfl rfl) (by decide) hR ⟨nfr hF (by decide), nlo hLo (by decide)⟩ (n := 0) rfl rfl (Nat.le_of_ble_eq_true rfl) hl.1 dX7_ownPrimary_87 (fun r_847 μ846 ρ d0 H locs hr_r_847 hp G => ?_)
              have hr_r_847 : -2147483648 ≤ r_847 ∧ r_847 ≤ 2147483647 := hr_r_847
              obtain ⟨F_848, hI_849, hp_850, hp_851, hp_852, hs_853, hs_854, hs_855, hs_856, hs_857⟩ := hp
              have hn_858 : -1 ≤ μ846.1 26 10 ∧ μ846.1 26 10 ≤ 3000 := hI_849.nm.2.2.2.2.2.2.2.2.2.2.2.2
              have htb_859 := hp_850.b
              refine lv_istore_n (lv' := [(1, .int (iv r_847)), (0, .ref (oP ω 23))]) hx hb dX7_ownPrimary_90 rfl hl (by decide) rfl (fun ls hl => ?_)
              refine lv_aload_n hx hb dX7_ownPrimary_91 rfl (lv_at hl 1 rfl) ?_
              refine lv_bipush (v := iv 40) hx hb dX7_ownPrimary_92 rfl ?_
              refine lv_bipush (v := iv 41) hx hb dX7_ownPrimary_94 rfl ?_
              have hpx_860 : μ846.1 26 11 = 0 → PXE μ μ846 P tt 0 (-1) 1 := fun h0 => (hpx_838 (by have h9 : μ790.1 26 11 = μ.1 26 11 := (hs_796.trans (hs_741.trans hs_517)); have h8 : μ846.1 26 11 = μ846.1 26 11 := rfl; omega)).fr (K := [26, 2, 3, 4, 24]) (Fr.tr Fr.rf F_848 (by decide)) (npL_p (L := [26, 2, 3, 4, 24]) (by decide) hprP).1 (npL_p (L := [26, 2, 3, 4, 24]) (by decide) hprP).2.1
              have e_861 : μ846.1 23 2 = P := ((F_848.1 23 (by decide) 2).trans ((F_792.1 23 (by decide) 2).trans ((F_737.1 23 (by decide) 2).trans ((F_513.1 23 (by decide) 2).trans hP.symm))))
              have e_862 : μ846.1 23 8 = tt := ((F_848.1 23 (by decide) 8).trans ((F_792.1 23 (by decide) 8).trans ((F_737.1 23 (by decide) 8).trans ((F_513.1 23 (by decide) 8).trans htt.symm))))
              have e_863 : μ846.1 P 1 = μ.1 P 1 := ((F_848.1 P (ni hprP (fun P => P) (fun P => [26, 2, 3, 4, 24]) rfl) 1).trans ((F_792.1 P (ni hprP (fun P => P) (fun P => [26]) rfl) 1).trans ((F_737.1 P (ni hprP (fun P => P) (fun P => [26]) rfl) 1).trans (F_513.1 P (ni hprP (fun P => P) (fun P => [26]) rfl) 1))))
              have hk_864 := hI.row (r := P + 2) (hprP.row)
              unfold rk at hk_864
              have e_865 : μ846.1 (P + 2) 3 = μ.1 (P + 2) 3 := ((F_848.1 (P + 2) (ni hprP (fun P => P + 2) (fun P => [26, 2, 3, 4, 24]) rfl) 3).trans ((F_792.1 (P + 2) (ni hprP (fun P => P + 2) (fun P => [26]) rfl) 3).trans ((F_737.1 (P + 2) (ni hprP (fun P => P + 2) (fun P => [26]) rfl) 3).trans (F_513.1 (P + 2) (ni hprP (fun P => P + 2) (fun P => [26]) rfl) 3))))
              have e_866 : μ846.1 P 1 = μ.1 P 1 := ((F_848.1 P (ni hprP (fun P => P) (fun P => [26, 2, 3, 4, 24]) rfl) 1).trans ((F_792.1 P (ni hprP (fun P => P) (fun P => [26]) rfl) 1).trans ((F_737.1 P (ni hprP (fun P => P) (fun P => [26]) rfl) 1).trans (F_513.1 P (ni hprP (fun P => P) (fun P => [26]) rfl) 1))))
              have e_867 : μ846.1 23 9 = μ.1 23 9 := ((F_848.1 23 (by decide) 9).trans ((F_792.1 23 (by decide) 9).trans ((F_737.1 23 (by decide) 9).trans (F_513.1 23 (by decide) 9))))
              have e_868 : μ846.1 23 9 = μ.1 23 9 := ((F_848.1 23 (by decide) 9).trans ((F_792.1 23 (by decide) 9).trans ((F_737.1 23 (by decide) 9).trans (F_513.1 23 (by decide) 9))))
              have e_869 : μ846.1 23 9 = μ.1 23 9 := ((F_848.1 23 (by decide) 9).trans ((F_792.1 23 (by decide) 9).trans ((F_737.1 23 (by decide) 9).trans (F_513.1 23 (by decide) 9))))
              have e_870 : μ846.1 P 1 = μ.1 P 1 := ((F_848.1 P (ni hprP (fun P => P) (fun P => [26, 2, 3, 4, 24]) rfl) 1).trans ((F_792.1 P (ni hprP (fun P => P) (fun P => [26]) rfl) 1).trans ((F_737.1 P (ni hprP (fun P => P) (fun P => [26]) rfl) 1).trans (F_513.1 P (ni hprP (fun P => P) (fun P => [26]) rfl) 1))))
              have e_871 : μ846.1 P 1 = μ.1 P 1 := ((F_848.1 P (ni hprP (fun P => P) (fun P => [26, 2, 3, 4, 24]) rfl) 1).trans ((F_792.1 P (ni hprP (fun P => P) (fun P => [26]) rfl) 1).trans ((F_737.1 P (ni hprP (fun P => P) (fun P => [26]) rfl) 1).trans (F_513.1 P (ni hprP (fun P => P) (fun P => [26]) rfl) 1))))
              have e_872 : μ846.1 (P + 2) 3 = μ.1 (P + 2) 3 := ((F_848.1 (P + 2) (ni hprP (fun P => P + 2) (fun P => [26, 2, 3, 4, 24]) rfl) 3).trans ((F_792.1 (P + 2) (ni hprP (fun P => P + 2) (fun P => [26]) rfl) 3).trans ((F_737.1 (P + 2) (ni hprP (fun P => P + 2) (fun P => [26]) rfl) 3).trans (F_513.1 (P + 2) (ni hprP (fun P => P + 2) (fun P => [26]) rfl) 3))))
              have e_873 : μ846.1 P 1 = μ.1 P 1 := ((F_848.1 P (ni hprP (fun P => P) (fun P => [26, 2, 3, 4, 24]) rfl) 1).trans ((F_792.1 P (ni hprP (fun P => P) (fun P => [26]) rfl) 1).trans ((F_737.1 P (ni hprP (fun P => P) (fun P => [26]) rfl) 1).trans (F_513.1 P (ni hprP (fun P => P) (fun P => [26]) rfl) 1))))
              have e_874 : μ846.1 (P + 2) 3 = μ.1 (P + 2) 3 := ((F_848.1 (P + 2) (ni hprP (fun P => P + 2) (fun P => [26, 2, 3, 4, 24]) rfl) 3).trans ((F_792.1 (P + 2) (ni hprP (fun P => P + 2) (fun P => [26]) rfl) 3).trans ((F_737.1 (P + 2) (ni hprP (fun P => P + 2) (fun P => [26]) rfl) 3).trans (F_513.1 (P + 2) (ni hprP (fun P => P + 2) (fun P => [26]) rfl) 3))))
              have e_875 : μ846.1 23 2 = P := ((F_848.1 23 (by decide) 2).trans ((F_792.1 23 (by decide) 2).trans ((F_737.1 23 (by decide) 2).trans ((F_513.1 23 (by decide) 2).trans hP.symm))))
              have hn_876 : 0 ≤ μ.1 23 5 ∧ μ.1 23 5 ≤ 1000 := hI.nm.2.2.2.2.2.2.2.2.1
              have e_877 : μ846.1 23 5 = μ.1 23 5 := ((F_848.1 23 (by decide) 5).trans ((F_792.1 23 (by decide) 5).trans ((F_737.1 23 (by decide) 5).trans (F_513.1 23 (by decide) 5))))
              have e_878 : μ846.1 23 6 = μ.1 23 6 := ((F_848.1 23 (by decide) 6).trans ((F_792.1 23 (by decide) 6).trans ((F_737.1 23 (by decide) 6).trans (F_513.1 23 (by decide) 6))))
              have e_879 : μ846.1 23 7 = μ.1 23 7 := ((F_848.1 23 (by decide) 7).trans ((F_792.1 23 (by decide) 7).trans ((F_737.1 23 (by decide) 7).trans (F_513.1 23 (by decide) 7))))
              have e_880 : μ846.1 23 8 = tt := ((F_848.1 23 (by decide) 8).trans ((F_792.1 23 (by decide) 8).trans ((F_737.1 23 (by decide) 8).trans ((F_513.1 23 (by decide) 8).trans htt.symm))))
              have e_881 : μ846.1 23 9 = μ.1 23 9 := ((F_848.1 23 (by decide) 9).trans ((F_792.1 23 (by decide) 9).trans ((F_737.1 23 (by decide) 9).trans (F_513.1 23 (by decide) 9))))
              have e_882 : μ846.1 23 10 = μ.1 23 10 := ((F_848.1 23 (by decide) 10).trans ((F_792.1 23 (by decide) 10).trans ((F_737.1 23 (by decide) 10).trans (F_513.1 23 (by decide) 10))))
              have e_883 : μ846.1 26 6 = μ.1 26 6 := (hs_853.trans (hs_797.trans (hs_742.trans hs_518)))
              have e_884 : μ846.1 P 7 = μ.1 P 7 := ((F_848.1 P (ni hprP (fun P => P) (fun P => [26, 2, 3, 4, 24]) rfl) 7).trans ((F_792.1 P (ni hprP (fun P => P) (fun P => [26]) rfl) 7).trans ((F_737.1 P (ni hprP (fun P => P) (fun P => [26]) rfl) 7).trans (F_513.1 P (ni hprP (fun P => P) (fun P => [26]) rfl) 7))))
              refine xc_vV G (b := 23) (rest := []) (As := [.int (iv 40), .int (iv 41)]) (c_X7_inBrackets ω l μ846 40 41 F Lo kf P tt (by unfold ir; omega) (by unfold ir; omega) hI_849 (by omega) (by omega) hF hLo hE hU hp_850 (by omega) (by omega) (by omega) (by omega) (by omega) (by omega)) (wm 4 92 rfl rfl) (wm 4 94 rfl rfl) (wm 0 39 rfl rfl) rfl rfl (by decide) rfl (wm 1 12 rfl rfl) (wm 4 95 rfl rfl) (by decide) hR ⟨sfr (F := F) (a := 1) (by decide), slo (L := Lo) (m := 3) (a := 22) (by decide)⟩ (n := 2) rfl rfl (Nat.le_of_ble_eq_true rfl) hl.1 dX7_ownPrimary_96 (fun μ885 ρ d0 H locs hp G => ?_)
              obtain ⟨F_886, hI_887, hp_888, hp_889, hp_890, hp_891, hp_892, hp_893, hs_894, hs_895, hs_896, hs_897, hs_898, hs_899, hs_900, hs_901, hs_902⟩ := hp
              have hn_903 : -1 ≤ μ885.1 26 10 ∧ μ885.1 26 10 ≤ 3000 := hI_887.nm.2.2.2.2.2.2.2.2.2.2.2.2
              have hk_904 := hI_887.pr (p := P) hprP
              unfold pk at hk_904
              have hc_905 : 16 ≤ μ885.2.1 (P + 1) ∧ μ885.2.1 (P + 1) ≤ 73024 := hI_887.rm.1 _ hprP.cap
              have hk_906 := hI_887.row (r := P + 2) (hprP.row)
              unfold rk at hk_906
              have htb_907 := hp_888.b
              have hpx_908 : μ885.1 26 11 = 0 → PXE μ μ885 P tt 1 (-1) 1 := fun h0 => (PXE.app (hpx_860 (by have h9 : μ846.1 26 11 = μ846.1 26 11 := rfl; have h8 : μ885.1 26 11 = μ885.1 26 11 := rfl; omega)) (hp_893 h0)).e (by omega)
              refine lv_aload_n hx hb dX7_ownPrimary_99 rfl (lv_at hl 1 rfl) ?_
              refine lv_bipush (v := iv 17) hx hb dX7_ownPrimary_100 rfl ?_
              refine lv_iload_n hx hb dX7_ownPrimary_102 rfl (lv_at hl 0 rfl) ?_
              refine lv_iconst (v := iv 0) hx hb dX7_ownPrimary_103 rfl ?_
              refine lv_aload_n hx hb dX7_ownPrimary_104 rfl (lv_at hl 1 rfl) ?_
              refine lv_iconst (v := iv (-1)) hx hb dX7_ownPrimary_105 rfl ?_
              refine lv_iconst (v := iv 0) hx hb dX7_ownPrimary_106 rfl ?_
              have e_909 : μ885.1 23 2 = P := (hs_894.trans ((F_848.1 23 (by decide) 2).trans ((F_792.1 23 (by decide) 2).trans ((F_737.1 23 (by decide) 2).trans ((F_513.1 23 (by decide) 2).trans hP.symm)))))
              have e_910 : μ885.1 23 8 = tt := (hs_898.trans ((F_848.1 23 (by decide) 8).trans ((F_792.1 23 (by decide) 8).trans ((F_737.1 23 (by decide) 8).trans ((F_513.1 23 (by decide) 8).trans htt.symm)))))
              have e_911 : μ885.1 P 7 = μ.1 P 7 := (hs_902.trans ((F_848.1 P (ni hprP (fun P => P) (fun P => [26, 2, 3, 4, 24]) rfl) 7).trans ((F_792.1 P (ni hprP (fun P => P) (fun P => [26]) rfl) 7).trans ((F_737.1 P (ni hprP (fun P => P) (fun P => [26]) rfl) 7).trans (F_513.1 P (ni hprP (fun P => P) (fun P => [26]) rfl) 7)))))
              refine xc_iV G (b := 23) (rest := [.int (iv 0), .int (iv r_847), .int (iv 17), .ref (oP ω 23)]) (As := [.int (iv (-1)), .int (iv 0)]) (c_X7_ifFails ω l μ885 (-1) 0 μ (1) (1) P tt (by unfold ir; omega) (by unfold ir; omega) hI_887 (by omega) (by omega) (by omega) hpx_908 (by omega) (by omega)) (wm 4 23 rfl rfl) (wm 4 25 rfl rfl) (wm 0 29 rfl rfl) rfl rfl (by decide) rfl (wm 1 12 rfl rfl) (wm 4 26 rfl rfl) (by decide) hR ⟨nfr hF (by decide), nlo hLo (by decide)⟩ (n := 2) rfl rfl (Nat.le_of_ble_eq_true rfl) hl.1 dX7_ownPrimary_107 (fun r_913 μ912 ρ d0 H locs hr_r_913 hp G => ?_)
              have hr_r_913 : -2147483648 ≤ r_913 ∧ r_913 ≤ 2147483647 := hr_r_913
              obtain ⟨F_914, hI_915, hp_916, hp_917, hs_918⟩ := hp
              have hk_919 := hI_915.pr (p := P) hprP
              unfold pk at hk_919
              have hc_920 : 16 ≤ μ912.2.1 (P + 1) ∧ μ912.2.1 (P + 1) ≤ 73024 := hI_915.rm.1 _ hprP.cap
              have hpx_921 : μ912.1 26 11 = 0 → PXE μ μ912 P tt 1 r_913 1 := fun h0 => hp_916 (by have h9 : μ885.1 26 11 = μ885.1 26 11 := rfl; have h8 : μ912.1 26 11 = μ885.1 26 11 := (F_914.1 26 (ni hprP (fun P => 26) (fun P => [P, P + 1]) rfl) 11); omega)
              clear hp_916
              have e_922 : μ912.1 23 2 = P := ((F_914.1 23 (ni hprP (fun P => 23) (fun P => [P, P + 1]) rfl) 2).trans (hs_894.trans ((F_848.1 23 (by decide) 2).trans ((F_792.1 23 (by decide) 2).trans ((F_737.1 23 (by decide) 2).trans ((F_513.1 23 (by decide) 2).trans hP.symm))))))
              have e_923 : μ912.1 23 8 = tt := ((F_914.1 23 (ni hprP (fun P => 23) (fun P => [P, P + 1]) rfl) 8).trans (hs_898.trans ((F_848.1 23 (by decide) 8).trans ((F_792.1 23 (by decide) 8).trans ((F_737.1 23 (by decide) 8).trans ((F_513.1 23 (by decide) 8).trans htt.symm))))))
              have e_924 : μ912.1 P 7 = μ.1 P 7 := (hs_918.trans (hs_902.trans ((F_848.1 P (ni hprP (fun P => P) (fun P => [26, 2, 3, 4, 24]) rfl) 7).trans ((F_792.1 P (ni hprP (fun P => P) (fun P => [26]) rfl) 7).trans ((F_737.1 P (ni hprP (fun P => P) (fun P => [26]) rfl) 7).trans (F_513.1 P (ni hprP (fun P => P) (fun P => [26]) rfl) 7))))))
              refine xc_vV G (b := 23) (rest := []) (As := [.int (iv 17), .int (iv r_847), .int (iv 0), .int (iv r_913)]) (c_X7_endOfParts ω l μ912 17 r_847 0 r_913 μ (1) (1) P tt (by unfold ir; omega) (by unfold ir; omega) (by unfold ir; omega) (by unfold ir; omega) hI_915 (by omega) (by omega) (by omega) hpx_921 (Or.inl (by unfold plain; omega)) (by omega) (by rw [show eff 17 r_847 = 0 from rfl]; omega)) (wm 4 27 rfl rfl) (wm 4 29 rfl rfl) (wm 0 30 rfl rfl) rfl rfl (by decide) rfl (wm 1 12 rfl rfl) (wm 4 30 rfl rfl) (by decide) hR ⟨nfr hF (by decide), nlo hLo (by decide)⟩ (n := 4) rfl rfl (Nat.le_of_ble_eq_true rfl) hl.1 dX7_ownPrimary_110 (fun μ925 ρ d0 H locs hp G => ?_)
              obtain ⟨F_926, hI_927, hp_928, hs_929, hs_930⟩ := hp
              have hpx_931 : μ925.1 26 11 = 0 → PXE μ μ925 P tt 1 (-1) 1 := fun h0 => PXE.of (hp_928 (by have h9 : μ912.1 26 11 = μ885.1 26 11 := (F_914.1 26 (ni hprP (fun P => 26) (fun P => [P, P + 1]) rfl) 11); have h8 : μ925.1 26 11 = μ885.1 26 11 := ((F_926.1 26 (ni hprP (fun P => 26) (fun P => [P, P + 1]) rfl) 11).trans (F_914.1 26 (ni hprP (fun P => 26) (fun P => [P, P + 1]) rfl) 11)); omega))
              clear hp_928
              refine lv_goto (tgt := 123) hx hb dX7_ownPrimary_113 (by decide) ?_
              have htk_932 : TK μ925 := hp_888.fr (K := [P, P + 1]) (Fr.tr (Fr.tr Fr.rf F_914 (si hprP (fun P => [P, P + 1]) (fun P => [P, P + 1]) rfl)) F_926 (si hprP (fun P => [P, P + 1]) (fun P => [P, P + 1]) rfl)) (ni hprP (fun P => 26) (fun P => [P, P + 1]) rfl) (ni hprP (fun P => 28) (fun P => [P, P + 1]) rfl)
              have e_933 : μ925.1 26 11 = μ885.1 26 11 := ((F_926.1 26 (ni hprP (fun P => 26) (fun P => [P, P + 1]) rfl) 11).trans (F_914.1 26 (ni hprP (fun P => 26) (fun P => [P, P + 1]) rfl) 11))
              have e_934 : μ925.1 26 11 = μ885.1 26 11 := ((F_926.1 26 (ni hprP (fun P => 26) (fun P => [P, P + 1]) rfl) 11).trans (F_914.1 26 (ni hprP (fun P => 26) (fun P => [P, P + 1]) rfl) 11))
              have e_935 : μ925.1 26 10 = μ885.1 26 10 := ((F_926.1 26 (ni hprP (fun P => 26) (fun P => [P, P + 1]) rfl) 10).trans (F_914.1 26 (ni hprP (fun P => 26) (fun P => [P, P + 1]) rfl) 10))
              have e_936 : μ925.1 P 1 = μ912.1 P 1 + 1 := hs_929
              have e_937 : μ925.1 P 1 = μ912.1 P 1 + 1 := hs_929
              have e_938 : μ925.1 26 10 = μ885.1 26 10 := ((F_926.1 26 (ni hprP (fun P => 26) (fun P => [P, P + 1]) rfl) 10).trans (F_914.1 26 (ni hprP (fun P => 26) (fun P => [P, P + 1]) rfl) 10))
              have e_939 : μ925.1 26 11 = μ885.1 26 11 := ((F_926.1 26 (ni hprP (fun P => 26) (fun P => [P, P + 1]) rfl) 11).trans (F_914.1 26 (ni hprP (fun P => 26) (fun P => [P, P + 1]) rfl) 11))
              have e_940 : μ925.1 (P + 2) 3 = μ885.1 (P + 2) 3 := ((F_926.1 (P + 2) (ni hprP (fun P => P + 2) (fun P => [P, P + 1]) rfl) 3).trans (F_914.1 (P + 2) (ni hprP (fun P => P + 2) (fun P => [P, P + 1]) rfl) 3))
              have e_941 : μ925.1 P 1 = μ912.1 P 1 + 1 := hs_929
              have e_942 : μ925.1 (P + 2) 3 = μ885.1 (P + 2) 3 := ((F_926.1 (P + 2) (ni hprP (fun P => P + 2) (fun P => [P, P + 1]) rfl) 3).trans (F_914.1 (P + 2) (ni hprP (fun P => P + 2) (fun P => [P, P + 1]) rfl) 3))
              have e_943 : μ925.1 23 2 = P := ((F_926.1 23 (ni hprP (fun P => 23) (fun P => [P, P + 1]) rfl) 2).trans ((F_914.1 23 (ni hprP (fun P => 23) (fun P => [P, P + 1]) rfl) 2).trans (hs_894.trans ((F_848.1 23 (by decide) 2).trans ((F_792.1 23 (by decide) 2).trans ((F_737.1 23 (by decide) 2).trans ((F_513.1 23 (by decide) 2).trans hP.symm)))))))
              have e_944 : μ925.1 23 5 = μ.1 23 5 := ((F_926.1 23 (ni hprP (fun P => 23) (fun P => [P, P + 1]) rfl) 5).trans ((F_914.1 23 (ni hprP (fun P => 23) (fun P => [P, P + 1]) rfl) 5).trans (hs_895.trans ((F_848.1 23 (by decide) 5).trans ((F_792.1 23 (by decide) 5).trans ((F_737.1 23 (by decide) 5).trans (F_513.1 23 (by decide) 5)))))))
              have e_945 : μ925.1 23 6 = μ.1 23 6 := ((F_926.1 23 (ni hprP (fun P => 23) (fun P => [P, P + 1]) rfl) 6).trans ((F_914.1 23 (ni hprP (fun P => 23) (fun P => [P, P + 1]) rfl) 6).trans (hs_896.trans ((F_848.1 23 (by decide) 6).trans ((F_792.1 23 (by decide) 6).trans ((F_737.1 23 (by decide) 6).trans (F_513.1 23 (by decide) 6)))))))
              have e_946 : μ925.1 23 7 = μ.1 23 7 := ((F_926.1 23 (ni hprP (fun P => 23) (fun P => [P, P + 1]) rfl) 7).trans ((F_914.1 23 (ni hprP (fun P => 23) (fun P => [P, P + 1]) rfl) 7).trans (hs_897.trans ((F_848.1 23 (by decide) 7).trans ((F_792.1 23 (by decide) 7).trans ((F_737.1 23 (by decide) 7).trans (F_513.1 23 (by decide) 7)))))))
              have e_947 : μ925.1 23 8 = tt := ((F_926.1 23 (ni hprP (fun P => 23) (fun P => [P, P + 1]) rfl) 8).trans ((F_914.1 23 (ni hprP (fun P => 23) (fun P => [P, P + 1]) rfl) 8).trans (hs_898.trans ((F_848.1 23 (by decide) 8).trans ((F_792.1 23 (by decide) 8).trans ((F_737.1 23 (by decide) 8).trans ((F_513.1 23 (by decide) 8).trans htt.symm)))))))
              have e_948 : μ925.1 23 9 = μ.1 23 9 := ((F_926.1 23 (ni hprP (fun P => 23) (fun P => [P, P + 1]) rfl) 9).trans ((F_914.1 23 (ni hprP (fun P => 23) (fun P => [P, P + 1]) rfl) 9).trans (hs_899.trans ((F_848.1 23 (by decide) 9).trans ((F_792.1 23 (by decide) 9).trans ((F_737.1 23 (by decide) 9).trans (F_513.1 23 (by decide) 9)))))))
              have e_949 : μ925.1 23 10 = μ.1 23 10 := ((F_926.1 23 (ni hprP (fun P => 23) (fun P => [P, P + 1]) rfl) 10).trans ((F_914.1 23 (ni hprP (fun P => 23) (fun P => [P, P + 1]) rfl) 10).trans (hs_900.trans ((F_848.1 23 (by decide) 10).trans ((F_792.1 23 (by decide) 10).trans ((F_737.1 23 (by decide) 10).trans (F_513.1 23 (by decide) 10)))))))
              have e_950 : μ925.1 26 6 = μ.1 26 6 := ((F_926.1 26 (ni hprP (fun P => 26) (fun P => [P, P + 1]) rfl) 6).trans ((F_914.1 26 (ni hprP (fun P => 26) (fun P => [P, P + 1]) rfl) 6).trans (hs_901.trans (hs_853.trans (hs_797.trans (hs_742.trans hs_518))))))
              have e_951 : μ925.1 P 7 = μ.1 P 7 := (hs_930.trans (hs_918.trans (hs_902.trans ((F_848.1 P (ni hprP (fun P => P) (fun P => [26, 2, 3, 4, 24]) rfl) 7).trans ((F_792.1 P (ni hprP (fun P => P) (fun P => [26]) rfl) 7).trans ((F_737.1 P (ni hprP (fun P => P) (fun P => [26]) rfl) 7).trans (F_513.1 P (ni hprP (fun P => P) (fun P => [26]) rfl) 7)))))))
              exact xr_v G hret hlk dX7_ownPrimary_123 ⟨(Fr.tr (Fr.tr (Fr.tr (Fr.tr (Fr.tr (Fr.tr (Fr.tr Fr.rf F_513 (si hprP (fun P => [26]) (fun P => [2, 3, 4, 23, 24, 26, P, P + 1, P + 2, (P + 2) + 1, (P + 2) + 2, (P + 2) + 3]) rfl)) F_737 (si hprP (fun P => [26]) (fun P => [2, 3, 4, 23, 24, 26, P, P + 1, P + 2, (P + 2) + 1, (P + 2) + 2, (P + 2) + 3]) rfl)) F_792 (si hprP (fun P => [26]) (fun P => [2, 3, 4, 23, 24, 26, P, P + 1, P + 2, (P + 2) + 1, (P + 2) + 2, (P + 2) + 3]) rfl)) F_848 (si hprP (fun P => [26, 2, 3, 4, 24]) (fun P => [2, 3, 4, 23, 24, 26, P, P + 1, P + 2, (P + 2) + 1, (P + 2) + 2, (P + 2) + 3]) rfl)) F_886 (si hprP (fun P => [2, 3, 4, 23, 24, 26, P, P + 1, P + 2, (P + 2) + 1, (P + 2) + 2, (P + 2) + 3]) (fun P => [2, 3, 4, 23, 24, 26, P, P + 1, P + 2, (P + 2) + 1, (P + 2) + 2, (P + 2) + 3]) rfl)) F_914 (si hprP (fun P => [P, P + 1]) (fun P => [2, 3, 4, 23, 24, 26, P, P + 1, P + 2, (P + 2) + 1, (P + 2) + 2, (P + 2) + 3]) rfl)) F_926 (si hprP (fun P => [P, P + 1]) (fun P => [2, 3, 4, 23, 24, 26, P, P + 1, P + 2, (P + 2) + 1, (P + 2) + 2, (P + 2) + 3]) rfl)), hI_927, htk_932, (by omega), (by omega), (by omega), (by omega), (fun h0 => (PXE.ex (hpx_931 h0)).e (by omega)), (by omega), (by omega), (by omega), (by omega), (by omega), (by omega), (by omega), (by omega), (by omega)⟩
        · refine lv_aload_n hx hb dX7_ownPrimary_48 rfl (lv_at hl 0 rfl) ?_
          refine lv_bipush (v := iv 40) hx hb dX7_ownPrimary_49 rfl ?_
          refine lv_bipush (v := iv 41) hx hb dX7_ownPrimary_51 rfl ?_
          have hpx_952 : μ735.1 26 11 = 0 → PXE μ μ735 P tt 0 (-1) 1 := fun h0 => (hpx_728 (by have h9 : μ511.1 26 11 = μ.1 26 11 := hs_517; have h8 : μ735.1 26 11 = μ.1 26 11 := (hs_741.trans hs_517); omega)).fr (K := [26]) (Fr.tr Fr.rf F_737 (by decide)) (npL_p (L := [26]) (by decide) hprP).1 (npL_p (L := [26]) (by decide) hprP).2.1
          have e_953 : μ735.1 23 2 = P := ((F_737.1 23 (by decide) 2).trans ((F_513.1 23 (by decide) 2).trans hP.symm))
          have e_954 : μ735.1 23 8 = tt := ((F_737.1 23 (by decide) 8).trans ((F_513.1 23 (by decide) 8).trans htt.symm))
          have e_955 : μ735.1 P 1 = μ.1 P 1 := ((F_737.1 P (ni hprP (fun P => P) (fun P => [26]) rfl) 1).trans (F_513.1 P (ni hprP (fun P => P) (fun P => [26]) rfl) 1))
          have e_956 : μ735.1 26 11 = μ.1 26 11 := (hs_741.trans hs_517)
          have hk_957 := hI.row (r := P + 2) (hprP.row)
          unfold rk at hk_957
          have e_958 : μ735.1 (P + 2) 3 = μ.1 (P + 2) 3 := ((F_737.1 (P + 2) (ni hprP (fun P => P + 2) (fun P => [26]) rfl) 3).trans (F_513.1 (P + 2) (ni hprP (fun P => P + 2) (fun P => [26]) rfl) 3))
          have e_959 : μ735.1 P 1 = μ.1 P 1 := ((F_737.1 P (ni hprP (fun P => P) (fun P => [26]) rfl) 1).trans (F_513.1 P (ni hprP (fun P => P) (fun P => [26]) rfl) 1))
          have e_960 : μ735.1 23 9 = μ.1 23 9 := ((F_737.1 23 (by decide) 9).trans (F_513.1 23 (by decide) 9))
          have e_961 : μ735.1 23 9 = μ.1 23 9 := ((F_737.1 23 (by decide) 9).trans (F_513.1 23 (by decide) 9))
          have e_962 : μ735.1 23 9 = μ.1 23 9 := ((F_737.1 23 (by decide) 9).trans (F_513.1 23 (by decide) 9))
          have e_963 : μ735.1 26 11 = μ.1 26 11 := (hs_741.trans hs_517)
          have e_964 : μ735.1 P 1 = μ.1 P 1 := ((F_737.1 P (ni hprP (fun P => P) (fun P => [26]) rfl) 1).trans (F_513.1 P (ni hprP (fun P => P) (fun P => [26]) rfl) 1))
          have e_965 : μ735.1 P 1 = μ.1 P 1 := ((F_737.1 P (ni hprP (fun P => P) (fun P => [26]) rfl) 1).trans (F_513.1 P (ni hprP (fun P => P) (fun P => [26]) rfl) 1))
          have e_966 : μ735.1 (P + 2) 3 = μ.1 (P + 2) 3 := ((F_737.1 (P + 2) (ni hprP (fun P => P + 2) (fun P => [26]) rfl) 3).trans (F_513.1 (P + 2) (ni hprP (fun P => P + 2) (fun P => [26]) rfl) 3))
          have e_967 : μ735.1 P 1 = μ.1 P 1 := ((F_737.1 P (ni hprP (fun P => P) (fun P => [26]) rfl) 1).trans (F_513.1 P (ni hprP (fun P => P) (fun P => [26]) rfl) 1))
          have e_968 : μ735.1 (P + 2) 3 = μ.1 (P + 2) 3 := ((F_737.1 (P + 2) (ni hprP (fun P => P + 2) (fun P => [26]) rfl) 3).trans (F_513.1 (P + 2) (ni hprP (fun P => P + 2) (fun P => [26]) rfl) 3))
          have e_969 : μ735.1 23 2 = P := ((F_737.1 23 (by decide) 2).trans ((F_513.1 23 (by decide) 2).trans hP.symm))
          have hn_970 : 0 ≤ μ.1 23 5 ∧ μ.1 23 5 ≤ 1000 := hI.nm.2.2.2.2.2.2.2.2.1
          have e_971 : μ735.1 23 5 = μ.1 23 5 := ((F_737.1 23 (by decide) 5).trans (F_513.1 23 (by decide) 5))
          have e_972 : μ735.1 23 6 = μ.1 23 6 := ((F_737.1 23 (by decide) 6).trans (F_513.1 23 (by decide) 6))
          have e_973 : μ735.1 23 7 = μ.1 23 7 := ((F_737.1 23 (by decide) 7).trans (F_513.1 23 (by decide) 7))
          have e_974 : μ735.1 23 8 = tt := ((F_737.1 23 (by decide) 8).trans ((F_513.1 23 (by decide) 8).trans htt.symm))
          have e_975 : μ735.1 23 9 = μ.1 23 9 := ((F_737.1 23 (by decide) 9).trans (F_513.1 23 (by decide) 9))
          have e_976 : μ735.1 23 10 = μ.1 23 10 := ((F_737.1 23 (by decide) 10).trans (F_513.1 23 (by decide) 10))
          have e_977 : μ735.1 26 6 = μ.1 26 6 := (hs_742.trans hs_518)
          have e_978 : μ735.1 P 7 = μ.1 P 7 := ((F_737.1 P (ni hprP (fun P => P) (fun P => [26]) rfl) 7).trans (F_513.1 P (ni hprP (fun P => P) (fun P => [26]) rfl) 7))
          refine xc_vV G (b := 23) (rest := []) (As := [.int (iv 40), .int (iv 41)]) (c_X7_inBrackets ω l μ735 40 41 F Lo kf P tt (by unfold ir; omega) (by unfold ir; omega) hI_738 (by omega) (by omega) hF hLo hE hU hp_739 (by omega) (by omega) (by omega) (by omega) (by omega) (by omega)) (wm 4 92 rfl rfl) (wm 4 94 rfl rfl) (wm 0 39 rfl rfl) rfl rfl (by decide) rfl (wm 1 12 rfl rfl) (wm 4 95 rfl rfl) (by decide) hR ⟨sfr (F := F) (a := 1) (by decide), slo (L := Lo) (m := 3) (a := 22) (by decide)⟩ (n := 2) rfl rfl (Nat.le_of_ble_eq_true rfl) hl.1 dX7_ownPrimary_53 (fun μ979 ρ d0 H locs hp G => ?_)
          obtain ⟨F_980, hI_981, hp_982, hp_983, hp_984, hp_985, hp_986, hp_987, hs_988, hs_989, hs_990, hs_991, hs_992, hs_993, hs_994, hs_995, hs_996⟩ := hp
          have hn_997 : -1 ≤ μ979.1 26 10 ∧ μ979.1 26 10 ≤ 3000 := hI_981.nm.2.2.2.2.2.2.2.2.2.2.2.2
          have hk_998 := hI_981.pr (p := P) hprP
          unfold pk at hk_998
          have hc_999 : 16 ≤ μ979.2.1 (P + 1) ∧ μ979.2.1 (P + 1) ≤ 73024 := hI_981.rm.1 _ hprP.cap
          have hk_1000 := hI_981.row (r := P + 2) (hprP.row)
          unfold rk at hk_1000
          have htb_1001 := hp_982.b
          have hpx_1002 : μ979.1 26 11 = 0 → PXE μ μ979 P tt 1 (-1) 1 := fun h0 => (PXE.app (hpx_952 (by have h9 : μ735.1 26 11 = μ.1 26 11 := (hs_741.trans hs_517); have h8 : μ979.1 26 11 = μ979.1 26 11 := rfl; omega)) (hp_987 h0)).e (by omega)
          refine lv_aload_n hx hb dX7_ownPrimary_56 rfl (lv_at hl 0 rfl) ?_
          refine lv_bipush (v := iv 16) hx hb dX7_ownPrimary_57 rfl ?_
          refine lv_iconst (v := iv 0) hx hb dX7_ownPrimary_59 rfl ?_
          refine lv_iconst (v := iv 0) hx hb dX7_ownPrimary_60 rfl ?_
          have e_1003 : μ979.1 23 2 = P := (hs_988.trans ((F_737.1 23 (by decide) 2).trans ((F_513.1 23 (by decide) 2).trans hP.symm)))
          have e_1004 : μ979.1 P 7 = μ.1 P 7 := (hs_996.trans ((F_737.1 P (ni hprP (fun P => P) (fun P => [26]) rfl) 7).trans (F_513.1 P (ni hprP (fun P => P) (fun P => [26]) rfl) 7)))
          refine xc_iV G (b := 23) (rest := []) (As := [.int (iv 16), .int (iv 0), .int (iv 0)]) (c_X7_add ω l μ979 16 0 0 P (by unfold ir; omega) (by unfold ir; omega) (by unfold ir; omega) hI_981 (by omega) (by omega)) (wm 3 226 rfl rfl) (wm 3 228 rfl rfl) (wm 0 21 rfl rfl) rfl rfl (by decide) rfl (wm 1 12 rfl rfl) (wm 3 229 rfl rfl) (by decide) hR ⟨nfr hF (by decide), nlo hLo (by decide)⟩ (n := 3) rfl rfl (Nat.le_of_ble_eq_true rfl) hl.1 dX7_ownPrimary_61 (fun r_1006 μ1005 ρ d0 H locs hr_r_1006 hp G => ?_)
          have hr_r_1006 : -2147483648 ≤ r_1006 ∧ r_1006 ≤ 2147483647 := hr_r_1006
          obtain ⟨F_1007, hI_1008, hp_1009, hp_1010, hs_1011, hs_1012⟩ := hp
          have hpx_1013 : μ1005.1 26 11 = 0 → PXE μ μ1005 P tt 1 (-1) 1 := fun h0 => (PXE.app (hpx_1002 (by have h9 : μ979.1 26 11 = μ979.1 26 11 := rfl; have h8 : μ1005.1 26 11 = μ979.1 26 11 := (F_1007.1 26 (ni hprP (fun P => 26) (fun P => [P, P + 1]) rfl) 11); omega)) (EX.pl hp_1010 (by omega) (by unfold plain; omega) (e := 0) rfl (by have h9 := hs_1 (μ := μ979) (P := P) (i := μ979.1 P 1); omega))).e (by omega)
          refine lv_pop hx hb dX7_ownPrimary_64 rfl ?_
          refine lv_goto (tgt := 123) hx hb dX7_ownPrimary_65 (by decide) ?_
          have htk_1014 : TK μ1005 := hp_982.fr (K := [P, P + 1]) (Fr.tr Fr.rf F_1007 (si hprP (fun P => [P, P + 1]) (fun P => [P, P + 1]) rfl)) (ni hprP (fun P => 26) (fun P => [P, P + 1]) rfl) (ni hprP (fun P => 28) (fun P => [P, P + 1]) rfl)
          have e_1015 : μ1005.1 26 11 = μ979.1 26 11 := (F_1007.1 26 (ni hprP (fun P => 26) (fun P => [P, P + 1]) rfl) 11)
          have e_1016 : μ1005.1 26 11 = μ979.1 26 11 := (F_1007.1 26 (ni hprP (fun P => 26) (fun P => [P, P + 1]) rfl) 11)
          have e_1017 : μ1005.1 26 10 = μ979.1 26 10 := (F_1007.1 26 (ni hprP (fun P => 26) (fun P => [P, P + 1]) rfl) 10)
          have e_1018 : μ1005.1 P 1 = μ979.1 P 1 + 1 := hs_1011
          have e_1019 : μ1005.1 P 1 = μ979.1 P 1 + 1 := hs_1011
          have e_1020 : μ1005.1 26 10 = μ979.1 26 10 := (F_1007.1 26 (ni hprP (fun P => 26) (fun P => [P, P + 1]) rfl) 10)
          have e_1021 : μ1005.1 26 11 = μ979.1 26 11 := (F_1007.1 26 (ni hprP (fun P => 26) (fun P => [P, P + 1]) rfl) 11)
          have e_1022 : μ1005.1 (P + 2) 3 = μ979.1 (P + 2) 3 := (F_1007.1 (P + 2) (ni hprP (fun P => P + 2) (fun P => [P, P + 1]) rfl) 3)
          have e_1023 : μ1005.1 P 1 = μ979.1 P 1 + 1 := hs_1011
          have e_1024 : μ1005.1 (P + 2) 3 = μ979.1 (P + 2) 3 := (F_1007.1 (P + 2) (ni hprP (fun P => P + 2) (fun P => [P, P + 1]) rfl) 3)
          have e_1025 : μ1005.1 23 2 = P := ((F_1007.1 23 (ni hprP (fun P => 23) (fun P => [P, P + 1]) rfl) 2).trans (hs_988.trans ((F_737.1 23 (by decide) 2).trans ((F_513.1 23 (by decide) 2).trans hP.symm))))
          have e_1026 : μ1005.1 23 5 = μ.1 23 5 := ((F_1007.1 23 (ni hprP (fun P => 23) (fun P => [P, P + 1]) rfl) 5).trans (hs_989.trans ((F_737.1 23 (by decide) 5).trans (F_513.1 23 (by decide) 5))))
          have e_1027 : μ1005.1 23 6 = μ.1 23 6 := ((F_1007.1 23 (ni hprP (fun P => 23) (fun P => [P, P + 1]) rfl) 6).trans (hs_990.trans ((F_737.1 23 (by decide) 6).trans (F_513.1 23 (by decide) 6))))
          have e_1028 : μ1005.1 23 7 = μ.1 23 7 := ((F_1007.1 23 (ni hprP (fun P => 23) (fun P => [P, P + 1]) rfl) 7).trans (hs_991.trans ((F_737.1 23 (by decide) 7).trans (F_513.1 23 (by decide) 7))))
          have e_1029 : μ1005.1 23 8 = tt := ((F_1007.1 23 (ni hprP (fun P => 23) (fun P => [P, P + 1]) rfl) 8).trans (hs_992.trans ((F_737.1 23 (by decide) 8).trans ((F_513.1 23 (by decide) 8).trans htt.symm))))
          have e_1030 : μ1005.1 23 9 = μ.1 23 9 := ((F_1007.1 23 (ni hprP (fun P => 23) (fun P => [P, P + 1]) rfl) 9).trans (hs_993.trans ((F_737.1 23 (by decide) 9).trans (F_513.1 23 (by decide) 9))))
          have e_1031 : μ1005.1 23 10 = μ.1 23 10 := ((F_1007.1 23 (ni hprP (fun P => 23) (fun P => [P, P + 1]) rfl) 10).trans (hs_994.trans ((F_737.1 23 (by decide) 10).trans (F_513.1 23 (by decide) 10))))
          have e_1032 : μ1005.1 26 6 = μ.1 26 6 := ((F_1007.1 26 (ni hprP (fun P => 26) (fun P => [P, P + 1]) rfl) 6).trans (hs_995.trans (hs_742.trans hs_518)))
          have e_1033 : μ1005.1 P 7 = μ.1 P 7 := (hs_1012.trans (hs_996.trans ((F_737.1 P (ni hprP (fun P => P) (fun P => [26]) rfl) 7).trans (F_513.1 P (ni hprP (fun P => P) (fun P => [26]) rfl) 7))))
          exact xr_v G hret hlk dX7_ownPrimary_123 ⟨(Fr.tr (Fr.tr (Fr.tr (Fr.tr Fr.rf F_513 (si hprP (fun P => [26]) (fun P => [2, 3, 4, 23, 24, 26, P, P + 1, P + 2, (P + 2) + 1, (P + 2) + 2, (P + 2) + 3]) rfl)) F_737 (si hprP (fun P => [26]) (fun P => [2, 3, 4, 23, 24, 26, P, P + 1, P + 2, (P + 2) + 1, (P + 2) + 2, (P + 2) + 3]) rfl)) F_980 (si hprP (fun P => [2, 3, 4, 23, 24, 26, P, P + 1, P + 2, (P + 2) + 1, (P + 2) + 2, (P + 2) + 3]) (fun P => [2, 3, 4, 23, 24, 26, P, P + 1, P + 2, (P + 2) + 1, (P + 2) + 2, (P + 2) + 3]) rfl)) F_1007 (si hprP (fun P => [P, P + 1]) (fun P => [2, 3, 4, 23, 24, 26, P, P + 1, P + 2, (P + 2) + 1, (P + 2) + 2, (P + 2) + 3]) rfl)), hI_1008, htk_1014, (by omega), (by omega), (by omega), (by omega), (fun h0 => (PXE.ex (hpx_1013 h0)).e (by omega)), (by omega), (by omega), (by omega), (by omega), (by omega), (by omega), (by omega), (by omega), (by omega)⟩
    · refine lv_aload_n hx hb dX7_ownPrimary_18 rfl (lv_at hl 0 rfl) ?_
      refine lv_bipush (v := iv 18) hx hb dX7_ownPrimary_19 rfl ?_
      refine lv_iconst (v := iv 0) hx hb dX7_ownPrimary_21 rfl ?_
      refine lv_iconst (v := iv 0) hx hb dX7_ownPrimary_22 rfl ?_
      have hpx_1034 : μ511.1 26 11 = 0 → PXE μ μ511 P tt 0 (-1) 1 := fun h0 => (hnil (by have h9 : μ.1 26 11 = μ.1 26 11 := rfl; have h8 : μ511.1 26 11 = μ.1 26 11 := hs_517; omega)).fr (K := [26]) (Fr.tr Fr.rf F_513 (by decide)) (npL_p (L := [26]) (by decide) hprP).1 (npL_p (L := [26]) (by decide) hprP).2.1
      have e_1035 : μ511.1 23 2 = P := ((F_513.1 23 (by decide) 2).trans hP.symm)
      have e_1036 : μ511.1 P 1 = μ.1 P 1 := (F_513.1 P (ni hprP (fun P => P) (fun P => [26]) rfl) 1)
      have e_1037 : μ511.1 P 1 = μ.1 P 1 := (F_513.1 P (ni hprP (fun P => P) (fun P => [26]) rfl) 1)
      have e_1038 : μ511.1 P 1 = μ.1 P 1 := (F_513.1 P (ni hprP (fun P => P) (fun P => [26]) rfl) 1)
      have e_1039 : μ511.1 P 7 = μ.1 P 7 := (F_513.1 P (ni hprP (fun P => P) (fun P => [26]) rfl) 7)
      refine xc_iV G (b := 23) (rest := []) (As := [.int (iv 18), .int (iv 0), .int (iv 0)]) (c_X7_add ω l μ511 18 0 0 P (by unfold ir; omega) (by unfold ir; omega) (by unfold ir; omega) hI_514 (by omega) (by omega)) (wm 3 226 rfl rfl) (wm 3 228 rfl rfl) (wm 0 21 rfl rfl) rfl rfl (by decide) rfl (wm 1 12 rfl rfl) (wm 3 229 rfl rfl) (by decide) hR ⟨nfr hF (by decide), nlo hLo (by decide)⟩ (n := 3) rfl rfl (Nat.le_of_ble_eq_true rfl) hl.1 dX7_ownPrimary_23 (fun r_1041 μ1040 ρ d0 H locs hr_r_1041 hp G => ?_)
      have hr_r_1041 : -2147483648 ≤ r_1041 ∧ r_1041 ≤ 2147483647 := hr_r_1041
      obtain ⟨F_1042, hI_1043, hp_1044, hp_1045, hs_1046, hs_1047⟩ := hp
      have hpx_1048 : μ1040.1 26 11 = 0 → PXE μ μ1040 P tt 1 (-1) 1 := fun h0 => (PXE.app (hpx_1034 (by have h9 : μ511.1 26 11 = μ.1 26 11 := hs_517; have h8 : μ1040.1 26 11 = μ.1 26 11 := ((F_1042.1 26 (ni hprP (fun P => 26) (fun P => [P, P + 1]) rfl) 11).trans hs_517); omega)) (EX.pl hp_1045 (by omega) (by unfold plain; omega) (e := 1) rfl (by have h9 := hs_1 (μ := μ511) (P := P) (i := μ511.1 P 1); omega))).e (by omega)
      refine lv_pop hx hb dX7_ownPrimary_26 rfl ?_
      refine lv_goto (tgt := 123) hx hb dX7_ownPrimary_27 (by decide) ?_
      have htk_1049 : TK μ1040 := hp_515.fr (K := [P, P + 1]) (Fr.tr Fr.rf F_1042 (si hprP (fun P => [P, P + 1]) (fun P => [P, P + 1]) rfl)) (ni hprP (fun P => 26) (fun P => [P, P + 1]) rfl) (ni hprP (fun P => 28) (fun P => [P, P + 1]) rfl)
      have e_1050 : μ1040.1 26 11 = μ.1 26 11 := ((F_1042.1 26 (ni hprP (fun P => 26) (fun P => [P, P + 1]) rfl) 11).trans hs_517)
      have e_1051 : μ1040.1 26 11 = μ.1 26 11 := ((F_1042.1 26 (ni hprP (fun P => 26) (fun P => [P, P + 1]) rfl) 11).trans hs_517)
      have e_1052 : μ1040.1 26 10 = μ511.1 26 10 := (F_1042.1 26 (ni hprP (fun P => 26) (fun P => [P, P + 1]) rfl) 10)
      have e_1053 : μ1040.1 P 1 = μ511.1 P 1 + 1 := hs_1046
      have e_1054 : μ1040.1 P 1 = μ511.1 P 1 + 1 := hs_1046
      have e_1055 : μ1040.1 26 10 = μ511.1 26 10 := (F_1042.1 26 (ni hprP (fun P => 26) (fun P => [P, P + 1]) rfl) 10)
      have e_1056 : μ1040.1 26 11 = μ.1 26 11 := ((F_1042.1 26 (ni hprP (fun P => 26) (fun P => [P, P + 1]) rfl) 11).trans hs_517)
      have e_1057 : μ1040.1 (P + 2) 3 = μ.1 (P + 2) 3 := ((F_1042.1 (P + 2) (ni hprP (fun P => P + 2) (fun P => [P, P + 1]) rfl) 3).trans (F_513.1 (P + 2) (ni hprP (fun P => P + 2) (fun P => [26]) rfl) 3))
      have e_1058 : μ1040.1 P 1 = μ511.1 P 1 + 1 := hs_1046
      have e_1059 : μ1040.1 (P + 2) 3 = μ.1 (P + 2) 3 := ((F_1042.1 (P + 2) (ni hprP (fun P => P + 2) (fun P => [P, P + 1]) rfl) 3).trans (F_513.1 (P + 2) (ni hprP (fun P => P + 2) (fun P => [26]) rfl) 3))
      have e_1060 : μ1040.1 23 2 = P := ((F_1042.1 23 (ni hprP (fun P => 23) (fun P => [P, P + 1]) rfl) 2).trans ((F_513.1 23 (by decide) 2).trans hP.symm))
      have e_1061 : μ1040.1 23 5 = μ.1 23 5 := ((F_1042.1 23 (ni hprP (fun P => 23) (fun P => [P, P + 1]) rfl) 5).trans (F_513.1 23 (by decide) 5))
      have e_1062 : μ1040.1 23 6 = μ.1 23 6 := ((F_1042.1 23 (ni hprP (fun P => 23) (fun P => [P, P + 1]) rfl) 6).trans (F_513.1 23 (by decide) 6))
      have e_1063 : μ1040.1 23 7 = μ.1 23 7 := ((F_1042.1 23 (ni hprP (fun P => 23) (fun P => [P, P + 1]) rfl) 7).trans (F_513.1 23 (by decide) 7))
      have e_1064 : μ1040.1 23 8 = tt := ((F_1042.1 23 (ni hprP (fun P => 23) (fun P => [P, P + 1]) rfl) 8).trans ((F_513.1 23 (by decide) 8).trans htt.symm))
      have e_1065 : μ1040.1 23 9 = μ.1 23 9 := ((F_1042.1 23 (ni hprP (fun P => 23) (fun P => [P, P + 1]) rfl) 9).trans (F_513.1 23 (by decide) 9))
      have e_1066 : μ1040.1 23 10 = μ.1 23 10 := ((F_1042.1 23 (ni hprP (fun P => 23) (fun P => [P, P + 1]) rfl) 10).trans (F_513.1 23 (by decide) 10))
      have e_1067 : μ1040.1 26 6 = μ.1 26 6 := ((F_1042.1 26 (ni hprP (fun P => 26) (fun P => [P, P + 1]) rfl) 6).trans hs_518)
      have e_1068 : μ1040.1 P 7 = μ.1 P 7 := (hs_1047.trans (F_513.1 P (ni hprP (fun P => P) (fun P => [26]) rfl) 7))
      exact xr_v G hret hlk dX7_ownPrimary_123 ⟨(Fr.tr (Fr.tr Fr.rf F_513 (si hprP (fun P => [26]) (fun P => [2, 3, 4, 23, 24, 26, P, P + 1, P + 2, (P + 2) + 1, (P + 2) + 2, (P + 2) + 3]) rfl)) F_1042 (si hprP (fun P => [P, P + 1]) (fun P => [2, 3, 4, 23, 24, 26, P, P + 1, P + 2, (P + 2) + 1, (P + 2) + 2, (P + 2) + 3]) rfl)), hI_1043, htk_1049, (by omega), (by omega), (by omega), (by omega), (fun h0 => (PXE.ex (hpx_1048 h0)).e (by omega)), (by omega), (by omega), (by omega), (by omega), (by omega), (by omega), (by omega), (by omega), (by omega)⟩
