abbrev cX7_ownPrimary : ByteArray := prog_9_method_47_code
def yX7_ownPrimary : MethodName := ⟨RX7, "ownPrimary", "()V"⟩
abbrev cX7_afterName : ByteArray := prog_9_method_52_code
def yX7_afterName : MethodName := ⟨RX7, "afterName", "(JI)V"⟩
abbrev cX7_cellParts : ByteArray := prog_9_method_53_code
def yX7_cellParts : MethodName := ⟨RX7, "cellParts", "(I)I"⟩
theorem dX7_ownPrimary_0 : decode cX7_ownPrimary 0 = .ok (.aload_n 0, 1) := by decide +kernel
theorem dX7_ownPrimary_1 : decode cX7_ownPrimary 1 = .ok (.getfield 29, 3) := by decide +kernel
theorem dX7_ownPrimary_4 : decode cX7_ownPrimary 4 = .ok (.iconst 1, 1) := by decide +kernel
theorem dX7_ownPrimary_5 : decode cX7_ownPrimary 5 = .ok (.if_icmp .ne 25, 3) := by decide +kernel
theorem dX7_ownPrimary_8 : decode cX7_ownPrimary 8 = .ok (.aload_n 0, 1) := by decide +kernel
theorem dX7_ownPrimary_9 : decode cX7_ownPrimary 9 = .ok (.sipush 226, 3) := by decide +kernel
theorem dX7_ownPrimary_12 : decode cX7_ownPrimary 12 = .ok (.invokevirtual 83, 3) := by decide +kernel
theorem dX7_ownPrimary_15 : decode cX7_ownPrimary 15 = .ok (.ifCond .eq 15, 3) := by decide +kernel
theorem dX7_ownPrimary_18 : decode cX7_ownPrimary 18 = .ok (.aload_n 0, 1) := by decide +kernel
theorem dX7_ownPrimary_19 : decode cX7_ownPrimary 19 = .ok (.bipush 18, 2) := by decide +kernel
theorem dX7_ownPrimary_21 : decode cX7_ownPrimary 21 = .ok (.iconst 0, 1) := by decide +kernel
theorem dX7_ownPrimary_22 : decode cX7_ownPrimary 22 = .ok (.iconst 0, 1) := by decide +kernel
theorem dX7_ownPrimary_23 : decode cX7_ownPrimary 23 = .ok (.invokevirtual 157, 3) := by decide +kernel
theorem dX7_ownPrimary_26 : decode cX7_ownPrimary 26 = .ok (.pop, 1) := by decide +kernel
theorem dX7_ownPrimary_27 : decode cX7_ownPrimary 27 = .ok (.goto 96, 3) := by decide +kernel
theorem dX7_ownPrimary_30 : decode cX7_ownPrimary 30 = .ok (.aload_n 0, 1) := by decide +kernel
theorem dX7_ownPrimary_31 : decode cX7_ownPrimary 31 = .ok (.getfield 29, 3) := by decide +kernel
theorem dX7_ownPrimary_34 : decode cX7_ownPrimary 34 = .ok (.iconst 2, 1) := by decide +kernel
theorem dX7_ownPrimary_35 : decode cX7_ownPrimary 35 = .ok (.if_icmp .ne 33, 3) := by decide +kernel
theorem dX7_ownPrimary_38 : decode cX7_ownPrimary 38 = .ok (.aload_n 0, 1) := by decide +kernel
theorem dX7_ownPrimary_39 : decode cX7_ownPrimary 39 = .ok (.sipush 227, 3) := by decide +kernel
theorem dX7_ownPrimary_42 : decode cX7_ownPrimary 42 = .ok (.invokevirtual 83, 3) := by decide +kernel
theorem dX7_ownPrimary_45 : decode cX7_ownPrimary 45 = .ok (.ifCond .eq 23, 3) := by decide +kernel
theorem dX7_ownPrimary_48 : decode cX7_ownPrimary 48 = .ok (.aload_n 0, 1) := by decide +kernel
theorem dX7_ownPrimary_49 : decode cX7_ownPrimary 49 = .ok (.bipush 40, 2) := by decide +kernel
theorem dX7_ownPrimary_51 : decode cX7_ownPrimary 51 = .ok (.bipush 41, 2) := by decide +kernel
theorem dX7_ownPrimary_53 : decode cX7_ownPrimary 53 = .ok (.invokevirtual 288, 3) := by decide +kernel
theorem dX7_ownPrimary_56 : decode cX7_ownPrimary 56 = .ok (.aload_n 0, 1) := by decide +kernel
theorem dX7_ownPrimary_57 : decode cX7_ownPrimary 57 = .ok (.bipush 16, 2) := by decide +kernel
theorem dX7_ownPrimary_59 : decode cX7_ownPrimary 59 = .ok (.iconst 0, 1) := by decide +kernel
theorem dX7_ownPrimary_60 : decode cX7_ownPrimary 60 = .ok (.iconst 0, 1) := by decide +kernel
theorem dX7_ownPrimary_61 : decode cX7_ownPrimary 61 = .ok (.invokevirtual 157, 3) := by decide +kernel
theorem dX7_ownPrimary_64 : decode cX7_ownPrimary 64 = .ok (.pop, 1) := by decide +kernel
theorem dX7_ownPrimary_65 : decode cX7_ownPrimary 65 = .ok (.goto 58, 3) := by decide +kernel
theorem dX7_ownPrimary_68 : decode cX7_ownPrimary 68 = .ok (.aload_n 0, 1) := by decide +kernel
theorem dX7_ownPrimary_69 : decode cX7_ownPrimary 69 = .ok (.getfield 29, 3) := by decide +kernel
theorem dX7_ownPrimary_72 : decode cX7_ownPrimary 72 = .ok (.iconst 2, 1) := by decide +kernel
theorem dX7_ownPrimary_73 : decode cX7_ownPrimary 73 = .ok (.if_icmp .ne 43, 3) := by decide +kernel
theorem dX7_ownPrimary_76 : decode cX7_ownPrimary 76 = .ok (.aload_n 0, 1) := by decide +kernel
theorem dX7_ownPrimary_77 : decode cX7_ownPrimary 77 = .ok (.sipush 228, 3) := by decide +kernel
theorem dX7_ownPrimary_80 : decode cX7_ownPrimary 80 = .ok (.invokevirtual 83, 3) := by decide +kernel
theorem dX7_ownPrimary_83 : decode cX7_ownPrimary 83 = .ok (.ifCond .eq 33, 3) := by decide +kernel
theorem dX7_ownPrimary_86 : decode cX7_ownPrimary 86 = .ok (.aload_n 0, 1) := by decide +kernel
theorem dX7_ownPrimary_87 : decode cX7_ownPrimary 87 = .ok (.invokevirtual 118, 3) := by decide +kernel
theorem dX7_ownPrimary_90 : decode cX7_ownPrimary 90 = .ok (.istore_n 1, 1) := by decide +kernel
theorem dX7_ownPrimary_91 : decode cX7_ownPrimary 91 = .ok (.aload_n 0, 1) := by decide +kernel
theorem dX7_ownPrimary_92 : decode cX7_ownPrimary 92 = .ok (.bipush 40, 2) := by decide +kernel
theorem dX7_ownPrimary_94 : decode cX7_ownPrimary 94 = .ok (.bipush 41, 2) := by decide +kernel
theorem dX7_ownPrimary_96 : decode cX7_ownPrimary 96 = .ok (.invokevirtual 288, 3) := by decide +kernel
theorem dX7_ownPrimary_99 : decode cX7_ownPrimary 99 = .ok (.aload_n 0, 1) := by decide +kernel
theorem dX7_ownPrimary_100 : decode cX7_ownPrimary 100 = .ok (.bipush 17, 2) := by decide +kernel
theorem dX7_ownPrimary_102 : decode cX7_ownPrimary 102 = .ok (.iload_n 1, 1) := by decide +kernel
theorem dX7_ownPrimary_103 : decode cX7_ownPrimary 103 = .ok (.iconst 0, 1) := by decide +kernel
theorem dX7_ownPrimary_104 : decode cX7_ownPrimary 104 = .ok (.aload_n 0, 1) := by decide +kernel
theorem dX7_ownPrimary_105 : decode cX7_ownPrimary 105 = .ok (.iconst (-1), 1) := by decide +kernel
theorem dX7_ownPrimary_106 : decode cX7_ownPrimary 106 = .ok (.iconst 0, 1) := by decide +kernel
theorem dX7_ownPrimary_107 : decode cX7_ownPrimary 107 = .ok (.invokevirtual 273, 3) := by decide +kernel
theorem dX7_ownPrimary_110 : decode cX7_ownPrimary 110 = .ok (.invokevirtual 230, 3) := by decide +kernel
theorem dX7_ownPrimary_113 : decode cX7_ownPrimary 113 = .ok (.goto 10, 3) := by decide +kernel
theorem dX7_ownPrimary_116 : decode cX7_ownPrimary 116 = .ok (.aload_n 0, 1) := by decide +kernel
theorem dX7_ownPrimary_117 : decode cX7_ownPrimary 117 = .ok (.getfield 43, 3) := by decide +kernel
theorem dX7_ownPrimary_120 : decode cX7_ownPrimary 120 = .ok (.invokevirtual 93, 3) := by decide +kernel
theorem dX7_ownPrimary_123 : decode cX7_ownPrimary 123 = .ok (.return_, 1) := by decide +kernel
theorem dX7_afterName_0 : decode cX7_afterName 0 = .ok (.aload_n 0, 1) := by decide +kernel
theorem dX7_afterName_1 : decode cX7_afterName 1 = .ok (.getfield 43, 3) := by decide +kernel
theorem dX7_afterName_4 : decode cX7_afterName 4 = .ok (.getfield 80, 3) := by decide +kernel
theorem dX7_afterName_7 : decode cX7_afterName 7 = .ok (.bipush 40, 2) := by decide +kernel
theorem dX7_afterName_9 : decode cX7_afterName 9 = .ok (.if_icmp .ne 16, 3) := by decide +kernel
theorem dX7_afterName_12 : decode cX7_afterName 12 = .ok (.aload_n 0, 1) := by decide +kernel
theorem dX7_afterName_13 : decode cX7_afterName 13 = .ok (.bipush 13, 2) := by decide +kernel
theorem dX7_afterName_15 : decode cX7_afterName 15 = .ok (.aload_n 0, 1) := by decide +kernel
theorem dX7_afterName_16 : decode cX7_afterName 16 = .ok (.getfield 29, 3) := by decide +kernel
theorem dX7_afterName_19 : decode cX7_afterName 19 = .ok (.lload_n 1, 1) := by decide +kernel
theorem dX7_afterName_20 : decode cX7_afterName 20 = .ok (.iconst (-1), 1) := by decide +kernel
theorem dX7_afterName_21 : decode cX7_afterName 21 = .ok (.invokevirtual 297, 3) := by decide +kernel
theorem dX7_afterName_24 : decode cX7_afterName 24 = .ok (.return_, 1) := by decide +kernel
theorem dX7_afterName_25 : decode cX7_afterName 25 = .ok (.aload_n 0, 1) := by decide +kernel
theorem dX7_afterName_26 : decode cX7_afterName 26 = .ok (.lload_n 1, 1) := by decide +kernel
theorem dX7_afterName_27 : decode cX7_afterName 27 = .ok (.iload_n 3, 1) := by decide +kernel
theorem dX7_afterName_28 : decode cX7_afterName 28 = .ok (.invokevirtual 220, 3) := by decide +kernel
theorem dX7_afterName_31 : decode cX7_afterName 31 = .ok (.istore 4, 2) := by decide +kernel
theorem dX7_afterName_33 : decode cX7_afterName 33 = .ok (.aload_n 0, 1) := by decide +kernel
theorem dX7_afterName_34 : decode cX7_afterName 34 = .ok (.getfield 43, 3) := by decide +kernel
theorem dX7_afterName_37 : decode cX7_afterName 37 = .ok (.getfield 80, 3) := by decide +kernel
theorem dX7_afterName_40 : decode cX7_afterName 40 = .ok (.bipush 91, 2) := by decide +kernel
theorem dX7_afterName_42 : decode cX7_afterName 42 = .ok (.if_icmp .ne 18, 3) := by decide +kernel
theorem dX7_afterName_45 : decode cX7_afterName 45 = .ok (.aload_n 0, 1) := by decide +kernel
theorem dX7_afterName_46 : decode cX7_afterName 46 = .ok (.bipush 11, 2) := by decide +kernel
theorem dX7_afterName_48 : decode cX7_afterName 48 = .ok (.iconst 0, 1) := by decide +kernel
theorem dX7_afterName_49 : decode cX7_afterName 49 = .ok (.iconst 0, 1) := by decide +kernel
theorem dX7_afterName_50 : decode cX7_afterName 50 = .ok (.aload_n 0, 1) := by decide +kernel
theorem dX7_afterName_51 : decode cX7_afterName 51 = .ok (.iload 4, 2) := by decide +kernel
theorem dX7_afterName_53 : decode cX7_afterName 53 = .ok (.invokevirtual 224, 3) := by decide +kernel
theorem dX7_afterName_56 : decode cX7_afterName 56 = .ok (.invokevirtual 230, 3) := by decide +kernel
theorem dX7_afterName_59 : decode cX7_afterName 59 = .ok (.return_, 1) := by decide +kernel
theorem dX7_afterName_60 : decode cX7_afterName 60 = .ok (.aload_n 0, 1) := by decide +kernel
theorem dX7_afterName_61 : decode cX7_afterName 61 = .ok (.iconst 4, 1) := by decide +kernel
theorem dX7_afterName_62 : decode cX7_afterName 62 = .ok (.iload 4, 2) := by decide +kernel
theorem dX7_afterName_64 : decode cX7_afterName 64 = .ok (.iconst 0, 1) := by decide +kernel
theorem dX7_afterName_65 : decode cX7_afterName 65 = .ok (.invokevirtual 157, 3) := by decide +kernel
theorem dX7_afterName_68 : decode cX7_afterName 68 = .ok (.pop, 1) := by decide +kernel
theorem dX7_afterName_69 : decode cX7_afterName 69 = .ok (.aload_n 0, 1) := by decide +kernel
theorem dX7_afterName_70 : decode cX7_afterName 70 = .ok (.bipush 33, 2) := by decide +kernel
theorem dX7_afterName_72 : decode cX7_afterName 72 = .ok (.invokevirtual 83, 3) := by decide +kernel
theorem dX7_afterName_75 : decode cX7_afterName 75 = .ok (.ifCond .eq 17, 3) := by decide +kernel
theorem dX7_afterName_78 : decode cX7_afterName 78 = .ok (.aload_n 0, 1) := by decide +kernel
theorem dX7_afterName_79 : decode cX7_afterName 79 = .ok (.bipush 14, 2) := by decide +kernel
theorem dX7_afterName_81 : decode cX7_afterName 81 = .ok (.iconst 0, 1) := by decide +kernel
theorem dX7_afterName_82 : decode cX7_afterName 82 = .ok (.lconst 0, 1) := by decide +kernel
theorem dX7_afterName_83 : decode cX7_afterName 83 = .ok (.aload_n 0, 1) := by decide +kernel
theorem dX7_afterName_84 : decode cX7_afterName 84 = .ok (.iconst (-1), 1) := by decide +kernel
theorem dX7_afterName_85 : decode cX7_afterName 85 = .ok (.iconst 0, 1) := by decide +kernel
theorem dX7_afterName_86 : decode cX7_afterName 86 = .ok (.invokevirtual 273, 3) := by decide +kernel
theorem dX7_afterName_89 : decode cX7_afterName 89 = .ok (.invokevirtual 297, 3) := by decide +kernel
theorem dX7_afterName_92 : decode cX7_afterName 92 = .ok (.return_, 1) := by decide +kernel
theorem dX7_cellParts_0 : decode cX7_cellParts 0 = .ok (.aload_n 0, 1) := by decide +kernel
theorem dX7_cellParts_1 : decode cX7_cellParts 1 = .ok (.iconst 4, 1) := by decide +kernel
theorem dX7_cellParts_2 : decode cX7_cellParts 2 = .ok (.iload_n 1, 1) := by decide +kernel
theorem dX7_cellParts_3 : decode cX7_cellParts 3 = .ok (.iconst 0, 1) := by decide +kernel
theorem dX7_cellParts_4 : decode cX7_cellParts 4 = .ok (.invokevirtual 157, 3) := by decide +kernel
theorem dX7_cellParts_7 : decode cX7_cellParts 7 = .ok (.pop, 1) := by decide +kernel
theorem dX7_cellParts_8 : decode cX7_cellParts 8 = .ok (.aload_n 0, 1) := by decide +kernel
theorem dX7_cellParts_9 : decode cX7_cellParts 9 = .ok (.iconst (-1), 1) := by decide +kernel
theorem dX7_cellParts_10 : decode cX7_cellParts 10 = .ok (.iconst 0, 1) := by decide +kernel
theorem dX7_cellParts_11 : decode cX7_cellParts 11 = .ok (.invokevirtual 273, 3) := by decide +kernel
theorem dX7_cellParts_14 : decode cX7_cellParts 14 = .ok (.istore_n 2, 1) := by decide +kernel
theorem dX7_cellParts_15 : decode cX7_cellParts 15 = .ok (.aload_n 0, 1) := by decide +kernel
theorem dX7_cellParts_16 : decode cX7_cellParts 16 = .ok (.bipush 91, 2) := by decide +kernel
theorem dX7_cellParts_18 : decode cX7_cellParts 18 = .ok (.bipush 93, 2) := by decide +kernel
theorem dX7_cellParts_20 : decode cX7_cellParts 20 = .ok (.invokevirtual 288, 3) := by decide +kernel
theorem dX7_cellParts_23 : decode cX7_cellParts 23 = .ok (.aload_n 0, 1) := by decide +kernel
theorem dX7_cellParts_24 : decode cX7_cellParts 24 = .ok (.iload_n 2, 1) := by decide +kernel
theorem dX7_cellParts_25 : decode cX7_cellParts 25 = .ok (.iconst 1, 1) := by decide +kernel
theorem dX7_cellParts_26 : decode cX7_cellParts 26 = .ok (.invokevirtual 273, 3) := by decide +kernel
theorem dX7_cellParts_29 : decode cX7_cellParts 29 = .ok (.ireturn, 1) := by decide +kernel
set_option maxHeartbeats 4000000 in
set_option maxRecDepth 100000 in
theorem c_X7_cellParts (ω : Om) (l : Launch) (μ : M3) (x1 : Int) (F : Nat) (Lo : Nat) (kf : Int) (P : Int) (tt : Int) (hx1 : ir x1) (hI : IC μ) (hP : P = μ.1 23 2) (htt : tt = μ.1 23 8) (hF : 60 ≤ F) (hLo : 2000 ≤ Lo) (hE : ∀ (μ : M3) (x1 : Int) (P : Int) (tt : Int) (hx1 : x1 = 0 ∨ x1 = 1) (hI : IC μ) (hP : P = μ.1 23 2) (htt : tt = μ.1 23 8) (hTK : TK μ) (hB : μ.1 P 1 ≤ 2 * μ.1 26 10 + 100 + 40 * μ.1 26 11) (hKc : μ.1 (P + 2) 3 ≤ μ.1 P 1) (ht3 : 0 ≤ tt ∧ tt ≤ 3) (hdp : 0 ≤ μ.1 23 9 ∧ μ.1 23 9 ≤ 8 + μ.1 26 11) (hfu : 0 ≤ (kf - 1) ∧ 9 ≤ μ.1 23 9 + (kf - 1) + 20 * μ.1 26 11) (hbg : ∀ _ : Unit, x1 = 0 ∨ μ.1 26 11 ≠ 0 ∨ 2 ≤ hs μ P (μ.1 P 1)), CtV ω l yX7_expression cX7_expression 3 (F + 0) (Lo + 0) [.ref (oP ω 23), .int (iv x1)] μ (fun (μ' : M3) => (Fr [2, 3, 4, 23, 24, 26, P, P + 1, P + 2, (P + 2) + 1, (P + 2) + 2, (P + 2) + 3] μ μ') ∧ (IC μ') ∧ (TK μ') ∧ (μ.1 26 11 ≤ μ'.1 26 11) ∧ (μ.1 26 10 ≤ μ'.1 26 10) ∧ (μ.1 P 1 ≤ μ'.1 P 1 ∧ μ'.1 P 1 ≤ μ.1 P 1 + 2 * (μ'.1 26 10 - μ.1 26 10) + (- 1 + 3 * μ'.1 26 11 - 2 * μ.1 26 11 + x1)) ∧ (μ'.1 (P + 2) 3 - μ.1 (P + 2) 3 ≤ μ'.1 P 1 - μ.1 P 1 ∧ μ.1 (P + 2) 3 ≤ μ'.1 (P + 2) 3) ∧ (μ'.1 26 11 = 0 → EX μ μ' P tt (1 - x1) 0) ∧ (μ'.1 23 2 = μ.1 23 2) ∧ (μ'.1 23 5 = μ.1 23 5) ∧ (μ'.1 23 6 = μ.1 23 6) ∧ (μ'.1 23 7 = μ.1 23 7) ∧ (μ'.1 23 8 = μ.1 23 8) ∧ (μ'.1 23 9 = μ.1 23 9) ∧ (μ'.1 23 10 = μ.1 23 10) ∧ (μ'.1 26 6 = μ.1 26 6) ∧ (μ'.1 P 7 = μ.1 P 7))) (hU : ∀ (μ : M3) (x1 : Int) (P : Int) (tt : Int) (hx1 : x1 = 0 ∨ x1 = 1) (hI : IC μ) (hP : P = μ.1 23 2) (htt : tt = μ.1 23 8) (hTK : TK μ) (hB : μ.1 P 1 ≤ 2 * μ.1 26 10 + 100 + 40 * μ.1 26 11) (hKc : μ.1 (P + 2) 3 ≤ μ.1 P 1) (ht3 : 0 ≤ tt ∧ tt ≤ 3) (hdp : 0 ≤ μ.1 23 9 ∧ μ.1 23 9 ≤ 8 + μ.1 26 11) (hfu : 0 ≤ (kf - 1) ∧ 9 ≤ μ.1 23 9 + (kf - 1) + 20 * μ.1 26 11) (hbg : ∀ _ : Unit, x1 = 0 ∨ μ.1 26 11 ≠ 0 ∨ 2 ≤ hs μ P (μ.1 P 1)), CtV ω l yX7_unary cX7_unary 2 (F + 0) (Lo + 0) [.ref (oP ω 23), .int (iv x1)] μ (fun (μ' : M3) => (Fr [2, 3, 4, 23, 24, 26, P, P + 1, P + 2, (P + 2) + 1, (P + 2) + 2, (P + 2) + 3] μ μ') ∧ (IC μ') ∧ (TK μ') ∧ (μ.1 26 11 ≤ μ'.1 26 11) ∧ (μ.1 26 10 ≤ μ'.1 26 10) ∧ (μ.1 P 1 ≤ μ'.1 P 1 ∧ μ'.1 P 1 ≤ μ.1 P 1 + 2 * (μ'.1 26 10 - μ.1 26 10) + (- 1 + 3 * μ'.1 26 11 - 2 * μ.1 26 11 + x1)) ∧ (μ'.1 (P + 2) 3 - μ.1 (P + 2) 3 ≤ μ'.1 P 1 - μ.1 P 1 ∧ μ.1 (P + 2) 3 ≤ μ'.1 (P + 2) 3) ∧ (μ'.1 26 11 = 0 → EX μ μ' P tt (1 - x1) 0) ∧ (μ'.1 23 2 = μ.1 23 2) ∧ (μ'.1 23 5 = μ.1 23 5) ∧ (μ'.1 23 6 = μ.1 23 6) ∧ (μ'.1 23 7 = μ.1 23 7) ∧ (μ'.1 23 8 = μ.1 23 8) ∧ (μ'.1 23 9 = μ.1 23 9) ∧ (μ'.1 23 10 = μ.1 23 10) ∧ (μ'.1 26 6 = μ.1 26 6) ∧ (μ'.1 P 7 = μ.1 P 7))) (hTK : TK μ) (hB : μ.1 P 1 ≤ 2 * μ.1 26 10 + 100 + 40 * μ.1 26 11) (hKc : μ.1 (P + 2) 3 ≤ μ.1 P 1) (ht3 : 0 ≤ tt ∧ tt ≤ 3) (hdp : 0 ≤ μ.1 23 9 ∧ μ.1 23 9 ≤ 8) (hfu : 9 ≤ μ.1 23 9 + kf) (hx1b : 0 ≤ x1 ∧ x1 ≤ 1000) : CtI ω l yX7_cellParts cX7_cellParts 3 .int (F + 2) (Lo + 44) [.ref (oP ω 23), .int (iv x1)] μ (fun (r : Int) (μ' : M3) => (Fr [2, 3, 4, 23, 24, 26, P, P + 1, P + 2, (P + 2) + 1, (P + 2) + 2, (P + 2) + 3] μ μ') ∧ (IC μ') ∧ (TK μ') ∧ (μ.1 26 11 ≤ μ'.1 26 11) ∧ (μ.1 26 10 ≤ μ'.1 26 10) ∧ (μ.1 P 1 ≤ μ'.1 P 1 ∧ μ'.1 P 1 ≤ μ.1 P 1 + 2 * (μ'.1 26 10 - μ.1 26 10) + (- 2 + 5 * μ'.1 26 11)) ∧ (μ'.1 (P + 2) 3 - μ.1 (P + 2) 3 ≤ μ'.1 P 1 - μ.1 P 1 ∧ μ.1 (P + 2) 3 ≤ μ'.1 (P + 2) 3) ∧ (μ'.1 26 11 = 0 → PXE μ μ' P tt 2 r 1) ∧ (μ'.1 23 2 = μ.1 23 2) ∧ (μ'.1 23 5 = μ.1 23 5) ∧ (μ'.1 23 6 = μ.1 23 6) ∧ (μ'.1 23 7 = μ.1 23 7) ∧ (μ'.1 23 8 = μ.1 23 8) ∧ (μ'.1 23 9 = μ.1 23 9) ∧ (μ'.1 23 10 = μ.1 23 10) ∧ (μ'.1 26 6 = μ.1 26 6) ∧ (μ'.1 P 7 = μ.1 P 7)) := by
  refine CtI.go (by decide) (Nat.le_of_ble_eq_true rfl) (fun ρ p e s m below meth c R ls G hR hret hlk hl => ?_)
  have hx := G.1.1
  have hb := G.1.2.1
  have hl : lv_has ls 3 [(0, .ref (oP ω 23)), (1, .int (iv x1))] := hl
  generalize s.drawn = d0 at G ⊢
  have hr_x1 : -2147483648 ≤ x1 ∧ x1 ≤ 2147483647 := hx1
  have hTKb := hTK.b
  have hprP : isPr P := by have h9 := G.sr0.2.2.2.2.2; rw [← hP] at h9; exact h9
  have hprP_d : 13 ≤ P ∧ P ≤ 101 := by rcases hprP with h9 | h9 | h9 | h9 | h9 <;> omega
  have hk_1 := hI.pr (p := P) hprP
  unfold pk at hk_1
  have hc_2 : 16 ≤ μ.2.1 (P + 1) ∧ μ.2.1 (P + 1) ≤ 73024 := hI.rm.1 _ hprP.cap
  have hnil : μ.1 26 11 = 0 → PXE μ μ P tt 0 (-1) 1 := fun _ => PXE.nil (by omega)
  refine lv_aload_n hx hb dX7_cellParts_0 rfl (lv_at hl 0 rfl) ?_
  refine lv_iconst (v := iv 4) hx hb dX7_cellParts_1 rfl ?_
  refine lv_iload_n hx hb dX7_cellParts_2 rfl (lv_at hl 1 rfl) ?_
  refine lv_iconst (v := iv 0) hx hb dX7_cellParts_3 rfl ?_
  have e_3 : μ.1 23 2 = P := hP.symm
  refine xc_iV G (b := 23) (rest := []) (As := [.int (iv 4), .int (iv x1), .int (iv 0)]) (c_X7_add ω l μ 4 x1 0 P (by unfold ir; omega) (by unfold ir; omega) (by unfold ir; omega) hI (by omega) (by omega)) (wm 3 226 rfl rfl) (wm 3 228 rfl rfl) (wm 0 21 rfl rfl) rfl rfl (by decide) rfl (wm 1 12 rfl rfl) (wm 3 229 rfl rfl) (by decide) hR ⟨nfr hF (by decide), nlo hLo (by decide)⟩ (n := 3) rfl rfl (Nat.le_of_ble_eq_true rfl) hl.1 dX7_cellParts_4 (fun r_5 μ4 ρ d0 H locs hr_r_5 hp G => ?_)
  have hr_r_5 : -2147483648 ≤ r_5 ∧ r_5 ≤ 2147483647 := hr_r_5
  obtain ⟨F_6, hI_7, hp_8, hp_9, hs_10, hs_11⟩ := hp
  have hpx_12 : μ4.1 26 11 = 0 → PXE μ μ4 P tt 1 (-1) 1 := fun h0 => (PXE.app (hnil (by have h9 : μ.1 26 11 = μ.1 26 11 := rfl; have h8 : μ4.1 26 11 = μ.1 26 11 := (F_6.1 26 (ni hprP (fun P => 26) (fun P => [P, P + 1]) rfl) 11); omega)) (EX.pl hp_9 (by omega) (by unfold plain; omega) (e := 1) rfl (by have h9 := hs_1 (μ := μ) (P := P) (i := μ.1 P 1); omega))).e (by omega)
  refine lv_pop hx hb dX7_cellParts_7 rfl ?_
  refine lv_aload_n hx hb dX7_cellParts_8 rfl (lv_at hl 0 rfl) ?_
  refine lv_iconst (v := iv (-1)) hx hb dX7_cellParts_9 rfl ?_
  refine lv_iconst (v := iv 0) hx hb dX7_cellParts_10 rfl ?_
  have e_13 : μ4.1 23 2 = P := ((F_6.1 23 (ni hprP (fun P => 23) (fun P => [P, P + 1]) rfl) 2).trans hP.symm)
  have e_14 : μ4.1 23 8 = tt := ((F_6.1 23 (ni hprP (fun P => 23) (fun P => [P, P + 1]) rfl) 8).trans htt.symm)
  have e_15 : μ4.1 P 1 = μ.1 P 1 + 1 := hs_10
  have e_16 : μ4.1 P 1 = μ.1 P 1 + 1 := hs_10
  have e_17 : μ4.1 P 1 = μ.1 P 1 + 1 := hs_10
  refine xc_iV G (b := 23) (rest := []) (As := [.int (iv (-1)), .int (iv 0)]) (c_X7_ifFails ω l μ4 (-1) 0 μ (1) (1) P tt (by unfold ir; omega) (by unfold ir; omega) hI_7 (by omega) (by omega) (by omega) hpx_12 (by omega) (by omega)) (wm 4 23 rfl rfl) (wm 4 25 rfl rfl) (wm 0 29 rfl rfl) rfl rfl (by decide) rfl (wm 1 12 rfl rfl) (wm 4 26 rfl rfl) (by decide) hR ⟨nfr hF (by decide), nlo hLo (by decide)⟩ (n := 2) rfl rfl (Nat.le_of_ble_eq_true rfl) hl.1 dX7_cellParts_11 (fun r_19 μ18 ρ d0 H locs hr_r_19 hp G => ?_)
  have hr_r_19 : -2147483648 ≤ r_19 ∧ r_19 ≤ 2147483647 := hr_r_19
  obtain ⟨F_20, hI_21, hp_22, hp_23, hs_24⟩ := hp
  have hk_25 := hI_21.pr (p := P) hprP
  unfold pk at hk_25
  have hc_26 : 16 ≤ μ18.2.1 (P + 1) ∧ μ18.2.1 (P + 1) ≤ 73024 := hI_21.rm.1 _ hprP.cap
  have hpx_27 : μ18.1 26 11 = 0 → PXE μ μ18 P tt 1 r_19 1 := fun h0 => hp_22 (by have h9 : μ4.1 26 11 = μ.1 26 11 := (F_6.1 26 (ni hprP (fun P => 26) (fun P => [P, P + 1]) rfl) 11); have h8 : μ18.1 26 11 = μ.1 26 11 := ((F_20.1 26 (ni hprP (fun P => 26) (fun P => [P, P + 1]) rfl) 11).trans (F_6.1 26 (ni hprP (fun P => 26) (fun P => [P, P + 1]) rfl) 11)); omega)
  clear hp_22
  refine lv_istore_n (lv' := [(2, .int (iv r_19)), (0, .ref (oP ω 23)), (1, .int (iv x1))]) hx hb dX7_cellParts_14 rfl hl (by decide) rfl (fun ls hl => ?_)
  refine lv_aload_n hx hb dX7_cellParts_15 rfl (lv_at hl 1 rfl) ?_
  refine lv_bipush (v := iv 91) hx hb dX7_cellParts_16 rfl ?_
  refine lv_bipush (v := iv 93) hx hb dX7_cellParts_18 rfl ?_
  have e_28 : μ18.1 23 2 = P := ((F_20.1 23 (ni hprP (fun P => 23) (fun P => [P, P + 1]) rfl) 2).trans ((F_6.1 23 (ni hprP (fun P => 23) (fun P => [P, P + 1]) rfl) 2).trans hP.symm))
  have e_29 : μ18.1 23 8 = tt := ((F_20.1 23 (ni hprP (fun P => 23) (fun P => [P, P + 1]) rfl) 8).trans ((F_6.1 23 (ni hprP (fun P => 23) (fun P => [P, P + 1]) rfl) 8).trans htt.symm))
  have htk_30 : TK μ18 := hTK.fr (K := [P, P + 1]) (Fr.tr (Fr.tr Fr.rf F_6 (si hprP (fun P => [P, P + 1]) (fun P => [P, P + 1]) rfl)) F_20 (si hprP (fun P => [P, P + 1]) (fun P => [P, P + 1]) rfl)) (ni hprP (fun P => 26) (fun P => [P, P + 1]) rfl) (ni hprP (fun P => 28) (fun P => [P, P + 1]) rfl)
  have hn_31 : -1 ≤ μ.1 26 10 ∧ μ.1 26 10 ≤ 3000 := hI.nm.2.2.2.2.2.2.2.2.2.2.2.2
  have e_32 : μ18.1 26 10 = μ.1 26 10 := ((F_20.1 26 (ni hprP (fun P => 26) (fun P => [P, P + 1]) rfl) 10).trans (F_6.1 26 (ni hprP (fun P => 26) (fun P => [P, P + 1]) rfl) 10))
  have e_33 : μ18.1 26 11 = μ.1 26 11 := ((F_20.1 26 (ni hprP (fun P => 26) (fun P => [P, P + 1]) rfl) 11).trans (F_6.1 26 (ni hprP (fun P => 26) (fun P => [P, P + 1]) rfl) 11))
  have hk_34 := hI.row (r := P + 2) (hprP.row)
  unfold rk at hk_34
  have e_35 : μ18.1 (P + 2) 3 = μ.1 (P + 2) 3 := ((F_20.1 (P + 2) (ni hprP (fun P => P + 2) (fun P => [P, P + 1]) rfl) 3).trans (F_6.1 (P + 2) (ni hprP (fun P => P + 2) (fun P => [P, P + 1]) rfl) 3))
  have e_36 : μ18.1 23 9 = μ.1 23 9 := ((F_20.1 23 (ni hprP (fun P => 23) (fun P => [P, P + 1]) rfl) 9).trans (F_6.1 23 (ni hprP (fun P => 23) (fun P => [P, P + 1]) rfl) 9))
  have e_37 : μ18.1 23 9 = μ.1 23 9 := ((F_20.1 23 (ni hprP (fun P => 23) (fun P => [P, P + 1]) rfl) 9).trans (F_6.1 23 (ni hprP (fun P => 23) (fun P => [P, P + 1]) rfl) 9))
  have e_38 : μ18.1 23 9 = μ.1 23 9 := ((F_20.1 23 (ni hprP (fun P => 23) (fun P => [P, P + 1]) rfl) 9).trans (F_6.1 23 (ni hprP (fun P => 23) (fun P => [P, P + 1]) rfl) 9))
  have e_39 : μ18.1 26 11 = μ.1 26 11 := ((F_20.1 26 (ni hprP (fun P => 26) (fun P => [P, P + 1]) rfl) 11).trans (F_6.1 26 (ni hprP (fun P => 26) (fun P => [P, P + 1]) rfl) 11))
  have e_40 : μ18.1 26 10 = μ.1 26 10 := ((F_20.1 26 (ni hprP (fun P => 26) (fun P => [P, P + 1]) rfl) 10).trans (F_6.1 26 (ni hprP (fun P => 26) (fun P => [P, P + 1]) rfl) 10))
  have e_41 : μ18.1 26 10 = μ.1 26 10 := ((F_20.1 26 (ni hprP (fun P => 26) (fun P => [P, P + 1]) rfl) 10).trans (F_6.1 26 (ni hprP (fun P => 26) (fun P => [P, P + 1]) rfl) 10))
  have e_42 : μ18.1 (P + 2) 3 = μ.1 (P + 2) 3 := ((F_20.1 (P + 2) (ni hprP (fun P => P + 2) (fun P => [P, P + 1]) rfl) 3).trans (F_6.1 (P + 2) (ni hprP (fun P => P + 2) (fun P => [P, P + 1]) rfl) 3))
  have e_43 : μ18.1 (P + 2) 3 = μ.1 (P + 2) 3 := ((F_20.1 (P + 2) (ni hprP (fun P => P + 2) (fun P => [P, P + 1]) rfl) 3).trans (F_6.1 (P + 2) (ni hprP (fun P => P + 2) (fun P => [P, P + 1]) rfl) 3))
  refine xc_vV G (b := 23) (rest := []) (As := [.int (iv 91), .int (iv 93)]) (c_X7_inBrackets ω l μ18 91 93 F Lo kf P tt (by unfold ir; omega) (by unfold ir; omega) hI_21 (by omega) (by omega) hF hLo hE hU htk_30 (by omega) (by omega) (by omega) (by omega) (by omega) (by omega) (by omega)) (wm 4 92 rfl rfl) (wm 4 94 rfl rfl) (wm 0 39 rfl rfl) rfl rfl (by decide) rfl (wm 1 12 rfl rfl) (wm 4 95 rfl rfl) (by decide) hR ⟨sfr (F := F) (a := 1) (by decide), slo (L := Lo) (m := 3) (a := 22) (by decide)⟩ (n := 2) rfl rfl (Nat.le_of_ble_eq_true rfl) hl.1 dX7_cellParts_20 (fun μ44 ρ d0 H locs hp G => ?_)
  obtain ⟨F_45, hI_46, hp_47, hp_48, hp_49, hp_50, hp_51, hp_52, hs_53, hs_54, hs_55, hs_56, hs_57, hs_58, hs_59, hs_60, hs_61⟩ := hp
  have hn_62 : -1 ≤ μ44.1 26 10 ∧ μ44.1 26 10 ≤ 3000 := hI_46.nm.2.2.2.2.2.2.2.2.2.2.2.2
  have hk_63 := hI_46.pr (p := P) hprP
  unfold pk at hk_63
  have hc_64 : 16 ≤ μ44.2.1 (P + 1) ∧ μ44.2.1 (P + 1) ≤ 73024 := hI_46.rm.1 _ hprP.cap
  have hk_65 := hI_46.row (r := P + 2) (hprP.row)
  unfold rk at hk_65
  have htb_66 := hp_47.b
  have hpx_67 : μ44.1 26 11 = 0 → PXE μ μ44 P tt 2 r_19 1 := fun h0 => (PXE.app (hpx_27 (by have h9 : μ18.1 26 11 = μ.1 26 11 := ((F_20.1 26 (ni hprP (fun P => 26) (fun P => [P, P + 1]) rfl) 11).trans (F_6.1 26 (ni hprP (fun P => 26) (fun P => [P, P + 1]) rfl) 11)); have h8 : μ44.1 26 11 = μ44.1 26 11 := rfl; omega)) (hp_52 h0)).e (by omega)
  refine lv_aload_n hx hb dX7_cellParts_23 rfl (lv_at hl 1 rfl) ?_
  refine lv_iload_n hx hb dX7_cellParts_24 rfl (lv_at hl 0 rfl) ?_
  refine lv_iconst (v := iv 1) hx hb dX7_cellParts_25 rfl ?_
  have e_68 : μ44.1 23 2 = P := (hs_53.trans ((F_20.1 23 (ni hprP (fun P => 23) (fun P => [P, P + 1]) rfl) 2).trans ((F_6.1 23 (ni hprP (fun P => 23) (fun P => [P, P + 1]) rfl) 2).trans hP.symm)))
  have e_69 : μ44.1 23 8 = tt := (hs_57.trans ((F_20.1 23 (ni hprP (fun P => 23) (fun P => [P, P + 1]) rfl) 8).trans ((F_6.1 23 (ni hprP (fun P => 23) (fun P => [P, P + 1]) rfl) 8).trans htt.symm)))
  refine xc_iV G (b := 23) (rest := []) (As := [.int (iv r_19), .int (iv 1)]) (c_X7_ifFails ω l μ44 r_19 1 μ (2) (1) P tt (by unfold ir; omega) (by unfold ir; omega) hI_46 (by omega) (by omega) (by omega) hpx_67 (by omega) (by omega)) (wm 4 23 rfl rfl) (wm 4 25 rfl rfl) (wm 0 29 rfl rfl) rfl rfl (by decide) rfl (wm 1 12 rfl rfl) (wm 4 26 rfl rfl) (by decide) hR ⟨nfr hF (by decide), nlo hLo (by decide)⟩ (n := 2) rfl rfl (Nat.le_of_ble_eq_true rfl) hl.1 dX7_cellParts_26 (fun r_71 μ70 ρ d0 H locs hr_r_71 hp G => ?_)
  have hr_r_71 : -2147483648 ≤ r_71 ∧ r_71 ≤ 2147483647 := hr_r_71
  obtain ⟨F_72, hI_73, hp_74, hp_75, hs_76⟩ := hp
  have hk_77 := hI_73.pr (p := P) hprP
  unfold pk at hk_77
  have hc_78 : 16 ≤ μ70.2.1 (P + 1) ∧ μ70.2.1 (P + 1) ≤ 73024 := hI_73.rm.1 _ hprP.cap
  have hpx_79 : μ70.1 26 11 = 0 → PXE μ μ70 P tt 2 r_71 1 := fun h0 => hp_74 (by have h9 : μ44.1 26 11 = μ44.1 26 11 := rfl; have h8 : μ70.1 26 11 = μ44.1 26 11 := (F_72.1 26 (ni hprP (fun P => 26) (fun P => [P, P + 1]) rfl) 11); omega)
  clear hp_74
  have htk_80 : TK μ70 := hp_47.fr (K := [P, P + 1]) (Fr.tr Fr.rf F_72 (si hprP (fun P => [P, P + 1]) (fun P => [P, P + 1]) rfl)) (ni hprP (fun P => 26) (fun P => [P, P + 1]) rfl) (ni hprP (fun P => 28) (fun P => [P, P + 1]) rfl)
  have e_81 : μ70.1 26 11 = μ44.1 26 11 := (F_72.1 26 (ni hprP (fun P => 26) (fun P => [P, P + 1]) rfl) 11)
  have e_82 : μ70.1 26 11 = μ44.1 26 11 := (F_72.1 26 (ni hprP (fun P => 26) (fun P => [P, P + 1]) rfl) 11)
  have e_83 : μ70.1 26 10 = μ44.1 26 10 := (F_72.1 26 (ni hprP (fun P => 26) (fun P => [P, P + 1]) rfl) 10)
  have e_84 : μ70.1 26 10 = μ44.1 26 10 := (F_72.1 26 (ni hprP (fun P => 26) (fun P => [P, P + 1]) rfl) 10)
  have e_85 : μ70.1 26 11 = μ44.1 26 11 := (F_72.1 26 (ni hprP (fun P => 26) (fun P => [P, P + 1]) rfl) 11)
  have e_86 : μ70.1 (P + 2) 3 = μ44.1 (P + 2) 3 := (F_72.1 (P + 2) (ni hprP (fun P => P + 2) (fun P => [P, P + 1]) rfl) 3)
  have e_87 : μ70.1 (P + 2) 3 = μ44.1 (P + 2) 3 := (F_72.1 (P + 2) (ni hprP (fun P => P + 2) (fun P => [P, P + 1]) rfl) 3)
  exact xr_i G (x := r_71) hret hlk (by unfold ir; omega) rfl dX7_cellParts_29 ⟨(Fr.tr (Fr.tr (Fr.tr (Fr.tr Fr.rf F_6 (si hprP (fun P => [P, P + 1]) (fun P => [2, 3, 4, 23, 24, 26, P, P + 1, P + 2, (P + 2) + 1, (P + 2) + 2, (P + 2) + 3]) rfl)) F_20 (si hprP (fun P => [P, P + 1]) (fun P => [2, 3, 4, 23, 24, 26, P, P + 1, P + 2, (P + 2) + 1, (P + 2) + 2, (P + 2) + 3]) rfl)) F_45 (si hprP (fun P => [2, 3, 4, 23, 24, 26, P, P + 1, P + 2, (P + 2) + 1, (P + 2) + 2, (P + 2) + 3]) (fun P => [2, 3, 4, 23, 24, 26, P, P + 1, P + 2, (P + 2) + 1, (P + 2) + 2, (P + 2) + 3]) rfl)) F_72 (si hprP (fun P => [P, P + 1]) (fun P => [2, 3, 4, 23, 24, 26, P, P + 1, P + 2, (P + 2) + 1, (P + 2) + 2, (P + 2) + 3]) rfl)), hI_73, htk_80, (by omega), (by omega), (by omega), (by omega), (fun h0 => (hpx_79 h0).e (by omega)), (((F_72.1 23 (ni hprP (fun P => 23) (fun P => [P, P + 1]) rfl) 2).trans (hs_53.trans ((F_20.1 23 (ni hprP (fun P => 23) (fun P => [P, P + 1]) rfl) 2).trans ((F_6.1 23 (ni hprP (fun P => 23) (fun P => [P, P + 1]) rfl) 2).trans hP.symm))))).trans hP, ((F_72.1 23 (ni hprP (fun P => 23) (fun P => [P, P + 1]) rfl) 5).trans (hs_54.trans ((F_20.1 23 (ni hprP (fun P => 23) (fun P => [P, P + 1]) rfl) 5).trans (F_6.1 23 (ni hprP (fun P => 23) (fun P => [P, P + 1]) rfl) 5)))), ((F_72.1 23 (ni hprP (fun P => 23) (fun P => [P, P + 1]) rfl) 6).trans (hs_55.trans ((F_20.1 23 (ni hprP (fun P => 23) (fun P => [P, P + 1]) rfl) 6).trans (F_6.1 23 (ni hprP (fun P => 23) (fun P => [P, P + 1]) rfl) 6)))), ((F_72.1 23 (ni hprP (fun P => 23) (fun P => [P, P + 1]) rfl) 7).trans (hs_56.trans ((F_20.1 23 (ni hprP (fun P => 23) (fun P => [P, P + 1]) rfl) 7).trans (F_6.1 23 (ni hprP (fun P => 23) (fun P => [P, P + 1]) rfl) 7)))), (((F_72.1 23 (ni hprP (fun P => 23) (fun P => [P, P + 1]) rfl) 8).trans (hs_57.trans ((F_20.1 23 (ni hprP (fun P => 23) (fun P => [P, P + 1]) rfl) 8).trans ((F_6.1 23 (ni hprP (fun P => 23) (fun P => [P, P + 1]) rfl) 8).trans htt.symm))))).trans htt, ((F_72.1 23 (ni hprP (fun P => 23) (fun P => [P, P + 1]) rfl) 9).trans (hs_58.trans ((F_20.1 23 (ni hprP (fun P => 23) (fun P => [P, P + 1]) rfl) 9).trans (F_6.1 23 (ni hprP (fun P => 23) (fun P => [P, P + 1]) rfl) 9)))), ((F_72.1 23 (ni hprP (fun P => 23) (fun P => [P, P + 1]) rfl) 10).trans (hs_59.trans ((F_20.1 23 (ni hprP (fun P => 23) (fun P => [P, P + 1]) rfl) 10).trans (F_6.1 23 (ni hprP (fun P => 23) (fun P => [P, P + 1]) rfl) 10)))), ((F_72.1 26 (ni hprP (fun P => 26) (fun P => [P, P + 1]) rfl) 6).trans (hs_60.trans ((F_20.1 26 (ni hprP (fun P => 26) (fun P => [P, P + 1]) rfl) 6).trans (F_6.1 26 (ni hprP (fun P => 26) (fun P => [P, P + 1]) rfl) 6)))), (hs_76.trans (hs_61.trans (hs_24.trans hs_11)))⟩

set_option maxHeartbeats 4000000 in
set_option maxRecDepth 100000 in
theorem c_X7_afterName (ω : Om) (l : Launch) (μ : M3) (x1 : Int) (x2 : Int) (F : Nat) (Lo : Nat) (kf : Int) (P : Int) (tt : Int) (hx1 : jr x1) (hx2 : ir x2) (hI : IC μ) (hP : P = μ.1 23 2) (htt : tt = μ.1 23 8) (hF : 60 ≤ F) (hLo : 2000 ≤ Lo) (hE : ∀ (μ : M3) (x1 : Int) (P : Int) (tt : Int) (hx1 : x1 = 0 ∨ x1 = 1) (hI : IC μ) (hP : P = μ.1 23 2) (htt : tt = μ.1 23 8) (hTK : TK μ) (hB : μ.1 P 1 ≤ 2 * μ.1 26 10 + 100 + 40 * μ.1 26 11) (hKc : μ.1 (P + 2) 3 ≤ μ.1 P 1) (ht3 : 0 ≤ tt ∧ tt ≤ 3) (hdp : 0 ≤ μ.1 23 9 ∧ μ.1 23 9 ≤ 8 + μ.1 26 11) (hfu : 0 ≤ (kf - 1) ∧ 9 ≤ μ.1 23 9 + (kf - 1) + 20 * μ.1 26 11) (hbg : ∀ _ : Unit, x1 = 0 ∨ μ.1 26 11 ≠ 0 ∨ 2 ≤ hs μ P (μ.1 P 1)), CtV ω l yX7_expression cX7_expression 3 (F + 0) (Lo + 0) [.ref (oP ω 23), .int (iv x1)] μ (fun (μ' : M3) => (Fr [2, 3, 4, 23, 24, 26, P, P + 1, P + 2, (P + 2) + 1, (P + 2) + 2, (P + 2) + 3] μ μ') ∧ (IC μ') ∧ (TK μ') ∧ (μ.1 26 11 ≤ μ'.1 26 11) ∧ (μ.1 26 10 ≤ μ'.1 26 10) ∧ (μ.1 P 1 ≤ μ'.1 P 1 ∧ μ'.1 P 1 ≤ μ.1 P 1 + 2 * (μ'.1 26 10 - μ.1 26 10) + (- 1 + 3 * μ'.1 26 11 - 2 * μ.1 26 11 + x1)) ∧ (μ'.1 (P + 2) 3 - μ.1 (P + 2) 3 ≤ μ'.1 P 1 - μ.1 P 1 ∧ μ.1 (P + 2) 3 ≤ μ'.1 (P + 2) 3) ∧ (μ'.1 26 11 = 0 → EX μ μ' P tt (1 - x1) 0) ∧ (μ'.1 23 2 = μ.1 23 2) ∧ (μ'.1 23 5 = μ.1 23 5) ∧ (μ'.1 23 6 = μ.1 23 6) ∧ (μ'.1 23 7 = μ.1 23 7) ∧ (μ'.1 23 8 = μ.1 23 8) ∧ (μ'.1 23 9 = μ.1 23 9) ∧ (μ'.1 23 10 = μ.1 23 10) ∧ (μ'.1 26 6 = μ.1 26 6) ∧ (μ'.1 P 7 = μ.1 P 7))) (hU : ∀ (μ : M3) (x1 : Int) (P : Int) (tt : Int) (hx1 : x1 = 0 ∨ x1 = 1) (hI : IC μ) (hP : P = μ.1 23 2) (htt : tt = μ.1 23 8) (hTK : TK μ) (hB : μ.1 P 1 ≤ 2 * μ.1 26 10 + 100 + 40 * μ.1 26 11) (hKc : μ.1 (P + 2) 3 ≤ μ.1 P 1) (ht3 : 0 ≤ tt ∧ tt ≤ 3) (hdp : 0 ≤ μ.1 23 9 ∧ μ.1 23 9 ≤ 8 + μ.1 26 11) (hfu : 0 ≤ (kf - 1) ∧ 9 ≤ μ.1 23 9 + (kf - 1) + 20 * μ.1 26 11) (hbg : ∀ _ : Unit, x1 = 0 ∨ μ.1 26 11 ≠ 0 ∨ 2 ≤ hs μ P (μ.1 P 1)), CtV ω l yX7_unary cX7_unary 2 (F + 0) (Lo + 0) [.ref (oP ω 23), .int (iv x1)] μ (fun (μ' : M3) => (Fr [2, 3, 4, 23, 24, 26, P, P + 1, P + 2, (P + 2) + 1, (P + 2) + 2, (P + 2) + 3] μ μ') ∧ (IC μ') ∧ (TK μ') ∧ (μ.1 26 11 ≤ μ'.1 26 11) ∧ (μ.1 26 10 ≤ μ'.1 26 10) ∧ (μ.1 P 1 ≤ μ'.1 P 1 ∧ μ'.1 P 1 ≤ μ.1 P 1 + 2 * (μ'.1 26 10 - μ.1 26 10) + (- 1 + 3 * μ'.1 26 11 - 2 * μ.1 26 11 + x1)) ∧ (μ'.1 (P + 2) 3 - μ.1 (P + 2) 3 ≤ μ'.1 P 1 - μ.1 P 1 ∧ μ.1 (P + 2) 3 ≤ μ'.1 (P + 2) 3) ∧ (μ'.1 26 11 = 0 → EX μ μ' P tt (1 - x1) 0) ∧ (μ'.1 23 2 = μ.1 23 2) ∧ (μ'.1 23 5 = μ.1 23 5) ∧ (μ'.1 23 6 = μ.1 23 6) ∧ (μ'.1 23 7 = μ.1 23 7) ∧ (μ'.1 23 8 = μ.1 23 8) ∧ (μ'.1 23 9 = μ.1 23 9) ∧ (μ'.1 23 10 = μ.1 23 10) ∧ (μ'.1 26 6 = μ.1 26 6) ∧ (μ'.1 P 7 = μ.1 P 7))) (hTK : TK μ) (hB : μ.1 P 1 ≤ 2 * μ.1 26 10 + 100 + 40 * μ.1 26 11) (hKc : μ.1 (P + 2) 3 ≤ μ.1 P 1) (ht3 : 0 ≤ tt ∧ tt ≤ 3) (hdp : 0 ≤ μ.1 23 9 ∧ μ.1 23 9 ≤ 8) (hfu : 9 ≤ μ.1 23 9 + kf) (hs0 : μ.1 26 11 = 0) : CtV ω l yX7_afterName cX7_afterName 5 (F + 3) (Lo + 66) [.ref (oP ω 23), .long (jv x1), .int (iv x2)] μ (fun (μ' : M3) => (Fr [2, 3, 4, 23, 24, 26, P, P + 1, P + 2, (P + 2) + 1, (P + 2) + 2, (P + 2) + 3] μ μ') ∧ (IC μ') ∧ (TK μ') ∧ (μ.1 26 11 ≤ μ'.1 26 11) ∧ (μ.1 26 10 ≤ μ'.1 26 10) ∧ (μ.1 P 1 ≤ μ'.1 P 1 ∧ μ'.1 P 1 ≤ μ.1 P 1 + 2 * (μ'.1 26 10 - μ.1 26 10) + (1 + 3 * μ'.1 26 11)) ∧ (μ'.1 (P + 2) 3 - μ.1 (P + 2) 3 ≤ μ'.1 P 1 - μ.1 P 1 ∧ μ.1 (P + 2) 3 ≤ μ'.1 (P + 2) 3) ∧ (μ'.1 26 11 = 0 → EX μ μ' P tt 1 0) ∧ (μ'.1 23 2 = μ.1 23 2) ∧ (μ'.1 23 5 = μ.1 23 5) ∧ (μ'.1 23 6 = μ.1 23 6) ∧ (μ'.1 23 7 = μ.1 23 7) ∧ (μ'.1 23 8 = μ.1 23 8) ∧ (μ'.1 23 9 = μ.1 23 9) ∧ (μ'.1 23 10 = μ.1 23 10) ∧ (μ'.1 26 6 = μ.1 26 6) ∧ (μ'.1 P 7 = μ.1 P 7)) := by
  refine CtV.go (by decide) (Nat.le_of_ble_eq_true rfl) (fun ρ p e s m below meth c R ls G hR hret hlk hl => ?_)
  have hx := G.1.1
  have hb := G.1.2.1
  have hl : lv_has ls 5 [(0, .ref (oP ω 23)), (1, .long (jv x1)), (3, .int (iv x2))] := hl
  generalize s.drawn = d0 at G ⊢
  have hr_x2 : -2147483648 ≤ x2 ∧ x2 ≤ 2147483647 := hx2
  have hTKb := hTK.b
  have hprP : isPr P := by have h9 := G.sr0.2.2.2.2.2; rw [← hP] at h9; exact h9
  have hprP_d : 13 ≤ P ∧ P ≤ 101 := by rcases hprP with h9 | h9 | h9 | h9 | h9 <;> omega
  have hk_1 := hI.pr (p := P) hprP
  unfold pk at hk_1
  have hc_2 : 16 ≤ μ.2.1 (P + 1) ∧ μ.2.1 (P + 1) ≤ 73024 := hI.rm.1 _ hprP.cap
  have hnil : μ.1 26 11 = 0 → PXE μ μ P tt 0 (-1) 1 := fun _ => PXE.nil (by omega)
  refine lv_aload_n hx hb dX7_afterName_0 rfl (lv_at hl 0 rfl) ?_
  refine xa_getr G fd_X7 (a := 23) (x := 26) 0 rfl (by decide) rfl (wm 2 17 rfl rfl) ⟨rfl, rfl, rfl⟩ dX7_afterName_1 rfl (G.sk 23 rfl) (by decide) rfl ?_
  refine xa_getN G fd_X10 (host := "FourTongues") (a := 26) 12 rfl (by decide) (by decide) ⟨rfl, rfl, rfl⟩ dX7_afterName_4 rfl (v := .int (iv (μ.1 26 12))) (by rw [show μ.1 26 12 = μ.1 26 12 from rfl]; rfl) ?_
  have hr_3 : -2147483648 ≤ μ.1 26 12 ∧ μ.1 26 12 ≤ 2147483647 := by have h9 := G.hr (a := 26) (k := 12) rfl; exact h9
  refine lv_bipush (v := iv 40) hx hb dX7_afterName_7 rfl ?_
  refine xb_icmp_ne (tgt := 25) hx hb (by unfold ir; omega) (by unfold ir; omega) dX7_afterName_9 (by decide) (fun c_9 => ?_) (fun c_9 => ?_)
  · refine lv_aload_n hx hb dX7_afterName_25 rfl (lv_at hl 0 rfl) ?_
    refine lv_lload_n hx hb dX7_afterName_26 rfl (lv_at hl 1 rfl) ?_
    refine lv_iload_n hx hb dX7_afterName_27 rfl (lv_at hl 2 rfl) ?_
    refine xc_iV G (b := 23) (rest := []) (As := [.long (jv x1), .int (iv x2)]) (c_X7_variableAt ω l μ x1 x2 hx1 (by unfold ir; omega) hI) (wm 4 84 rfl rfl) (wm 4 86 rfl rfl) (wm 0 37 rfl rfl) rfl rfl (by decide) rfl (wm 1 12 rfl rfl) (wm 4 87 rfl rfl) (by decide) hR ⟨nfr hF (by decide), nlo hLo (by decide)⟩ (n := 2) rfl rfl (Nat.le_of_ble_eq_true rfl) hl.1 dX7_afterName_28 (fun r_5 μ4 ρ d0 H locs hr_r_5 hp G => ?_)
    have hr_r_5 : -2147483648 ≤ r_5 ∧ r_5 ≤ 2147483647 := hr_r_5
    obtain ⟨F_6, hI_7, hp_8⟩ := hp
    refine lv_istore (lv' := [(4, .int (iv r_5)), (0, .ref (oP ω 23)), (1, .long (jv x1)), (3, .int (iv x2))]) hx hb dX7_afterName_31 hl (by decide) rfl (fun ls hl => ?_)
    refine lv_aload_n hx hb dX7_afterName_33 rfl (lv_at hl 1 rfl) ?_
    refine xa_getr G fd_X7 (a := 23) (x := 26) 0 rfl (by decide) rfl (wm 2 17 rfl rfl) ⟨rfl, rfl, rfl⟩ dX7_afterName_34 rfl (G.sk 23 rfl) (by decide) rfl ?_
    refine xa_getN G fd_X10 (host := "FourTongues") (a := 26) 12 rfl (by decide) (by decide) ⟨rfl, rfl, rfl⟩ dX7_afterName_37 rfl (v := .int (iv (μ.1 26 12))) (by rw [show μ4.1 26 12 = μ.1 26 12 from (F_6.1 26 (by decide) 12)]; rfl) ?_
    refine lv_bipush (v := iv 91) hx hb dX7_afterName_40 rfl ?_
    refine xb_icmp_ne (tgt := 60) hx hb (by unfold ir; omega) (by unfold ir; omega) dX7_afterName_42 (by decide) (fun c_42 => ?_) (fun c_42 => ?_)
    · refine lv_aload_n hx hb dX7_afterName_60 rfl (lv_at hl 1 rfl) ?_
      refine lv_iconst (v := iv 4) hx hb dX7_afterName_61 rfl ?_
      refine lv_iload hx hb dX7_afterName_62 (lv_at hl 0 rfl) ?_
      refine lv_iconst (v := iv 0) hx hb dX7_afterName_64 rfl ?_
      have hpx_9 : μ4.1 26 11 = 0 → PXE μ μ4 P tt 0 (-1) 1 := fun h0 => (hnil (by have h9 : μ.1 26 11 = μ.1 26 11 := rfl; have h8 : μ4.1 26 11 = μ.1 26 11 := (F_6.1 26 (by decide) 11); omega)).fr (K := [24]) (Fr.tr Fr.rf F_6 (by decide)) (npL_p (L := [24]) (by decide) hprP).1 (npL_p (L := [24]) (by decide) hprP).2.1
      have e_10 : μ4.1 23 2 = P := ((F_6.1 23 (by decide) 2).trans hP.symm)
      have e_11 : μ4.1 P 1 = μ.1 P 1 := (F_6.1 P (ni hprP (fun P => P) (fun P => [24]) rfl) 1)
      have e_12 : μ4.1 P 1 = μ.1 P 1 := (F_6.1 P (ni hprP (fun P => P) (fun P => [24]) rfl) 1)
      have e_13 : μ4.1 P 1 = μ.1 P 1 := (F_6.1 P (ni hprP (fun P => P) (fun P => [24]) rfl) 1)
      refine xc_iV G (b := 23) (rest := []) (As := [.int (iv 4), .int (iv r_5), .int (iv 0)]) (c_X7_add ω l μ4 4 r_5 0 P (by unfold ir; omega) (by unfold ir; omega) (by unfold ir; omega) hI_7 (by omega) (by omega)) (wm 3 226 rfl rfl) (wm 3 228 rfl rfl) (wm 0 21 rfl rfl) rfl rfl (by decide) rfl (wm 1 12 rfl rfl) (wm 3 229 rfl rfl) (by decide) hR ⟨nfr hF (by decide), nlo hLo (by decide)⟩ (n := 3) rfl rfl (Nat.le_of_ble_eq_true rfl) hl.1 dX7_afterName_65 (fun r_15 μ14 ρ d0 H locs hr_r_15 hp G => ?_)
      have hr_r_15 : -2147483648 ≤ r_15 ∧ r_15 ≤ 2147483647 := hr_r_15
      obtain ⟨F_16, hI_17, hp_18, hp_19, hs_20, hs_21⟩ := hp
      have hpx_22 : μ14.1 26 11 = 0 → PXE μ μ14 P tt 1 (-1) 1 := fun h0 => (PXE.app (hpx_9 (by have h9 : μ4.1 26 11 = μ.1 26 11 := (F_6.1 26 (by decide) 11); have h8 : μ14.1 26 11 = μ.1 26 11 := ((F_16.1 26 (ni hprP (fun P => 26) (fun P => [P, P + 1]) rfl) 11).trans (F_6.1 26 (by decide) 11)); omega)) (EX.pl hp_19 (by omega) (by unfold plain; omega) (e := 1) rfl (by have h9 := hs_1 (μ := μ4) (P := P) (i := μ4.1 P 1); omega))).e (by omega)
      refine lv_pop hx hb dX7_afterName_68 rfl ?_
      refine lv_aload_n hx hb dX7_afterName_69 rfl (lv_at hl 1 rfl) ?_
      refine lv_bipush (v := iv 33) hx hb dX7_afterName_70 rfl ?_
      have htk_23 : TK μ14 := hTK.fr (K := [P, P + 1, 24]) (Fr.tr (Fr.tr Fr.rf F_6 (si hprP (fun P => [24]) (fun P => [P, P + 1, 24]) rfl)) F_16 (si hprP (fun P => [P, P + 1]) (fun P => [P, P + 1, 24]) rfl)) (ni hprP (fun P => 26) (fun P => [P, P + 1, 24]) rfl) (ni hprP (fun P => 28) (fun P => [P, P + 1, 24]) rfl)
      have hn_24 : -1 ≤ μ.1 26 10 ∧ μ.1 26 10 ≤ 3000 := hI.nm.2.2.2.2.2.2.2.2.2.2.2.2
      have e_25 : μ14.1 26 10 = μ.1 26 10 := ((F_16.1 26 (ni hprP (fun P => 26) (fun P => [P, P + 1]) rfl) 10).trans (F_6.1 26 (by decide) 10))
      have e_26 : μ14.1 26 11 = μ.1 26 11 := ((F_16.1 26 (ni hprP (fun P => 26) (fun P => [P, P + 1]) rfl) 11).trans (F_6.1 26 (by decide) 11))
      refine xc_iV G (b := 23) (rest := []) (As := [.int (iv 33)]) (c_X7_took_b ω l μ14 33 (by unfold ir; omega) hI_17 htk_23 (by omega)) (wm 3 160 rfl rfl) (wm 3 162 rfl rfl) (wm 0 9 rfl rfl) rfl rfl (by decide) rfl (wm 1 12 rfl rfl) (wm 3 163 rfl rfl) (by decide) hR ⟨nfr hF (by decide), nlo hLo (by decide)⟩ (n := 1) rfl rfl (Nat.le_of_ble_eq_true rfl) hl.1 dX7_afterName_72 (fun r_28 μ27 ρ d0 H locs hr_r_28 hp G => ?_)
      have hr_r_28 : -2147483648 ≤ r_28 ∧ r_28 ≤ 2147483647 := hr_r_28
      obtain ⟨F_29, hI_30, hp_31, hp_32, hs_33, hs_34, hs_35, hs_36, hs_37⟩ := hp
      have hn_38 : -1 ≤ μ27.1 26 10 ∧ μ27.1 26 10 ≤ 3000 := hI_30.nm.2.2.2.2.2.2.2.2.2.2.2.2
      have htb_39 := hp_31.b
      refine xb_if_eq (tgt := 92) hx hb (by unfold ir; omega) dX7_afterName_75 (by decide) (fun c_75 => ?_) (fun c_75 => ?_)
      · have hpx_40 : μ27.1 26 11 = 0 → PXE μ μ27 P tt 1 (-1) 1 := fun h0 => (hpx_22 (by have h9 : μ14.1 26 11 = μ.1 26 11 := ((F_16.1 26 (ni hprP (fun P => 26) (fun P => [P, P + 1]) rfl) 11).trans (F_6.1 26 (by decide) 11)); have h8 : μ27.1 26 11 = μ.1 26 11 := (hs_33.trans ((F_16.1 26 (ni hprP (fun P => 26) (fun P => [P, P + 1]) rfl) 11).trans (F_6.1 26 (by decide) 11))); omega)).fr (K := [26]) (Fr.tr Fr.rf F_29 (by decide)) (npL_p (L := [26]) (by decide) hprP).1 (npL_p (L := [26]) (by decide) hprP).2.1
        have e_41 : μ27.1 26 11 = μ.1 26 11 := (hs_33.trans ((F_16.1 26 (ni hprP (fun P => 26) (fun P => [P, P + 1]) rfl) 11).trans (F_6.1 26 (by decide) 11)))
        have e_42 : μ27.1 26 11 = μ.1 26 11 := (hs_33.trans ((F_16.1 26 (ni hprP (fun P => 26) (fun P => [P, P + 1]) rfl) 11).trans (F_6.1 26 (by decide) 11)))
        have e_43 : μ27.1 P 1 = μ4.1 P 1 + 1 := ((F_29.1 P (ni hprP (fun P => P) (fun P => [26]) rfl) 1).trans hs_20)
        have e_44 : μ27.1 P 1 = μ4.1 P 1 + 1 := ((F_29.1 P (ni hprP (fun P => P) (fun P => [26]) rfl) 1).trans hs_20)
        have e_45 : μ27.1 26 11 = μ.1 26 11 := (hs_33.trans ((F_16.1 26 (ni hprP (fun P => 26) (fun P => [P, P + 1]) rfl) 11).trans (F_6.1 26 (by decide) 11)))
        have e_46 : μ27.1 (P + 2) 3 = μ.1 (P + 2) 3 := ((F_29.1 (P + 2) (ni hprP (fun P => P + 2) (fun P => [26]) rfl) 3).trans ((F_16.1 (P + 2) (ni hprP (fun P => P + 2) (fun P => [P, P + 1]) rfl) 3).trans (F_6.1 (P + 2) (ni hprP (fun P => P + 2) (fun P => [24]) rfl) 3)))
        have e_47 : μ27.1 P 1 = μ4.1 P 1 + 1 := ((F_29.1 P (ni hprP (fun P => P) (fun P => [26]) rfl) 1).trans hs_20)
        have e_48 : μ27.1 (P + 2) 3 = μ.1 (P + 2) 3 := ((F_29.1 (P + 2) (ni hprP (fun P => P + 2) (fun P => [26]) rfl) 3).trans ((F_16.1 (P + 2) (ni hprP (fun P => P + 2) (fun P => [P, P + 1]) rfl) 3).trans (F_6.1 (P + 2) (ni hprP (fun P => P + 2) (fun P => [24]) rfl) 3)))
        exact xr_v G hret hlk dX7_afterName_92 ⟨(Fr.tr (Fr.tr (Fr.tr Fr.rf F_6 (si hprP (fun P => [24]) (fun P => [2, 3, 4, 23, 24, 26, P, P + 1, P + 2, (P + 2) + 1, (P + 2) + 2, (P + 2) + 3]) rfl)) F_16 (si hprP (fun P => [P, P + 1]) (fun P => [2, 3, 4, 23, 24, 26, P, P + 1, P + 2, (P + 2) + 1, (P + 2) + 2, (P + 2) + 3]) rfl)) F_29 (si hprP (fun P => [26]) (fun P => [2, 3, 4, 23, 24, 26, P, P + 1, P + 2, (P + 2) + 1, (P + 2) + 2, (P + 2) + 3]) rfl)), hI_30, hp_31, (by omega), (by omega), (by omega), (by omega), (fun h0 => (PXE.ex (hpx_40 h0)).e (by omega)), (((F_29.1 23 (by decide) 2).trans ((F_16.1 23 (ni hprP (fun P => 23) (fun P => [P, P + 1]) rfl) 2).trans ((F_6.1 23 (by decide) 2).trans hP.symm)))).trans hP, ((F_29.1 23 (by decide) 5).trans ((F_16.1 23 (ni hprP (fun P => 23) (fun P => [P, P + 1]) rfl) 5).trans (F_6.1 23 (by decide) 5))), ((F_29.1 23 (by decide) 6).trans ((F_16.1 23 (ni hprP (fun P => 23) (fun P => [P, P + 1]) rfl) 6).trans (F_6.1 23 (by decide) 6))), ((F_29.1 23 (by decide) 7).trans ((F_16.1 23 (ni hprP (fun P => 23) (fun P => [P, P + 1]) rfl) 7).trans (F_6.1 23 (by decide) 7))), (((F_29.1 23 (by decide) 8).trans ((F_16.1 23 (ni hprP (fun P => 23) (fun P => [P, P + 1]) rfl) 8).trans ((F_6.1 23 (by decide) 8).trans htt.symm)))).trans htt, ((F_29.1 23 (by decide) 9).trans ((F_16.1 23 (ni hprP (fun P => 23) (fun P => [P, P + 1]) rfl) 9).trans (F_6.1 23 (by decide) 9))), ((F_29.1 23 (by decide) 10).trans ((F_16.1 23 (ni hprP (fun P => 23) (fun P => [P, P + 1]) rfl) 10).trans (F_6.1 23 (by decide) 10))), (hs_34.trans ((F_16.1 26 (ni hprP (fun P => 26) (fun P => [P, P + 1]) rfl) 6).trans (F_6.1 26 (by decide) 6))), ((F_29.1 P (ni hprP (fun P => P) (fun P => [26]) rfl) 7).trans (hs_21.trans (F_6.1 P (ni hprP (fun P => P) (fun P => [24]) rfl) 7)))⟩
      · refine lv_aload_n hx hb dX7_afterName_78 rfl (lv_at hl 1 rfl) ?_
        refine lv_bipush (v := iv 14) hx hb dX7_afterName_79 rfl ?_
        refine lv_iconst (v := iv 0) hx hb dX7_afterName_81 rfl ?_
        refine lv_lconst (v := jv 0) hx hb dX7_afterName_82 rfl ?_
        refine lv_aload_n hx hb dX7_afterName_83 rfl (lv_at hl 1 rfl) ?_
        refine lv_iconst (v := iv (-1)) hx hb dX7_afterName_84 rfl ?_
        refine lv_iconst (v := iv 0) hx hb dX7_afterName_85 rfl ?_
        have hpx_49 : μ27.1 26 11 = 0 → PXE μ μ27 P tt 1 (-1) 1 := fun h0 => (hpx_22 (by have h9 : μ14.1 26 11 = μ.1 26 11 := ((F_16.1 26 (ni hprP (fun P => 26) (fun P => [P, P + 1]) rfl) 11).trans (F_6.1 26 (by decide) 11)); have h8 : μ27.1 26 11 = μ.1 26 11 := (hs_33.trans ((F_16.1 26 (ni hprP (fun P => 26) (fun P => [P, P + 1]) rfl) 11).trans (F_6.1 26 (by decide) 11))); omega)).fr (K := [26]) (Fr.tr Fr.rf F_29 (by decide)) (npL_p (L := [26]) (by decide) hprP).1 (npL_p (L := [26]) (by decide) hprP).2.1
        have e_50 : μ27.1 23 2 = P := ((F_29.1 23 (by decide) 2).trans ((F_16.1 23 (ni hprP (fun P => 23) (fun P => [P, P + 1]) rfl) 2).trans ((F_6.1 23 (by decide) 2).trans hP.symm)))
        have e_51 : μ27.1 23 8 = tt := ((F_29.1 23 (by decide) 8).trans ((F_16.1 23 (ni hprP (fun P => 23) (fun P => [P, P + 1]) rfl) 8).trans ((F_6.1 23 (by decide) 8).trans htt.symm)))
        have e_52 : μ27.1 P 1 = μ4.1 P 1 + 1 := ((F_29.1 P (ni hprP (fun P => P) (fun P => [26]) rfl) 1).trans hs_20)
        have e_53 : μ27.1 P 1 = μ4.1 P 1 + 1 := ((F_29.1 P (ni hprP (fun P => P) (fun P => [26]) rfl) 1).trans hs_20)
        have e_54 : μ27.1 P 1 = μ4.1 P 1 + 1 := ((F_29.1 P (ni hprP (fun P => P) (fun P => [26]) rfl) 1).trans hs_20)
        refine xc_iV G (b := 23) (rest := [.long (jv 0), .int (iv 0), .int (iv 14), .ref (oP ω 23)]) (As := [.int (iv (-1)), .int (iv 0)]) (c_X7_ifFails ω l μ27 (-1) 0 μ (1) (1) P tt (by unfold ir; omega) (by unfold ir; omega) hI_30 (by omega) (by omega) (by omega) hpx_49 (by omega) (by omega)) (wm 4 23 rfl rfl) (wm 4 25 rfl rfl) (wm 0 29 rfl rfl) rfl rfl (by decide) rfl (wm 1 12 rfl rfl) (wm 4 26 rfl rfl) (by decide) hR ⟨nfr hF (by decide), nlo hLo (by decide)⟩ (n := 2) rfl rfl (Nat.le_of_ble_eq_true rfl) hl.1 dX7_afterName_86 (fun r_56 μ55 ρ d0 H locs hr_r_56 hp G => ?_)
        have hr_r_56 : -2147483648 ≤ r_56 ∧ r_56 ≤ 2147483647 := hr_r_56
        obtain ⟨F_57, hI_58, hp_59, hp_60, hs_61⟩ := hp
        have hk_62 := hI_58.pr (p := P) hprP
        unfold pk at hk_62
        have hc_63 : 16 ≤ μ55.2.1 (P + 1) ∧ μ55.2.1 (P + 1) ≤ 73024 := hI_58.rm.1 _ hprP.cap
        have hpx_64 : μ55.1 26 11 = 0 → PXE μ μ55 P tt 1 r_56 1 := fun h0 => hp_59 (by have h9 : μ27.1 26 11 = μ.1 26 11 := (hs_33.trans ((F_16.1 26 (ni hprP (fun P => 26) (fun P => [P, P + 1]) rfl) 11).trans (F_6.1 26 (by decide) 11))); have h8 : μ55.1 26 11 = μ.1 26 11 := ((F_57.1 26 (ni hprP (fun P => 26) (fun P => [P, P + 1]) rfl) 11).trans (hs_33.trans ((F_16.1 26 (ni hprP (fun P => 26) (fun P => [P, P + 1]) rfl) 11).trans (F_6.1 26 (by decide) 11)))); omega)
        clear hp_59
        have e_65 : μ55.1 23 2 = P := ((F_57.1 23 (ni hprP (fun P => 23) (fun P => [P, P + 1]) rfl) 2).trans ((F_29.1 23 (by decide) 2).trans ((F_16.1 23 (ni hprP (fun P => 23) (fun P => [P, P + 1]) rfl) 2).trans ((F_6.1 23 (by decide) 2).trans hP.symm))))
        have e_66 : μ55.1 23 8 = tt := ((F_57.1 23 (ni hprP (fun P => 23) (fun P => [P, P + 1]) rfl) 8).trans ((F_29.1 23 (by decide) 8).trans ((F_16.1 23 (ni hprP (fun P => 23) (fun P => [P, P + 1]) rfl) 8).trans ((F_6.1 23 (by decide) 8).trans htt.symm))))
        have htk_67 : TK μ55 := hp_31.fr (K := [P, P + 1]) (Fr.tr Fr.rf F_57 (si hprP (fun P => [P, P + 1]) (fun P => [P, P + 1]) rfl)) (ni hprP (fun P => 26) (fun P => [P, P + 1]) rfl) (ni hprP (fun P => 28) (fun P => [P, P + 1]) rfl)
        have e_68 : μ55.1 26 10 = μ27.1 26 10 := (F_57.1 26 (ni hprP (fun P => 26) (fun P => [P, P + 1]) rfl) 10)
        have e_69 : μ55.1 26 11 = μ.1 26 11 := ((F_57.1 26 (ni hprP (fun P => 26) (fun P => [P, P + 1]) rfl) 11).trans (hs_33.trans ((F_16.1 26 (ni hprP (fun P => 26) (fun P => [P, P + 1]) rfl) 11).trans (F_6.1 26 (by decide) 11))))
        have hk_70 := hI.row (r := P + 2) (hprP.row)
        unfold rk at hk_70
        have e_71 : μ55.1 (P + 2) 3 = μ.1 (P + 2) 3 := ((F_57.1 (P + 2) (ni hprP (fun P => P + 2) (fun P => [P, P + 1]) rfl) 3).trans ((F_29.1 (P + 2) (ni hprP (fun P => P + 2) (fun P => [26]) rfl) 3).trans ((F_16.1 (P + 2) (ni hprP (fun P => P + 2) (fun P => [P, P + 1]) rfl) 3).trans (F_6.1 (P + 2) (ni hprP (fun P => P + 2) (fun P => [24]) rfl) 3))))
        have e_72 : μ55.1 23 9 = μ.1 23 9 := ((F_57.1 23 (ni hprP (fun P => 23) (fun P => [P, P + 1]) rfl) 9).trans ((F_29.1 23 (by decide) 9).trans ((F_16.1 23 (ni hprP (fun P => 23) (fun P => [P, P + 1]) rfl) 9).trans (F_6.1 23 (by decide) 9))))
        have e_73 : μ55.1 23 9 = μ.1 23 9 := ((F_57.1 23 (ni hprP (fun P => 23) (fun P => [P, P + 1]) rfl) 9).trans ((F_29.1 23 (by decide) 9).trans ((F_16.1 23 (ni hprP (fun P => 23) (fun P => [P, P + 1]) rfl) 9).trans (F_6.1 23 (by decide) 9))))
        have e_74 : μ55.1 23 9 = μ.1 23 9 := ((F_57.1 23 (ni hprP (fun P => 23) (fun P => [P, P + 1]) rfl) 9).trans ((F_29.1 23 (by decide) 9).trans ((F_16.1 23 (ni hprP (fun P => 23) (fun P => [P, P + 1]) rfl) 9).trans (F_6.1 23 (by decide) 9))))
        have e_75 : μ55.1 26 11 = μ.1 26 11 := ((F_57.1 26 (ni hprP (fun P => 26) (fun P => [P, P + 1]) rfl) 11).trans (hs_33.trans ((F_16.1 26 (ni hprP (fun P => 26) (fun P => [P, P + 1]) rfl) 11).trans (F_6.1 26 (by decide) 11))))
        have e_76 : μ55.1 26 10 = μ27.1 26 10 := (F_57.1 26 (ni hprP (fun P => 26) (fun P => [P, P + 1]) rfl) 10)
        have e_77 : μ55.1 26 10 = μ27.1 26 10 := (F_57.1 26 (ni hprP (fun P => 26) (fun P => [P, P + 1]) rfl) 10)
        have e_78 : μ55.1 (P + 2) 3 = μ.1 (P + 2) 3 := ((F_57.1 (P + 2) (ni hprP (fun P => P + 2) (fun P => [P, P + 1]) rfl) 3).trans ((F_29.1 (P + 2) (ni hprP (fun P => P + 2) (fun P => [26]) rfl) 3).trans ((F_16.1 (P + 2) (ni hprP (fun P => P + 2) (fun P => [P, P + 1]) rfl) 3).trans (F_6.1 (P + 2) (ni hprP (fun P => P + 2) (fun P => [24]) rfl) 3))))
        have e_79 : μ55.1 (P + 2) 3 = μ.1 (P + 2) 3 := ((F_57.1 (P + 2) (ni hprP (fun P => P + 2) (fun P => [P, P + 1]) rfl) 3).trans ((F_29.1 (P + 2) (ni hprP (fun P => P + 2) (fun P => [26]) rfl) 3).trans ((F_16.1 (P + 2) (ni hprP (fun P => P + 2) (fun P => [P, P + 1]) rfl) 3).trans (F_6.1 (P + 2) (ni hprP (fun P => P + 2) (fun P => [24]) rfl) 3))))
        refine xc_vV G (b := 23) (rest := []) (As := [.int (iv 14), .int (iv 0), .long (jv 0), .int (iv r_56)]) (c_X7_arguments ω l μ55 14 0 0 r_56 F Lo kf μ (1) (1) P tt (by unfold ir; omega) (by unfold ir; omega) (by unfold jr; omega) (by unfold ir; omega) hI_58 (by omega) (by omega) hF hLo hE hU htk_67 (by omega) (by omega) (by omega) (by omega) (by omega) (by omega) (by omega) hpx_64 rfl) (wm 4 63 rfl rfl) (wm 4 65 rfl rfl) (wm 0 36 rfl rfl) rfl rfl (by decide) rfl (wm 1 12 rfl rfl) (wm 4 66 rfl rfl) (by decide) hR ⟨sfr (F := F) (a := 1) (by decide), slo (L := Lo) (m := 11) (a := 22) (by decide)⟩ (n := 4) rfl rfl (Nat.le_of_ble_eq_true rfl) hl.1 dX7_afterName_89 (fun μ80 ρ d0 H locs hp G => ?_)
        obtain ⟨F_81, hI_82, hp_83, hp_84, hp_85, hp_86, hp_87, hp_88, hs_89, hs_90, hs_91, hs_92, hs_93, hs_94, hs_95, hs_96, hs_97⟩ := hp
        have hn_98 : -1 ≤ μ80.1 26 10 ∧ μ80.1 26 10 ≤ 3000 := hI_82.nm.2.2.2.2.2.2.2.2.2.2.2.2
        have hk_99 := hI_82.pr (p := P) hprP
        unfold pk at hk_99
        have hc_100 : 16 ≤ μ80.2.1 (P + 1) ∧ μ80.2.1 (P + 1) ≤ 73024 := hI_82.rm.1 _ hprP.cap
        have hk_101 := hI_82.row (r := P + 2) (hprP.row)
        unfold rk at hk_101
        have htb_102 := hp_83.b
        have hpx_103 : μ80.1 26 11 = 0 → PXE μ μ80 P tt 1 (-1) 1 := fun h0 => PXE.of (hp_88 h0)
        exact xr_v G hret hlk dX7_afterName_92 ⟨(Fr.tr (Fr.tr (Fr.tr (Fr.tr (Fr.tr Fr.rf F_6 (si hprP (fun P => [24]) (fun P => [2, 3, 4, 23, 24, 26, P, P + 1, P + 2, (P + 2) + 1, (P + 2) + 2, (P + 2) + 3]) rfl)) F_16 (si hprP (fun P => [P, P + 1]) (fun P => [2, 3, 4, 23, 24, 26, P, P + 1, P + 2, (P + 2) + 1, (P + 2) + 2, (P + 2) + 3]) rfl)) F_29 (si hprP (fun P => [26]) (fun P => [2, 3, 4, 23, 24, 26, P, P + 1, P + 2, (P + 2) + 1, (P + 2) + 2, (P + 2) + 3]) rfl)) F_57 (si hprP (fun P => [P, P + 1]) (fun P => [2, 3, 4, 23, 24, 26, P, P + 1, P + 2, (P + 2) + 1, (P + 2) + 2, (P + 2) + 3]) rfl)) F_81 (si hprP (fun P => [2, 3, 4, 23, 24, 26, P, P + 1, P + 2, (P + 2) + 1, (P + 2) + 2, (P + 2) + 3]) (fun P => [2, 3, 4, 23, 24, 26, P, P + 1, P + 2, (P + 2) + 1, (P + 2) + 2, (P + 2) + 3]) rfl)), hI_82, hp_83, (by omega), (by omega), (by omega), (by omega), (fun h0 => (PXE.ex (hpx_103 h0)).e (by omega)), ((hs_89.trans ((F_57.1 23 (ni hprP (fun P => 23) (fun P => [P, P + 1]) rfl) 2).trans ((F_29.1 23 (by decide) 2).trans ((F_16.1 23 (ni hprP (fun P => 23) (fun P => [P, P + 1]) rfl) 2).trans ((F_6.1 23 (by decide) 2).trans hP.symm)))))).trans hP, (hs_90.trans ((F_57.1 23 (ni hprP (fun P => 23) (fun P => [P, P + 1]) rfl) 5).trans ((F_29.1 23 (by decide) 5).trans ((F_16.1 23 (ni hprP (fun P => 23) (fun P => [P, P + 1]) rfl) 5).trans (F_6.1 23 (by decide) 5))))), (hs_91.trans ((F_57.1 23 (ni hprP (fun P => 23) (fun P => [P, P + 1]) rfl) 6).trans ((F_29.1 23 (by decide) 6).trans ((F_16.1 23 (ni hprP (fun P => 23) (fun P => [P, P + 1]) rfl) 6).trans (F_6.1 23 (by decide) 6))))), (hs_92.trans ((F_57.1 23 (ni hprP (fun P => 23) (fun P => [P, P + 1]) rfl) 7).trans ((F_29.1 23 (by decide) 7).trans ((F_16.1 23 (ni hprP (fun P => 23) (fun P => [P, P + 1]) rfl) 7).trans (F_6.1 23 (by decide) 7))))), ((hs_93.trans ((F_57.1 23 (ni hprP (fun P => 23) (fun P => [P, P + 1]) rfl) 8).trans ((F_29.1 23 (by decide) 8).trans ((F_16.1 23 (ni hprP (fun P => 23) (fun P => [P, P + 1]) rfl) 8).trans ((F_6.1 23 (by decide) 8).trans htt.symm)))))).trans htt, (hs_94.trans ((F_57.1 23 (ni hprP (fun P => 23) (fun P => [P, P + 1]) rfl) 9).trans ((F_29.1 23 (by decide) 9).trans ((F_16.1 23 (ni hprP (fun P => 23) (fun P => [P, P + 1]) rfl) 9).trans (F_6.1 23 (by decide) 9))))), (hs_95.trans ((F_57.1 23 (ni hprP (fun P => 23) (fun P => [P, P + 1]) rfl) 10).trans ((F_29.1 23 (by decide) 10).trans ((F_16.1 23 (ni hprP (fun P => 23) (fun P => [P, P + 1]) rfl) 10).trans (F_6.1 23 (by decide) 10))))), (hs_96.trans ((F_57.1 26 (ni hprP (fun P => 26) (fun P => [P, P + 1]) rfl) 6).trans (hs_34.trans ((F_16.1 26 (ni hprP (fun P => 26) (fun P => [P, P + 1]) rfl) 6).trans (F_6.1 26 (by decide) 6))))), (hs_97.trans (hs_61.trans ((F_29.1 P (ni hprP (fun P => P) (fun P => [26]) rfl) 7).trans (hs_21.trans (F_6.1 P (ni hprP (fun P => P) (fun P => [24]) rfl) 7)))))⟩
    · refine lv_aload_n hx hb dX7_afterName_45 rfl (lv_at hl 1 rfl) ?_
      refine lv_bipush (v := iv 11) hx hb dX7_afterName_46 rfl ?_
      refine lv_iconst (v := iv 0) hx hb dX7_afterName_48 rfl ?_
      refine lv_iconst (v := iv 0) hx hb dX7_afterName_49 rfl ?_
      refine lv_aload_n hx hb dX7_afterName_50 rfl (lv_at hl 1 rfl) ?_
      refine lv_iload hx hb dX7_afterName_51 (lv_at hl 0 rfl) ?_
      have hpx_104 : μ4.1 26 11 = 0 → PXE μ μ4 P tt 0 (-1) 1 := fun h0 => (hnil (by have h9 : μ.1 26 11 = μ.1 26 11 := rfl; have h8 : μ4.1 26 11 = μ.1 26 11 := (F_6.1 26 (by decide) 11); omega)).fr (K := [24]) (Fr.tr Fr.rf F_6 (by decide)) (npL_p (L := [24]) (by decide) hprP).1 (npL_p (L := [24]) (by decide) hprP).2.1
      have e_105 : μ4.1 23 2 = P := ((F_6.1 23 (by decide) 2).trans hP.symm)
      have e_106 : μ4.1 23 8 = tt := ((F_6.1 23 (by decide) 8).trans htt.symm)
      have htk_107 : TK μ4 := hTK.fr (K := [24]) (Fr.tr Fr.rf F_6 (by decide)) (by decide) (by decide)
      have e_108 : μ4.1 P 1 = μ.1 P 1 := (F_6.1 P (ni hprP (fun P => P) (fun P => [24]) rfl) 1)
      have hn_109 : -1 ≤ μ.1 26 10 ∧ μ.1 26 10 ≤ 3000 := hI.nm.2.2.2.2.2.2.2.2.2.2.2.2
      have e_110 : μ4.1 26 10 = μ.1 26 10 := (F_6.1 26 (by decide) 10)
      have e_111 : μ4.1 26 11 = μ.1 26 11 := (F_6.1 26 (by decide) 11)
      have hk_112 := hI.row (r := P + 2) (hprP.row)
      unfold rk at hk_112
      have e_113 : μ4.1 (P + 2) 3 = μ.1 (P + 2) 3 := (F_6.1 (P + 2) (ni hprP (fun P => P + 2) (fun P => [24]) rfl) 3)
      have e_114 : μ4.1 P 1 = μ.1 P 1 := (F_6.1 P (ni hprP (fun P => P) (fun P => [24]) rfl) 1)
      have e_115 : μ4.1 23 9 = μ.1 23 9 := (F_6.1 23 (by decide) 9)
      have e_116 : μ4.1 23 9 = μ.1 23 9 := (F_6.1 23 (by decide) 9)
      have e_117 : μ4.1 23 9 = μ.1 23 9 := (F_6.1 23 (by decide) 9)
      have e_118 : μ4.1 26 11 = μ.1 26 11 := (F_6.1 26 (by decide) 11)
      have e_119 : μ4.1 26 10 = μ.1 26 10 := (F_6.1 26 (by decide) 10)
      have e_120 : μ4.1 P 1 = μ.1 P 1 := (F_6.1 P (ni hprP (fun P => P) (fun P => [24]) rfl) 1)
      have e_121 : μ4.1 P 1 = μ.1 P 1 := (F_6.1 P (ni hprP (fun P => P) (fun P => [24]) rfl) 1)
      have e_122 : μ4.1 26 10 = μ.1 26 10 := (F_6.1 26 (by decide) 10)
      have e_123 : μ4.1 (P + 2) 3 = μ.1 (P + 2) 3 := (F_6.1 (P + 2) (ni hprP (fun P => P + 2) (fun P => [24]) rfl) 3)
      have e_124 : μ4.1 P 1 = μ.1 P 1 := (F_6.1 P (ni hprP (fun P => P) (fun P => [24]) rfl) 1)
      have e_125 : μ4.1 (P + 2) 3 = μ.1 (P + 2) 3 := (F_6.1 (P + 2) (ni hprP (fun P => P + 2) (fun P => [24]) rfl) 3)
      refine xc_iV G (b := 23) (rest := [.int (iv 0), .int (iv 0), .int (iv 11), .ref (oP ω 23)]) (As := [.int (iv r_5)]) (c_X7_cellParts ω l μ4 r_5 F Lo kf P tt (by unfold ir; omega) hI_7 (by omega) (by omega) hF hLo hE hU htk_107 (by omega) (by omega) (by omega) (by omega) (by omega) (by omega)) (wm 4 88 rfl rfl) (wm 4 90 rfl rfl) (wm 0 38 rfl rfl) rfl rfl (by decide) rfl (wm 1 12 rfl rfl) (wm 4 91 rfl rfl) (by decide) hR ⟨sfr (F := F) (a := 2) (by decide), slo (L := Lo) (m := 3) (a := 44) (by decide)⟩ (n := 1) rfl rfl (Nat.le_of_ble_eq_true rfl) hl.1 dX7_afterName_53 (fun r_127 μ126 ρ d0 H locs hr_r_127 hp G => ?_)
      have hr_r_127 : -2147483648 ≤ r_127 ∧ r_127 ≤ 2147483647 := hr_r_127
      obtain ⟨F_128, hI_129, hp_130, hp_131, hp_132, hp_133, hp_134, hp_135, hs_136, hs_137, hs_138, hs_139, hs_140, hs_141, hs_142, hs_143, hs_144⟩ := hp
      have hn_145 : -1 ≤ μ126.1 26 10 ∧ μ126.1 26 10 ≤ 3000 := hI_129.nm.2.2.2.2.2.2.2.2.2.2.2.2
      have hk_146 := hI_129.pr (p := P) hprP
      unfold pk at hk_146
      have hc_147 : 16 ≤ μ126.2.1 (P + 1) ∧ μ126.2.1 (P + 1) ≤ 73024 := hI_129.rm.1 _ hprP.cap
      have hk_148 := hI_129.row (r := P + 2) (hprP.row)
      unfold rk at hk_148
      have htb_149 := hp_130.b
      have hpx_150 : μ126.1 26 11 = 0 → PXE μ μ126 P tt 2 r_127 1 := (fun h0 => PXE.fl (K := [24]) (Fr.tr Fr.rf F_6 (by decide)) (npL_p (L := [24]) (by decide) hprP).1 (npL_p (L := [24]) (by decide) hprP).2.1 (hp_135 h0))
      have e_151 : μ126.1 23 2 = P := (hs_136.trans ((F_6.1 23 (by decide) 2).trans hP.symm))
      have e_152 : μ126.1 23 8 = tt := (hs_140.trans ((F_6.1 23 (by decide) 8).trans htt.symm))
      refine xc_vV G (b := 23) (rest := []) (As := [.int (iv 11), .int (iv 0), .int (iv 0), .int (iv r_127)]) (c_X7_endOfParts ω l μ126 11 0 0 r_127 μ (2) (1) P tt (by unfold ir; omega) (by unfold ir; omega) (by unfold ir; omega) (by unfold ir; omega) hI_129 (by omega) (by omega) (by omega) hpx_150 (Or.inl (by unfold plain; omega)) (by omega) (by rw [show eff 11 0 = -1 from rfl]; omega)) (wm 4 27 rfl rfl) (wm 4 29 rfl rfl) (wm 0 30 rfl rfl) rfl rfl (by decide) rfl (wm 1 12 rfl rfl) (wm 4 30 rfl rfl) (by decide) hR ⟨nfr hF (by decide), nlo hLo (by decide)⟩ (n := 4) rfl rfl (Nat.le_of_ble_eq_true rfl) hl.1 dX7_afterName_56 (fun μ153 ρ d0 H locs hp G => ?_)
      obtain ⟨F_154, hI_155, hp_156, hs_157, hs_158⟩ := hp
      have hpx_159 : μ153.1 26 11 = 0 → PXE μ μ153 P tt 1 (-1) 1 := fun h0 => PXE.of (hp_156 (by have h9 : μ126.1 26 11 = μ126.1 26 11 := rfl; have h8 : μ153.1 26 11 = μ126.1 26 11 := (F_154.1 26 (ni hprP (fun P => 26) (fun P => [P, P + 1]) rfl) 11); omega))
      clear hp_156
      have htk_160 : TK μ153 := hp_130.fr (K := [P, P + 1]) (Fr.tr Fr.rf F_154 (si hprP (fun P => [P, P + 1]) (fun P => [P, P + 1]) rfl)) (ni hprP (fun P => 26) (fun P => [P, P + 1]) rfl) (ni hprP (fun P => 28) (fun P => [P, P + 1]) rfl)
      have e_161 : μ153.1 26 11 = μ126.1 26 11 := (F_154.1 26 (ni hprP (fun P => 26) (fun P => [P, P + 1]) rfl) 11)
      have e_162 : μ153.1 26 11 = μ126.1 26 11 := (F_154.1 26 (ni hprP (fun P => 26) (fun P => [P, P + 1]) rfl) 11)
      have e_163 : μ153.1 26 10 = μ126.1 26 10 := (F_154.1 26 (ni hprP (fun P => 26) (fun P => [P, P + 1]) rfl) 10)
      have e_164 : μ153.1 P 1 = μ126.1 P 1 + 1 := hs_157
      have e_165 : μ153.1 P 1 = μ126.1 P 1 + 1 := hs_157
      have e_166 : μ153.1 26 10 = μ126.1 26 10 := (F_154.1 26 (ni hprP (fun P => 26) (fun P => [P, P + 1]) rfl) 10)
      have e_167 : μ153.1 26 11 = μ126.1 26 11 := (F_154.1 26 (ni hprP (fun P => 26) (fun P => [P, P + 1]) rfl) 11)
      have e_168 : μ153.1 (P + 2) 3 = μ126.1 (P + 2) 3 := (F_154.1 (P + 2) (ni hprP (fun P => P + 2) (fun P => [P, P + 1]) rfl) 3)
      have e_169 : μ153.1 P 1 = μ126.1 P 1 + 1 := hs_157
      have e_170 : μ153.1 (P + 2) 3 = μ126.1 (P + 2) 3 := (F_154.1 (P + 2) (ni hprP (fun P => P + 2) (fun P => [P, P + 1]) rfl) 3)
      exact xr_v G hret hlk dX7_afterName_59 ⟨(Fr.tr (Fr.tr (Fr.tr Fr.rf F_6 (si hprP (fun P => [24]) (fun P => [2, 3, 4, 23, 24, 26, P, P + 1, P + 2, (P + 2) + 1, (P + 2) + 2, (P + 2) + 3]) rfl)) F_128 (si hprP (fun P => [2, 3, 4, 23, 24, 26, P, P + 1, P + 2, (P + 2) + 1, (P + 2) + 2, (P + 2) + 3]) (fun P => [2, 3, 4, 23, 24, 26, P, P + 1, P + 2, (P + 2) + 1, (P + 2) + 2, (P + 2) + 3]) rfl)) F_154 (si hprP (fun P => [P, P + 1]) (fun P => [2, 3, 4, 23, 24, 26, P, P + 1, P + 2, (P + 2) + 1, (P + 2) + 2, (P + 2) + 3]) rfl)), hI_155, htk_160, (by omega), (by omega), (by omega), (by omega), (fun h0 => (PXE.ex (hpx_159 h0)).e (by omega)), (((F_154.1 23 (ni hprP (fun P => 23) (fun P => [P, P + 1]) rfl) 2).trans (hs_136.trans ((F_6.1 23 (by decide) 2).trans hP.symm)))).trans hP, ((F_154.1 23 (ni hprP (fun P => 23) (fun P => [P, P + 1]) rfl) 5).trans (hs_137.trans (F_6.1 23 (by decide) 5))), ((F_154.1 23 (ni hprP (fun P => 23) (fun P => [P, P + 1]) rfl) 6).trans (hs_138.trans (F_6.1 23 (by decide) 6))), ((F_154.1 23 (ni hprP (fun P => 23) (fun P => [P, P + 1]) rfl) 7).trans (hs_139.trans (F_6.1 23 (by decide) 7))), (((F_154.1 23 (ni hprP (fun P => 23) (fun P => [P, P + 1]) rfl) 8).trans (hs_140.trans ((F_6.1 23 (by decide) 8).trans htt.symm)))).trans htt, ((F_154.1 23 (ni hprP (fun P => 23) (fun P => [P, P + 1]) rfl) 9).trans (hs_141.trans (F_6.1 23 (by decide) 9))), ((F_154.1 23 (ni hprP (fun P => 23) (fun P => [P, P + 1]) rfl) 10).trans (hs_142.trans (F_6.1 23 (by decide) 10))), ((F_154.1 26 (ni hprP (fun P => 26) (fun P => [P, P + 1]) rfl) 6).trans (hs_143.trans (F_6.1 26 (by decide) 6))), (hs_158.trans (hs_144.trans (F_6.1 P (ni hprP (fun P => P) (fun P => [24]) rfl) 7)))⟩
  · refine lv_aload_n hx hb dX7_afterName_12 rfl (lv_at hl 0 rfl) ?_
    refine lv_bipush (v := iv 13) hx hb dX7_afterName_13 rfl ?_
    refine lv_aload_n hx hb dX7_afterName_15 rfl (lv_at hl 0 rfl) ?_
    refine xa_geti G fd_X7 (a := 23) (x := tt) 8 rfl (by decide) rfl (wm 2 25 rfl rfl) ⟨rfl, rfl, rfl⟩ dX7_afterName_16 rfl htt.symm ?_
    have hr_171 : -2147483648 ≤ tt ∧ tt ≤ 2147483647 := by have h9 := G.hr (a := 23) (k := 8) rfl; rw [show μ.1 23 8 = tt from htt.symm] at h9; exact h9
    refine lv_lload_n hx hb dX7_afterName_19 rfl (lv_at hl 1 rfl) ?_
    refine lv_iconst (v := iv (-1)) hx hb dX7_afterName_20 rfl ?_
    have e_172 : μ.1 23 2 = P := hP.symm
    have e_173 : μ.1 23 8 = tt := htt.symm
    have hn_174 : -1 ≤ μ.1 26 10 ∧ μ.1 26 10 ≤ 3000 := hI.nm.2.2.2.2.2.2.2.2.2.2.2.2
    have hk_175 := hI.row (r := P + 2) (hprP.row)
    unfold rk at hk_175
    refine xc_vV G (b := 23) (rest := []) (As := [.int (iv 13), .int (iv tt), .long (jv x1), .int (iv (-1))]) (c_X7_arguments ω l μ 13 tt x1 (-1) F Lo kf μ (0) (1) P tt (by unfold ir; omega) (by unfold ir; omega) hx1 (by unfold ir; omega) hI (by omega) (by omega) hF hLo hE hU hTK (by omega) (by omega) (by omega) (by omega) (by omega) (by omega) (by omega) hnil rfl) (wm 4 63 rfl rfl) (wm 4 65 rfl rfl) (wm 0 36 rfl rfl) rfl rfl (by decide) rfl (wm 1 12 rfl rfl) (wm 4 66 rfl rfl) (by decide) hR ⟨sfr (F := F) (a := 1) (by decide), slo (L := Lo) (m := 11) (a := 22) (by decide)⟩ (n := 4) rfl rfl (Nat.le_of_ble_eq_true rfl) hl.1 dX7_afterName_21 (fun μ176 ρ d0 H locs hp G => ?_)
    obtain ⟨F_177, hI_178, hp_179, hp_180, hp_181, hp_182, hp_183, hp_184, hs_185, hs_186, hs_187, hs_188, hs_189, hs_190, hs_191, hs_192, hs_193⟩ := hp
    have hn_194 : -1 ≤ μ176.1 26 10 ∧ μ176.1 26 10 ≤ 3000 := hI_178.nm.2.2.2.2.2.2.2.2.2.2.2.2
    have hk_195 := hI_178.pr (p := P) hprP
    unfold pk at hk_195
    have hc_196 : 16 ≤ μ176.2.1 (P + 1) ∧ μ176.2.1 (P + 1) ≤ 73024 := hI_178.rm.1 _ hprP.cap
    have hk_197 := hI_178.row (r := P + 2) (hprP.row)
    unfold rk at hk_197
    have htb_198 := hp_179.b
    have hpx_199 : μ176.1 26 11 = 0 → PXE μ μ176 P tt 1 (-1) 1 := fun h0 => PXE.of (hp_184 h0)
    exact xr_v G hret hlk dX7_afterName_24 ⟨(Fr.tr Fr.rf F_177 (si hprP (fun P => [2, 3, 4, 23, 24, 26, P, P + 1, P + 2, (P + 2) + 1, (P + 2) + 2, (P + 2) + 3]) (fun P => [2, 3, 4, 23, 24, 26, P, P + 1, P + 2, (P + 2) + 1, (P + 2) + 2, (P + 2) + 3]) rfl)), hI_178, hp_179, (by omega), (by omega), (by omega), (by omega), (fun h0 => (PXE.ex (hpx_199 h0)).e (by omega)), ((hs_185.trans hP.symm)).trans hP, hs_186, hs_187, hs_188, ((hs_189.trans htt.symm)).trans htt, hs_190, hs_191, hs_192, hs_193⟩

set_option maxHeartbeats 4000000 in
set_option maxRecDepth 100000 in
theorem c_X7_ownPrimary (ω : Om) (l : Launch) (μ : M3) (F : Nat) (Lo : Nat) (kf : Int) (P : Int) (tt : Int) (hI : IC μ) (hP : P = μ.1 23 2) (htt : tt = μ.1 23 8) (hF : 60 ≤ F) (hLo : 2000 ≤ Lo) (hE : ∀ (μ : M3) (x1 : Int) (P : Int) (tt : Int) (hx1 : x1 = 0 ∨ x1 = 1) (hI : IC μ) (hP : P = μ.1 23 2) (htt : tt = μ.1 23 8) (hTK : TK μ) (hB : μ.1 P 1 ≤ 2 * μ.1 26 10 + 100 + 40 * μ.1 26 11) (hKc : μ.1 (P + 2) 3 ≤ μ.1 P 1) (ht3 : 0 ≤ tt ∧ tt ≤ 3) (hdp : 0 ≤ μ.1 23 9 ∧ μ.1 23 9 ≤ 8 + μ.1 26 11) (hfu : 0 ≤ (kf - 1) ∧ 9 ≤ μ.1 23 9 + (kf - 1) + 20 * μ.1 26 11) (hbg : ∀ _ : Unit, x1 = 0 ∨ μ.1 26 11 ≠ 0 ∨ 2 ≤ hs μ P (μ.1 P 1)), CtV ω l yX7_expression cX7_expression 3 (F + 0) (Lo + 0) [.ref (oP ω 23), .int (iv x1)] μ (fun (μ' : M3) => (Fr [2, 3, 4, 23, 24, 26, P, P + 1, P + 2, (P + 2) + 1, (P + 2) + 2, (P + 2) + 3] μ μ') ∧ (IC μ') ∧ (TK μ') ∧ (μ.1 26 11 ≤ μ'.1 26 11) ∧ (μ.1 26 10 ≤ μ'.1 26 10) ∧ (μ.1 P 1 ≤ μ'.1 P 1 ∧ μ'.1 P 1 ≤ μ.1 P 1 + 2 * (μ'.1 26 10 - μ.1 26 10) + (- 1 + 3 * μ'.1 26 11 - 2 * μ.1 26 11 + x1)) ∧ (μ'.1 (P + 2) 3 - μ.1 (P + 2) 3 ≤ μ'.1 P 1 - μ.1 P 1 ∧ μ.1 (P + 2) 3 ≤ μ'.1 (P + 2) 3) ∧ (μ'.1 26 11 = 0 → EX μ μ' P tt (1 - x1) 0) ∧ (μ'.1 23 2 = μ.1 23 2) ∧ (μ'.1 23 5 = μ.1 23 5) ∧ (μ'.1 23 6 = μ.1 23 6) ∧ (μ'.1 23 7 = μ.1 23 7) ∧ (μ'.1 23 8 = μ.1 23 8) ∧ (μ'.1 23 9 = μ.1 23 9) ∧ (μ'.1 23 10 = μ.1 23 10) ∧ (μ'.1 26 6 = μ.1 26 6) ∧ (μ'.1 P 7 = μ.1 P 7))) (hU : ∀ (μ : M3) (x1 : Int) (P : Int) (tt : Int) (hx1 : x1 = 0 ∨ x1 = 1) (hI : IC μ) (hP : P = μ.1 23 2) (htt : tt = μ.1 23 8) (hTK : TK μ) (hB : μ.1 P 1 ≤ 2 * μ.1 26 10 + 100 + 40 * μ.1 26 11) (hKc : μ.1 (P + 2) 3 ≤ μ.1 P 1) (ht3 : 0 ≤ tt ∧ tt ≤ 3) (hdp : 0 ≤ μ.1 23 9 ∧ μ.1 23 9 ≤ 8 + μ.1 26 11) (hfu : 0 ≤ (kf - 1) ∧ 9 ≤ μ.1 23 9 + (kf - 1) + 20 * μ.1 26 11) (hbg : ∀ _ : Unit, x1 = 0 ∨ μ.1 26 11 ≠ 0 ∨ 2 ≤ hs μ P (μ.1 P 1)), CtV ω l yX7_unary cX7_unary 2 (F + 0) (Lo + 0) [.ref (oP ω 23), .int (iv x1)] μ (fun (μ' : M3) => (Fr [2, 3, 4, 23, 24, 26, P, P + 1, P + 2, (P + 2) + 1, (P + 2) + 2, (P + 2) + 3] μ μ') ∧ (IC μ') ∧ (TK μ') ∧ (μ.1 26 11 ≤ μ'.1 26 11) ∧ (μ.1 26 10 ≤ μ'.1 26 10) ∧ (μ.1 P 1 ≤ μ'.1 P 1 ∧ μ'.1 P 1 ≤ μ.1 P 1 + 2 * (μ'.1 26 10 - μ.1 26 10) + (- 1 + 3 * μ'.1 26 11 - 2 * μ.1 26 11 + x1)) ∧ (μ'.1 (P + 2) 3 - μ.1 (P + 2) 3 ≤ μ'.1 P 1 - μ.1 P 1 ∧ μ.1 (P + 2) 3 ≤ μ'.1 (P + 2) 3) ∧ (μ'.1 26 11 = 0 → EX μ μ' P tt (1 - x1) 0) ∧ (μ'.1 23 2 = μ.1 23 2) ∧ (μ'.1 23 5 = μ.1 23 5) ∧ (μ'.1 23 6 = μ.1 23 6) ∧ (μ'.1 23 7 = μ.1 23 7) ∧ (μ'.1 23 8 = μ.1 23 8) ∧ (μ'.1 23 9 = μ.1 23 9) ∧ (μ'.1 23 10 = μ.1 23 10) ∧ (μ'.1 26 6 = μ.1 26 6) ∧ (μ'.1 P 7 = μ.1 P 7))) (hTK : TK μ) (hB : μ.1 P 1 ≤ 2 * μ.1 26 10 + 100 + 40 * μ.1 26 11) (hKc : μ.1 (P + 2) 3 ≤ μ.1 P 1) (ht3 : 0 ≤ tt ∧ tt ≤ 3) (hdp : 0 ≤ μ.1 23 9 ∧ μ.1 23 9 ≤ 8 + μ.1 26 11) (hfu : 0 ≤ kf ∧ 9 ≤ μ.1 23 9 + kf + 20 * μ.1 26 11) : CtV ω l yX7_ownPrimary cX7_ownPrimary 2 (F + 2) (Lo + 44) [.ref (oP ω 23)] μ (fun (μ' : M3) => (Fr [2, 3, 4, 23, 24, 26, P, P + 1, P + 2, (P + 2) + 1, (P + 2) + 2, (P + 2) + 3] μ μ') ∧ (IC μ') ∧ (TK μ') ∧ (μ.1 26 11 ≤ μ'.1 26 11) ∧ (μ.1 26 10 ≤ μ'.1 26 10) ∧ (μ.1 P 1 ≤ μ'.1 P 1 ∧ μ'.1 P 1 ≤ μ.1 P 1 + 2 * (μ'.1 26 10 - μ.1 26 10) + (- 1 + 3 * μ'.1 26 11 - 2 * μ.1 26 11)) ∧ (μ'.1 (P + 2) 3 - μ.1 (P + 2) 3 ≤ μ'.1 P 1 - μ.1 P 1 ∧ μ.1 (P + 2) 3 ≤ μ'.1 (P + 2) 3) ∧ (μ'.1 26 11 = 0 → EX μ μ' P tt 1 0) ∧ (μ'.1 23 2 = μ.1 23 2) ∧ (μ'.1 23 5 = μ.1 23 5) ∧ (μ'.1 23 6 = μ.1 23 6) ∧ (μ'.1 23 7 = μ.1 23 7) ∧ (μ'.1 23 8 = μ.1 23 8) ∧ (μ'.1 23 9 = μ.1 23 9) ∧ (μ'.1 23 10 = μ.1 23 10) ∧ (μ'.1 26 6 = μ.1 26 6) ∧ (μ'.1 P 7 = μ.1 P 7)) := by
  refine CtV.go (by decide) (Nat.le_of_ble_eq_true rfl) (fun ρ p e s m below meth c R ls G hR hret hlk hl => ?_)
  have hx := G.1.1
  have hb := G.1.2.1
  have hl : lv_has ls 2 [(0, .ref (oP ω 23))] := hl
  generalize s.drawn = d0 at G ⊢
  have hTKb := hTK.b
  have hprP : isPr P := by have h9 := G.sr0.2.2.2.2.2; rw [← hP] at h9; exact h9
  have hprP_d : 13 ≤ P ∧ P ≤ 101 := by rcases hprP with h9 | h9 | h9 | h9 | h9 <;> omega
  have hk_1 := hI.pr (p := P) hprP
  unfold pk at hk_1
  have hc_2 : 16 ≤ μ.2.1 (P + 1) ∧ μ.2.1 (P + 1) ≤ 73024 := hI.rm.1 _ hprP.cap
  have hnil : μ.1 26 11 = 0 → PXE μ μ P tt 0 (-1) 1 := fun _ => PXE.nil (by omega)
  refine lv_aload_n hx hb dX7_ownPrimary_0 rfl (lv_at hl 0 rfl) ?_
  refine xa_geti G fd_X7 (a := 23) (x := tt) 8 rfl (by decide) rfl (wm 2 25 rfl rfl) ⟨rfl, rfl, rfl⟩ dX7_ownPrimary_1 rfl htt.symm ?_
  have hr_3 : -2147483648 ≤ tt ∧ tt ≤ 2147483647 := by have h9 := G.hr (a := 23) (k := 8) rfl; rw [show μ.1 23 8 = tt from htt.symm] at h9; exact h9
  refine lv_iconst (v := iv 1) hx hb dX7_ownPrimary_4 rfl ?_
  refine xb_icmp_ne (tgt := 30) hx hb (by unfold ir; omega) (by unfold ir; omega) dX7_ownPrimary_5 (by decide) (fun c_5 => ?_) (fun c_5 => ?_)
  · refine lv_aload_n hx hb dX7_ownPrimary_30 rfl (lv_at hl 0 rfl) ?_
    refine xa_geti G fd_X7 (a := 23) (x := tt) 8 rfl (by decide) rfl (wm 2 25 rfl rfl) ⟨rfl, rfl, rfl⟩ dX7_ownPrimary_31 rfl htt.symm ?_
    refine lv_iconst (v := iv 2) hx hb dX7_ownPrimary_34 rfl ?_
    refine xb_icmp_ne (tgt := 68) hx hb (by unfold ir; omega) (by unfold ir; omega) dX7_ownPrimary_35 (by decide) (fun c_35 => ?_) (fun c_35 => ?_)
    · refine lv_aload_n hx hb dX7_ownPrimary_68 rfl (lv_at hl 0 rfl) ?_
      refine xa_geti G fd_X7 (a := 23) (x := tt) 8 rfl (by decide) rfl (wm 2 25 rfl rfl) ⟨rfl, rfl, rfl⟩ dX7_ownPrimary_69 rfl htt.symm ?_
      refine lv_iconst (v := iv 2) hx hb dX7_ownPrimary_72 rfl ?_
      refine xb_icmp_ne (tgt := 116) hx hb (by unfold ir; omega) (by unfold ir; omega) dX7_ownPrimary_73 (by decide) (fun c_73 => ?_) (fun c_73 => ?_)
      · refine lv_aload_n hx hb dX7_ownPrimary_116 rfl (lv_at hl 0 rfl) ?_
        refine xa_getr G fd_X7 (a := 23) (x := 26) 0 rfl (by decide) rfl (wm 2 17 rfl rfl) ⟨rfl, rfl, rfl⟩ dX7_ownPrimary_117 rfl (G.sk 23 rfl) (by decide) rfl ?_
        refine xc_vV G (b := 26) (rest := []) (As := []) (c_X10_stop ω l μ  hI) (wm 3 173 rfl rfl) (wm 3 174 rfl rfl) (wm 3 175 rfl rfl) rfl rfl (by decide) rfl (wm 1 13 rfl rfl) (wm 3 176 rfl rfl) (by decide) hR ⟨nfr hF (by decide), nlo hLo (by decide)⟩ (n := 0) rfl rfl (Nat.le_of_ble_eq_true rfl) hl.1 dX7_ownPrimary_120 (fun μ4 ρ d0 H locs hp G => ?_)
        obtain ⟨F_5, hI_6, hp_7, hp_8, hs_9, hs_10, hs_11, hs_12, hs_13, hs_14, hs_15⟩ := hp
        have htk_16 : TK μ4 := TK.st hTK F_5 hp_7 hp_8 hs_9 hs_13
        have hpx_17 : μ4.1 26 11 = 0 → PXE μ μ4 P tt 0 (-1) 1 := fun h0 => (hnil (by have h9 : μ.1 26 11 = μ.1 26 11 := rfl; have h8 : μ4.1 26 11 = μ4.1 26 11 := rfl; omega)).fr (K := [26]) (Fr.tr Fr.rf F_5 (by decide)) (npL_p (L := [26]) (by decide) hprP).1 (npL_p (L := [26]) (by decide) hprP).2.1
        have e_18 : μ4.1 26 10 = μ.1 26 10 := hs_13
        have e_19 : μ4.1 P 1 = μ.1 P 1 := (F_5.1 P (ni hprP (fun P => P) (fun P => [26]) rfl) 1)
        have e_20 : μ4.1 P 1 = μ.1 P 1 := (F_5.1 P (ni hprP (fun P => P) (fun P => [26]) rfl) 1)
        have e_21 : μ4.1 26 10 = μ.1 26 10 := hs_13
        have e_22 : μ4.1 (P + 2) 3 = μ.1 (P + 2) 3 := (F_5.1 (P + 2) (ni hprP (fun P => P + 2) (fun P => [26]) rfl) 3)
        have e_23 : μ4.1 P 1 = μ.1 P 1 := (F_5.1 P (ni hprP (fun P => P) (fun P => [26]) rfl) 1)
        have e_24 : μ4.1 (P + 2) 3 = μ.1 (P + 2) 3 := (F_5.1 (P + 2) (ni hprP (fun P => P + 2) (fun P => [26]) rfl) 3)
        exact xr_v G hret hlk dX7_ownPrimary_123 ⟨(Fr.tr Fr.rf F_5 (si hprP (fun P => [26]) (fun P => [2, 3, 4, 23, 24, 26, P, P + 1, P + 2, (P + 2) + 1, (P + 2) + 2, (P + 2) + 3]) rfl)), hI_6, htk_16, (by omega), (by omega), (by omega), (by omega), (fun h0 => (PXE.ex (hpx_17 h0)).e (by omega)), (((F_5.1 23 (by decide) 2).trans hP.symm)).trans hP, (F_5.1 23 (by decide) 5), (F_5.1 23 (by decide) 6), (F_5.1 23 (by decide) 7), (((F_5.1 23 (by decide) 8).trans htt.symm)).trans htt, (F_5.1 23 (by decide) 9), (F_5.1 23 (by decide) 10), hs_9, (F_5.1 P (ni hprP (fun P => P) (fun P => [26]) rfl) 7)⟩
      · refine lv_aload_n hx hb dX7_ownPrimary_76 rfl (lv_at hl 0 rfl) ?_
        refine lv_sipush (v := iv 228) hx hb dX7_ownPrimary_77 rfl ?_
        have hn_25 : -1 ≤ μ.1 26 10 ∧ μ.1 26 10 ≤ 3000 := hI.nm.2.2.2.2.2.2.2.2.2.2.2.2
        refine xc_iV G (b := 23) (rest := []) (As := [.int (iv 228)]) (c_X7_took_b ω l μ 228 (by unfold ir; omega) hI hTK (by omega)) (wm 3 160 rfl rfl) (wm 3 162 rfl rfl) (wm 0 9 rfl rfl) rfl rfl (by decide) rfl (wm 1 12 rfl rfl) (wm 3 163 rfl rfl) (by decide) hR ⟨nfr hF (by decide), nlo hLo (by decide)⟩ (n := 1) rfl rfl (Nat.le_of_ble_eq_true rfl) hl.1 dX7_ownPrimary_80 (fun r_27 μ26 ρ d0 H locs hr_r_27 hp G => ?_)
        have hr_r_27 : -2147483648 ≤ r_27 ∧ r_27 ≤ 2147483647 := hr_r_27
        obtain ⟨F_28, hI_29, hp_30, hp_31, hs_32, hs_33, hs_34, hs_35, hs_36⟩ := hp
        have hn_37 : -1 ≤ μ26.1 26 10 ∧ μ26.1 26 10 ≤ 3000 := hI_29.nm.2.2.2.2.2.2.2.2.2.2.2.2
        have htb_38 := hp_30.b
        refine xb_if_eq (tgt := 116) hx hb (by unfold ir; omega) dX7_ownPrimary_83 (by decide) (fun c_83 => ?_) (fun c_83 => ?_)
        · refine lv_aload_n hx hb dX7_ownPrimary_116 rfl (lv_at hl 0 rfl) ?_
          refine xa_getr G fd_X7 (a := 23) (x := 26) 0 rfl (by decide) rfl (wm 2 17 rfl rfl) ⟨rfl, rfl, rfl⟩ dX7_ownPrimary_117 rfl (G.sk 23 rfl) (by decide) rfl ?_
          have hpx_39 : μ26.1 26 11 = 0 → PXE μ μ26 P tt 0 (-1) 1 := fun h0 => (hnil (by have h9 : μ.1 26 11 = μ.1 26 11 := rfl; have h8 : μ26.1 26 11 = μ.1 26 11 := hs_32; omega)).fr (K := [26]) (Fr.tr Fr.rf F_28 (by decide)) (npL_p (L := [26]) (by decide) hprP).1 (npL_p (L := [26]) (by decide) hprP).2.1
          refine xc_vV G (b := 26) (rest := []) (As := []) (c_X10_stop ω l μ26  hI_29) (wm 3 173 rfl rfl) (wm 3 174 rfl rfl) (wm 3 175 rfl rfl) rfl rfl (by decide) rfl (wm 1 13 rfl rfl) (wm 3 176 rfl rfl) (by decide) hR ⟨nfr hF (by decide), nlo hLo (by decide)⟩ (n := 0) rfl rfl (Nat.le_of_ble_eq_true rfl) hl.1 dX7_ownPrimary_120 (fun μ40 ρ d0 H locs hp G => ?_)
          obtain ⟨F_41, hI_42, hp_43, hp_44, hs_45, hs_46, hs_47, hs_48, hs_49, hs_50, hs_51⟩ := hp
          have htk_52 : TK μ40 := TK.st hp_30 F_41 hp_43 hp_44 (((hs_45.trans hs_33)).trans (hs_33).symm) hs_49
          have hpx_53 : μ40.1 26 11 = 0 → PXE μ μ40 P tt 0 (-1) 1 := fun h0 => (hpx_39 (by have h9 : μ26.1 26 11 = μ.1 26 11 := hs_32; have h8 : μ40.1 26 11 = μ40.1 26 11 := rfl; omega)).fr (K := [26]) (Fr.tr Fr.rf F_41 (by decide)) (npL_p (L := [26]) (by decide) hprP).1 (npL_p (L := [26]) (by decide) hprP).2.1
          have e_54 : μ40.1 26 10 = μ26.1 26 10 := hs_49
          have e_55 : μ40.1 P 1 = μ.1 P 1 := ((F_41.1 P (ni hprP (fun P => P) (fun P => [26]) rfl) 1).trans (F_28.1 P (ni hprP (fun P => P) (fun P => [26]) rfl) 1))
          have e_56 : μ40.1 P 1 = μ.1 P 1 := ((F_41.1 P (ni hprP (fun P => P) (fun P => [26]) rfl) 1).trans (F_28.1 P (ni hprP (fun P => P) (fun P => [26]) rfl) 1))
          have e_57 : μ40.1 26 10 = μ26.1 26 10 := hs_49
          have e_58 : μ40.1 (P + 2) 3 = μ.1 (P + 2) 3 := ((F_41.1 (P + 2) (ni hprP (fun P => P + 2) (fun P => [26]) rfl) 3).trans (F_28.1 (P + 2) (ni hprP (fun P => P + 2) (fun P => [26]) rfl) 3))
          have e_59 : μ40.1 P 1 = μ.1 P 1 := ((F_41.1 P (ni hprP (fun P => P) (fun P => [26]) rfl) 1).trans (F_28.1 P (ni hprP (fun P => P) (fun P => [26]) rfl) 1))
          have e_60 : μ40.1 (P + 2) 3 = μ.1 (P + 2) 3 := ((F_41.1 (P + 2) (ni hprP (fun P => P + 2) (fun P => [26]) rfl) 3).trans (F_28.1 (P + 2) (ni hprP (fun P => P + 2) (fun P => [26]) rfl) 3))
          exact xr_v G hret hlk dX7_ownPrimary_123 ⟨(Fr.tr (Fr.tr Fr.rf F_28 (si hprP (fun P => [26]) (fun P => [2, 3, 4, 23, 24, 26, P, P + 1, P + 2, (P + 2) + 1, (P + 2) + 2, (P + 2) + 3]) rfl)) F_41 (si hprP (fun P => [26]) (fun P => [2, 3, 4, 23, 24, 26, P, P + 1, P + 2, (P + 2) + 1, (P + 2) + 2, (P + 2) + 3]) rfl)), hI_42, htk_52, (by omega), (by omega), (by omega), (by omega), (fun h0 => (PXE.ex (hpx_53 h0)).e (by omega)), (((F_41.1 23 (by decide) 2).trans ((F_28.1 23 (by decide) 2).trans hP.symm))).trans hP, ((F_41.1 23 (by decide) 5).trans (F_28.1 23 (by decide) 5)), ((F_41.1 23 (by decide) 6).trans (F_28.1 23 (by decide) 6)), ((F_41.1 23 (by decide) 7).trans (F_28.1 23 (by decide) 7)), (((F_41.1 23 (by decide) 8).trans ((F_28.1 23 (by decide) 8).trans htt.symm))).trans htt, ((F_41.1 23 (by decide) 9).trans (F_28.1 23 (by decide) 9)), ((F_41.1 23 (by decide) 10).trans (F_28.1 23 (by decide) 10)), (hs_45.trans hs_33), ((F_41.1 P (ni hprP (fun P => P) (fun P => [26]) rfl) 7).trans (F_28.1 P (ni hprP (fun P => P) (fun P => [26]) rfl) 7))⟩
        · refine lv_aload_n hx hb dX7_ownPrimary_86 rfl (lv_at hl 0 rfl) ?_
          have hpx_61 : μ26.1 26 11 = 0 → PXE μ μ26 P tt 0 (-1) 1 := fun h0 => (hnil (by have h9 : μ.1 26 11 = μ.1 26 11 := rfl; have h8 : μ26.1 26 11 = μ.1 26 11 := hs_32; omega)).fr (K := [26]) (Fr.tr Fr.rf F_28 (by decide)) (npL_p (L := [26]) (by decide) hprP).1 (npL_p (L := [26]) (by decide) hprP).2.1
          have e_62 : μ26.1 26 11 = μ.1 26 11 := hs_32
          refine xc_iV G (b := 23) (rest := []) (As := []) (c_X7_nameOfFailing ω l μ26  hI_29 hp_30) (wm 4 112 rfl rfl) (wm 4 114 rfl rfl) (wm 0 44 rfl rfl) rfl rfl (by decide) rfl (wm 1 12 rfl rfl) (wm 4 115 rfl rfl) (by decide) hR ⟨nfr hF (by decide), nlo hLo (by decide)⟩ (n := 0) rfl rfl (Nat.le_of_ble_eq_true rfl) hl.1 dX7_ownPrimary_87 (fun r_64 μ63 ρ d0 H locs hr_r_64 hp G => ?_)
          have hr_r_64 : -2147483648 ≤ r_64 ∧ r_64 ≤ 2147483647 := hr_r_64
          obtain ⟨F_65, hI_66, hp_67, hp_68, hp_69, hs_70, hs_71, hs_72, hs_73, hs_74⟩ := hp
          have hn_75 : -1 ≤ μ63.1 26 10 ∧ μ63.1 26 10 ≤ 3000 := hI_66.nm.2.2.2.2.2.2.2.2.2.2.2.2
          have htb_76 := hp_67.b
          refine lv_istore_n (lv' := [(1, .int (iv r_64)), (0, .ref (oP ω 23))]) hx hb dX7_ownPrimary_90 rfl hl (by decide) rfl (fun ls hl => ?_)
          refine lv_aload_n hx hb dX7_ownPrimary_91 rfl (lv_at hl 1 rfl) ?_
          refine lv_bipush (v := iv 40) hx hb dX7_ownPrimary_92 rfl ?_
          refine lv_bipush (v := iv 41) hx hb dX7_ownPrimary_94 rfl ?_
          have hpx_77 : μ63.1 26 11 = 0 → PXE μ μ63 P tt 0 (-1) 1 := fun h0 => (hpx_61 (by have h9 : μ26.1 26 11 = μ.1 26 11 := hs_32; have h8 : μ63.1 26 11 = μ63.1 26 11 := rfl; omega)).fr (K := [26, 2, 3, 4, 24]) (Fr.tr Fr.rf F_65 (by decide)) (npL_p (L := [26, 2, 3, 4, 24]) (by decide) hprP).1 (npL_p (L := [26, 2, 3, 4, 24]) (by decide) hprP).2.1
          have e_78 : μ63.1 23 2 = P := ((F_65.1 23 (by decide) 2).trans ((F_28.1 23 (by decide) 2).trans hP.symm))
          have e_79 : μ63.1 23 8 = tt := ((F_65.1 23 (by decide) 8).trans ((F_28.1 23 (by decide) 8).trans htt.symm))
          have e_80 : μ63.1 P 1 = μ.1 P 1 := ((F_65.1 P (ni hprP (fun P => P) (fun P => [26, 2, 3, 4, 24]) rfl) 1).trans (F_28.1 P (ni hprP (fun P => P) (fun P => [26]) rfl) 1))
          have hk_81 := hI.row (r := P + 2) (hprP.row)
          unfold rk at hk_81
          have e_82 : μ63.1 (P + 2) 3 = μ.1 (P + 2) 3 := ((F_65.1 (P + 2) (ni hprP (fun P => P + 2) (fun P => [26, 2, 3, 4, 24]) rfl) 3).trans (F_28.1 (P + 2) (ni hprP (fun P => P + 2) (fun P => [26]) rfl) 3))
          have e_83 : μ63.1 P 1 = μ.1 P 1 := ((F_65.1 P (ni hprP (fun P => P) (fun P => [26, 2, 3, 4, 24]) rfl) 1).trans (F_28.1 P (ni hprP (fun P => P) (fun P => [26]) rfl) 1))
          have e_84 : μ63.1 23 9 = μ.1 23 9 := ((F_65.1 23 (by decide) 9).trans (F_28.1 23 (by decide) 9))
          have e_85 : μ63.1 23 9 = μ.1 23 9 := ((F_65.1 23 (by decide) 9).trans (F_28.1 23 (by decide) 9))
          have e_86 : μ63.1 23 9 = μ.1 23 9 := ((F_65.1 23 (by decide) 9).trans (F_28.1 23 (by decide) 9))
          have e_87 : μ63.1 P 1 = μ.1 P 1 := ((F_65.1 P (ni hprP (fun P => P) (fun P => [26, 2, 3, 4, 24]) rfl) 1).trans (F_28.1 P (ni hprP (fun P => P) (fun P => [26]) rfl) 1))
          have e_88 : μ63.1 P 1 = μ.1 P 1 := ((F_65.1 P (ni hprP (fun P => P) (fun P => [26, 2, 3, 4, 24]) rfl) 1).trans (F_28.1 P (ni hprP (fun P => P) (fun P => [26]) rfl) 1))
          have e_89 : μ63.1 (P + 2) 3 = μ.1 (P + 2) 3 := ((F_65.1 (P + 2) (ni hprP (fun P => P + 2) (fun P => [26, 2, 3, 4, 24]) rfl) 3).trans (F_28.1 (P + 2) (ni hprP (fun P => P + 2) (fun P => [26]) rfl) 3))
          have e_90 : μ63.1 P 1 = μ.1 P 1 := ((F_65.1 P (ni hprP (fun P => P) (fun P => [26, 2, 3, 4, 24]) rfl) 1).trans (F_28.1 P (ni hprP (fun P => P) (fun P => [26]) rfl) 1))
          have e_91 : μ63.1 (P + 2) 3 = μ.1 (P + 2) 3 := ((F_65.1 (P + 2) (ni hprP (fun P => P + 2) (fun P => [26, 2, 3, 4, 24]) rfl) 3).trans (F_28.1 (P + 2) (ni hprP (fun P => P + 2) (fun P => [26]) rfl) 3))
          refine xc_vV G (b := 23) (rest := []) (As := [.int (iv 40), .int (iv 41)]) (c_X7_inBrackets ω l μ63 40 41 F Lo kf P tt (by unfold ir; omega) (by unfold ir; omega) hI_66 (by omega) (by omega) hF hLo hE hU hp_67 (by omega) (by omega) (by omega) (by omega) (by omega) (by omega) (by omega)) (wm 4 92 rfl rfl) (wm 4 94 rfl rfl) (wm 0 39 rfl rfl) rfl rfl (by decide) rfl (wm 1 12 rfl rfl) (wm 4 95 rfl rfl) (by decide) hR ⟨sfr (F := F) (a := 1) (by decide), slo (L := Lo) (m := 3) (a := 22) (by decide)⟩ (n := 2) rfl rfl (Nat.le_of_ble_eq_true rfl) hl.1 dX7_ownPrimary_96 (fun μ92 ρ d0 H locs hp G => ?_)
          obtain ⟨F_93, hI_94, hp_95, hp_96, hp_97, hp_98, hp_99, hp_100, hs_101, hs_102, hs_103, hs_104, hs_105, hs_106, hs_107, hs_108, hs_109⟩ := hp
          have hn_110 : -1 ≤ μ92.1 26 10 ∧ μ92.1 26 10 ≤ 3000 := hI_94.nm.2.2.2.2.2.2.2.2.2.2.2.2
          have hk_111 := hI_94.pr (p := P) hprP
          unfold pk at hk_111
          have hc_112 : 16 ≤ μ92.2.1 (P + 1) ∧ μ92.2.1 (P + 1) ≤ 73024 := hI_94.rm.1 _ hprP.cap
          have hk_113 := hI_94.row (r := P + 2) (hprP.row)
          unfold rk at hk_113
          have htb_114 := hp_95.b
          have hpx_115 : μ92.1 26 11 = 0 → PXE μ μ92 P tt 1 (-1) 1 := fun h0 => (PXE.app (hpx_77 (by have h9 : μ63.1 26 11 = μ63.1 26 11 := rfl; have h8 : μ92.1 26 11 = μ92.1 26 11 := rfl; omega)) (hp_100 h0)).e (by omega)
          refine lv_aload_n hx hb dX7_ownPrimary_99 rfl (lv_at hl 1 rfl) ?_
          refine lv_bipush (v := iv 17) hx hb dX7_ownPrimary_100 rfl ?_
          refine lv_iload_n hx hb dX7_ownPrimary_102 rfl (lv_at hl 0 rfl) ?_
          refine lv_iconst (v := iv 0) hx hb dX7_ownPrimary_103 rfl ?_
          refine lv_aload_n hx hb dX7_ownPrimary_104 rfl (lv_at hl 1 rfl) ?_
          refine lv_iconst (v := iv (-1)) hx hb dX7_ownPrimary_105 rfl ?_
          refine lv_iconst (v := iv 0) hx hb dX7_ownPrimary_106 rfl ?_
          have e_116 : μ92.1 23 2 = P := (hs_101.trans ((F_65.1 23 (by decide) 2).trans ((F_28.1 23 (by decide) 2).trans hP.symm)))
          have e_117 : μ92.1 23 8 = tt := (hs_105.trans ((F_65.1 23 (by decide) 8).trans ((F_28.1 23 (by decide) 8).trans htt.symm)))
          refine xc_iV G (b := 23) (rest := [.int (iv 0), .int (iv r_64), .int (iv 17), .ref (oP ω 23)]) (As := [.int (iv (-1)), .int (iv 0)]) (c_X7_ifFails ω l μ92 (-1) 0 μ (1) (1) P tt (by unfold ir; omega) (by unfold ir; omega) hI_94 (by omega) (by omega) (by omega) hpx_115 (by omega) (by omega)) (wm 4 23 rfl rfl) (wm 4 25 rfl rfl) (wm 0 29 rfl rfl) rfl rfl (by decide) rfl (wm 1 12 rfl rfl) (wm 4 26 rfl rfl) (by decide) hR ⟨nfr hF (by decide), nlo hLo (by decide)⟩ (n := 2) rfl rfl (Nat.le_of_ble_eq_true rfl) hl.1 dX7_ownPrimary_107 (fun r_119 μ118 ρ d0 H locs hr_r_119 hp G => ?_)
          have hr_r_119 : -2147483648 ≤ r_119 ∧ r_119 ≤ 2147483647 := hr_r_119
          obtain ⟨F_120, hI_121, hp_122, hp_123, hs_124⟩ := hp
          have hk_125 := hI_121.pr (p := P) hprP
          unfold pk at hk_125
          have hc_126 : 16 ≤ μ118.2.1 (P + 1) ∧ μ118.2.1 (P + 1) ≤ 73024 := hI_121.rm.1 _ hprP.cap
          have hpx_127 : μ118.1 26 11 = 0 → PXE μ μ118 P tt 1 r_119 1 := fun h0 => hp_122 (by have h9 : μ92.1 26 11 = μ92.1 26 11 := rfl; have h8 : μ118.1 26 11 = μ92.1 26 11 := (F_120.1 26 (ni hprP (fun P => 26) (fun P => [P, P + 1]) rfl) 11); omega)
          clear hp_122
          have e_128 : μ118.1 23 2 = P := ((F_120.1 23 (ni hprP (fun P => 23) (fun P => [P, P + 1]) rfl) 2).trans (hs_101.trans ((F_65.1 23 (by decide) 2).trans ((F_28.1 23 (by decide) 2).trans hP.symm))))
          have e_129 : μ118.1 23 8 = tt := ((F_120.1 23 (ni hprP (fun P => 23) (fun P => [P, P + 1]) rfl) 8).trans (hs_105.trans ((F_65.1 23 (by decide) 8).trans ((F_28.1 23 (by decide) 8).trans htt.symm))))
          refine xc_vV G (b := 23) (rest := []) (As := [.int (iv 17), .int (iv r_64), .int (iv 0), .int (iv r_119)]) (c_X7_endOfParts ω l μ118 17 r_64 0 r_119 μ (1) (1) P tt (by unfold ir; omega) (by unfold ir; omega) (by unfold ir; omega) (by unfold ir; omega) hI_121 (by omega) (by omega) (by omega) hpx_127 (Or.inl (by unfold plain; omega)) (by omega) (by rw [show eff 17 r_64 = 0 from rfl]; omega)) (wm 4 27 rfl rfl) (wm 4 29 rfl rfl) (wm 0 30 rfl rfl) rfl rfl (by decide) rfl (wm 1 12 rfl rfl) (wm 4 30 rfl rfl) (by decide) hR ⟨nfr hF (by decide), nlo hLo (by decide)⟩ (n := 4) rfl rfl (Nat.le_of_ble_eq_true rfl) hl.1 dX7_ownPrimary_110 (fun μ130 ρ d0 H locs hp G => ?_)
          obtain ⟨F_131, hI_132, hp_133, hs_134, hs_135⟩ := hp
          have hpx_136 : μ130.1 26 11 = 0 → PXE μ μ130 P tt 1 (-1) 1 := fun h0 => PXE.of (hp_133 (by have h9 : μ118.1 26 11 = μ92.1 26 11 := (F_120.1 26 (ni hprP (fun P => 26) (fun P => [P, P + 1]) rfl) 11); have h8 : μ130.1 26 11 = μ92.1 26 11 := ((F_131.1 26 (ni hprP (fun P => 26) (fun P => [P, P + 1]) rfl) 11).trans (F_120.1 26 (ni hprP (fun P => 26) (fun P => [P, P + 1]) rfl) 11)); omega))
          clear hp_133
          refine lv_goto (tgt := 123) hx hb dX7_ownPrimary_113 (by decide) ?_
          have htk_137 : TK μ130 := hp_95.fr (K := [P, P + 1]) (Fr.tr (Fr.tr Fr.rf F_120 (si hprP (fun P => [P, P + 1]) (fun P => [P, P + 1]) rfl)) F_131 (si hprP (fun P => [P, P + 1]) (fun P => [P, P + 1]) rfl)) (ni hprP (fun P => 26) (fun P => [P, P + 1]) rfl) (ni hprP (fun P => 28) (fun P => [P, P + 1]) rfl)
          have e_138 : μ130.1 26 11 = μ92.1 26 11 := ((F_131.1 26 (ni hprP (fun P => 26) (fun P => [P, P + 1]) rfl) 11).trans (F_120.1 26 (ni hprP (fun P => 26) (fun P => [P, P + 1]) rfl) 11))
          have e_139 : μ130.1 26 11 = μ92.1 26 11 := ((F_131.1 26 (ni hprP (fun P => 26) (fun P => [P, P + 1]) rfl) 11).trans (F_120.1 26 (ni hprP (fun P => 26) (fun P => [P, P + 1]) rfl) 11))
          have e_140 : μ130.1 26 10 = μ92.1 26 10 := ((F_131.1 26 (ni hprP (fun P => 26) (fun P => [P, P + 1]) rfl) 10).trans (F_120.1 26 (ni hprP (fun P => 26) (fun P => [P, P + 1]) rfl) 10))
          have e_141 : μ130.1 P 1 = μ118.1 P 1 + 1 := hs_134
          have e_142 : μ130.1 P 1 = μ118.1 P 1 + 1 := hs_134
          have e_143 : μ130.1 26 10 = μ92.1 26 10 := ((F_131.1 26 (ni hprP (fun P => 26) (fun P => [P, P + 1]) rfl) 10).trans (F_120.1 26 (ni hprP (fun P => 26) (fun P => [P, P + 1]) rfl) 10))
          have e_144 : μ130.1 26 11 = μ92.1 26 11 := ((F_131.1 26 (ni hprP (fun P => 26) (fun P => [P, P + 1]) rfl) 11).trans (F_120.1 26 (ni hprP (fun P => 26) (fun P => [P, P + 1]) rfl) 11))
          have e_145 : μ130.1 (P + 2) 3 = μ92.1 (P + 2) 3 := ((F_131.1 (P + 2) (ni hprP (fun P => P + 2) (fun P => [P, P + 1]) rfl) 3).trans (F_120.1 (P + 2) (ni hprP (fun P => P + 2) (fun P => [P, P + 1]) rfl) 3))
          have e_146 : μ130.1 P 1 = μ118.1 P 1 + 1 := hs_134
          have e_147 : μ130.1 (P + 2) 3 = μ92.1 (P + 2) 3 := ((F_131.1 (P + 2) (ni hprP (fun P => P + 2) (fun P => [P, P + 1]) rfl) 3).trans (F_120.1 (P + 2) (ni hprP (fun P => P + 2) (fun P => [P, P + 1]) rfl) 3))
          exact xr_v G hret hlk dX7_ownPrimary_123 ⟨(Fr.tr (Fr.tr (Fr.tr (Fr.tr (Fr.tr Fr.rf F_28 (si hprP (fun P => [26]) (fun P => [2, 3, 4, 23, 24, 26, P, P + 1, P + 2, (P + 2) + 1, (P + 2) + 2, (P + 2) + 3]) rfl)) F_65 (si hprP (fun P => [26, 2, 3, 4, 24]) (fun P => [2, 3, 4, 23, 24, 26, P, P + 1, P + 2, (P + 2) + 1, (P + 2) + 2, (P + 2) + 3]) rfl)) F_93 (si hprP (fun P => [2, 3, 4, 23, 24, 26, P, P + 1, P + 2, (P + 2) + 1, (P + 2) + 2, (P + 2) + 3]) (fun P => [2, 3, 4, 23, 24, 26, P, P + 1, P + 2, (P + 2) + 1, (P + 2) + 2, (P + 2) + 3]) rfl)) F_120 (si hprP (fun P => [P, P + 1]) (fun P => [2, 3, 4, 23, 24, 26, P, P + 1, P + 2, (P + 2) + 1, (P + 2) + 2, (P + 2) + 3]) rfl)) F_131 (si hprP (fun P => [P, P + 1]) (fun P => [2, 3, 4, 23, 24, 26, P, P + 1, P + 2, (P + 2) + 1, (P + 2) + 2, (P + 2) + 3]) rfl)), hI_132, htk_137, (by omega), (by omega), (by omega), (by omega), (fun h0 => (PXE.ex (hpx_136 h0)).e (by omega)), (((F_131.1 23 (ni hprP (fun P => 23) (fun P => [P, P + 1]) rfl) 2).trans ((F_120.1 23 (ni hprP (fun P => 23) (fun P => [P, P + 1]) rfl) 2).trans (hs_101.trans ((F_65.1 23 (by decide) 2).trans ((F_28.1 23 (by decide) 2).trans hP.symm)))))).trans hP, ((F_131.1 23 (ni hprP (fun P => 23) (fun P => [P, P + 1]) rfl) 5).trans ((F_120.1 23 (ni hprP (fun P => 23) (fun P => [P, P + 1]) rfl) 5).trans (hs_102.trans ((F_65.1 23 (by decide) 5).trans (F_28.1 23 (by decide) 5))))), ((F_131.1 23 (ni hprP (fun P => 23) (fun P => [P, P + 1]) rfl) 6).trans ((F_120.1 23 (ni hprP (fun P => 23) (fun P => [P, P + 1]) rfl) 6).trans (hs_103.trans ((F_65.1 23 (by decide) 6).trans (F_28.1 23 (by decide) 6))))), ((F_131.1 23 (ni hprP (fun P => 23) (fun P => [P, P + 1]) rfl) 7).trans ((F_120.1 23 (ni hprP (fun P => 23) (fun P => [P, P + 1]) rfl) 7).trans (hs_104.trans ((F_65.1 23 (by decide) 7).trans (F_28.1 23 (by decide) 7))))), (((F_131.1 23 (ni hprP (fun P => 23) (fun P => [P, P + 1]) rfl) 8).trans ((F_120.1 23 (ni hprP (fun P => 23) (fun P => [P, P + 1]) rfl) 8).trans (hs_105.trans ((F_65.1 23 (by decide) 8).trans ((F_28.1 23 (by decide) 8).trans htt.symm)))))).trans htt, ((F_131.1 23 (ni hprP (fun P => 23) (fun P => [P, P + 1]) rfl) 9).trans ((F_120.1 23 (ni hprP (fun P => 23) (fun P => [P, P + 1]) rfl) 9).trans (hs_106.trans ((F_65.1 23 (by decide) 9).trans (F_28.1 23 (by decide) 9))))), ((F_131.1 23 (ni hprP (fun P => 23) (fun P => [P, P + 1]) rfl) 10).trans ((F_120.1 23 (ni hprP (fun P => 23) (fun P => [P, P + 1]) rfl) 10).trans (hs_107.trans ((F_65.1 23 (by decide) 10).trans (F_28.1 23 (by decide) 10))))), ((F_131.1 26 (ni hprP (fun P => 26) (fun P => [P, P + 1]) rfl) 6).trans ((F_120.1 26 (ni hprP (fun P => 26) (fun P => [P, P + 1]) rfl) 6).trans (hs_108.trans (hs_70.trans hs_33)))), (hs_135.trans (hs_124.trans (hs_109.trans ((F_65.1 P (ni hprP (fun P => P) (fun P => [26, 2, 3, 4, 24]) rfl) 7).trans (F_28.1 P (ni hprP (fun P => P) (fun P => [26]) rfl) 7)))))⟩
    · refine lv_aload_n hx hb dX7_ownPrimary_38 rfl (lv_at hl 0 rfl) ?_
      refine lv_sipush (v := iv 227) hx hb dX7_ownPrimary_39 rfl ?_
      have hn_148 : -1 ≤ μ.1 26 10 ∧ μ.1 26 10 ≤ 3000 := hI.nm.2.2.2.2.2.2.2.2.2.2.2.2
      refine xc_iV G (b := 23) (rest := []) (As := [.int (iv 227)]) (c_X7_took_b ω l μ 227 (by unfold ir; omega) hI hTK (by omega)) (wm 3 160 rfl rfl) (wm 3 162 rfl rfl) (wm 0 9 rfl rfl) rfl rfl (by decide) rfl (wm 1 12 rfl rfl) (wm 3 163 rfl rfl) (by decide) hR ⟨nfr hF (by decide), nlo hLo (by decide)⟩ (n := 1) rfl rfl (Nat.le_of_ble_eq_true rfl) hl.1 dX7_ownPrimary_42 (fun r_150 μ149 ρ d0 H locs hr_r_150 hp G => ?_)
      have hr_r_150 : -2147483648 ≤ r_150 ∧ r_150 ≤ 2147483647 := hr_r_150
      obtain ⟨F_151, hI_152, hp_153, hp_154, hs_155, hs_156, hs_157, hs_158, hs_159⟩ := hp
      have hn_160 : -1 ≤ μ149.1 26 10 ∧ μ149.1 26 10 ≤ 3000 := hI_152.nm.2.2.2.2.2.2.2.2.2.2.2.2
      have htb_161 := hp_153.b
      refine xb_if_eq (tgt := 68) hx hb (by unfold ir; omega) dX7_ownPrimary_45 (by decide) (fun c_45 => ?_) (fun c_45 => ?_)
      · refine lv_aload_n hx hb dX7_ownPrimary_68 rfl (lv_at hl 0 rfl) ?_
        refine xa_geti G fd_X7 (a := 23) (x := tt) 8 rfl (by decide) rfl (wm 2 25 rfl rfl) ⟨rfl, rfl, rfl⟩ dX7_ownPrimary_69 rfl ((F_151.1 23 (by decide) 8).trans htt.symm) ?_
        refine lv_iconst (v := iv 2) hx hb dX7_ownPrimary_72 rfl ?_
        refine xb_icmp_ne (tgt := 116) hx hb (by unfold ir; omega) (by unfold ir; omega) dX7_ownPrimary_73 (by decide) (fun c_73 => ?_) (fun c_73 => ?_)
        · refine lv_aload_n hx hb dX7_ownPrimary_116 rfl (lv_at hl 0 rfl) ?_
          refine xa_getr G fd_X7 (a := 23) (x := 26) 0 rfl (by decide) rfl (wm 2 17 rfl rfl) ⟨rfl, rfl, rfl⟩ dX7_ownPrimary_117 rfl (G.sk 23 rfl) (by decide) rfl ?_
          have hpx_162 : μ149.1 26 11 = 0 → PXE μ μ149 P tt 0 (-1) 1 := fun h0 => (hnil (by have h9 : μ.1 26 11 = μ.1 26 11 := rfl; have h8 : μ149.1 26 11 = μ.1 26 11 := hs_155; omega)).fr (K := [26]) (Fr.tr Fr.rf F_151 (by decide)) (npL_p (L := [26]) (by decide) hprP).1 (npL_p (L := [26]) (by decide) hprP).2.1
          refine xc_vV G (b := 26) (rest := []) (As := []) (c_X10_stop ω l μ149  hI_152) (wm 3 173 rfl rfl) (wm 3 174 rfl rfl) (wm 3 175 rfl rfl) rfl rfl (by decide) rfl (wm 1 13 rfl rfl) (wm 3 176 rfl rfl) (by decide) hR ⟨nfr hF (by decide), nlo hLo (by decide)⟩ (n := 0) rfl rfl (Nat.le_of_ble_eq_true rfl) hl.1 dX7_ownPrimary_120 (fun μ163 ρ d0 H locs hp G => ?_)
          obtain ⟨F_164, hI_165, hp_166, hp_167, hs_168, hs_169, hs_170, hs_171, hs_172, hs_173, hs_174⟩ := hp
          have htk_175 : TK μ163 := TK.st hp_153 F_164 hp_166 hp_167 (((hs_168.trans hs_156)).trans (hs_156).symm) hs_172
          have hpx_176 : μ163.1 26 11 = 0 → PXE μ μ163 P tt 0 (-1) 1 := fun h0 => (hpx_162 (by have h9 : μ149.1 26 11 = μ.1 26 11 := hs_155; have h8 : μ163.1 26 11 = μ163.1 26 11 := rfl; omega)).fr (K := [26]) (Fr.tr Fr.rf F_164 (by decide)) (npL_p (L := [26]) (by decide) hprP).1 (npL_p (L := [26]) (by decide) hprP).2.1
          have e_177 : μ163.1 26 10 = μ149.1 26 10 := hs_172
          have e_178 : μ163.1 P 1 = μ.1 P 1 := ((F_164.1 P (ni hprP (fun P => P) (fun P => [26]) rfl) 1).trans (F_151.1 P (ni hprP (fun P => P) (fun P => [26]) rfl) 1))
          have e_179 : μ163.1 P 1 = μ.1 P 1 := ((F_164.1 P (ni hprP (fun P => P) (fun P => [26]) rfl) 1).trans (F_151.1 P (ni hprP (fun P => P) (fun P => [26]) rfl) 1))
          have e_180 : μ163.1 26 10 = μ149.1 26 10 := hs_172
          have e_181 : μ163.1 (P + 2) 3 = μ.1 (P + 2) 3 := ((F_164.1 (P + 2) (ni hprP (fun P => P + 2) (fun P => [26]) rfl) 3).trans (F_151.1 (P + 2) (ni hprP (fun P => P + 2) (fun P => [26]) rfl) 3))
          have e_182 : μ163.1 P 1 = μ.1 P 1 := ((F_164.1 P (ni hprP (fun P => P) (fun P => [26]) rfl) 1).trans (F_151.1 P (ni hprP (fun P => P) (fun P => [26]) rfl) 1))
          have e_183 : μ163.1 (P + 2) 3 = μ.1 (P + 2) 3 := ((F_164.1 (P + 2) (ni hprP (fun P => P + 2) (fun P => [26]) rfl) 3).trans (F_151.1 (P + 2) (ni hprP (fun P => P + 2) (fun P => [26]) rfl) 3))
          exact xr_v G hret hlk dX7_ownPrimary_123 ⟨(Fr.tr (Fr.tr Fr.rf F_151 (si hprP (fun P => [26]) (fun P => [2, 3, 4, 23, 24, 26, P, P + 1, P + 2, (P + 2) + 1, (P + 2) + 2, (P + 2) + 3]) rfl)) F_164 (si hprP (fun P => [26]) (fun P => [2, 3, 4, 23, 24, 26, P, P + 1, P + 2, (P + 2) + 1, (P + 2) + 2, (P + 2) + 3]) rfl)), hI_165, htk_175, (by omega), (by omega), (by omega), (by omega), (fun h0 => (PXE.ex (hpx_176 h0)).e (by omega)), (((F_164.1 23 (by decide) 2).trans ((F_151.1 23 (by decide) 2).trans hP.symm))).trans hP, ((F_164.1 23 (by decide) 5).trans (F_151.1 23 (by decide) 5)), ((F_164.1 23 (by decide) 6).trans (F_151.1 23 (by decide) 6)), ((F_164.1 23 (by decide) 7).trans (F_151.1 23 (by decide) 7)), (((F_164.1 23 (by decide) 8).trans ((F_151.1 23 (by decide) 8).trans htt.symm))).trans htt, ((F_164.1 23 (by decide) 9).trans (F_151.1 23 (by decide) 9)), ((F_164.1 23 (by decide) 10).trans (F_151.1 23 (by decide) 10)), (hs_168.trans hs_156), ((F_164.1 P (ni hprP (fun P => P) (fun P => [26]) rfl) 7).trans (F_151.1 P (ni hprP (fun P => P) (fun P => [26]) rfl) 7))⟩
        · refine lv_aload_n hx hb dX7_ownPrimary_76 rfl (lv_at hl 0 rfl) ?_
          refine lv_sipush (v := iv 228) hx hb dX7_ownPrimary_77 rfl ?_
          have hpx_184 : μ149.1 26 11 = 0 → PXE μ μ149 P tt 0 (-1) 1 := fun h0 => (hnil (by have h9 : μ.1 26 11 = μ.1 26 11 := rfl; have h8 : μ149.1 26 11 = μ.1 26 11 := hs_155; omega)).fr (K := [26]) (Fr.tr Fr.rf F_151 (by decide)) (npL_p (L := [26]) (by decide) hprP).1 (npL_p (L := [26]) (by decide) hprP).2.1
          have e_185 : μ149.1 26 11 = μ.1 26 11 := hs_155
          refine xc_iV G (b := 23) (rest := []) (As := [.int (iv 228)]) (c_X7_took_b ω l μ149 228 (by unfold ir; omega) hI_152 hp_153 (by omega)) (wm 3 160 rfl rfl) (wm 3 162 rfl rfl) (wm 0 9 rfl rfl) rfl rfl (by decide) rfl (wm 1 12 rfl rfl) (wm 3 163 rfl rfl) (by decide) hR ⟨nfr hF (by decide), nlo hLo (by decide)⟩ (n := 1) rfl rfl (Nat.le_of_ble_eq_true rfl) hl.1 dX7_ownPrimary_80 (fun r_187 μ186 ρ d0 H locs hr_r_187 hp G => ?_)
          have hr_r_187 : -2147483648 ≤ r_187 ∧ r_187 ≤ 2147483647 := hr_r_187
          obtain ⟨F_188, hI_189, hp_190, hp_191, hs_192, hs_193, hs_194, hs_195, hs_196⟩ := hp
          have hn_197 : -1 ≤ μ186.1 26 10 ∧ μ186.1 26 10 ≤ 3000 := hI_189.nm.2.2.2.2.2.2.2.2.2.2.2.2
          have htb_198 := hp_190.b
          refine xb_if_eq (tgt := 116) hx hb (by unfold ir; omega) dX7_ownPrimary_83 (by decide) (fun c_83 => ?_) (fun c_83 => ?_)
          · refine lv_aload_n hx hb dX7_ownPrimary_116 rfl (lv_at hl 0 rfl) ?_
            refine xa_getr G fd_X7 (a := 23) (x := 26) 0 rfl (by decide) rfl (wm 2 17 rfl rfl) ⟨rfl, rfl, rfl⟩ dX7_ownPrimary_117 rfl (G.sk 23 rfl) (by decide) rfl ?_
            have hpx_199 : μ186.1 26 11 = 0 → PXE μ μ186 P tt 0 (-1) 1 := fun h0 => (hpx_184 (by have h9 : μ149.1 26 11 = μ.1 26 11 := hs_155; have h8 : μ186.1 26 11 = μ.1 26 11 := (hs_192.trans hs_155); omega)).fr (K := [26]) (Fr.tr Fr.rf F_188 (by decide)) (npL_p (L := [26]) (by decide) hprP).1 (npL_p (L := [26]) (by decide) hprP).2.1
            refine xc_vV G (b := 26) (rest := []) (As := []) (c_X10_stop ω l μ186  hI_189) (wm 3 173 rfl rfl) (wm 3 174 rfl rfl) (wm 3 175 rfl rfl) rfl rfl (by decide) rfl (wm 1 13 rfl rfl) (wm 3 176 rfl rfl) (by decide) hR ⟨nfr hF (by decide), nlo hLo (by decide)⟩ (n := 0) rfl rfl (Nat.le_of_ble_eq_true rfl) hl.1 dX7_ownPrimary_120 (fun μ200 ρ d0 H locs hp G => ?_)
            obtain ⟨F_201, hI_202, hp_203, hp_204, hs_205, hs_206, hs_207, hs_208, hs_209, hs_210, hs_211⟩ := hp
            have htk_212 : TK μ200 := TK.st hp_190 F_201 hp_203 hp_204 (((hs_205.trans (hs_193.trans hs_156))).trans ((hs_193.trans hs_156)).symm) hs_209
            have hpx_213 : μ200.1 26 11 = 0 → PXE μ μ200 P tt 0 (-1) 1 := fun h0 => (hpx_199 (by have h9 : μ186.1 26 11 = μ.1 26 11 := (hs_192.trans hs_155); have h8 : μ200.1 26 11 = μ200.1 26 11 := rfl; omega)).fr (K := [26]) (Fr.tr Fr.rf F_201 (by decide)) (npL_p (L := [26]) (by decide) hprP).1 (npL_p (L := [26]) (by decide) hprP).2.1
            have e_214 : μ200.1 26 10 = μ186.1 26 10 := hs_209
            have e_215 : μ200.1 P 1 = μ.1 P 1 := ((F_201.1 P (ni hprP (fun P => P) (fun P => [26]) rfl) 1).trans ((F_188.1 P (ni hprP (fun P => P) (fun P => [26]) rfl) 1).trans (F_151.1 P (ni hprP (fun P => P) (fun P => [26]) rfl) 1)))
            have e_216 : μ200.1 P 1 = μ.1 P 1 := ((F_201.1 P (ni hprP (fun P => P) (fun P => [26]) rfl) 1).trans ((F_188.1 P (ni hprP (fun P => P) (fun P => [26]) rfl) 1).trans (F_151.1 P (ni hprP (fun P => P) (fun P => [26]) rfl) 1)))
            have e_217 : μ200.1 26 10 = μ186.1 26 10 := hs_209
            have e_218 : μ200.1 (P + 2) 3 = μ.1 (P + 2) 3 := ((F_201.1 (P + 2) (ni hprP (fun P => P + 2) (fun P => [26]) rfl) 3).trans ((F_188.1 (P + 2) (ni hprP (fun P => P + 2) (fun P => [26]) rfl) 3).trans (F_151.1 (P + 2) (ni hprP (fun P => P + 2) (fun P => [26]) rfl) 3)))
            have e_219 : μ200.1 P 1 = μ.1 P 1 := ((F_201.1 P (ni hprP (fun P => P) (fun P => [26]) rfl) 1).trans ((F_188.1 P (ni hprP (fun P => P) (fun P => [26]) rfl) 1).trans (F_151.1 P (ni hprP (fun P => P) (fun P => [26]) rfl) 1)))
            have e_220 : μ200.1 (P + 2) 3 = μ.1 (P + 2) 3 := ((F_201.1 (P + 2) (ni hprP (fun P => P + 2) (fun P => [26]) rfl) 3).trans ((F_188.1 (P + 2) (ni hprP (fun P => P + 2) (fun P => [26]) rfl) 3).trans (F_151.1 (P + 2) (ni hprP (fun P => P + 2) (fun P => [26]) rfl) 3)))
            exact xr_v G hret hlk dX7_ownPrimary_123 ⟨(Fr.tr (Fr.tr (Fr.tr Fr.rf F_151 (si hprP (fun P => [26]) (fun P => [2, 3, 4, 23, 24, 26, P, P + 1, P + 2, (P + 2) + 1, (P + 2) + 2, (P + 2) + 3]) rfl)) F_188 (si hprP (fun P => [26]) (fun P => [2, 3, 4, 23, 24, 26, P, P + 1, P + 2, (P + 2) + 1, (P + 2) + 2, (P + 2) + 3]) rfl)) F_201 (si hprP (fun P => [26]) (fun P => [2, 3, 4, 23, 24, 26, P, P + 1, P + 2, (P + 2) + 1, (P + 2) + 2, (P + 2) + 3]) rfl)), hI_202, htk_212, (by omega), (by omega), (by omega), (by omega), (fun h0 => (PXE.ex (hpx_213 h0)).e (by omega)), (((F_201.1 23 (by decide) 2).trans ((F_188.1 23 (by decide) 2).trans ((F_151.1 23 (by decide) 2).trans hP.symm)))).trans hP, ((F_201.1 23 (by decide) 5).trans ((F_188.1 23 (by decide) 5).trans (F_151.1 23 (by decide) 5))), ((F_201.1 23 (by decide) 6).trans ((F_188.1 23 (by decide) 6).trans (F_151.1 23 (by decide) 6))), ((F_201.1 23 (by decide) 7).trans ((F_188.1 23 (by decide) 7).trans (F_151.1 23 (by decide) 7))), (((F_201.1 23 (by decide) 8).trans ((F_188.1 23 (by decide) 8).trans ((F_151.1 23 (by decide) 8).trans htt.symm)))).trans htt, ((F_201.1 23 (by decide) 9).trans ((F_188.1 23 (by decide) 9).trans (F_151.1 23 (by decide) 9))), ((F_201.1 23 (by decide) 10).trans ((F_188.1 23 (by decide) 10).trans (F_151.1 23 (by decide) 10))), (hs_205.trans (hs_193.trans hs_156)), ((F_201.1 P (ni hprP (fun P => P) (fun P => [26]) rfl) 7).trans ((F_188.1 P (ni hprP (fun P => P) (fun P => [26]) rfl) 7).trans (F_151.1 P (ni hprP (fun P => P) (fun P => [26]) rfl) 7)))⟩
          · refine lv_aload_n hx hb dX7_ownPrimary_86 rfl (lv_at hl 0 rfl) ?_
            have hpx_221 : μ186.1 26 11 = 0 → PXE μ μ186 P tt 0 (-1) 1 := fun h0 => (hpx_184 (by have h9 : μ149.1 26 11 = μ.1 26 11 := hs_155; have h8 : μ186.1 26 11 = μ.1 26 11 := (hs_192.trans hs_155); omega)).fr (K := [26]) (Fr.tr Fr.rf F_188 (by decide)) (npL_p (L := [26]) (by decide) hprP).1 (npL_p (L := [26]) (by decide) hprP).2.1
            have e_222 : μ186.1 26 11 = μ.1 26 11 := (hs_192.trans hs_155)
            refine xc_iV G (b := 23) (rest := []) (As := []) (c_X7_nameOfFailing ω l μ186  hI_189 hp_190) (wm 4 112 rfl rfl) (wm 4 114 rfl rfl) (wm 0 44 rfl rfl) rfl rfl (by decide) rfl (wm 1 12 rfl rfl) (wm 4 115 rfl rfl) (by decide) hR ⟨nfr hF (by decide), nlo hLo (by decide)⟩ (n := 0) rfl rfl (Nat.le_of_ble_eq_true rfl) hl.1 dX7_ownPrimary_87 (fun r_224 μ223 ρ d0 H locs hr_r_224 hp G => ?_)
            have hr_r_224 : -2147483648 ≤ r_224 ∧ r_224 ≤ 2147483647 := hr_r_224
            obtain ⟨F_225, hI_226, hp_227, hp_228, hp_229, hs_230, hs_231, hs_232, hs_233, hs_234⟩ := hp
            have hn_235 : -1 ≤ μ223.1 26 10 ∧ μ223.1 26 10 ≤ 3000 := hI_226.nm.2.2.2.2.2.2.2.2.2.2.2.2
            have htb_236 := hp_227.b
            refine lv_istore_n (lv' := [(1, .int (iv r_224)), (0, .ref (oP ω 23))]) hx hb dX7_ownPrimary_90 rfl hl (by decide) rfl (fun ls hl => ?_)
            refine lv_aload_n hx hb dX7_ownPrimary_91 rfl (lv_at hl 1 rfl) ?_
            refine lv_bipush (v := iv 40) hx hb dX7_ownPrimary_92 rfl ?_
            refine lv_bipush (v := iv 41) hx hb dX7_ownPrimary_94 rfl ?_
            have hpx_237 : μ223.1 26 11 = 0 → PXE μ μ223 P tt 0 (-1) 1 := fun h0 => (hpx_221 (by have h9 : μ186.1 26 11 = μ.1 26 11 := (hs_192.trans hs_155); have h8 : μ223.1 26 11 = μ223.1 26 11 := rfl; omega)).fr (K := [26, 2, 3, 4, 24]) (Fr.tr Fr.rf F_225 (by decide)) (npL_p (L := [26, 2, 3, 4, 24]) (by decide) hprP).1 (npL_p (L := [26, 2, 3, 4, 24]) (by decide) hprP).2.1
            have e_238 : μ223.1 23 2 = P := ((F_225.1 23 (by decide) 2).trans ((F_188.1 23 (by decide) 2).trans ((F_151.1 23 (by decide) 2).trans hP.symm)))
            have e_239 : μ223.1 23 8 = tt := ((F_225.1 23 (by decide) 8).trans ((F_188.1 23 (by decide) 8).trans ((F_151.1 23 (by decide) 8).trans htt.symm)))
            have e_240 : μ223.1 P 1 = μ.1 P 1 := ((F_225.1 P (ni hprP (fun P => P) (fun P => [26, 2, 3, 4, 24]) rfl) 1).trans ((F_188.1 P (ni hprP (fun P => P) (fun P => [26]) rfl) 1).trans (F_151.1 P (ni hprP (fun P => P) (fun P => [26]) rfl) 1)))
            have hk_241 := hI.row (r := P + 2) (hprP.row)
            unfold rk at hk_241
            have e_242 : μ223.1 (P + 2) 3 = μ.1 (P + 2) 3 := ((F_225.1 (P + 2) (ni hprP (fun P => P + 2) (fun P => [26, 2, 3, 4, 24]) rfl) 3).trans ((F_188.1 (P + 2) (ni hprP (fun P => P + 2) (fun P => [26]) rfl) 3).trans (F_151.1 (P + 2) (ni hprP (fun P => P + 2) (fun P => [26]) rfl) 3)))
            have e_243 : μ223.1 P 1 = μ.1 P 1 := ((F_225.1 P (ni hprP (fun P => P) (fun P => [26, 2, 3, 4, 24]) rfl) 1).trans ((F_188.1 P (ni hprP (fun P => P) (fun P => [26]) rfl) 1).trans (F_151.1 P (ni hprP (fun P => P) (fun P => [26]) rfl) 1)))
            have e_244 : μ223.1 23 9 = μ.1 23 9 := ((F_225.1 23 (by decide) 9).trans ((F_188.1 23 (by decide) 9).trans (F_151.1 23 (by decide) 9)))
            have e_245 : μ223.1 23 9 = μ.1 23 9 := ((F_225.1 23 (by decide) 9).trans ((F_188.1 23 (by decide) 9).trans (F_151.1 23 (by decide) 9)))
            have e_246 : μ223.1 23 9 = μ.1 23 9 := ((F_225.1 23 (by decide) 9).trans ((F_188.1 23 (by decide) 9).trans (F_151.1 23 (by decide) 9)))
            have e_247 : μ223.1 P 1 = μ.1 P 1 := ((F_225.1 P (ni hprP (fun P => P) (fun P => [26, 2, 3, 4, 24]) rfl) 1).trans ((F_188.1 P (ni hprP (fun P => P) (fun P => [26]) rfl) 1).trans (F_151.1 P (ni hprP (fun P => P) (fun P => [26]) rfl) 1)))
            have e_248 : μ223.1 P 1 = μ.1 P 1 := ((F_225.1 P (ni hprP (fun P => P) (fun P => [26, 2, 3, 4, 24]) rfl) 1).trans ((F_188.1 P (ni hprP (fun P => P) (fun P => [26]) rfl) 1).trans (F_151.1 P (ni hprP (fun P => P) (fun P => [26]) rfl) 1)))
            have e_249 : μ223.1 (P + 2) 3 = μ.1 (P + 2) 3 := ((F_225.1 (P + 2) (ni hprP (fun P => P + 2) (fun P => [26, 2, 3, 4, 24]) rfl) 3).trans ((F_188.1 (P + 2) (ni hprP (fun P => P + 2) (fun P => [26]) rfl) 3).trans (F_151.1 (P + 2) (ni hprP (fun P => P + 2) (fun P => [26]) rfl) 3)))
            have e_250 : μ223.1 P 1 = μ.1 P 1 := ((F_225.1 P (ni hprP (fun P => P) (fun P => [26, 2, 3, 4, 24]) rfl) 1).trans ((F_188.1 P (ni hprP (fun P => P) (fun P => [26]) rfl) 1).trans (F_151.1 P (ni hprP (fun P => P) (fun P => [26]) rfl) 1)))
            have e_251 : μ223.1 (P + 2) 3 = μ.1 (P + 2) 3 := ((F_225.1 (P + 2) (ni hprP (fun P => P + 2) (fun P => [26, 2, 3, 4, 24]) rfl) 3).trans ((F_188.1 (P + 2) (ni hprP (fun P => P + 2) (fun P => [26]) rfl) 3).trans (F_151.1 (P + 2) (ni hprP (fun P => P + 2) (fun P => [26]) rfl) 3)))
            refine xc_vV G (b := 23) (rest := []) (As := [.int (iv 40), .int (iv 41)]) (c_X7_inBrackets ω l μ223 40 41 F Lo kf P tt (by unfold ir; omega) (by unfold ir; omega) hI_226 (by omega) (by omega) hF hLo hE hU hp_227 (by omega) (by omega) (by omega) (by omega) (by omega) (by omega) (by omega)) (wm 4 92 rfl rfl) (wm 4 94 rfl rfl) (wm 0 39 rfl rfl) rfl rfl (by decide) rfl (wm 1 12 rfl rfl) (wm 4 95 rfl rfl) (by decide) hR ⟨sfr (F := F) (a := 1) (by decide), slo (L := Lo) (m := 3) (a := 22) (by decide)⟩ (n := 2) rfl rfl (Nat.le_of_ble_eq_true rfl) hl.1 dX7_ownPrimary_96 (fun μ252 ρ d0 H locs hp G => ?_)
            obtain ⟨F_253, hI_254, hp_255, hp_256, hp_257, hp_258, hp_259, hp_260, hs_261, hs_262, hs_263, hs_264, hs_265, hs_266, hs_267, hs_268, hs_269⟩ := hp
            have hn_270 : -1 ≤ μ252.1 26 10 ∧ μ252.1 26 10 ≤ 3000 := hI_254.nm.2.2.2.2.2.2.2.2.2.2.2.2
            have hk_271 := hI_254.pr (p := P) hprP
            unfold pk at hk_271
            have hc_272 : 16 ≤ μ252.2.1 (P + 1) ∧ μ252.2.1 (P + 1) ≤ 73024 := hI_254.rm.1 _ hprP.cap
            have hk_273 := hI_254.row (r := P + 2) (hprP.row)
            unfold rk at hk_273
            have htb_274 := hp_255.b
            have hpx_275 : μ252.1 26 11 = 0 → PXE μ μ252 P tt 1 (-1) 1 := fun h0 => (PXE.app (hpx_237 (by have h9 : μ223.1 26 11 = μ223.1 26 11 := rfl; have h8 : μ252.1 26 11 = μ252.1 26 11 := rfl; omega)) (hp_260 h0)).e (by omega)
            refine lv_aload_n hx hb dX7_ownPrimary_99 rfl (lv_at hl 1 rfl) ?_
            refine lv_bipush (v := iv 17) hx hb dX7_ownPrimary_100 rfl ?_
            refine lv_iload_n hx hb dX7_ownPrimary_102 rfl (lv_at hl 0 rfl) ?_
            refine lv_iconst (v := iv 0) hx hb dX7_ownPrimary_103 rfl ?_
            refine lv_aload_n hx hb dX7_ownPrimary_104 rfl (lv_at hl 1 rfl) ?_
            refine lv_iconst (v := iv (-1)) hx hb dX7_ownPrimary_105 rfl ?_
            refine lv_iconst (v := iv 0) hx hb dX7_ownPrimary_106 rfl ?_
            have e_276 : μ252.1 23 2 = P := (hs_261.trans ((F_225.1 23 (by decide) 2).trans ((F_188.1 23 (by decide) 2).trans ((F_151.1 23 (by decide) 2).trans hP.symm))))
            have e_277 : μ252.1 23 8 = tt := (hs_265.trans ((F_225.1 23 (by decide) 8).trans ((F_188.1 23 (by decide) 8).trans ((F_151.1 23 (by decide) 8).trans htt.symm))))
            refine xc_iV G (b := 23) (rest := [.int (iv 0), .int (iv r_224), .int (iv 17), .ref (oP ω 23)]) (As := [.int (iv (-1)), .int (iv 0)]) (c_X7_ifFails ω l μ252 (-1) 0 μ (1) (1) P tt (by unfold ir; omega) (by unfold ir; omega) hI_254 (by omega) (by omega) (by omega) hpx_275 (by omega) (by omega)) (wm 4 23 rfl rfl) (wm 4 25 rfl rfl) (wm 0 29 rfl rfl) rfl rfl (by decide) rfl (wm 1 12 rfl rfl) (wm 4 26 rfl rfl) (by decide) hR ⟨nfr hF (by decide), nlo hLo (by decide)⟩ (n := 2) rfl rfl (Nat.le_of_ble_eq_true rfl) hl.1 dX7_ownPrimary_107 (fun r_279 μ278 ρ d0 H locs hr_r_279 hp G => ?_)
            have hr_r_279 : -2147483648 ≤ r_279 ∧ r_279 ≤ 2147483647 := hr_r_279
            obtain ⟨F_280, hI_281, hp_282, hp_283, hs_284⟩ := hp
            have hk_285 := hI_281.pr (p := P) hprP
            unfold pk at hk_285
            have hc_286 : 16 ≤ μ278.2.1 (P + 1) ∧ μ278.2.1 (P + 1) ≤ 73024 := hI_281.rm.1 _ hprP.cap
            have hpx_287 : μ278.1 26 11 = 0 → PXE μ μ278 P tt 1 r_279 1 := fun h0 => hp_282 (by have h9 : μ252.1 26 11 = μ252.1 26 11 := rfl; have h8 : μ278.1 26 11 = μ252.1 26 11 := (F_280.1 26 (ni hprP (fun P => 26) (fun P => [P, P + 1]) rfl) 11); omega)
            clear hp_282
            have e_288 : μ278.1 23 2 = P := ((F_280.1 23 (ni hprP (fun P => 23) (fun P => [P, P + 1]) rfl) 2).trans (hs_261.trans ((F_225.1 23 (by decide) 2).trans ((F_188.1 23 (by decide) 2).trans ((F_151.1 23 (by decide) 2).trans hP.symm)))))
            have e_289 : μ278.1 23 8 = tt := ((F_280.1 23 (ni hprP (fun P => 23) (fun P => [P, P + 1]) rfl) 8).trans (hs_265.trans ((F_225.1 23 (by decide) 8).trans ((F_188.1 23 (by decide) 8).trans ((F_151.1 23 (by decide) 8).trans htt.symm)))))
            refine xc_vV G (b := 23) (rest := []) (As := [.int (iv 17), .int (iv r_224), .int (iv 0), .int (iv r_279)]) (c_X7_endOfParts ω l μ278 17 r_224 0 r_279 μ (1) (1) P tt (by unfold ir; omega) (by unfold ir; omega) (by unfold ir; omega) (by unfold ir; omega) hI_281 (by omega) (by omega) (by omega) hpx_287 (Or.inl (by unfold plain; omega)) (by omega) (by rw [show eff 17 r_224 = 0 from rfl]; omega)) (wm 4 27 rfl rfl) (wm 4 29 rfl rfl) (wm 0 30 rfl rfl) rfl rfl (by decide) rfl (wm 1 12 rfl rfl) (wm 4 30 rfl rfl) (by decide) hR ⟨nfr hF (by decide), nlo hLo (by decide)⟩ (n := 4) rfl rfl (Nat.le_of_ble_eq_true rfl) hl.1 dX7_ownPrimary_110 (fun μ290 ρ d0 H locs hp G => ?_)
            obtain ⟨F_291, hI_292, hp_293, hs_294, hs_295⟩ := hp
            have hpx_296 : μ290.1 26 11 = 0 → PXE μ μ290 P tt 1 (-1) 1 := fun h0 => PXE.of (hp_293 (by have h9 : μ278.1 26 11 = μ252.1 26 11 := (F_280.1 26 (ni hprP (fun P => 26) (fun P => [P, P + 1]) rfl) 11); have h8 : μ290.1 26 11 = μ252.1 26 11 := ((F_291.1 26 (ni hprP (fun P => 26) (fun P => [P, P + 1]) rfl) 11).trans (F_280.1 26 (ni hprP (fun P => 26) (fun P => [P, P + 1]) rfl) 11)); omega))
            clear hp_293
            refine lv_goto (tgt := 123) hx hb dX7_ownPrimary_113 (by decide) ?_
            have htk_297 : TK μ290 := hp_255.fr (K := [P, P + 1]) (Fr.tr (Fr.tr Fr.rf F_280 (si hprP (fun P => [P, P + 1]) (fun P => [P, P + 1]) rfl)) F_291 (si hprP (fun P => [P, P + 1]) (fun P => [P, P + 1]) rfl)) (ni hprP (fun P => 26) (fun P => [P, P + 1]) rfl) (ni hprP (fun P => 28) (fun P => [P, P + 1]) rfl)
            have e_298 : μ290.1 26 11 = μ252.1 26 11 := ((F_291.1 26 (ni hprP (fun P => 26) (fun P => [P, P + 1]) rfl) 11).trans (F_280.1 26 (ni hprP (fun P => 26) (fun P => [P, P + 1]) rfl) 11))
            have e_299 : μ290.1 26 11 = μ252.1 26 11 := ((F_291.1 26 (ni hprP (fun P => 26) (fun P => [P, P + 1]) rfl) 11).trans (F_280.1 26 (ni hprP (fun P => 26) (fun P => [P, P + 1]) rfl) 11))
            have e_300 : μ290.1 26 10 = μ252.1 26 10 := ((F_291.1 26 (ni hprP (fun P => 26) (fun P => [P, P + 1]) rfl) 10).trans (F_280.1 26 (ni hprP (fun P => 26) (fun P => [P, P + 1]) rfl) 10))
            have e_301 : μ290.1 P 1 = μ278.1 P 1 + 1 := hs_294
            have e_302 : μ290.1 P 1 = μ278.1 P 1 + 1 := hs_294
            have e_303 : μ290.1 26 10 = μ252.1 26 10 := ((F_291.1 26 (ni hprP (fun P => 26) (fun P => [P, P + 1]) rfl) 10).trans (F_280.1 26 (ni hprP (fun P => 26) (fun P => [P, P + 1]) rfl) 10))
            have e_304 : μ290.1 26 11 = μ252.1 26 11 := ((F_291.1 26 (ni hprP (fun P => 26) (fun P => [P, P + 1]) rfl) 11).trans (F_280.1 26 (ni hprP (fun P => 26) (fun P => [P, P + 1]) rfl) 11))
            have e_305 : μ290.1 (P + 2) 3 = μ252.1 (P + 2) 3 := ((F_291.1 (P + 2) (ni hprP (fun P => P + 2) (fun P => [P, P + 1]) rfl) 3).trans (F_280.1 (P + 2) (ni hprP (fun P => P + 2) (fun P => [P, P + 1]) rfl) 3))
            have e_306 : μ290.1 P 1 = μ278.1 P 1 + 1 := hs_294
            have e_307 : μ290.1 (P + 2) 3 = μ252.1 (P + 2) 3 := ((F_291.1 (P + 2) (ni hprP (fun P => P + 2) (fun P => [P, P + 1]) rfl) 3).trans (F_280.1 (P + 2) (ni hprP (fun P => P + 2) (fun P => [P, P + 1]) rfl) 3))
            exact xr_v G hret hlk dX7_ownPrimary_123 ⟨(Fr.tr (Fr.tr (Fr.tr (Fr.tr (Fr.tr (Fr.tr Fr.rf F_151 (si hprP (fun P => [26]) (fun P => [2, 3, 4, 23, 24, 26, P, P + 1, P + 2, (P + 2) + 1, (P + 2) + 2, (P + 2) + 3]) rfl)) F_188 (si hprP (fun P => [26]) (fun P => [2, 3, 4, 23, 24, 26, P, P + 1, P + 2, (P + 2) + 1, (P + 2) + 2, (P + 2) + 3]) rfl)) F_225 (si hprP (fun P => [26, 2, 3, 4, 24]) (fun P => [2, 3, 4, 23, 24, 26, P, P + 1, P + 2, (P + 2) + 1, (P + 2) + 2, (P + 2) + 3]) rfl)) F_253 (si hprP (fun P => [2, 3, 4, 23, 24, 26, P, P + 1, P + 2, (P + 2) + 1, (P + 2) + 2, (P + 2) + 3]) (fun P => [2, 3, 4, 23, 24, 26, P, P + 1, P + 2, (P + 2) + 1, (P + 2) + 2, (P + 2) + 3]) rfl)) F_280 (si hprP (fun P => [P, P + 1]) (fun P => [2, 3, 4, 23, 24, 26, P, P + 1, P + 2, (P + 2) + 1, (P + 2) + 2, (P + 2) + 3]) rfl)) F_291 (si hprP (fun P => [P, P + 1]) (fun P => [2, 3, 4, 23, 24, 26, P, P + 1, P + 2, (P + 2) + 1, (P + 2) + 2, (P + 2) + 3]) rfl)), hI_292, htk_297, (by omega), (by omega), (by omega), (by omega), (fun h0 => (PXE.ex (hpx_296 h0)).e (by omega)), (((F_291.1 23 (ni hprP (fun P => 23) (fun P => [P, P + 1]) rfl) 2).trans ((F_280.1 23 (ni hprP (fun P => 23) (fun P => [P, P + 1]) rfl) 2).trans (hs_261.trans ((F_225.1 23 (by decide) 2).trans ((F_188.1 23 (by decide) 2).trans ((F_151.1 23 (by decide) 2).trans hP.symm))))))).trans hP, ((F_291.1 23 (ni hprP (fun P => 23) (fun P => [P, P + 1]) rfl) 5).trans ((F_280.1 23 (ni hprP (fun P => 23) (fun P => [P, P + 1]) rfl) 5).trans (hs_262.trans ((F_225.1 23 (by decide) 5).trans ((F_188.1 23 (by decide) 5).trans (F_151.1 23 (by decide) 5)))))), ((F_291.1 23 (ni hprP (fun P => 23) (fun P => [P, P + 1]) rfl) 6).trans ((F_280.1 23 (ni hprP (fun P => 23) (fun P => [P, P + 1]) rfl) 6).trans (hs_263.trans ((F_225.1 23 (by decide) 6).trans ((F_188.1 23 (by decide) 6).trans (F_151.1 23 (by decide) 6)))))), ((F_291.1 23 (ni hprP (fun P => 23) (fun P => [P, P + 1]) rfl) 7).trans ((F_280.1 23 (ni hprP (fun P => 23) (fun P => [P, P + 1]) rfl) 7).trans (hs_264.trans ((F_225.1 23 (by decide) 7).trans ((F_188.1 23 (by decide) 7).trans (F_151.1 23 (by decide) 7)))))), (((F_291.1 23 (ni hprP (fun P => 23) (fun P => [P, P + 1]) rfl) 8).trans ((F_280.1 23 (ni hprP (fun P => 23) (fun P => [P, P + 1]) rfl) 8).trans (hs_265.trans ((F_225.1 23 (by decide) 8).trans ((F_188.1 23 (by decide) 8).trans ((F_151.1 23 (by decide) 8).trans htt.symm))))))).trans htt, ((F_291.1 23 (ni hprP (fun P => 23) (fun P => [P, P + 1]) rfl) 9).trans ((F_280.1 23 (ni hprP (fun P => 23) (fun P => [P, P + 1]) rfl) 9).trans (hs_266.trans ((F_225.1 23 (by decide) 9).trans ((F_188.1 23 (by decide) 9).trans (F_151.1 23 (by decide) 9)))))), ((F_291.1 23 (ni hprP (fun P => 23) (fun P => [P, P + 1]) rfl) 10).trans ((F_280.1 23 (ni hprP (fun P => 23) (fun P => [P, P + 1]) rfl) 10).trans (hs_267.trans ((F_225.1 23 (by decide) 10).trans ((F_188.1 23 (by decide) 10).trans (F_151.1 23 (by decide) 10)))))), ((F_291.1 26 (ni hprP (fun P => 26) (fun P => [P, P + 1]) rfl) 6).trans ((F_280.1 26 (ni hprP (fun P => 26) (fun P => [P, P + 1]) rfl) 6).trans (hs_268.trans (hs_230.trans (hs_193.trans hs_156))))), (hs_295.trans (hs_284.trans (hs_269.trans ((F_225.1 P (ni hprP (fun P => P) (fun P => [26, 2, 3, 4, 24]) rfl) 7).trans ((F_188.1 P (ni hprP (fun P => P) (fun P => [26]) rfl) 7).trans (F_151.1 P (ni hprP (fun P => P) (fun P => [26]) rfl) 7))))))⟩
      · refine lv_aload_n hx hb dX7_ownPrimary_48 rfl (lv_at hl 0 rfl) ?_
        refine lv_bipush (v := iv 40) hx hb dX7_ownPrimary_49 rfl ?_
        refine lv_bipush (v := iv 41) hx hb dX7_ownPrimary_51 rfl ?_
        have hpx_308 : μ149.1 26 11 = 0 → PXE μ μ149 P tt 0 (-1) 1 := fun h0 => (hnil (by have h9 : μ.1 26 11 = μ.1 26 11 := rfl; have h8 : μ149.1 26 11 = μ.1 26 11 := hs_155; omega)).fr (K := [26]) (Fr.tr Fr.rf F_151 (by decide)) (npL_p (L := [26]) (by decide) hprP).1 (npL_p (L := [26]) (by decide) hprP).2.1
        have e_309 : μ149.1 23 2 = P := ((F_151.1 23 (by decide) 2).trans hP.symm)
        have e_310 : μ149.1 23 8 = tt := ((F_151.1 23 (by decide) 8).trans htt.symm)
        have e_311 : μ149.1 P 1 = μ.1 P 1 := (F_151.1 P (ni hprP (fun P => P) (fun P => [26]) rfl) 1)
        have e_312 : μ149.1 26 11 = μ.1 26 11 := hs_155
        have hk_313 := hI.row (r := P + 2) (hprP.row)
        unfold rk at hk_313
        have e_314 : μ149.1 (P + 2) 3 = μ.1 (P + 2) 3 := (F_151.1 (P + 2) (ni hprP (fun P => P + 2) (fun P => [26]) rfl) 3)
        have e_315 : μ149.1 P 1 = μ.1 P 1 := (F_151.1 P (ni hprP (fun P => P) (fun P => [26]) rfl) 1)
        have e_316 : μ149.1 23 9 = μ.1 23 9 := (F_151.1 23 (by decide) 9)
        have e_317 : μ149.1 23 9 = μ.1 23 9 := (F_151.1 23 (by decide) 9)
        have e_318 : μ149.1 23 9 = μ.1 23 9 := (F_151.1 23 (by decide) 9)
        have e_319 : μ149.1 26 11 = μ.1 26 11 := hs_155
        have e_320 : μ149.1 P 1 = μ.1 P 1 := (F_151.1 P (ni hprP (fun P => P) (fun P => [26]) rfl) 1)
        have e_321 : μ149.1 P 1 = μ.1 P 1 := (F_151.1 P (ni hprP (fun P => P) (fun P => [26]) rfl) 1)
        have e_322 : μ149.1 (P + 2) 3 = μ.1 (P + 2) 3 := (F_151.1 (P + 2) (ni hprP (fun P => P + 2) (fun P => [26]) rfl) 3)
        have e_323 : μ149.1 P 1 = μ.1 P 1 := (F_151.1 P (ni hprP (fun P => P) (fun P => [26]) rfl) 1)
        have e_324 : μ149.1 (P + 2) 3 = μ.1 (P + 2) 3 := (F_151.1 (P + 2) (ni hprP (fun P => P + 2) (fun P => [26]) rfl) 3)
        refine xc_vV G (b := 23) (rest := []) (As := [.int (iv 40), .int (iv 41)]) (c_X7_inBrackets ω l μ149 40 41 F Lo kf P tt (by unfold ir; omega) (by unfold ir; omega) hI_152 (by omega) (by omega) hF hLo hE hU hp_153 (by omega) (by omega) (by omega) (by omega) (by omega) (by omega) (by omega)) (wm 4 92 rfl rfl) (wm 4 94 rfl rfl) (wm 0 39 rfl rfl) rfl rfl (by decide) rfl (wm 1 12 rfl rfl) (wm 4 95 rfl rfl) (by decide) hR ⟨sfr (F := F) (a := 1) (by decide), slo (L := Lo) (m := 3) (a := 22) (by decide)⟩ (n := 2) rfl rfl (Nat.le_of_ble_eq_true rfl) hl.1 dX7_ownPrimary_53 (fun μ325 ρ d0 H locs hp G => ?_)
        obtain ⟨F_326, hI_327, hp_328, hp_329, hp_330, hp_331, hp_332, hp_333, hs_334, hs_335, hs_336, hs_337, hs_338, hs_339, hs_340, hs_341, hs_342⟩ := hp
        have hn_343 : -1 ≤ μ325.1 26 10 ∧ μ325.1 26 10 ≤ 3000 := hI_327.nm.2.2.2.2.2.2.2.2.2.2.2.2
        have hk_344 := hI_327.pr (p := P) hprP
        unfold pk at hk_344
        have hc_345 : 16 ≤ μ325.2.1 (P + 1) ∧ μ325.2.1 (P + 1) ≤ 73024 := hI_327.rm.1 _ hprP.cap
        have hk_346 := hI_327.row (r := P + 2) (hprP.row)
        unfold rk at hk_346
        have htb_347 := hp_328.b
        have hpx_348 : μ325.1 26 11 = 0 → PXE μ μ325 P tt 1 (-1) 1 := fun h0 => (PXE.app (hpx_308 (by have h9 : μ149.1 26 11 = μ.1 26 11 := hs_155; have h8 : μ325.1 26 11 = μ325.1 26 11 := rfl; omega)) (hp_333 h0)).e (by omega)
        refine lv_aload_n hx hb dX7_ownPrimary_56 rfl (lv_at hl 0 rfl) ?_
        refine lv_bipush (v := iv 16) hx hb dX7_ownPrimary_57 rfl ?_
        refine lv_iconst (v := iv 0) hx hb dX7_ownPrimary_59 rfl ?_
        refine lv_iconst (v := iv 0) hx hb dX7_ownPrimary_60 rfl ?_
        have e_349 : μ325.1 23 2 = P := (hs_334.trans ((F_151.1 23 (by decide) 2).trans hP.symm))
        refine xc_iV G (b := 23) (rest := []) (As := [.int (iv 16), .int (iv 0), .int (iv 0)]) (c_X7_add ω l μ325 16 0 0 P (by unfold ir; omega) (by unfold ir; omega) (by unfold ir; omega) hI_327 (by omega) (by omega)) (wm 3 226 rfl rfl) (wm 3 228 rfl rfl) (wm 0 21 rfl rfl) rfl rfl (by decide) rfl (wm 1 12 rfl rfl) (wm 3 229 rfl rfl) (by decide) hR ⟨nfr hF (by decide), nlo hLo (by decide)⟩ (n := 3) rfl rfl (Nat.le_of_ble_eq_true rfl) hl.1 dX7_ownPrimary_61 (fun r_351 μ350 ρ d0 H locs hr_r_351 hp G => ?_)
        have hr_r_351 : -2147483648 ≤ r_351 ∧ r_351 ≤ 2147483647 := hr_r_351
        obtain ⟨F_352, hI_353, hp_354, hp_355, hs_356, hs_357⟩ := hp
        have hpx_358 : μ350.1 26 11 = 0 → PXE μ μ350 P tt 1 (-1) 1 := fun h0 => (PXE.app (hpx_348 (by have h9 : μ325.1 26 11 = μ325.1 26 11 := rfl; have h8 : μ350.1 26 11 = μ325.1 26 11 := (F_352.1 26 (ni hprP (fun P => 26) (fun P => [P, P + 1]) rfl) 11); omega)) (EX.pl hp_355 (by omega) (by unfold plain; omega) (e := 0) rfl (by have h9 := hs_1 (μ := μ325) (P := P) (i := μ325.1 P 1); omega))).e (by omega)
        refine lv_pop hx hb dX7_ownPrimary_64 rfl ?_
        refine lv_goto (tgt := 123) hx hb dX7_ownPrimary_65 (by decide) ?_
        have htk_359 : TK μ350 := hp_328.fr (K := [P, P + 1]) (Fr.tr Fr.rf F_352 (si hprP (fun P => [P, P + 1]) (fun P => [P, P + 1]) rfl)) (ni hprP (fun P => 26) (fun P => [P, P + 1]) rfl) (ni hprP (fun P => 28) (fun P => [P, P + 1]) rfl)
        have e_360 : μ350.1 26 11 = μ325.1 26 11 := (F_352.1 26 (ni hprP (fun P => 26) (fun P => [P, P + 1]) rfl) 11)
        have e_361 : μ350.1 26 11 = μ325.1 26 11 := (F_352.1 26 (ni hprP (fun P => 26) (fun P => [P, P + 1]) rfl) 11)
        have e_362 : μ350.1 26 10 = μ325.1 26 10 := (F_352.1 26 (ni hprP (fun P => 26) (fun P => [P, P + 1]) rfl) 10)
        have e_363 : μ350.1 P 1 = μ325.1 P 1 + 1 := hs_356
        have e_364 : μ350.1 P 1 = μ325.1 P 1 + 1 := hs_356
        have e_365 : μ350.1 26 10 = μ325.1 26 10 := (F_352.1 26 (ni hprP (fun P => 26) (fun P => [P, P + 1]) rfl) 10)
        have e_366 : μ350.1 26 11 = μ325.1 26 11 := (F_352.1 26 (ni hprP (fun P => 26) (fun P => [P, P + 1]) rfl) 11)
        have e_367 : μ350.1 (P + 2) 3 = μ325.1 (P + 2) 3 := (F_352.1 (P + 2) (ni hprP (fun P => P + 2) (fun P => [P, P + 1]) rfl) 3)
        have e_368 : μ350.1 P 1 = μ325.1 P 1 + 1 := hs_356
        have e_369 : μ350.1 (P + 2) 3 = μ325.1 (P + 2) 3 := (F_352.1 (P + 2) (ni hprP (fun P => P + 2) (fun P => [P, P + 1]) rfl) 3)
        exact xr_v G hret hlk dX7_ownPrimary_123 ⟨(Fr.tr (Fr.tr (Fr.tr Fr.rf F_151 (si hprP (fun P => [26]) (fun P => [2, 3, 4, 23, 24, 26, P, P + 1, P + 2, (P + 2) + 1, (P + 2) + 2, (P + 2) + 3]) rfl)) F_326 (si hprP (fun P => [2, 3, 4, 23, 24, 26, P, P + 1, P + 2, (P + 2) + 1, (P + 2) + 2, (P + 2) + 3]) (fun P => [2, 3, 4, 23, 24, 26, P, P + 1, P + 2, (P + 2) + 1, (P + 2) + 2, (P + 2) + 3]) rfl)) F_352 (si hprP (fun P => [P, P + 1]) (fun P => [2, 3, 4, 23, 24, 26, P, P + 1, P + 2, (P + 2) + 1, (P + 2) + 2, (P + 2) + 3]) rfl)), hI_353, htk_359, (by omega), (by omega), (by omega), (by omega), (fun h0 => (PXE.ex (hpx_358 h0)).e (by omega)), (((F_352.1 23 (ni hprP (fun P => 23) (fun P => [P, P + 1]) rfl) 2).trans (hs_334.trans ((F_151.1 23 (by decide) 2).trans hP.symm)))).trans hP, ((F_352.1 23 (ni hprP (fun P => 23) (fun P => [P, P + 1]) rfl) 5).trans (hs_335.trans (F_151.1 23 (by decide) 5))), ((F_352.1 23 (ni hprP (fun P => 23) (fun P => [P, P + 1]) rfl) 6).trans (hs_336.trans (F_151.1 23 (by decide) 6))), ((F_352.1 23 (ni hprP (fun P => 23) (fun P => [P, P + 1]) rfl) 7).trans (hs_337.trans (F_151.1 23 (by decide) 7))), (((F_352.1 23 (ni hprP (fun P => 23) (fun P => [P, P + 1]) rfl) 8).trans (hs_338.trans ((F_151.1 23 (by decide) 8).trans htt.symm)))).trans htt, ((F_352.1 23 (ni hprP (fun P => 23) (fun P => [P, P + 1]) rfl) 9).trans (hs_339.trans (F_151.1 23 (by decide) 9))), ((F_352.1 23 (ni hprP (fun P => 23) (fun P => [P, P + 1]) rfl) 10).trans (hs_340.trans (F_151.1 23 (by decide) 10))), ((F_352.1 26 (ni hprP (fun P => 26) (fun P => [P, P + 1]) rfl) 6).trans (hs_341.trans hs_156)), (hs_357.trans (hs_342.trans (F_151.1 P (ni hprP (fun P => P) (fun P => [26]) rfl) 7)))⟩
  · refine lv_aload_n hx hb dX7_ownPrimary_8 rfl (lv_at hl 0 rfl) ?_
    refine lv_sipush (v := iv 226) hx hb dX7_ownPrimary_9 rfl ?_
    have hn_370 : -1 ≤ μ.1 26 10 ∧ μ.1 26 10 ≤ 3000 := hI.nm.2.2.2.2.2.2.2.2.2.2.2.2
    refine xc_iV G (b := 23) (rest := []) (As := [.int (iv 226)]) (c_X7_took_b ω l μ 226 (by unfold ir; omega) hI hTK (by omega)) (wm 3 160 rfl rfl) (wm 3 162 rfl rfl) (wm 0 9 rfl rfl) rfl rfl (by decide) rfl (wm 1 12 rfl rfl) (wm 3 163 rfl rfl) (by decide) hR ⟨nfr hF (by decide), nlo hLo (by decide)⟩ (n := 1) rfl rfl (Nat.le_of_ble_eq_true rfl) hl.1 dX7_ownPrimary_12 (fun r_372 μ371 ρ d0 H locs hr_r_372 hp G => ?_)
    have hr_r_372 : -2147483648 ≤ r_372 ∧ r_372 ≤ 2147483647 := hr_r_372
    obtain ⟨F_373, hI_374, hp_375, hp_376, hs_377, hs_378, hs_379, hs_380, hs_381⟩ := hp
    have hn_382 : -1 ≤ μ371.1 26 10 ∧ μ371.1 26 10 ≤ 3000 := hI_374.nm.2.2.2.2.2.2.2.2.2.2.2.2
    have htb_383 := hp_375.b
    refine xb_if_eq (tgt := 30) hx hb (by unfold ir; omega) dX7_ownPrimary_15 (by decide) (fun c_15 => ?_) (fun c_15 => ?_)
    · refine lv_aload_n hx hb dX7_ownPrimary_30 rfl (lv_at hl 0 rfl) ?_
      refine xa_geti G fd_X7 (a := 23) (x := tt) 8 rfl (by decide) rfl (wm 2 25 rfl rfl) ⟨rfl, rfl, rfl⟩ dX7_ownPrimary_31 rfl ((F_373.1 23 (by decide) 8).trans htt.symm) ?_
      refine lv_iconst (v := iv 2) hx hb dX7_ownPrimary_34 rfl ?_
      refine xb_icmp_ne (tgt := 68) hx hb (by unfold ir; omega) (by unfold ir; omega) dX7_ownPrimary_35 (by decide) (fun c_35 => ?_) (fun c_35 => ?_)
      · refine lv_aload_n hx hb dX7_ownPrimary_68 rfl (lv_at hl 0 rfl) ?_
        refine xa_geti G fd_X7 (a := 23) (x := tt) 8 rfl (by decide) rfl (wm 2 25 rfl rfl) ⟨rfl, rfl, rfl⟩ dX7_ownPrimary_69 rfl ((F_373.1 23 (by decide) 8).trans htt.symm) ?_
        refine lv_iconst (v := iv 2) hx hb dX7_ownPrimary_72 rfl ?_
        refine xb_icmp_ne (tgt := 116) hx hb (by unfold ir; omega) (by unfold ir; omega) dX7_ownPrimary_73 (by decide) (fun c_73 => ?_) (fun c_73 => ?_)
        · refine lv_aload_n hx hb dX7_ownPrimary_116 rfl (lv_at hl 0 rfl) ?_
          refine xa_getr G fd_X7 (a := 23) (x := 26) 0 rfl (by decide) rfl (wm 2 17 rfl rfl) ⟨rfl, rfl, rfl⟩ dX7_ownPrimary_117 rfl (G.sk 23 rfl) (by decide) rfl ?_
          have hpx_384 : μ371.1 26 11 = 0 → PXE μ μ371 P tt 0 (-1) 1 := fun h0 => (hnil (by have h9 : μ.1 26 11 = μ.1 26 11 := rfl; have h8 : μ371.1 26 11 = μ.1 26 11 := hs_377; omega)).fr (K := [26]) (Fr.tr Fr.rf F_373 (by decide)) (npL_p (L := [26]) (by decide) hprP).1 (npL_p (L := [26]) (by decide) hprP).2.1
          refine xc_vV G (b := 26) (rest := []) (As := []) (c_X10_stop ω l μ371  hI_374) (wm 3 173 rfl rfl) (wm 3 174 rfl rfl) (wm 3 175 rfl rfl) rfl rfl (by decide) rfl (wm 1 13 rfl rfl) (wm 3 176 rfl rfl) (by decide) hR ⟨nfr hF (by decide), nlo hLo (by decide)⟩ (n := 0) rfl rfl (Nat.le_of_ble_eq_true rfl) hl.1 dX7_ownPrimary_120 (fun μ385 ρ d0 H locs hp G => ?_)
          obtain ⟨F_386, hI_387, hp_388, hp_389, hs_390, hs_391, hs_392, hs_393, hs_394, hs_395, hs_396⟩ := hp
          have htk_397 : TK μ385 := TK.st hp_375 F_386 hp_388 hp_389 (((hs_390.trans hs_378)).trans (hs_378).symm) hs_394
          have hpx_398 : μ385.1 26 11 = 0 → PXE μ μ385 P tt 0 (-1) 1 := fun h0 => (hpx_384 (by have h9 : μ371.1 26 11 = μ.1 26 11 := hs_377; have h8 : μ385.1 26 11 = μ385.1 26 11 := rfl; omega)).fr (K := [26]) (Fr.tr Fr.rf F_386 (by decide)) (npL_p (L := [26]) (by decide) hprP).1 (npL_p (L := [26]) (by decide) hprP).2.1
          have e_399 : μ385.1 26 10 = μ371.1 26 10 := hs_394
          have e_400 : μ385.1 P 1 = μ.1 P 1 := ((F_386.1 P (ni hprP (fun P => P) (fun P => [26]) rfl) 1).trans (F_373.1 P (ni hprP (fun P => P) (fun P => [26]) rfl) 1))
          have e_401 : μ385.1 P 1 = μ.1 P 1 := ((F_386.1 P (ni hprP (fun P => P) (fun P => [26]) rfl) 1).trans (F_373.1 P (ni hprP (fun P => P) (fun P => [26]) rfl) 1))
          have e_402 : μ385.1 26 10 = μ371.1 26 10 := hs_394
          have e_403 : μ385.1 (P + 2) 3 = μ.1 (P + 2) 3 := ((F_386.1 (P + 2) (ni hprP (fun P => P + 2) (fun P => [26]) rfl) 3).trans (F_373.1 (P + 2) (ni hprP (fun P => P + 2) (fun P => [26]) rfl) 3))
          have e_404 : μ385.1 P 1 = μ.1 P 1 := ((F_386.1 P (ni hprP (fun P => P) (fun P => [26]) rfl) 1).trans (F_373.1 P (ni hprP (fun P => P) (fun P => [26]) rfl) 1))
          have e_405 : μ385.1 (P + 2) 3 = μ.1 (P + 2) 3 := ((F_386.1 (P + 2) (ni hprP (fun P => P + 2) (fun P => [26]) rfl) 3).trans (F_373.1 (P + 2) (ni hprP (fun P => P + 2) (fun P => [26]) rfl) 3))
          exact xr_v G hret hlk dX7_ownPrimary_123 ⟨(Fr.tr (Fr.tr Fr.rf F_373 (si hprP (fun P => [26]) (fun P => [2, 3, 4, 23, 24, 26, P, P + 1, P + 2, (P + 2) + 1, (P + 2) + 2, (P + 2) + 3]) rfl)) F_386 (si hprP (fun P => [26]) (fun P => [2, 3, 4, 23, 24, 26, P, P + 1, P + 2, (P + 2) + 1, (P + 2) + 2, (P + 2) + 3]) rfl)), hI_387, htk_397, (by omega), (by omega), (by omega), (by omega), (fun h0 => (PXE.ex (hpx_398 h0)).e (by omega)), (((F_386.1 23 (by decide) 2).trans ((F_373.1 23 (by decide) 2).trans hP.symm))).trans hP, ((F_386.1 23 (by decide) 5).trans (F_373.1 23 (by decide) 5)), ((F_386.1 23 (by decide) 6).trans (F_373.1 23 (by decide) 6)), ((F_386.1 23 (by decide) 7).trans (F_373.1 23 (by decide) 7)), (((F_386.1 23 (by decide) 8).trans ((F_373.1 23 (by decide) 8).trans htt.symm))).trans htt, ((F_386.1 23 (by decide) 9).trans (F_373.1 23 (by decide) 9)), ((F_386.1 23 (by decide) 10).trans (F_373.1 23 (by decide) 10)), (hs_390.trans hs_378), ((F_386.1 P (ni hprP (fun P => P) (fun P => [26]) rfl) 7).trans (F_373.1 P (ni hprP (fun P => P) (fun P => [26]) rfl) 7))⟩
        · refine lv_aload_n hx hb dX7_ownPrimary_76 rfl (lv_at hl 0 rfl) ?_
          refine lv_sipush (v := iv 228) hx hb dX7_ownPrimary_77 rfl ?_
          have hpx_406 : μ371.1 26 11 = 0 → PXE μ μ371 P tt 0 (-1) 1 := fun h0 => (hnil (by have h9 : μ.1 26 11 = μ.1 26 11 := rfl; have h8 : μ371.1 26 11 = μ.1 26 11 := hs_377; omega)).fr (K := [26]) (Fr.tr Fr.rf F_373 (by decide)) (npL_p (L := [26]) (by decide) hprP).1 (npL_p (L := [26]) (by decide) hprP).2.1
          have e_407 : μ371.1 26 11 = μ.1 26 11 := hs_377
          refine xc_iV G (b := 23) (rest := []) (As := [.int (iv 228)]) (c_X7_took_b ω l μ371 228 (by unfold ir; omega) hI_374 hp_375 (by omega)) (wm 3 160 rfl rfl) (wm 3 162 rfl rfl) (wm 0 9 rfl rfl) rfl rfl (by decide) rfl (wm 1 12 rfl rfl) (wm 3 163 rfl rfl) (by decide) hR ⟨nfr hF (by decide), nlo hLo (by decide)⟩ (n := 1) rfl rfl (Nat.le_of_ble_eq_true rfl) hl.1 dX7_ownPrimary_80 (fun r_409 μ408 ρ d0 H locs hr_r_409 hp G => ?_)
          have hr_r_409 : -2147483648 ≤ r_409 ∧ r_409 ≤ 2147483647 := hr_r_409
          obtain ⟨F_410, hI_411, hp_412, hp_413, hs_414, hs_415, hs_416, hs_417, hs_418⟩ := hp
          have hn_419 : -1 ≤ μ408.1 26 10 ∧ μ408.1 26 10 ≤ 3000 := hI_411.nm.2.2.2.2.2.2.2.2.2.2.2.2
          have htb_420 := hp_412.b
          refine xb_if_eq (tgt := 116) hx hb (by unfold ir; omega) dX7_ownPrimary_83 (by decide) (fun c_83 => ?_) (fun c_83 => ?_)
          · refine lv_aload_n hx hb dX7_ownPrimary_116 rfl (lv_at hl 0 rfl) ?_
            refine xa_getr G fd_X7 (a := 23) (x := 26) 0 rfl (by decide) rfl (wm 2 17 rfl rfl) ⟨rfl, rfl, rfl⟩ dX7_ownPrimary_117 rfl (G.sk 23 rfl) (by decide) rfl ?_
            have hpx_421 : μ408.1 26 11 = 0 → PXE μ μ408 P tt 0 (-1) 1 := fun h0 => (hpx_406 (by have h9 : μ371.1 26 11 = μ.1 26 11 := hs_377; have h8 : μ408.1 26 11 = μ.1 26 11 := (hs_414.trans hs_377); omega)).fr (K := [26]) (Fr.tr Fr.rf F_410 (by decide)) (npL_p (L := [26]) (by decide) hprP).1 (npL_p (L := [26]) (by decide) hprP).2.1
            refine xc_vV G (b := 26) (rest := []) (As := []) (c_X10_stop ω l μ408  hI_411) (wm 3 173 rfl rfl) (wm 3 174 rfl rfl) (wm 3 175 rfl rfl) rfl rfl (by decide) rfl (wm 1 13 rfl rfl) (wm 3 176 rfl rfl) (by decide) hR ⟨nfr hF (by decide), nlo hLo (by decide)⟩ (n := 0) rfl rfl (Nat.le_of_ble_eq_true rfl) hl.1 dX7_ownPrimary_120 (fun μ422 ρ d0 H locs hp G => ?_)
            obtain ⟨F_423, hI_424, hp_425, hp_426, hs_427, hs_428, hs_429, hs_430, hs_431, hs_432, hs_433⟩ := hp
            have htk_434 : TK μ422 := TK.st hp_412 F_423 hp_425 hp_426 (((hs_427.trans (hs_415.trans hs_378))).trans ((hs_415.trans hs_378)).symm) hs_431
            have hpx_435 : μ422.1 26 11 = 0 → PXE μ μ422 P tt 0 (-1) 1 := fun h0 => (hpx_421 (by have h9 : μ408.1 26 11 = μ.1 26 11 := (hs_414.trans hs_377); have h8 : μ422.1 26 11 = μ422.1 26 11 := rfl; omega)).fr (K := [26]) (Fr.tr Fr.rf F_423 (by decide)) (npL_p (L := [26]) (by decide) hprP).1 (npL_p (L := [26]) (by decide) hprP).2.1
            have e_436 : μ422.1 26 10 = μ408.1 26 10 := hs_431
            have e_437 : μ422.1 P 1 = μ.1 P 1 := ((F_423.1 P (ni hprP (fun P => P) (fun P => [26]) rfl) 1).trans ((F_410.1 P (ni hprP (fun P => P) (fun P => [26]) rfl) 1).trans (F_373.1 P (ni hprP (fun P => P) (fun P => [26]) rfl) 1)))
            have e_438 : μ422.1 P 1 = μ.1 P 1 := ((F_423.1 P (ni hprP (fun P => P) (fun P => [26]) rfl) 1).trans ((F_410.1 P (ni hprP (fun P => P) (fun P => [26]) rfl) 1).trans (F_373.1 P (ni hprP (fun P => P) (fun P => [26]) rfl) 1)))
            have e_439 : μ422.1 26 10 = μ408.1 26 10 := hs_431
            have e_440 : μ422.1 (P + 2) 3 = μ.1 (P + 2) 3 := ((F_423.1 (P + 2) (ni hprP (fun P => P + 2) (fun P => [26]) rfl) 3).trans ((F_410.1 (P + 2) (ni hprP (fun P => P + 2) (fun P => [26]) rfl) 3).trans (F_373.1 (P + 2) (ni hprP (fun P => P + 2) (fun P => [26]) rfl) 3)))
            have e_441 : μ422.1 P 1 = μ.1 P 1 := ((F_423.1 P (ni hprP (fun P => P) (fun P => [26]) rfl) 1).trans ((F_410.1 P (ni hprP (fun P => P) (fun P => [26]) rfl) 1).trans (F_373.1 P (ni hprP (fun P => P) (fun P => [26]) rfl) 1)))
            have e_442 : μ422.1 (P + 2) 3 = μ.1 (P + 2) 3 := ((F_423.1 (P + 2) (ni hprP (fun P => P + 2) (fun P => [26]) rfl) 3).trans ((F_410.1 (P + 2) (ni hprP (fun P => P + 2) (fun P => [26]) rfl) 3).trans (F_373.1 (P + 2) (ni hprP (fun P => P + 2) (fun P => [26]) rfl) 3)))
            exact xr_v G hret hlk dX7_ownPrimary_123 ⟨(Fr.tr (Fr.tr (Fr.tr Fr.rf F_373 (si hprP (fun P => [26]) (fun P => [2, 3, 4, 23, 24, 26, P, P + 1, P + 2, (P + 2) + 1, (P + 2) + 2, (P + 2) + 3]) rfl)) F_410 (si hprP (fun P => [26]) (fun P => [2, 3, 4, 23, 24, 26, P, P + 1, P + 2, (P + 2) + 1, (P + 2) + 2, (P + 2) + 3]) rfl)) F_423 (si hprP (fun P => [26]) (fun P => [2, 3, 4, 23, 24, 26, P, P + 1, P + 2, (P + 2) + 1, (P + 2) + 2, (P + 2) + 3]) rfl)), hI_424, htk_434, (by omega), (by omega), (by omega), (by omega), (fun h0 => (PXE.ex (hpx_435 h0)).e (by omega)), (((F_423.1 23 (by decide) 2).trans ((F_410.1 23 (by decide) 2).trans ((F_373.1 23 (by decide) 2).trans hP.symm)))).trans hP, ((F_423.1 23 (by decide) 5).trans ((F_410.1 23 (by decide) 5).trans (F_373.1 23 (by decide) 5))), ((F_423.1 23 (by decide) 6).trans ((F_410.1 23 (by decide) 6).trans (F_373.1 23 (by decide) 6))), ((F_423.1 23 (by decide) 7).trans ((F_410.1 23 (by decide) 7).trans (F_373.1 23 (by decide) 7))), (((F_423.1 23 (by decide) 8).trans ((F_410.1 23 (by decide) 8).trans ((F_373.1 23 (by decide) 8).trans htt.symm)))).trans htt, ((F_423.1 23 (by decide) 9).trans ((F_410.1 23 (by decide) 9).trans (F_373.1 23 (by decide) 9))), ((F_423.1 23 (by decide) 10).trans ((F_410.1 23 (by decide) 10).trans (F_373.1 23 (by decide) 10))), (hs_427.trans (hs_415.trans hs_378)), ((F_423.1 P (ni hprP (fun P => P) (fun P => [26]) rfl) 7).trans ((F_410.1 P (ni hprP (fun P => P) (fun P => [26]) rfl) 7).trans (F_373.1 P (ni hprP (fun P => P) (fun P => [26]) rfl) 7)))⟩
          · refine lv_aload_n hx hb dX7_ownPrimary_86 rfl (lv_at hl 0 rfl) ?_
            have hpx_443 : μ408.1 26 11 = 0 → PXE μ μ408 P tt 0 (-1) 1 := fun h0 => (hpx_406 (by have h9 : μ371.1 26 11 = μ.1 26 11 := hs_377; have h8 : μ408.1 26 11 = μ.1 26 11 := (hs_414.trans hs_377); omega)).fr (K := [26]) (Fr.tr Fr.rf F_410 (by decide)) (npL_p (L := [26]) (by decide) hprP).1 (npL_p (L := [26]) (by decide) hprP).2.1
            have e_444 : μ408.1 26 11 = μ.1 26 11 := (hs_414.trans hs_377)
            refine xc_iV G (b := 23) (rest := []) (As := []) (c_X7_nameOfFailing ω l μ408  hI_411 hp_412) (wm 4 112 rfl rfl) (wm 4 114 rfl rfl) (wm 0 44 rfl rfl) rfl rfl (by decide) rfl (wm 1 12 rfl rfl) (wm 4 115 rfl rfl) (by decide) hR ⟨nfr hF (by decide), nlo hLo (by decide)⟩ (n := 0) rfl rfl (Nat.le_of_ble_eq_true rfl) hl.1 dX7_ownPrimary_87 (fun r_446 μ445 ρ d0 H locs hr_r_446 hp G => ?_)
            have hr_r_446 : -2147483648 ≤ r_446 ∧ r_446 ≤ 2147483647 := hr_r_446
            obtain ⟨F_447, hI_448, hp_449, hp_450, hp_451, hs_452, hs_453, hs_454, hs_455, hs_456⟩ := hp
            have hn_457 : -1 ≤ μ445.1 26 10 ∧ μ445.1 26 10 ≤ 3000 := hI_448.nm.2.2.2.2.2.2.2.2.2.2.2.2
            have htb_458 := hp_449.b
            refine lv_istore_n (lv' := [(1, .int (iv r_446)), (0, .ref (oP ω 23))]) hx hb dX7_ownPrimary_90 rfl hl (by decide) rfl (fun ls hl => ?_)
            refine lv_aload_n hx hb dX7_ownPrimary_91 rfl (lv_at hl 1 rfl) ?_
            refine lv_bipush (v := iv 40) hx hb dX7_ownPrimary_92 rfl ?_
            refine lv_bipush (v := iv 41) hx hb dX7_ownPrimary_94 rfl ?_
            have hpx_459 : μ445.1 26 11 = 0 → PXE μ μ445 P tt 0 (-1) 1 := fun h0 => (hpx_443 (by have h9 : μ408.1 26 11 = μ.1 26 11 := (hs_414.trans hs_377); have h8 : μ445.1 26 11 = μ445.1 26 11 := rfl; omega)).fr (K := [26, 2, 3, 4, 24]) (Fr.tr Fr.rf F_447 (by decide)) (npL_p (L := [26, 2, 3, 4, 24]) (by decide) hprP).1 (npL_p (L := [26, 2, 3, 4, 24]) (by decide) hprP).2.1
            have e_460 : μ445.1 23 2 = P := ((F_447.1 23 (by decide) 2).trans ((F_410.1 23 (by decide) 2).trans ((F_373.1 23 (by decide) 2).trans hP.symm)))
            have e_461 : μ445.1 23 8 = tt := ((F_447.1 23 (by decide) 8).trans ((F_410.1 23 (by decide) 8).trans ((F_373.1 23 (by decide) 8).trans htt.symm)))
            have e_462 : μ445.1 P 1 = μ.1 P 1 := ((F_447.1 P (ni hprP (fun P => P) (fun P => [26, 2, 3, 4, 24]) rfl) 1).trans ((F_410.1 P (ni hprP (fun P => P) (fun P => [26]) rfl) 1).trans (F_373.1 P (ni hprP (fun P => P) (fun P => [26]) rfl) 1)))
            have hk_463 := hI.row (r := P + 2) (hprP.row)
            unfold rk at hk_463
            have e_464 : μ445.1 (P + 2) 3 = μ.1 (P + 2) 3 := ((F_447.1 (P + 2) (ni hprP (fun P => P + 2) (fun P => [26, 2, 3, 4, 24]) rfl) 3).trans ((F_410.1 (P + 2) (ni hprP (fun P => P + 2) (fun P => [26]) rfl) 3).trans (F_373.1 (P + 2) (ni hprP (fun P => P + 2) (fun P => [26]) rfl) 3)))
            have e_465 : μ445.1 P 1 = μ.1 P 1 := ((F_447.1 P (ni hprP (fun P => P) (fun P => [26, 2, 3, 4, 24]) rfl) 1).trans ((F_410.1 P (ni hprP (fun P => P) (fun P => [26]) rfl) 1).trans (F_373.1 P (ni hprP (fun P => P) (fun P => [26]) rfl) 1)))
            have e_466 : μ445.1 23 9 = μ.1 23 9 := ((F_447.1 23 (by decide) 9).trans ((F_410.1 23 (by decide) 9).trans (F_373.1 23 (by decide) 9)))
            have e_467 : μ445.1 23 9 = μ.1 23 9 := ((F_447.1 23 (by decide) 9).trans ((F_410.1 23 (by decide) 9).trans (F_373.1 23 (by decide) 9)))
            have e_468 : μ445.1 23 9 = μ.1 23 9 := ((F_447.1 23 (by decide) 9).trans ((F_410.1 23 (by decide) 9).trans (F_373.1 23 (by decide) 9)))
            have e_469 : μ445.1 P 1 = μ.1 P 1 := ((F_447.1 P (ni hprP (fun P => P) (fun P => [26, 2, 3, 4, 24]) rfl) 1).trans ((F_410.1 P (ni hprP (fun P => P) (fun P => [26]) rfl) 1).trans (F_373.1 P (ni hprP (fun P => P) (fun P => [26]) rfl) 1)))
            have e_470 : μ445.1 P 1 = μ.1 P 1 := ((F_447.1 P (ni hprP (fun P => P) (fun P => [26, 2, 3, 4, 24]) rfl) 1).trans ((F_410.1 P (ni hprP (fun P => P) (fun P => [26]) rfl) 1).trans (F_373.1 P (ni hprP (fun P => P) (fun P => [26]) rfl) 1)))
            have e_471 : μ445.1 (P + 2) 3 = μ.1 (P + 2) 3 := ((F_447.1 (P + 2) (ni hprP (fun P => P + 2) (fun P => [26, 2, 3, 4, 24]) rfl) 3).trans ((F_410.1 (P + 2) (ni hprP (fun P => P + 2) (fun P => [26]) rfl) 3).trans (F_373.1 (P + 2) (ni hprP (fun P => P + 2) (fun P => [26]) rfl) 3)))
            have e_472 : μ445.1 P 1 = μ.1 P 1 := ((F_447.1 P (ni hprP (fun P => P) (fun P => [26, 2, 3, 4, 24]) rfl) 1).trans ((F_410.1 P (ni hprP (fun P => P) (fun P => [26]) rfl) 1).trans (F_373.1 P (ni hprP (fun P => P) (fun P => [26]) rfl) 1)))
            have e_473 : μ445.1 (P + 2) 3 = μ.1 (P + 2) 3 := ((F_447.1 (P + 2) (ni hprP (fun P => P + 2) (fun P => [26, 2, 3, 4, 24]) rfl) 3).trans ((F_410.1 (P + 2) (ni hprP (fun P => P + 2) (fun P => [26]) rfl) 3).trans (F_373.1 (P + 2) (ni hprP (fun P => P + 2) (fun P => [26]) rfl) 3)))
            refine xc_vV G (b := 23) (rest := []) (As := [.int (iv 40), .int (iv 41)]) (c_X7_inBrackets ω l μ445 40 41 F Lo kf P tt (by unfold ir; omega) (by unfold ir; omega) hI_448 (by omega) (by omega) hF hLo hE hU hp_449 (by omega) (by omega) (by omega) (by omega) (by omega) (by omega) (by omega)) (wm 4 92 rfl rfl) (wm 4 94 rfl rfl) (wm 0 39 rfl rfl) rfl rfl (by decide) rfl (wm 1 12 rfl rfl) (wm 4 95 rfl rfl) (by decide) hR ⟨sfr (F := F) (a := 1) (by decide), slo (L := Lo) (m := 3) (a := 22) (by decide)⟩ (n := 2) rfl rfl (Nat.le_of_ble_eq_true rfl) hl.1 dX7_ownPrimary_96 (fun μ474 ρ d0 H locs hp G => ?_)
            obtain ⟨F_475, hI_476, hp_477, hp_478, hp_479, hp_480, hp_481, hp_482, hs_483, hs_484, hs_485, hs_486, hs_487, hs_488, hs_489, hs_490, hs_491⟩ := hp
            have hn_492 : -1 ≤ μ474.1 26 10 ∧ μ474.1 26 10 ≤ 3000 := hI_476.nm.2.2.2.2.2.2.2.2.2.2.2.2
            have hk_493 := hI_476.pr (p := P) hprP
            unfold pk at hk_493
            have hc_494 : 16 ≤ μ474.2.1 (P + 1) ∧ μ474.2.1 (P + 1) ≤ 73024 := hI_476.rm.1 _ hprP.cap
            have hk_495 := hI_476.row (r := P + 2) (hprP.row)
            unfold rk at hk_495
            have htb_496 := hp_477.b
            have hpx_497 : μ474.1 26 11 = 0 → PXE μ μ474 P tt 1 (-1) 1 := fun h0 => (PXE.app (hpx_459 (by have h9 : μ445.1 26 11 = μ445.1 26 11 := rfl; have h8 : μ474.1 26 11 = μ474.1 26 11 := rfl; omega)) (hp_482 h0)).e (by omega)
            refine lv_aload_n hx hb dX7_ownPrimary_99 rfl (lv_at hl 1 rfl) ?_
            refine lv_bipush (v := iv 17) hx hb dX7_ownPrimary_100 rfl ?_
            refine lv_iload_n hx hb dX7_ownPrimary_102 rfl (lv_at hl 0 rfl) ?_
            refine lv_iconst (v := iv 0) hx hb dX7_ownPrimary_103 rfl ?_
            refine lv_aload_n hx hb dX7_ownPrimary_104 rfl (lv_at hl 1 rfl) ?_
            refine lv_iconst (v := iv (-1)) hx hb dX7_ownPrimary_105 rfl ?_
            refine lv_iconst (v := iv 0) hx hb dX7_ownPrimary_106 rfl ?_
            have e_498 : μ474.1 23 2 = P := (hs_483.trans ((F_447.1 23 (by decide) 2).trans ((F_410.1 23 (by decide) 2).trans ((F_373.1 23 (by decide) 2).trans hP.symm))))
            have e_499 : μ474.1 23 8 = tt := (hs_487.trans ((F_447.1 23 (by decide) 8).trans ((F_410.1 23 (by decide) 8).trans ((F_373.1 23 (by decide) 8).trans htt.symm))))
            refine xc_iV G (b := 23) (rest := [.int (iv 0), .int (iv r_446), .int (iv 17), .ref (oP ω 23)]) (As := [.int (iv (-1)), .int (iv 0)]) (c_X7_ifFails ω l μ474 (-1) 0 μ (1) (1) P tt (by unfold ir; omega) (by unfold ir; omega) hI_476 (by omega) (by omega) (by omega) hpx_497 (by omega) (by omega)) (wm 4 23 rfl rfl) (wm 4 25 rfl rfl) (wm 0 29 rfl rfl) rfl rfl (by decide) rfl (wm 1 12 rfl rfl) (wm 4 26 rfl rfl) (by decide) hR ⟨nfr hF (by decide), nlo hLo (by decide)⟩ (n := 2) rfl rfl (Nat.le_of_ble_eq_true rfl) hl.1 dX7_ownPrimary_107 (fun r_501 μ500 ρ d0 H locs hr_r_501 hp G => ?_)
            have hr_r_501 : -2147483648 ≤ r_501 ∧ r_501 ≤ 2147483647 := hr_r_501
            obtain ⟨F_502, hI_503, hp_504, hp_505, hs_506⟩ := hp
            have hk_507 := hI_503.pr (p := P) hprP
            unfold pk at hk_507
            have hc_508 : 16 ≤ μ500.2.1 (P + 1) ∧ μ500.2.1 (P + 1) ≤ 73024 := hI_503.rm.1 _ hprP.cap
            have hpx_509 : μ500.1 26 11 = 0 → PXE μ μ500 P tt 1 r_501 1 := fun h0 => hp_504 (by have h9 : μ474.1 26 11 = μ474.1 26 11 := rfl; have h8 : μ500.1 26 11 = μ474.1 26 11 := (F_502.1 26 (ni hprP (fun P => 26) (fun P => [P, P + 1]) rfl) 11); omega)
            clear hp_504
            have e_510 : μ500.1 23 2 = P := ((F_502.1 23 (ni hprP (fun P => 23) (fun P => [P, P + 1]) rfl) 2).trans (hs_483.trans ((F_447.1 23 (by decide) 2).trans ((F_410.1 23 (by decide) 2).trans ((F_373.1 23 (by decide) 2).trans hP.symm)))))
            have e_511 : μ500.1 23 8 = tt := ((F_502.1 23 (ni hprP (fun P => 23) (fun P => [P, P + 1]) rfl) 8).trans (hs_487.trans ((F_447.1 23 (by decide) 8).trans ((F_410.1 23 (by decide) 8).trans ((F_373.1 23 (by decide) 8).trans htt.symm)))))
            refine xc_vV G (b := 23) (rest := []) (As := [.int (iv 17), .int (iv r_446), .int (iv 0), .int (iv r_501)]) (c_X7_endOfParts ω l μ500 17 r_446 0 r_501 μ (1) (1) P tt (by unfold ir; omega) (by unfold ir; omega) (by unfold ir; omega) (by unfold ir; omega) hI_503 (by omega) (by omega) (by omega) hpx_509 (Or.inl (by unfold plain; omega)) (by omega) (by rw [show eff 17 r_446 = 0 from rfl]; omega)) (wm 4 27 rfl rfl) (wm 4 29 rfl rfl) (wm 0 30 rfl rfl) rfl rfl (by decide) rfl (wm 1 12 rfl rfl) (wm 4 30 rfl rfl) (by decide) hR ⟨nfr hF (by decide), nlo hLo (by decide)⟩ (n := 4) rfl rfl (Nat.le_of_ble_eq_true rfl) hl.1 dX7_ownPrimary_110 (fun μ512 ρ d0 H locs hp G => ?_)
            obtain ⟨F_513, hI_514, hp_515, hs_516, hs_517⟩ := hp
            have hpx_518 : μ512.1 26 11 = 0 → PXE μ μ512 P tt 1 (-1) 1 := fun h0 => PXE.of (hp_515 (by have h9 : μ500.1 26 11 = μ474.1 26 11 := (F_502.1 26 (ni hprP (fun P => 26) (fun P => [P, P + 1]) rfl) 11); have h8 : μ512.1 26 11 = μ474.1 26 11 := ((F_513.1 26 (ni hprP (fun P => 26) (fun P => [P, P + 1]) rfl) 11).trans (F_502.1 26 (ni hprP (fun P => 26) (fun P => [P, P + 1]) rfl) 11)); omega))
            clear hp_515
            refine lv_goto (tgt := 123) hx hb dX7_ownPrimary_113 (by decide) ?_
            have htk_519 : TK μ512 := hp_477.fr (K := [P, P + 1]) (Fr.tr (Fr.tr Fr.rf F_502 (si hprP (fun P => [P, P + 1]) (fun P => [P, P + 1]) rfl)) F_513 (si hprP (fun P => [P, P + 1]) (fun P => [P, P + 1]) rfl)) (ni hprP (fun P => 26) (fun P => [P, P + 1]) rfl) (ni hprP (fun P => 28) (fun P => [P, P + 1]) rfl)
            have e_520 : μ512.1 26 11 = μ474.1 26 11 := ((F_513.1 26 (ni hprP (fun P => 26) (fun P => [P, P + 1]) rfl) 11).trans (F_502.1 26 (ni hprP (fun P => 26) (fun P => [P, P + 1]) rfl) 11))
            have e_521 : μ512.1 26 11 = μ474.1 26 11 := ((F_513.1 26 (ni hprP (fun P => 26) (fun P => [P, P + 1]) rfl) 11).trans (F_502.1 26 (ni hprP (fun P => 26) (fun P => [P, P + 1]) rfl) 11))
            have e_522 : μ512.1 26 10 = μ474.1 26 10 := ((F_513.1 26 (ni hprP (fun P => 26) (fun P => [P, P + 1]) rfl) 10).trans (F_502.1 26 (ni hprP (fun P => 26) (fun P => [P, P + 1]) rfl) 10))
            have e_523 : μ512.1 P 1 = μ500.1 P 1 + 1 := hs_516
            have e_524 : μ512.1 P 1 = μ500.1 P 1 + 1 := hs_516
            have e_525 : μ512.1 26 10 = μ474.1 26 10 := ((F_513.1 26 (ni hprP (fun P => 26) (fun P => [P, P + 1]) rfl) 10).trans (F_502.1 26 (ni hprP (fun P => 26) (fun P => [P, P + 1]) rfl) 10))
            have e_526 : μ512.1 26 11 = μ474.1 26 11 := ((F_513.1 26 (ni hprP (fun P => 26) (fun P => [P, P + 1]) rfl) 11).trans (F_502.1 26 (ni hprP (fun P => 26) (fun P => [P, P + 1]) rfl) 11))
            have e_527 : μ512.1 (P + 2) 3 = μ474.1 (P + 2) 3 := ((F_513.1 (P + 2) (ni hprP (fun P => P + 2) (fun P => [P, P + 1]) rfl) 3).trans (F_502.1 (P + 2) (ni hprP (fun P => P + 2) (fun P => [P, P + 1]) rfl) 3))
            have e_528 : μ512.1 P 1 = μ500.1 P 1 + 1 := hs_516
            have e_529 : μ512.1 (P + 2) 3 = μ474.1 (P + 2) 3 := ((F_513.1 (P + 2) (ni hprP (fun P => P + 2) (fun P => [P, P + 1]) rfl) 3).trans (F_502.1 (P + 2) (ni hprP (fun P => P + 2) (fun P => [P, P + 1]) rfl) 3))
            exact xr_v G hret hlk dX7_ownPrimary_123 ⟨(Fr.tr (Fr.tr (Fr.tr (Fr.tr (Fr.tr (Fr.tr Fr.rf F_373 (si hprP (fun P => [26]) (fun P => [2, 3, 4, 23, 24, 26, P, P + 1, P + 2, (P + 2) + 1, (P + 2) + 2, (P + 2) + 3]) rfl)) F_410 (si hprP (fun P => [26]) (fun P => [2, 3, 4, 23, 24, 26, P, P + 1, P + 2, (P + 2) + 1, (P + 2) + 2, (P + 2) + 3]) rfl)) F_447 (si hprP (fun P => [26, 2, 3, 4, 24]) (fun P => [2, 3, 4, 23, 24, 26, P, P + 1, P + 2, (P + 2) + 1, (P + 2) + 2, (P + 2) + 3]) rfl)) F_475 (si hprP (fun P => [2, 3, 4, 23, 24, 26, P, P + 1, P + 2, (P + 2) + 1, (P + 2) + 2, (P + 2) + 3]) (fun P => [2, 3, 4, 23, 24, 26, P, P + 1, P + 2, (P + 2) + 1, (P + 2) + 2, (P + 2) + 3]) rfl)) F_502 (si hprP (fun P => [P, P + 1]) (fun P => [2, 3, 4, 23, 24, 26, P, P + 1, P + 2, (P + 2) + 1, (P + 2) + 2, (P + 2) + 3]) rfl)) F_513 (si hprP (fun P => [P, P + 1]) (fun P => [2, 3, 4, 23, 24, 26, P, P + 1, P + 2, (P + 2) + 1, (P + 2) + 2, (P + 2) + 3]) rfl)), hI_514, htk_519, (by omega), (by omega), (by omega), (by omega), (fun h0 => (PXE.ex (hpx_518 h0)).e (by omega)), (((F_513.1 23 (ni hprP (fun P => 23) (fun P => [P, P + 1]) rfl) 2).trans ((F_502.1 23 (ni hprP (fun P => 23) (fun P => [P, P + 1]) rfl) 2).trans (hs_483.trans ((F_447.1 23 (by decide) 2).trans ((F_410.1 23 (by decide) 2).trans ((F_373.1 23 (by decide) 2).trans hP.symm))))))).trans hP, ((F_513.1 23 (ni hprP (fun P => 23) (fun P => [P, P + 1]) rfl) 5).trans ((F_502.1 23 (ni hprP (fun P => 23) (fun P => [P, P + 1]) rfl) 5).trans (hs_484.trans ((F_447.1 23 (by decide) 5).trans ((F_410.1 23 (by decide) 5).trans (F_373.1 23 (by decide) 5)))))), ((F_513.1 23 (ni hprP (fun P => 23) (fun P => [P, P + 1]) rfl) 6).trans ((F_502.1 23 (ni hprP (fun P => 23) (fun P => [P, P + 1]) rfl) 6).trans (hs_485.trans ((F_447.1 23 (by decide) 6).trans ((F_410.1 23 (by decide) 6).trans (F_373.1 23 (by decide) 6)))))), ((F_513.1 23 (ni hprP (fun P => 23) (fun P => [P, P + 1]) rfl) 7).trans ((F_502.1 23 (ni hprP (fun P => 23) (fun P => [P, P + 1]) rfl) 7).trans (hs_486.trans ((F_447.1 23 (by decide) 7).trans ((F_410.1 23 (by decide) 7).trans (F_373.1 23 (by decide) 7)))))), (((F_513.1 23 (ni hprP (fun P => 23) (fun P => [P, P + 1]) rfl) 8).trans ((F_502.1 23 (ni hprP (fun P => 23) (fun P => [P, P + 1]) rfl) 8).trans (hs_487.trans ((F_447.1 23 (by decide) 8).trans ((F_410.1 23 (by decide) 8).trans ((F_373.1 23 (by decide) 8).trans htt.symm))))))).trans htt, ((F_513.1 23 (ni hprP (fun P => 23) (fun P => [P, P + 1]) rfl) 9).trans ((F_502.1 23 (ni hprP (fun P => 23) (fun P => [P, P + 1]) rfl) 9).trans (hs_488.trans ((F_447.1 23 (by decide) 9).trans ((F_410.1 23 (by decide) 9).trans (F_373.1 23 (by decide) 9)))))), ((F_513.1 23 (ni hprP (fun P => 23) (fun P => [P, P + 1]) rfl) 10).trans ((F_502.1 23 (ni hprP (fun P => 23) (fun P => [P, P + 1]) rfl) 10).trans (hs_489.trans ((F_447.1 23 (by decide) 10).trans ((F_410.1 23 (by decide) 10).trans (F_373.1 23 (by decide) 10)))))), ((F_513.1 26 (ni hprP (fun P => 26) (fun P => [P, P + 1]) rfl) 6).trans ((F_502.1 26 (ni hprP (fun P => 26) (fun P => [P, P + 1]) rfl) 6).trans (hs_490.trans (hs_452.trans (hs_415.trans hs_378))))), (hs_517.trans (hs_506.trans (hs_491.trans ((F_447.1 P (ni hprP (fun P => P) (fun P => [26, 2, 3, 4, 24]) rfl) 7).trans ((F_410.1 P (ni hprP (fun P => P) (fun P => [26]) rfl) 7).trans (F_373.1 P (ni hprP (fun P => P) (fun P => [26]) rfl) 7))))))⟩
      · refine lv_aload_n hx hb dX7_ownPrimary_38 rfl (lv_at hl 0 rfl) ?_
        refine lv_sipush (v := iv 227) hx hb dX7_ownPrimary_39 rfl ?_
        have hpx_530 : μ371.1 26 11 = 0 → PXE μ μ371 P tt 0 (-1) 1 := fun h0 => (hnil (by have h9 : μ.1 26 11 = μ.1 26 11 := rfl; have h8 : μ371.1 26 11 = μ.1 26 11 := hs_377; omega)).fr (K := [26]) (Fr.tr Fr.rf F_373 (by decide)) (npL_p (L := [26]) (by decide) hprP).1 (npL_p (L := [26]) (by decide) hprP).2.1
        have e_531 : μ371.1 26 11 = μ.1 26 11 := hs_377
        refine xc_iV G (b := 23) (rest := []) (As := [.int (iv 227)]) (c_X7_took_b ω l μ371 227 (by unfold ir; omega) hI_374 hp_375 (by omega)) (wm 3 160 rfl rfl) (wm 3 162 rfl rfl) (wm 0 9 rfl rfl) rfl rfl (by decide) rfl (wm 1 12 rfl rfl) (wm 3 163 rfl rfl) (by decide) hR ⟨nfr hF (by decide), nlo hLo (by decide)⟩ (n := 1) rfl rfl (Nat.le_of_ble_eq_true rfl) hl.1 dX7_ownPrimary_42 (fun r_533 μ532 ρ d0 H locs hr_r_533 hp G => ?_)
        have hr_r_533 : -2147483648 ≤ r_533 ∧ r_533 ≤ 2147483647 := hr_r_533
        obtain ⟨F_534, hI_535, hp_536, hp_537, hs_538, hs_539, hs_540, hs_541, hs_542⟩ := hp
        have hn_543 : -1 ≤ μ532.1 26 10 ∧ μ532.1 26 10 ≤ 3000 := hI_535.nm.2.2.2.2.2.2.2.2.2.2.2.2
        have htb_544 := hp_536.b
        refine xb_if_eq (tgt := 68) hx hb (by unfold ir; omega) dX7_ownPrimary_45 (by decide) (fun c_45 => ?_) (fun c_45 => ?_)
        · refine lv_aload_n hx hb dX7_ownPrimary_68 rfl (lv_at hl 0 rfl) ?_
          refine xa_geti G fd_X7 (a := 23) (x := tt) 8 rfl (by decide) rfl (wm 2 25 rfl rfl) ⟨rfl, rfl, rfl⟩ dX7_ownPrimary_69 rfl ((F_534.1 23 (by decide) 8).trans ((F_373.1 23 (by decide) 8).trans htt.symm)) ?_
          refine lv_iconst (v := iv 2) hx hb dX7_ownPrimary_72 rfl ?_
          refine xb_icmp_ne (tgt := 116) hx hb (by unfold ir; omega) (by unfold ir; omega) dX7_ownPrimary_73 (by decide) (fun c_73 => ?_) (fun c_73 => ?_)
          · refine lv_aload_n hx hb dX7_ownPrimary_116 rfl (lv_at hl 0 rfl) ?_
            refine xa_getr G fd_X7 (a := 23) (x := 26) 0 rfl (by decide) rfl (wm 2 17 rfl rfl) ⟨rfl, rfl, rfl⟩ dX7_ownPrimary_117 rfl (G.sk 23 rfl) (by decide) rfl ?_
            have hpx_545 : μ532.1 26 11 = 0 → PXE μ μ532 P tt 0 (-1) 1 := fun h0 => (hpx_530 (by have h9 : μ371.1 26 11 = μ.1 26 11 := hs_377; have h8 : μ532.1 26 11 = μ.1 26 11 := (hs_538.trans hs_377); omega)).fr (K := [26]) (Fr.tr Fr.rf F_534 (by decide)) (npL_p (L := [26]) (by decide) hprP).1 (npL_p (L := [26]) (by decide) hprP).2.1
            refine xc_vV G (b := 26) (rest := []) (As := []) (c_X10_stop ω l μ532  hI_535) (wm 3 173 rfl rfl) (wm 3 174 rfl rfl) (wm 3 175 rfl rfl) rfl rfl (by decide) rfl (wm 1 13 rfl rfl) (wm 3 176 rfl rfl) (by decide) hR ⟨nfr hF (by decide), nlo hLo (by decide)⟩ (n := 0) rfl rfl (Nat.le_of_ble_eq_true rfl) hl.1 dX7_ownPrimary_120 (fun μ546 ρ d0 H locs hp G => ?_)
            obtain ⟨F_547, hI_548, hp_549, hp_550, hs_551, hs_552, hs_553, hs_554, hs_555, hs_556, hs_557⟩ := hp
            have htk_558 : TK μ546 := TK.st hp_536 F_547 hp_549 hp_550 (((hs_551.trans (hs_539.trans hs_378))).trans ((hs_539.trans hs_378)).symm) hs_555
            have hpx_559 : μ546.1 26 11 = 0 → PXE μ μ546 P tt 0 (-1) 1 := fun h0 => (hpx_545 (by have h9 : μ532.1 26 11 = μ.1 26 11 := (hs_538.trans hs_377); have h8 : μ546.1 26 11 = μ546.1 26 11 := rfl; omega)).fr (K := [26]) (Fr.tr Fr.rf F_547 (by decide)) (npL_p (L := [26]) (by decide) hprP).1 (npL_p (L := [26]) (by decide) hprP).2.1
            have e_560 : μ546.1 26 10 = μ532.1 26 10 := hs_555
            have e_561 : μ546.1 P 1 = μ.1 P 1 := ((F_547.1 P (ni hprP (fun P => P) (fun P => [26]) rfl) 1).trans ((F_534.1 P (ni hprP (fun P => P) (fun P => [26]) rfl) 1).trans (F_373.1 P (ni hprP (fun P => P) (fun P => [26]) rfl) 1)))
            have e_562 : μ546.1 P 1 = μ.1 P 1 := ((F_547.1 P (ni hprP (fun P => P) (fun P => [26]) rfl) 1).trans ((F_534.1 P (ni hprP (fun P => P) (fun P => [26]) rfl) 1).trans (F_373.1 P (ni hprP (fun P => P) (fun P => [26]) rfl) 1)))
            have e_563 : μ546.1 26 10 = μ532.1 26 10 := hs_555
            have e_564 : μ546.1 (P + 2) 3 = μ.1 (P + 2) 3 := ((F_547.1 (P + 2) (ni hprP (fun P => P + 2) (fun P => [26]) rfl) 3).trans ((F_534.1 (P + 2) (ni hprP (fun P => P + 2) (fun P => [26]) rfl) 3).trans (F_373.1 (P + 2) (ni hprP (fun P => P + 2) (fun P => [26]) rfl) 3)))
            have e_565 : μ546.1 P 1 = μ.1 P 1 := ((F_547.1 P (ni hprP (fun P => P) (fun P => [26]) rfl) 1).trans ((F_534.1 P (ni hprP (fun P => P) (fun P => [26]) rfl) 1).trans (F_373.1 P (ni hprP (fun P => P) (fun P => [26]) rfl) 1)))
            have e_566 : μ546.1 (P + 2) 3 = μ.1 (P + 2) 3 := ((F_547.1 (P + 2) (ni hprP (fun P => P + 2) (fun P => [26]) rfl) 3).trans ((F_534.1 (P + 2) (ni hprP (fun P => P + 2) (fun P => [26]) rfl) 3).trans (F_373.1 (P + 2) (ni hprP (fun P => P + 2) (fun P => [26]) rfl) 3)))
            exact xr_v G hret hlk dX7_ownPrimary_123 ⟨(Fr.tr (Fr.tr (Fr.tr Fr.rf F_373 (si hprP (fun P => [26]) (fun P => [2, 3, 4, 23, 24, 26, P, P + 1, P + 2, (P + 2) + 1, (P + 2) + 2, (P + 2) + 3]) rfl)) F_534 (si hprP (fun P => [26]) (fun P => [2, 3, 4, 23, 24, 26, P, P + 1, P + 2, (P + 2) + 1, (P + 2) + 2, (P + 2) + 3]) rfl)) F_547 (si hprP (fun P => [26]) (fun P => [2, 3, 4, 23, 24, 26, P, P + 1, P + 2, (P + 2) + 1, (P + 2) + 2, (P + 2) + 3]) rfl)), hI_548, htk_558, (by omega), (by omega), (by omega), (by omega), (fun h0 => (PXE.ex (hpx_559 h0)).e (by omega)), (((F_547.1 23 (by decide) 2).trans ((F_534.1 23 (by decide) 2).trans ((F_373.1 23 (by decide) 2).trans hP.symm)))).trans hP, ((F_547.1 23 (by decide) 5).trans ((F_534.1 23 (by decide) 5).trans (F_373.1 23 (by decide) 5))), ((F_547.1 23 (by decide) 6).trans ((F_534.1 23 (by decide) 6).trans (F_373.1 23 (by decide) 6))), ((F_547.1 23 (by decide) 7).trans ((F_534.1 23 (by decide) 7).trans (F_373.1 23 (by decide) 7))), (((F_547.1 23 (by decide) 8).trans ((F_534.1 23 (by decide) 8).trans ((F_373.1 23 (by decide) 8).trans htt.symm)))).trans htt, ((F_547.1 23 (by decide) 9).trans ((F_534.1 23 (by decide) 9).trans (F_373.1 23 (by decide) 9))), ((F_547.1 23 (by decide) 10).trans ((F_534.1 23 (by decide) 10).trans (F_373.1 23 (by decide) 10))), (hs_551.trans (hs_539.trans hs_378)), ((F_547.1 P (ni hprP (fun P => P) (fun P => [26]) rfl) 7).trans ((F_534.1 P (ni hprP (fun P => P) (fun P => [26]) rfl) 7).trans (F_373.1 P (ni hprP (fun P => P) (fun P => [26]) rfl) 7)))⟩
          · refine lv_aload_n hx hb dX7_ownPrimary_76 rfl (lv_at hl 0 rfl) ?_
            refine lv_sipush (v := iv 228) hx hb dX7_ownPrimary_77 rfl ?_
            have hpx_567 : μ532.1 26 11 = 0 → PXE μ μ532 P tt 0 (-1) 1 := fun h0 => (hpx_530 (by have h9 : μ371.1 26 11 = μ.1 26 11 := hs_377; have h8 : μ532.1 26 11 = μ.1 26 11 := (hs_538.trans hs_377); omega)).fr (K := [26]) (Fr.tr Fr.rf F_534 (by decide)) (npL_p (L := [26]) (by decide) hprP).1 (npL_p (L := [26]) (by decide) hprP).2.1
            have e_568 : μ532.1 26 11 = μ.1 26 11 := (hs_538.trans hs_377)
            refine xc_iV G (b := 23) (rest := []) (As := [.int (iv 228)]) (c_X7_took_b ω l μ532 228 (by unfold ir; omega) hI_535 hp_536 (by omega)) (wm 3 160 rfl rfl) (wm 3 162 rfl rfl) (wm 0 9 rfl rfl) rfl rfl (by decide) rfl (wm 1 12 rfl rfl) (wm 3 163 rfl rfl) (by decide) hR ⟨nfr hF (by decide), nlo hLo (by decide)⟩ (n := 1) rfl rfl (Nat.le_of_ble_eq_true rfl) hl.1 dX7_ownPrimary_80 (fun r_570 μ569 ρ d0 H locs hr_r_570 hp G => ?_)
            have hr_r_570 : -2147483648 ≤ r_570 ∧ r_570 ≤ 2147483647 := hr_r_570
            obtain ⟨F_571, hI_572, hp_573, hp_574, hs_575, hs_576, hs_577, hs_578, hs_579⟩ := hp
            have hn_580 : -1 ≤ μ569.1 26 10 ∧ μ569.1 26 10 ≤ 3000 := hI_572.nm.2.2.2.2.2.2.2.2.2.2.2.2
            have htb_581 := hp_573.b
            refine xb_if_eq (tgt := 116) hx hb (by unfold ir; omega) dX7_ownPrimary_83 (by decide) (fun c_83 => ?_) (fun c_83 => ?_)
            · refine lv_aload_n hx hb dX7_ownPrimary_116 rfl (lv_at hl 0 rfl) ?_
              refine xa_getr G fd_X7 (a := 23) (x := 26) 0 rfl (by decide) rfl (wm 2 17 rfl rfl) ⟨rfl, rfl, rfl⟩ dX7_ownPrimary_117 rfl (G.sk 23 rfl) (by decide) rfl ?_
              have hpx_582 : μ569.1 26 11 = 0 → PXE μ μ569 P tt 0 (-1) 1 := fun h0 => (hpx_567 (by have h9 : μ532.1 26 11 = μ.1 26 11 := (hs_538.trans hs_377); have h8 : μ569.1 26 11 = μ.1 26 11 := (hs_575.trans (hs_538.trans hs_377)); omega)).fr (K := [26]) (Fr.tr Fr.rf F_571 (by decide)) (npL_p (L := [26]) (by decide) hprP).1 (npL_p (L := [26]) (by decide) hprP).2.1
              refine xc_vV G (b := 26) (rest := []) (As := []) (c_X10_stop ω l μ569  hI_572) (wm 3 173 rfl rfl) (wm 3 174 rfl rfl) (wm 3 175 rfl rfl) rfl rfl (by decide) rfl (wm 1 13 rfl rfl) (wm 3 176 rfl rfl) (by decide) hR ⟨nfr hF (by decide), nlo hLo (by decide)⟩ (n := 0) rfl rfl (Nat.le_of_ble_eq_true rfl) hl.1 dX7_ownPrimary_120 (fun μ583 ρ d0 H locs hp G => ?_)
              obtain ⟨F_584, hI_585, hp_586, hp_587, hs_588, hs_589, hs_590, hs_591, hs_592, hs_593, hs_594⟩ := hp
              have htk_595 : TK μ583 := TK.st hp_573 F_584 hp_586 hp_587 (((hs_588.trans (hs_576.trans (hs_539.trans hs_378)))).trans ((hs_576.trans (hs_539.trans hs_378))).symm) hs_592
              have hpx_596 : μ583.1 26 11 = 0 → PXE μ μ583 P tt 0 (-1) 1 := fun h0 => (hpx_582 (by have h9 : μ569.1 26 11 = μ.1 26 11 := (hs_575.trans (hs_538.trans hs_377)); have h8 : μ583.1 26 11 = μ583.1 26 11 := rfl; omega)).fr (K := [26]) (Fr.tr Fr.rf F_584 (by decide)) (npL_p (L := [26]) (by decide) hprP).1 (npL_p (L := [26]) (by decide) hprP).2.1
              have e_597 : μ583.1 26 10 = μ569.1 26 10 := hs_592
              have e_598 : μ583.1 P 1 = μ.1 P 1 := ((F_584.1 P (ni hprP (fun P => P) (fun P => [26]) rfl) 1).trans ((F_571.1 P (ni hprP (fun P => P) (fun P => [26]) rfl) 1).trans ((F_534.1 P (ni hprP (fun P => P) (fun P => [26]) rfl) 1).trans (F_373.1 P (ni hprP (fun P => P) (fun P => [26]) rfl) 1))))
              have e_599 : μ583.1 P 1 = μ.1 P 1 := ((F_584.1 P (ni hprP (fun P => P) (fun P => [26]) rfl) 1).trans ((F_571.1 P (ni hprP (fun P => P) (fun P => [26]) rfl) 1).trans ((F_534.1 P (ni hprP (fun P => P) (fun P => [26]) rfl) 1).trans (F_373.1 P (ni hprP (fun P => P) (fun P => [26]) rfl) 1))))
              have e_600 : μ583.1 26 10 = μ569.1 26 10 := hs_592
              have e_601 : μ583.1 (P + 2) 3 = μ.1 (P + 2) 3 := ((F_584.1 (P + 2) (ni hprP (fun P => P + 2) (fun P => [26]) rfl) 3).trans ((F_571.1 (P + 2) (ni hprP (fun P => P + 2) (fun P => [26]) rfl) 3).trans ((F_534.1 (P + 2) (ni hprP (fun P => P + 2) (fun P => [26]) rfl) 3).trans (F_373.1 (P + 2) (ni hprP (fun P => P + 2) (fun P => [26]) rfl) 3))))
              have e_602 : μ583.1 P 1 = μ.1 P 1 := ((F_584.1 P (ni hprP (fun P => P) (fun P => [26]) rfl) 1).trans ((F_571.1 P (ni hprP (fun P => P) (fun P => [26]) rfl) 1).trans ((F_534.1 P (ni hprP (fun P => P) (fun P => [26]) rfl) 1).trans (F_373.1 P (ni hprP (fun P => P) (fun P => [26]) rfl) 1))))
              have e_603 : μ583.1 (P + 2) 3 = μ.1 (P + 2) 3 := ((F_584.1 (P + 2) (ni hprP (fun P => P + 2) (fun P => [26]) rfl) 3).trans ((F_571.1 (P + 2) (ni hprP (fun P => P + 2) (fun P => [26]) rfl) 3).trans ((F_534.1 (P + 2) (ni hprP (fun P => P + 2) (fun P => [26]) rfl) 3).trans (F_373.1 (P + 2) (ni hprP (fun P => P + 2) (fun P => [26]) rfl) 3))))
              exact xr_v G hret hlk dX7_ownPrimary_123 ⟨(Fr.tr (Fr.tr (Fr.tr (Fr.tr Fr.rf F_373 (si hprP (fun P => [26]) (fun P => [2, 3, 4, 23, 24, 26, P, P + 1, P + 2, (P + 2) + 1, (P + 2) + 2, (P + 2) + 3]) rfl)) F_534 (si hprP (fun P => [26]) (fun P => [2, 3, 4, 23, 24, 26, P, P + 1, P + 2, (P + 2) + 1, (P + 2) + 2, (P + 2) + 3]) rfl)) F_571 (si hprP (fun P => [26]) (fun P => [2, 3, 4, 23, 24, 26, P, P + 1, P + 2, (P + 2) + 1, (P + 2) + 2, (P + 2) + 3]) rfl)) F_584 (si hprP (fun P => [26]) (fun P => [2, 3, 4, 23, 24, 26, P, P + 1, P + 2, (P + 2) + 1, (P + 2) + 2, (P + 2) + 3]) rfl)), hI_585, htk_595, (by omega), (by omega), (by omega), (by omega), (fun h0 => (PXE.ex (hpx_596 h0)).e (by omega)), (((F_584.1 23 (by decide) 2).trans ((F_571.1 23 (by decide) 2).trans ((F_534.1 23 (by decide) 2).trans ((F_373.1 23 (by decide) 2).trans hP.symm))))).trans hP, ((F_584.1 23 (by decide) 5).trans ((F_571.1 23 (by decide) 5).trans ((F_534.1 23 (by decide) 5).trans (F_373.1 23 (by decide) 5)))), ((F_584.1 23 (by decide) 6).trans ((F_571.1 23 (by decide) 6).trans ((F_534.1 23 (by decide) 6).trans (F_373.1 23 (by decide) 6)))), ((F_584.1 23 (by decide) 7).trans ((F_571.1 23 (by decide) 7).trans ((F_534.1 23 (by decide) 7).trans (F_373.1 23 (by decide) 7)))), (((F_584.1 23 (by decide) 8).trans ((F_571.1 23 (by decide) 8).trans ((F_534.1 23 (by decide) 8).trans ((F_373.1 23 (by decide) 8).trans htt.symm))))).trans htt, ((F_584.1 23 (by decide) 9).trans ((F_571.1 23 (by decide) 9).trans ((F_534.1 23 (by decide) 9).trans (F_373.1 23 (by decide) 9)))), ((F_584.1 23 (by decide) 10).trans ((F_571.1 23 (by decide) 10).trans ((F_534.1 23 (by decide) 10).trans (F_373.1 23 (by decide) 10)))), (hs_588.trans (hs_576.trans (hs_539.trans hs_378))), ((F_584.1 P (ni hprP (fun P => P) (fun P => [26]) rfl) 7).trans ((F_571.1 P (ni hprP (fun P => P) (fun P => [26]) rfl) 7).trans ((F_534.1 P (ni hprP (fun P => P) (fun P => [26]) rfl) 7).trans (F_373.1 P (ni hprP (fun P => P) (fun P => [26]) rfl) 7))))⟩
            · refine lv_aload_n hx hb dX7_ownPrimary_86 rfl (lv_at hl 0 rfl) ?_
              have hpx_604 : μ569.1 26 11 = 0 → PXE μ μ569 P tt 0 (-1) 1 := fun h0 => (hpx_567 (by have h9 : μ532.1 26 11 = μ.1 26 11 := (hs_538.trans hs_377); have h8 : μ569.1 26 11 = μ.1 26 11 := (hs_575.trans (hs_538.trans hs_377)); omega)).fr (K := [26]) (Fr.tr Fr.rf F_571 (by decide)) (npL_p (L := [26]) (by decide) hprP).1 (npL_p (L := [26]) (by decide) hprP).2.1
              have e_605 : μ569.1 26 11 = μ.1 26 11 := (hs_575.trans (hs_538.trans hs_377))
              refine xc_iV G (b := 23) (rest := []) (As := []) (c_X7_nameOfFailing ω l μ569  hI_572 hp_573) (wm 4 112 rfl rfl) (wm 4 114 rfl rfl) (wm 0 44 rfl rfl) rfl rfl (by decide) rfl (wm 1 12 rfl rfl) (wm 4 115 rfl rfl) (by decide) hR ⟨nfr hF (by decide), nlo hLo (by decide)⟩ (n := 0) rfl rfl (Nat.le_of_ble_eq_true rfl) hl.1 dX7_ownPrimary_87 (fun r_607 μ606 ρ d0 H locs hr_r_607 hp G => ?_)
              have hr_r_607 : -2147483648 ≤ r_607 ∧ r_607 ≤ 2147483647 := hr_r_607
              obtain ⟨F_608, hI_609, hp_610, hp_611, hp_612, hs_613, hs_614, hs_615, hs_616, hs_617⟩ := hp
              have hn_618 : -1 ≤ μ606.1 26 10 ∧ μ606.1 26 10 ≤ 3000 := hI_609.nm.2.2.2.2.2.2.2.2.2.2.2.2
              have htb_619 := hp_610.b
              refine lv_istore_n (lv' := [(1, .int (iv r_607)), (0, .ref (oP ω 23))]) hx hb dX7_ownPrimary_90 rfl hl (by decide) rfl (fun ls hl => ?_)
              refine lv_aload_n hx hb dX7_ownPrimary_91 rfl (lv_at hl 1 rfl) ?_
              refine lv_bipush (v := iv 40) hx hb dX7_ownPrimary_92 rfl ?_
              refine lv_bipush (v := iv 41) hx hb dX7_ownPrimary_94 rfl ?_
              have hpx_620 : μ606.1 26 11 = 0 → PXE μ μ606 P tt 0 (-1) 1 := fun h0 => (hpx_604 (by have h9 : μ569.1 26 11 = μ.1 26 11 := (hs_575.trans (hs_538.trans hs_377)); have h8 : μ606.1 26 11 = μ606.1 26 11 := rfl; omega)).fr (K := [26, 2, 3, 4, 24]) (Fr.tr Fr.rf F_608 (by decide)) (npL_p (L := [26, 2, 3, 4, 24]) (by decide) hprP).1 (npL_p (L := [26, 2, 3, 4, 24]) (by decide) hprP).2.1
              have e_621 : μ606.1 23 2 = P := ((F_608.1 23 (by decide) 2).trans ((F_571.1 23 (by decide) 2).trans ((F_534.1 23 (by decide) 2).trans ((F_373.1 23 (by decide) 2).trans hP.symm))))
              have e_622 : μ606.1 23 8 = tt := ((F_608.1 23 (by decide) 8).trans ((F_571.1 23 (by decide) 8).trans ((F_534.1 23 (by decide) 8).trans ((F_373.1 23 (by decide) 8).trans htt.symm))))
              have e_623 : μ606.1 P 1 = μ.1 P 1 := ((F_608.1 P (ni hprP (fun P => P) (fun P => [26, 2, 3, 4, 24]) rfl) 1).trans ((F_571.1 P (ni hprP (fun P => P) (fun P => [26]) rfl) 1).trans ((F_534.1 P (ni hprP (fun P => P) (fun P => [26]) rfl) 1).trans (F_373.1 P (ni hprP (fun P => P) (fun P => [26]) rfl) 1))))
              have hk_624 := hI.row (r := P + 2) (hprP.row)
              unfold rk at hk_624
              have e_625 : μ606.1 (P + 2) 3 = μ.1 (P + 2) 3 := ((F_608.1 (P + 2) (ni hprP (fun P => P + 2) (fun P => [26, 2, 3, 4, 24]) rfl) 3).trans ((F_571.1 (P + 2) (ni hprP (fun P => P + 2) (fun P => [26]) rfl) 3).trans ((F_534.1 (P + 2) (ni hprP (fun P => P + 2) (fun P => [26]) rfl) 3).trans (F_373.1 (P + 2) (ni hprP (fun P => P + 2) (fun P => [26]) rfl) 3))))
              have e_626 : μ606.1 P 1 = μ.1 P 1 := ((F_608.1 P (ni hprP (fun P => P) (fun P => [26, 2, 3, 4, 24]) rfl) 1).trans ((F_571.1 P (ni hprP (fun P => P) (fun P => [26]) rfl) 1).trans ((F_534.1 P (ni hprP (fun P => P) (fun P => [26]) rfl) 1).trans (F_373.1 P (ni hprP (fun P => P) (fun P => [26]) rfl) 1))))
              have e_627 : μ606.1 23 9 = μ.1 23 9 := ((F_608.1 23 (by decide) 9).trans ((F_571.1 23 (by decide) 9).trans ((F_534.1 23 (by decide) 9).trans (F_373.1 23 (by decide) 9))))
              have e_628 : μ606.1 23 9 = μ.1 23 9 := ((F_608.1 23 (by decide) 9).trans ((F_571.1 23 (by decide) 9).trans ((F_534.1 23 (by decide) 9).trans (F_373.1 23 (by decide) 9))))
              have e_629 : μ606.1 23 9 = μ.1 23 9 := ((F_608.1 23 (by decide) 9).trans ((F_571.1 23 (by decide) 9).trans ((F_534.1 23 (by decide) 9).trans (F_373.1 23 (by decide) 9))))
              have e_630 : μ606.1 P 1 = μ.1 P 1 := ((F_608.1 P (ni hprP (fun P => P) (fun P => [26, 2, 3, 4, 24]) rfl) 1).trans ((F_571.1 P (ni hprP (fun P => P) (fun P => [26]) rfl) 1).trans ((F_534.1 P (ni hprP (fun P => P) (fun P => [26]) rfl) 1).trans (F_373.1 P (ni hprP (fun P => P) (fun P => [26]) rfl) 1))))
              have e_631 : μ606.1 P 1 = μ.1 P 1 := ((F_608.1 P (ni hprP (fun P => P) (fun P => [26, 2, 3, 4, 24]) rfl) 1).trans ((F_571.1 P (ni hprP (fun P => P) (fun P => [26]) rfl) 1).trans ((F_534.1 P (ni hprP (fun P => P) (fun P => [26]) rfl) 1).trans (F_373.1 P (ni hprP (fun P => P) (fun P => [26]) rfl) 1))))
              have e_632 : μ606.1 (P + 2) 3 = μ.1 (P + 2) 3 := ((F_608.1 (P + 2) (ni hprP (fun P => P + 2) (fun P => [26, 2, 3, 4, 24]) rfl) 3).trans ((F_571.1 (P + 2) (ni hprP (fun P => P + 2) (fun P => [26]) rfl) 3).trans ((F_534.1 (P + 2) (ni hprP (fun P => P + 2) (fun P => [26]) rfl) 3).trans (F_373.1 (P + 2) (ni hprP (fun P => P + 2) (fun P => [26]) rfl) 3))))
              have e_633 : μ606.1 P 1 = μ.1 P 1 := ((F_608.1 P (ni hprP (fun P => P) (fun P => [26, 2, 3, 4, 24]) rfl) 1).trans ((F_571.1 P (ni hprP (fun P => P) (fun P => [26]) rfl) 1).trans ((F_534.1 P (ni hprP (fun P => P) (fun P => [26]) rfl) 1).trans (F_373.1 P (ni hprP (fun P => P) (fun P => [26]) rfl) 1))))
              have e_634 : μ606.1 (P + 2) 3 = μ.1 (P + 2) 3 := ((F_608.1 (P + 2) (ni hprP (fun P => P + 2) (fun P => [26, 2, 3, 4, 24]) rfl) 3).trans ((F_571.1 (P + 2) (ni hprP (fun P => P + 2) (fun P => [26]) rfl) 3).trans ((F_534.1 (P + 2) (ni hprP (fun P => P + 2) (fun P => [26]) rfl) 3).trans (F_373.1 (P + 2) (ni hprP (fun P => P + 2) (fun P => [26]) rfl) 3))))
              refine xc_vV G (b := 23) (rest := []) (As := [.int (iv 40), .int (iv 41)]) (c_X7_inBrackets ω l μ606 40 41 F Lo kf P tt (by unfold ir; omega) (by unfold ir; omega) hI_609 (by omega) (by omega) hF hLo hE hU hp_610 (by omega) (by omega) (by omega) (by omega) (by omega) (by omega) (by omega)) (wm 4 92 rfl rfl) (wm 4 94 rfl rfl) (wm 0 39 rfl rfl) rfl rfl (by decide) rfl (wm 1 12 rfl rfl) (wm 4 95 rfl rfl) (by decide) hR ⟨sfr (F := F) (a := 1) (by decide), slo (L := Lo) (m := 3) (a := 22) (by decide)⟩ (n := 2) rfl rfl (Nat.le_of_ble_eq_true rfl) hl.1 dX7_ownPrimary_96 (fun μ635 ρ d0 H locs hp G => ?_)
              obtain ⟨F_636, hI_637, hp_638, hp_639, hp_640, hp_641, hp_642, hp_643, hs_644, hs_645, hs_646, hs_647, hs_648, hs_649, hs_650, hs_651, hs_652⟩ := hp
              have hn_653 : -1 ≤ μ635.1 26 10 ∧ μ635.1 26 10 ≤ 3000 := hI_637.nm.2.2.2.2.2.2.2.2.2.2.2.2
              have hk_654 := hI_637.pr (p := P) hprP
              unfold pk at hk_654
              have hc_655 : 16 ≤ μ635.2.1 (P + 1) ∧ μ635.2.1 (P + 1) ≤ 73024 := hI_637.rm.1 _ hprP.cap
              have hk_656 := hI_637.row (r := P + 2) (hprP.row)
              unfold rk at hk_656
              have htb_657 := hp_638.b
              have hpx_658 : μ635.1 26 11 = 0 → PXE μ μ635 P tt 1 (-1) 1 := fun h0 => (PXE.app (hpx_620 (by have h9 : μ606.1 26 11 = μ606.1 26 11 := rfl; have h8 : μ635.1 26 11 = μ635.1 26 11 := rfl; omega)) (hp_643 h0)).e (by omega)
              refine lv_aload_n hx hb dX7_ownPrimary_99 rfl (lv_at hl 1 rfl) ?_
              refine lv_bipush (v := iv 17) hx hb dX7_ownPrimary_100 rfl ?_
              refine lv_iload_n hx hb dX7_ownPrimary_102 rfl (lv_at hl 0 rfl) ?_
              refine lv_iconst (v := iv 0) hx hb dX7_ownPrimary_103 rfl ?_
              refine lv_aload_n hx hb dX7_ownPrimary_104 rfl (lv_at hl 1 rfl) ?_
              refine lv_iconst (v := iv (-1)) hx hb dX7_ownPrimary_105 rfl ?_
              refine lv_iconst (v := iv 0) hx hb dX7_ownPrimary_106 rfl ?_
              have e_659 : μ635.1 23 2 = P := (hs_644.trans ((F_608.1 23 (by decide) 2).trans ((F_571.1 23 (by decide) 2).trans ((F_534.1 23 (by decide) 2).trans ((F_373.1 23 (by decide) 2).trans hP.symm)))))
              have e_660 : μ635.1 23 8 = tt := (hs_648.trans ((F_608.1 23 (by decide) 8).trans ((F_571.1 23 (by decide) 8).trans ((F_534.1 23 (by decide) 8).trans ((F_373.1 23 (by decide) 8).trans htt.symm)))))
              refine xc_iV G (b := 23) (rest := [.int (iv 0), .int (iv r_607), .int (iv 17), .ref (oP ω 23)]) (As := [.int (iv (-1)), .int (iv 0)]) (c_X7_ifFails ω l μ635 (-1) 0 μ (1) (1) P tt (by unfold ir; omega) (by unfold ir; omega) hI_637 (by omega) (by omega) (by omega) hpx_658 (by omega) (by omega)) (wm 4 23 rfl rfl) (wm 4 25 rfl rfl) (wm 0 29 rfl rfl) rfl rfl (by decide) rfl (wm 1 12 rfl rfl) (wm 4 26 rfl rfl) (by decide) hR ⟨nfr hF (by decide), nlo hLo (by decide)⟩ (n := 2) rfl rfl (Nat.le_of_ble_eq_true rfl) hl.1 dX7_ownPrimary_107 (fun r_662 μ661 ρ d0 H locs hr_r_662 hp G => ?_)
              have hr_r_662 : -2147483648 ≤ r_662 ∧ r_662 ≤ 2147483647 := hr_r_662
              obtain ⟨F_663, hI_664, hp_665, hp_666, hs_667⟩ := hp
              have hk_668 := hI_664.pr (p := P) hprP
              unfold pk at hk_668
              have hc_669 : 16 ≤ μ661.2.1 (P + 1) ∧ μ661.2.1 (P + 1) ≤ 73024 := hI_664.rm.1 _ hprP.cap
              have hpx_670 : μ661.1 26 11 = 0 → PXE μ μ661 P tt 1 r_662 1 := fun h0 => hp_665 (by have h9 : μ635.1 26 11 = μ635.1 26 11 := rfl; have h8 : μ661.1 26 11 = μ635.1 26 11 := (F_663.1 26 (ni hprP (fun P => 26) (fun P => [P, P + 1]) rfl) 11); omega)
              clear hp_665
              have e_671 : μ661.1 23 2 = P := ((F_663.1 23 (ni hprP (fun P => 23) (fun P => [P, P + 1]) rfl) 2).trans (hs_644.trans ((F_608.1 23 (by decide) 2).trans ((F_571.1 23 (by decide) 2).trans ((F_534.1 23 (by decide) 2).trans ((F_373.1 23 (by decide) 2).trans hP.symm))))))
              have e_672 : μ661.1 23 8 = tt := ((F_663.1 23 (ni hprP (fun P => 23) (fun P => [P, P + 1]) rfl) 8).trans (hs_648.trans ((F_608.1 23 (by decide) 8).trans ((F_571.1 23 (by decide) 8).trans ((F_534.1 23 (by decide) 8).trans ((F_373.1 23 (by decide) 8).trans htt.symm))))))
              refine xc_vV G (b := 23) (rest := []) (As := [.int (iv 17), .int (iv r_607), .int (iv 0), .int (iv r_662)]) (c_X7_endOfParts ω l μ661 17 r_607 0 r_662 μ (1) (1) P tt (by unfold ir; omega) (by unfold ir; omega) (by unfold ir; omega) (by unfold ir; omega) hI_664 (by omega) (by omega) (by omega) hpx_670 (Or.inl (by unfold plain; omega)) (by omega) (by rw [show eff 17 r_607 = 0 from rfl]; omega)) (wm 4 27 rfl rfl) (wm 4 29 rfl rfl) (wm 0 30 rfl rfl) rfl rfl (by decide) rfl (wm 1 12 rfl rfl) (wm 4 30 rfl rfl) (by decide) hR ⟨nfr hF (by decide), nlo hLo (by decide)⟩ (n := 4) rfl rfl (Nat.le_of_ble_eq_true rfl) hl.1 dX7_ownPrimary_110 (fun μ673 ρ d0 H locs hp G => ?_)
              obtain ⟨F_674, hI_675, hp_676, hs_677, hs_678⟩ := hp
              have hpx_679 : μ673.1 26 11 = 0 → PXE μ μ673 P tt 1 (-1) 1 := fun h0 => PXE.of (hp_676 (by have h9 : μ661.1 26 11 = μ635.1 26 11 := (F_663.1 26 (ni hprP (fun P => 26) (fun P => [P, P + 1]) rfl) 11); have h8 : μ673.1 26 11 = μ635.1 26 11 := ((F_674.1 26 (ni hprP (fun P => 26) (fun P => [P, P + 1]) rfl) 11).trans (F_663.1 26 (ni hprP (fun P => 26) (fun P => [P, P + 1]) rfl) 11)); omega))
              clear hp_676
              refine lv_goto (tgt := 123) hx hb dX7_ownPrimary_113 (by decide) ?_
              have htk_680 : TK μ673 := hp_638.fr (K := [P, P + 1]) (Fr.tr (Fr.tr Fr.rf F_663 (si hprP (fun P => [P, P + 1]) (fun P => [P, P + 1]) rfl)) F_674 (si hprP (fun P => [P, P + 1]) (fun P => [P, P + 1]) rfl)) (ni hprP (fun P => 26) (fun P => [P, P + 1]) rfl) (ni hprP (fun P => 28) (fun P => [P, P + 1]) rfl)
              have e_681 : μ673.1 26 11 = μ635.1 26 11 := ((F_674.1 26 (ni hprP (fun P => 26) (fun P => [P, P + 1]) rfl) 11).trans (F_663.1 26 (ni hprP (fun P => 26) (fun P => [P, P + 1]) rfl) 11))
              have e_682 : μ673.1 26 11 = μ635.1 26 11 := ((F_674.1 26 (ni hprP (fun P => 26) (fun P => [P, P + 1]) rfl) 11).trans (F_663.1 26 (ni hprP (fun P => 26) (fun P => [P, P + 1]) rfl) 11))
              have e_683 : μ673.1 26 10 = μ635.1 26 10 := ((F_674.1 26 (ni hprP (fun P => 26) (fun P => [P, P + 1]) rfl) 10).trans (F_663.1 26 (ni hprP (fun P => 26) (fun P => [P, P + 1]) rfl) 10))
              have e_684 : μ673.1 P 1 = μ661.1 P 1 + 1 := hs_677
              have e_685 : μ673.1 P 1 = μ661.1 P 1 + 1 := hs_677
              have e_686 : μ673.1 26 10 = μ635.1 26 10 := ((F_674.1 26 (ni hprP (fun P => 26) (fun P => [P, P + 1]) rfl) 10).trans (F_663.1 26 (ni hprP (fun P => 26) (fun P => [P, P + 1]) rfl) 10))
              have e_687 : μ673.1 26 11 = μ635.1 26 11 := ((F_674.1 26 (ni hprP (fun P => 26) (fun P => [P, P + 1]) rfl) 11).trans (F_663.1 26 (ni hprP (fun P => 26) (fun P => [P, P + 1]) rfl) 11))
              have e_688 : μ673.1 (P + 2) 3 = μ635.1 (P + 2) 3 := ((F_674.1 (P + 2) (ni hprP (fun P => P + 2) (fun P => [P, P + 1]) rfl) 3).trans (F_663.1 (P + 2) (ni hprP (fun P => P + 2) (fun P => [P, P + 1]) rfl) 3))
              have e_689 : μ673.1 P 1 = μ661.1 P 1 + 1 := hs_677
              have e_690 : μ673.1 (P + 2) 3 = μ635.1 (P + 2) 3 := ((F_674.1 (P + 2) (ni hprP (fun P => P + 2) (fun P => [P, P + 1]) rfl) 3).trans (F_663.1 (P + 2) (ni hprP (fun P => P + 2) (fun P => [P, P + 1]) rfl) 3))
              exact xr_v G hret hlk dX7_ownPrimary_123 ⟨(Fr.tr (Fr.tr (Fr.tr (Fr.tr (Fr.tr (Fr.tr (Fr.tr Fr.rf F_373 (si hprP (fun P => [26]) (fun P => [2, 3, 4, 23, 24, 26, P, P + 1, P + 2, (P + 2) + 1, (P + 2) + 2, (P + 2) + 3]) rfl)) F_534 (si hprP (fun P => [26]) (fun P => [2, 3, 4, 23, 24, 26, P, P + 1, P + 2, (P + 2) + 1, (P + 2) + 2, (P + 2) + 3]) rfl)) F_571 (si hprP (fun P => [26]) (fun P => [2, 3, 4, 23, 24, 26, P, P + 1, P + 2, (P + 2) + 1, (P + 2) + 2, (P + 2) + 3]) rfl)) F_608 (si hprP (fun P => [26, 2, 3, 4, 24]) (fun P => [2, 3, 4, 23, 24, 26, P, P + 1, P + 2, (P + 2) + 1, (P + 2) + 2, (P + 2) + 3]) rfl)) F_636 (si hprP (fun P => [2, 3, 4, 23, 24, 26, P, P + 1, P + 2, (P + 2) + 1, (P + 2) + 2, (P + 2) + 3]) (fun P => [2, 3, 4, 23, 24, 26, P, P + 1, P + 2, (P + 2) + 1, (P + 2) + 2, (P + 2) + 3]) rfl)) F_663 (si hprP (fun P => [P, P + 1]) (fun P => [2, 3, 4, 23, 24, 26, P, P + 1, P + 2, (P + 2) + 1, (P + 2) + 2, (P + 2) + 3]) rfl)) F_674 (si hprP (fun P => [P, P + 1]) (fun P => [2, 3, 4, 23, 24, 26, P, P + 1, P + 2, (P + 2) + 1, (P + 2) + 2, (P + 2) + 3]) rfl)), hI_675, htk_680, (by omega), (by omega), (by omega), (by omega), (fun h0 => (PXE.ex (hpx_679 h0)).e (by omega)), (((F_674.1 23 (ni hprP (fun P => 23) (fun P => [P, P + 1]) rfl) 2).trans ((F_663.1 23 (ni hprP (fun P => 23) (fun P => [P, P + 1]) rfl) 2).trans (hs_644.trans ((F_608.1 23 (by decide) 2).trans ((F_571.1 23 (by decide) 2).trans ((F_534.1 23 (by decide) 2).trans ((F_373.1 23 (by decide) 2).trans hP.symm)))))))).trans hP, ((F_674.1 23 (ni hprP (fun P => 23) (fun P => [P, P + 1]) rfl) 5).trans ((F_663.1 23 (ni hprP (fun P => 23) (fun P => [P, P + 1]) rfl) 5).trans (hs_645.trans ((F_608.1 23 (by decide) 5).trans ((F_571.1 23 (by decide) 5).trans ((F_534.1 23 (by decide) 5).trans (F_373.1 23 (by decide) 5))))))), ((F_674.1 23 (ni hprP (fun P => 23) (fun P => [P, P + 1]) rfl) 6).trans ((F_663.1 23 (ni hprP (fun P => 23) (fun P => [P, P + 1]) rfl) 6).trans (hs_646.trans ((F_608.1 23 (by decide) 6).trans ((F_571.1 23 (by decide) 6).trans ((F_534.1 23 (by decide) 6).trans (F_373.1 23 (by decide) 6))))))), ((F_674.1 23 (ni hprP (fun P => 23) (fun P => [P, P + 1]) rfl) 7).trans ((F_663.1 23 (ni hprP (fun P => 23) (fun P => [P, P + 1]) rfl) 7).trans (hs_647.trans ((F_608.1 23 (by decide) 7).trans ((F_571.1 23 (by decide) 7).trans ((F_534.1 23 (by decide) 7).trans (F_373.1 23 (by decide) 7))))))), (((F_674.1 23 (ni hprP (fun P => 23) (fun P => [P, P + 1]) rfl) 8).trans ((F_663.1 23 (ni hprP (fun P => 23) (fun P => [P, P + 1]) rfl) 8).trans (hs_648.trans ((F_608.1 23 (by decide) 8).trans ((F_571.1 23 (by decide) 8).trans ((F_534.1 23 (by decide) 8).trans ((F_373.1 23 (by decide) 8).trans htt.symm)))))))).trans htt, ((F_674.1 23 (ni hprP (fun P => 23) (fun P => [P, P + 1]) rfl) 9).trans ((F_663.1 23 (ni hprP (fun P => 23) (fun P => [P, P + 1]) rfl) 9).trans (hs_649.trans ((F_608.1 23 (by decide) 9).trans ((F_571.1 23 (by decide) 9).trans ((F_534.1 23 (by decide) 9).trans (F_373.1 23 (by decide) 9))))))), ((F_674.1 23 (ni hprP (fun P => 23) (fun P => [P, P + 1]) rfl) 10).trans ((F_663.1 23 (ni hprP (fun P => 23) (fun P => [P, P + 1]) rfl) 10).trans (hs_650.trans ((F_608.1 23 (by decide) 10).trans ((F_571.1 23 (by decide) 10).trans ((F_534.1 23 (by decide) 10).trans (F_373.1 23 (by decide) 10))))))), ((F_674.1 26 (ni hprP (fun P => 26) (fun P => [P, P + 1]) rfl) 6).trans ((F_663.1 26 (ni hprP (fun P => 26) (fun P => [P, P + 1]) rfl) 6).trans (hs_651.trans (hs_613.trans (hs_576.trans (hs_539.trans hs_378)))))), (hs_678.trans (hs_667.trans (hs_652.trans ((F_608.1 P (ni hprP (fun P => P) (fun P => [26, 2, 3, 4, 24]) rfl) 7).trans ((F_571.1 P (ni hprP (fun P => P) (fun P => [26]) rfl) 7).trans ((F_534.1 P (ni hprP (fun P => P) (fun P => [26]) rfl) 7).trans (F_373.1 P (ni hprP (fun P => P) (fun P => [26]) rfl) 7)))))))⟩
        · refine lv_aload_n hx hb dX7_ownPrimary_48 rfl (lv_at hl 0 rfl) ?_
          refine lv_bipush (v := iv 40) hx hb dX7_ownPrimary_49 rfl ?_
          refine lv_bipush (v := iv 41) hx hb dX7_ownPrimary_51 rfl ?_
          have hpx_691 : μ532.1 26 11 = 0 → PXE μ μ532 P tt 0 (-1) 1 := fun h0 => (hpx_530 (by have h9 : μ371.1 26 11 = μ.1 26 11 := hs_377; have h8 : μ532.1 26 11 = μ.1 26 11 := (hs_538.trans hs_377); omega)).fr (K := [26]) (Fr.tr Fr.rf F_534 (by decide)) (npL_p (L := [26]) (by decide) hprP).1 (npL_p (L := [26]) (by decide) hprP).2.1
          have e_692 : μ532.1 23 2 = P := ((F_534.1 23 (by decide) 2).trans ((F_373.1 23 (by decide) 2).trans hP.symm))
          have e_693 : μ532.1 23 8 = tt := ((F_534.1 23 (by decide) 8).trans ((F_373.1 23 (by decide) 8).trans htt.symm))
          have e_694 : μ532.1 P 1 = μ.1 P 1 := ((F_534.1 P (ni hprP (fun P => P) (fun P => [26]) rfl) 1).trans (F_373.1 P (ni hprP (fun P => P) (fun P => [26]) rfl) 1))
          have e_695 : μ532.1 26 11 = μ.1 26 11 := (hs_538.trans hs_377)
          have hk_696 := hI.row (r := P + 2) (hprP.row)
          unfold rk at hk_696
          have e_697 : μ532.1 (P + 2) 3 = μ.1 (P + 2) 3 := ((F_534.1 (P + 2) (ni hprP (fun P => P + 2) (fun P => [26]) rfl) 3).trans (F_373.1 (P + 2) (ni hprP (fun P => P + 2) (fun P => [26]) rfl) 3))
          have e_698 : μ532.1 P 1 = μ.1 P 1 := ((F_534.1 P (ni hprP (fun P => P) (fun P => [26]) rfl) 1).trans (F_373.1 P (ni hprP (fun P => P) (fun P => [26]) rfl) 1))
          have e_699 : μ532.1 23 9 = μ.1 23 9 := ((F_534.1 23 (by decide) 9).trans (F_373.1 23 (by decide) 9))
          have e_700 : μ532.1 23 9 = μ.1 23 9 := ((F_534.1 23 (by decide) 9).trans (F_373.1 23 (by decide) 9))
          have e_701 : μ532.1 23 9 = μ.1 23 9 := ((F_534.1 23 (by decide) 9).trans (F_373.1 23 (by decide) 9))
          have e_702 : μ532.1 26 11 = μ.1 26 11 := (hs_538.trans hs_377)
          have e_703 : μ532.1 P 1 = μ.1 P 1 := ((F_534.1 P (ni hprP (fun P => P) (fun P => [26]) rfl) 1).trans (F_373.1 P (ni hprP (fun P => P) (fun P => [26]) rfl) 1))
          have e_704 : μ532.1 P 1 = μ.1 P 1 := ((F_534.1 P (ni hprP (fun P => P) (fun P => [26]) rfl) 1).trans (F_373.1 P (ni hprP (fun P => P) (fun P => [26]) rfl) 1))
          have e_705 : μ532.1 (P + 2) 3 = μ.1 (P + 2) 3 := ((F_534.1 (P + 2) (ni hprP (fun P => P + 2) (fun P => [26]) rfl) 3).trans (F_373.1 (P + 2) (ni hprP (fun P => P + 2) (fun P => [26]) rfl) 3))
          have e_706 : μ532.1 P 1 = μ.1 P 1 := ((F_534.1 P (ni hprP (fun P => P) (fun P => [26]) rfl) 1).trans (F_373.1 P (ni hprP (fun P => P) (fun P => [26]) rfl) 1))
          have e_707 : μ532.1 (P + 2) 3 = μ.1 (P + 2) 3 := ((F_534.1 (P + 2) (ni hprP (fun P => P + 2) (fun P => [26]) rfl) 3).trans (F_373.1 (P + 2) (ni hprP (fun P => P + 2) (fun P => [26]) rfl) 3))
          refine xc_vV G (b := 23) (rest := []) (As := [.int (iv 40), .int (iv 41)]) (c_X7_inBrackets ω l μ532 40 41 F Lo kf P tt (by unfold ir; omega) (by unfold ir; omega) hI_535 (by omega) (by omega) hF hLo hE hU hp_536 (by omega) (by omega) (by omega) (by omega) (by omega) (by omega) (by omega)) (wm 4 92 rfl rfl) (wm 4 94 rfl rfl) (wm 0 39 rfl rfl) rfl rfl (by decide) rfl (wm 1 12 rfl rfl) (wm 4 95 rfl rfl) (by decide) hR ⟨sfr (F := F) (a := 1) (by decide), slo (L := Lo) (m := 3) (a := 22) (by decide)⟩ (n := 2) rfl rfl (Nat.le_of_ble_eq_true rfl) hl.1 dX7_ownPrimary_53 (fun μ708 ρ d0 H locs hp G => ?_)
          obtain ⟨F_709, hI_710, hp_711, hp_712, hp_713, hp_714, hp_715, hp_716, hs_717, hs_718, hs_719, hs_720, hs_721, hs_722, hs_723, hs_724, hs_725⟩ := hp
          have hn_726 : -1 ≤ μ708.1 26 10 ∧ μ708.1 26 10 ≤ 3000 := hI_710.nm.2.2.2.2.2.2.2.2.2.2.2.2
          have hk_727 := hI_710.pr (p := P) hprP
          unfold pk at hk_727
          have hc_728 : 16 ≤ μ708.2.1 (P + 1) ∧ μ708.2.1 (P + 1) ≤ 73024 := hI_710.rm.1 _ hprP.cap
          have hk_729 := hI_710.row (r := P + 2) (hprP.row)
          unfold rk at hk_729
          have htb_730 := hp_711.b
          have hpx_731 : μ708.1 26 11 = 0 → PXE μ μ708 P tt 1 (-1) 1 := fun h0 => (PXE.app (hpx_691 (by have h9 : μ532.1 26 11 = μ.1 26 11 := (hs_538.trans hs_377); have h8 : μ708.1 26 11 = μ708.1 26 11 := rfl; omega)) (hp_716 h0)).e (by omega)
          refine lv_aload_n hx hb dX7_ownPrimary_56 rfl (lv_at hl 0 rfl) ?_
          refine lv_bipush (v := iv 16) hx hb dX7_ownPrimary_57 rfl ?_
          refine lv_iconst (v := iv 0) hx hb dX7_ownPrimary_59 rfl ?_
          refine lv_iconst (v := iv 0) hx hb dX7_ownPrimary_60 rfl ?_
          have e_732 : μ708.1 23 2 = P := (hs_717.trans ((F_534.1 23 (by decide) 2).trans ((F_373.1 23 (by decide) 2).trans hP.symm)))
          refine xc_iV G (b := 23) (rest := []) (As := [.int (iv 16), .int (iv 0), .int (iv 0)]) (c_X7_add ω l μ708 16 0 0 P (by unfold ir; omega) (by unfold ir; omega) (by unfold ir; omega) hI_710 (by omega) (by omega)) (wm 3 226 rfl rfl) (wm 3 228 rfl rfl) (wm 0 21 rfl rfl) rfl rfl (by decide) rfl (wm 1 12 rfl rfl) (wm 3 229 rfl rfl) (by decide) hR ⟨nfr hF (by decide), nlo hLo (by decide)⟩ (n := 3) rfl rfl (Nat.le_of_ble_eq_true rfl) hl.1 dX7_ownPrimary_61 (fun r_734 μ733 ρ d0 H locs hr_r_734 hp G => ?_)
          have hr_r_734 : -2147483648 ≤ r_734 ∧ r_734 ≤ 2147483647 := hr_r_734
          obtain ⟨F_735, hI_736, hp_737, hp_738, hs_739, hs_740⟩ := hp
          have hpx_741 : μ733.1 26 11 = 0 → PXE μ μ733 P tt 1 (-1) 1 := fun h0 => (PXE.app (hpx_731 (by have h9 : μ708.1 26 11 = μ708.1 26 11 := rfl; have h8 : μ733.1 26 11 = μ708.1 26 11 := (F_735.1 26 (ni hprP (fun P => 26) (fun P => [P, P + 1]) rfl) 11); omega)) (EX.pl hp_738 (by omega) (by unfold plain; omega) (e := 0) rfl (by have h9 := hs_1 (μ := μ708) (P := P) (i := μ708.1 P 1); omega))).e (by omega)
          refine lv_pop hx hb dX7_ownPrimary_64 rfl ?_
          refine lv_goto (tgt := 123) hx hb dX7_ownPrimary_65 (by decide) ?_
          have htk_742 : TK μ733 := hp_711.fr (K := [P, P + 1]) (Fr.tr Fr.rf F_735 (si hprP (fun P => [P, P + 1]) (fun P => [P, P + 1]) rfl)) (ni hprP (fun P => 26) (fun P => [P, P + 1]) rfl) (ni hprP (fun P => 28) (fun P => [P, P + 1]) rfl)
          have e_743 : μ733.1 26 11 = μ708.1 26 11 := (F_735.1 26 (ni hprP (fun P => 26) (fun P => [P, P + 1]) rfl) 11)
          have e_744 : μ733.1 26 11 = μ708.1 26 11 := (F_735.1 26 (ni hprP (fun P => 26) (fun P => [P, P + 1]) rfl) 11)
          have e_745 : μ733.1 26 10 = μ708.1 26 10 := (F_735.1 26 (ni hprP (fun P => 26) (fun P => [P, P + 1]) rfl) 10)
          have e_746 : μ733.1 P 1 = μ708.1 P 1 + 1 := hs_739
          have e_747 : μ733.1 P 1 = μ708.1 P 1 + 1 := hs_739
          have e_748 : μ733.1 26 10 = μ708.1 26 10 := (F_735.1 26 (ni hprP (fun P => 26) (fun P => [P, P + 1]) rfl) 10)
          have e_749 : μ733.1 26 11 = μ708.1 26 11 := (F_735.1 26 (ni hprP (fun P => 26) (fun P => [P, P + 1]) rfl) 11)
          have e_750 : μ733.1 (P + 2) 3 = μ708.1 (P + 2) 3 := (F_735.1 (P + 2) (ni hprP (fun P => P + 2) (fun P => [P, P + 1]) rfl) 3)
          have e_751 : μ733.1 P 1 = μ708.1 P 1 + 1 := hs_739
          have e_752 : μ733.1 (P + 2) 3 = μ708.1 (P + 2) 3 := (F_735.1 (P + 2) (ni hprP (fun P => P + 2) (fun P => [P, P + 1]) rfl) 3)
          exact xr_v G hret hlk dX7_ownPrimary_123 ⟨(Fr.tr (Fr.tr (Fr.tr (Fr.tr Fr.rf F_373 (si hprP (fun P => [26]) (fun P => [2, 3, 4, 23, 24, 26, P, P + 1, P + 2, (P + 2) + 1, (P + 2) + 2, (P + 2) + 3]) rfl)) F_534 (si hprP (fun P => [26]) (fun P => [2, 3, 4, 23, 24, 26, P, P + 1, P + 2, (P + 2) + 1, (P + 2) + 2, (P + 2) + 3]) rfl)) F_709 (si hprP (fun P => [2, 3, 4, 23, 24, 26, P, P + 1, P + 2, (P + 2) + 1, (P + 2) + 2, (P + 2) + 3]) (fun P => [2, 3, 4, 23, 24, 26, P, P + 1, P + 2, (P + 2) + 1, (P + 2) + 2, (P + 2) + 3]) rfl)) F_735 (si hprP (fun P => [P, P + 1]) (fun P => [2, 3, 4, 23, 24, 26, P, P + 1, P + 2, (P + 2) + 1, (P + 2) + 2, (P + 2) + 3]) rfl)), hI_736, htk_742, (by omega), (by omega), (by omega), (by omega), (fun h0 => (PXE.ex (hpx_741 h0)).e (by omega)), (((F_735.1 23 (ni hprP (fun P => 23) (fun P => [P, P + 1]) rfl) 2).trans (hs_717.trans ((F_534.1 23 (by decide) 2).trans ((F_373.1 23 (by decide) 2).trans hP.symm))))).trans hP, ((F_735.1 23 (ni hprP (fun P => 23) (fun P => [P, P + 1]) rfl) 5).trans (hs_718.trans ((F_534.1 23 (by decide) 5).trans (F_373.1 23 (by decide) 5)))), ((F_735.1 23 (ni hprP (fun P => 23) (fun P => [P, P + 1]) rfl) 6).trans (hs_719.trans ((F_534.1 23 (by decide) 6).trans (F_373.1 23 (by decide) 6)))), ((F_735.1 23 (ni hprP (fun P => 23) (fun P => [P, P + 1]) rfl) 7).trans (hs_720.trans ((F_534.1 23 (by decide) 7).trans (F_373.1 23 (by decide) 7)))), (((F_735.1 23 (ni hprP (fun P => 23) (fun P => [P, P + 1]) rfl) 8).trans (hs_721.trans ((F_534.1 23 (by decide) 8).trans ((F_373.1 23 (by decide) 8).trans htt.symm))))).trans htt, ((F_735.1 23 (ni hprP (fun P => 23) (fun P => [P, P + 1]) rfl) 9).trans (hs_722.trans ((F_534.1 23 (by decide) 9).trans (F_373.1 23 (by decide) 9)))), ((F_735.1 23 (ni hprP (fun P => 23) (fun P => [P, P + 1]) rfl) 10).trans (hs_723.trans ((F_534.1 23 (by decide) 10).trans (F_373.1 23 (by decide) 10)))), ((F_735.1 26 (ni hprP (fun P => 26) (fun P => [P, P + 1]) rfl) 6).trans (hs_724.trans (hs_539.trans hs_378))), (hs_740.trans (hs_725.trans ((F_534.1 P (ni hprP (fun P => P) (fun P => [26]) rfl) 7).trans (F_373.1 P (ni hprP (fun P => P) (fun P => [26]) rfl) 7))))⟩
    · refine lv_aload_n hx hb dX7_ownPrimary_18 rfl (lv_at hl 0 rfl) ?_
      refine lv_bipush (v := iv 18) hx hb dX7_ownPrimary_19 rfl ?_
      refine lv_iconst (v := iv 0) hx hb dX7_ownPrimary_21 rfl ?_
      refine lv_iconst (v := iv 0) hx hb dX7_ownPrimary_22 rfl ?_
      have hpx_753 : μ371.1 26 11 = 0 → PXE μ μ371 P tt 0 (-1) 1 := fun h0 => (hnil (by have h9 : μ.1 26 11 = μ.1 26 11 := rfl; have h8 : μ371.1 26 11 = μ.1 26 11 := hs_377; omega)).fr (K := [26]) (Fr.tr Fr.rf F_373 (by decide)) (npL_p (L := [26]) (by decide) hprP).1 (npL_p (L := [26]) (by decide) hprP).2.1
      have e_754 : μ371.1 23 2 = P := ((F_373.1 23 (by decide) 2).trans hP.symm)
      have e_755 : μ371.1 P 1 = μ.1 P 1 := (F_373.1 P (ni hprP (fun P => P) (fun P => [26]) rfl) 1)
      have e_756 : μ371.1 P 1 = μ.1 P 1 := (F_373.1 P (ni hprP (fun P => P) (fun P => [26]) rfl) 1)
      have e_757 : μ371.1 P 1 = μ.1 P 1 := (F_373.1 P (ni hprP (fun P => P) (fun P => [26]) rfl) 1)
      refine xc_iV G (b := 23) (rest := []) (As := [.int (iv 18), .int (iv 0), .int (iv 0)]) (c_X7_add ω l μ371 18 0 0 P (by unfold ir; omega) (by unfold ir; omega) (by unfold ir; omega) hI_374 (by omega) (by omega)) (wm 3 226 rfl rfl) (wm 3 228 rfl rfl) (wm 0 21 rfl rfl) rfl rfl (by decide) rfl (wm 1 12 rfl rfl) (wm 3 229 rfl rfl) (by decide) hR ⟨nfr hF (by decide), nlo hLo (by decide)⟩ (n := 3) rfl rfl (Nat.le_of_ble_eq_true rfl) hl.1 dX7_ownPrimary_23 (fun r_759 μ758 ρ d0 H locs hr_r_759 hp G => ?_)
      have hr_r_759 : -2147483648 ≤ r_759 ∧ r_759 ≤ 2147483647 := hr_r_759
      obtain ⟨F_760, hI_761, hp_762, hp_763, hs_764, hs_765⟩ := hp
      have hpx_766 : μ758.1 26 11 = 0 → PXE μ μ758 P tt 1 (-1) 1 := fun h0 => (PXE.app (hpx_753 (by have h9 : μ371.1 26 11 = μ.1 26 11 := hs_377; have h8 : μ758.1 26 11 = μ.1 26 11 := ((F_760.1 26 (ni hprP (fun P => 26) (fun P => [P, P + 1]) rfl) 11).trans hs_377); omega)) (EX.pl hp_763 (by omega) (by unfold plain; omega) (e := 1) rfl (by have h9 := hs_1 (μ := μ371) (P := P) (i := μ371.1 P 1); omega))).e (by omega)
      refine lv_pop hx hb dX7_ownPrimary_26 rfl ?_
      refine lv_goto (tgt := 123) hx hb dX7_ownPrimary_27 (by decide) ?_
      have htk_767 : TK μ758 := hp_375.fr (K := [P, P + 1]) (Fr.tr Fr.rf F_760 (si hprP (fun P => [P, P + 1]) (fun P => [P, P + 1]) rfl)) (ni hprP (fun P => 26) (fun P => [P, P + 1]) rfl) (ni hprP (fun P => 28) (fun P => [P, P + 1]) rfl)
      have e_768 : μ758.1 26 11 = μ.1 26 11 := ((F_760.1 26 (ni hprP (fun P => 26) (fun P => [P, P + 1]) rfl) 11).trans hs_377)
      have e_769 : μ758.1 26 11 = μ.1 26 11 := ((F_760.1 26 (ni hprP (fun P => 26) (fun P => [P, P + 1]) rfl) 11).trans hs_377)
      have e_770 : μ758.1 26 10 = μ371.1 26 10 := (F_760.1 26 (ni hprP (fun P => 26) (fun P => [P, P + 1]) rfl) 10)
      have e_771 : μ758.1 P 1 = μ371.1 P 1 + 1 := hs_764
      have e_772 : μ758.1 P 1 = μ371.1 P 1 + 1 := hs_764
      have e_773 : μ758.1 26 10 = μ371.1 26 10 := (F_760.1 26 (ni hprP (fun P => 26) (fun P => [P, P + 1]) rfl) 10)
      have e_774 : μ758.1 26 11 = μ.1 26 11 := ((F_760.1 26 (ni hprP (fun P => 26) (fun P => [P, P + 1]) rfl) 11).trans hs_377)
      have e_775 : μ758.1 (P + 2) 3 = μ.1 (P + 2) 3 := ((F_760.1 (P + 2) (ni hprP (fun P => P + 2) (fun P => [P, P + 1]) rfl) 3).trans (F_373.1 (P + 2) (ni hprP (fun P => P + 2) (fun P => [26]) rfl) 3))
      have e_776 : μ758.1 P 1 = μ371.1 P 1 + 1 := hs_764
      have e_777 : μ758.1 (P + 2) 3 = μ.1 (P + 2) 3 := ((F_760.1 (P + 2) (ni hprP (fun P => P + 2) (fun P => [P, P + 1]) rfl) 3).trans (F_373.1 (P + 2) (ni hprP (fun P => P + 2) (fun P => [26]) rfl) 3))
      exact xr_v G hret hlk dX7_ownPrimary_123 ⟨(Fr.tr (Fr.tr Fr.rf F_373 (si hprP (fun P => [26]) (fun P => [2, 3, 4, 23, 24, 26, P, P + 1, P + 2, (P + 2) + 1, (P + 2) + 2, (P + 2) + 3]) rfl)) F_760 (si hprP (fun P => [P, P + 1]) (fun P => [2, 3, 4, 23, 24, 26, P, P + 1, P + 2, (P + 2) + 1, (P + 2) + 2, (P + 2) + 3]) rfl)), hI_761, htk_767, (by omega), (by omega), (by omega), (by omega), (fun h0 => (PXE.ex (hpx_766 h0)).e (by omega)), (((F_760.1 23 (ni hprP (fun P => 23) (fun P => [P, P + 1]) rfl) 2).trans ((F_373.1 23 (by decide) 2).trans hP.symm))).trans hP, ((F_760.1 23 (ni hprP (fun P => 23) (fun P => [P, P + 1]) rfl) 5).trans (F_373.1 23 (by decide) 5)), ((F_760.1 23 (ni hprP (fun P => 23) (fun P => [P, P + 1]) rfl) 6).trans (F_373.1 23 (by decide) 6)), ((F_760.1 23 (ni hprP (fun P => 23) (fun P => [P, P + 1]) rfl) 7).trans (F_373.1 23 (by decide) 7)), (((F_760.1 23 (ni hprP (fun P => 23) (fun P => [P, P + 1]) rfl) 8).trans ((F_373.1 23 (by decide) 8).trans htt.symm))).trans htt, ((F_760.1 23 (ni hprP (fun P => 23) (fun P => [P, P + 1]) rfl) 9).trans (F_373.1 23 (by decide) 9)), ((F_760.1 23 (ni hprP (fun P => 23) (fun P => [P, P + 1]) rfl) 10).trans (F_373.1 23 (by decide) 10)), ((F_760.1 26 (ni hprP (fun P => 26) (fun P => [P, P + 1]) rfl) 6).trans hs_378), (hs_765.trans (F_373.1 P (ni hprP (fun P => P) (fun P => [26]) rfl) 7))⟩
