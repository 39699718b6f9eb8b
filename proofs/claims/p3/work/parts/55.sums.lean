abbrev cX7_comparison : ByteArray := prog_9_method_40_code
def yX7_comparison : MethodName := ⟨RX7, "comparison", "(Z)V"⟩
abbrev cX7_sum : ByteArray := prog_9_method_41_code
def yX7_sum : MethodName := ⟨RX7, "sum", "(Z)V"⟩
abbrev cX7_product : ByteArray := prog_9_method_42_code
def yX7_product : MethodName := ⟨RX7, "product", "(Z)V"⟩
theorem dX7_comparison_0 : decode cX7_comparison 0 = .ok (.aload_n 0, 1) := by decide +kernel
theorem dX7_comparison_1 : decode cX7_comparison 1 = .ok (.iload_n 1, 1) := by decide +kernel
theorem dX7_comparison_2 : decode cX7_comparison 2 = .ok (.invokevirtual 270, 3) := by decide +kernel
theorem dX7_comparison_5 : decode cX7_comparison 5 = .ok (.aload_n 0, 1) := by decide +kernel
theorem dX7_comparison_6 : decode cX7_comparison 6 = .ok (.getfield 43, 3) := by decide +kernel
theorem dX7_comparison_9 : decode cX7_comparison 9 = .ok (.getfield 80, 3) := by decide +kernel
theorem dX7_comparison_12 : decode cX7_comparison 12 = .ok (.istore_n 2, 1) := by decide +kernel
theorem dX7_comparison_13 : decode cX7_comparison 13 = .ok (.iload_n 2, 1) := by decide +kernel
theorem dX7_comparison_14 : decode cX7_comparison 14 = .ok (.bipush 60, 2) := by decide +kernel
theorem dX7_comparison_16 : decode cX7_comparison 16 = .ok (.if_icmp .eq 23, 3) := by decide +kernel
theorem dX7_comparison_19 : decode cX7_comparison 19 = .ok (.iload_n 2, 1) := by decide +kernel
theorem dX7_comparison_20 : decode cX7_comparison 20 = .ok (.bipush 62, 2) := by decide +kernel
theorem dX7_comparison_22 : decode cX7_comparison 22 = .ok (.if_icmp .eq 17, 3) := by decide +kernel
theorem dX7_comparison_25 : decode cX7_comparison 25 = .ok (.iload_n 2, 1) := by decide +kernel
theorem dX7_comparison_26 : decode cX7_comparison 26 = .ok (.sipush 129, 3) := by decide +kernel
theorem dX7_comparison_29 : decode cX7_comparison 29 = .ok (.if_icmp .lt 43, 3) := by decide +kernel
theorem dX7_comparison_32 : decode cX7_comparison 32 = .ok (.iload_n 2, 1) := by decide +kernel
theorem dX7_comparison_33 : decode cX7_comparison 33 = .ok (.sipush 132, 3) := by decide +kernel
theorem dX7_comparison_36 : decode cX7_comparison 36 = .ok (.if_icmp .gt 36, 3) := by decide +kernel
theorem dX7_comparison_39 : decode cX7_comparison 39 = .ok (.aload_n 0, 1) := by decide +kernel
theorem dX7_comparison_40 : decode cX7_comparison 40 = .ok (.getfield 43, 3) := by decide +kernel
theorem dX7_comparison_43 : decode cX7_comparison 43 = .ok (.invokevirtual 97, 3) := by decide +kernel
theorem dX7_comparison_46 : decode cX7_comparison 46 = .ok (.aload_n 0, 1) := by decide +kernel
theorem dX7_comparison_47 : decode cX7_comparison 47 = .ok (.iconst (-1), 1) := by decide +kernel
theorem dX7_comparison_48 : decode cX7_comparison 48 = .ok (.iconst 0, 1) := by decide +kernel
theorem dX7_comparison_49 : decode cX7_comparison 49 = .ok (.invokevirtual 273, 3) := by decide +kernel
theorem dX7_comparison_52 : decode cX7_comparison 52 = .ok (.istore_n 3, 1) := by decide +kernel
theorem dX7_comparison_53 : decode cX7_comparison 53 = .ok (.aload_n 0, 1) := by decide +kernel
theorem dX7_comparison_54 : decode cX7_comparison 54 = .ok (.iconst 0, 1) := by decide +kernel
theorem dX7_comparison_55 : decode cX7_comparison 55 = .ok (.invokevirtual 270, 3) := by decide +kernel
theorem dX7_comparison_58 : decode cX7_comparison 58 = .ok (.aload_n 0, 1) := by decide +kernel
theorem dX7_comparison_59 : decode cX7_comparison 59 = .ok (.bipush 7, 2) := by decide +kernel
theorem dX7_comparison_61 : decode cX7_comparison 61 = .ok (.iload_n 2, 1) := by decide +kernel
theorem dX7_comparison_62 : decode cX7_comparison 62 = .ok (.iconst 0, 1) := by decide +kernel
theorem dX7_comparison_63 : decode cX7_comparison 63 = .ok (.aload_n 0, 1) := by decide +kernel
theorem dX7_comparison_64 : decode cX7_comparison 64 = .ok (.iload_n 3, 1) := by decide +kernel
theorem dX7_comparison_65 : decode cX7_comparison 65 = .ok (.iconst 1, 1) := by decide +kernel
theorem dX7_comparison_66 : decode cX7_comparison 66 = .ok (.invokevirtual 273, 3) := by decide +kernel
theorem dX7_comparison_69 : decode cX7_comparison 69 = .ok (.invokevirtual 230, 3) := by decide +kernel
theorem dX7_comparison_72 : decode cX7_comparison 72 = .ok (.return_, 1) := by decide +kernel
theorem dX7_sum_0 : decode cX7_sum 0 = .ok (.aload_n 0, 1) := by decide +kernel
theorem dX7_sum_1 : decode cX7_sum 1 = .ok (.iload_n 1, 1) := by decide +kernel
theorem dX7_sum_2 : decode cX7_sum 2 = .ok (.invokevirtual 276, 3) := by decide +kernel
theorem dX7_sum_5 : decode cX7_sum 5 = .ok (.iconst 0, 1) := by decide +kernel
theorem dX7_sum_6 : decode cX7_sum 6 = .ok (.istore_n 2, 1) := by decide +kernel
theorem dX7_sum_7 : decode cX7_sum 7 = .ok (.iload_n 2, 1) := by decide +kernel
theorem dX7_sum_8 : decode cX7_sum 8 = .ok (.sipush 3000, 3) := by decide +kernel
theorem dX7_sum_11 : decode cX7_sum 11 = .ok (.if_icmp .ge 76, 3) := by decide +kernel
theorem dX7_sum_14 : decode cX7_sum 14 = .ok (.aload_n 0, 1) := by decide +kernel
theorem dX7_sum_15 : decode cX7_sum 15 = .ok (.getfield 43, 3) := by decide +kernel
theorem dX7_sum_18 : decode cX7_sum 18 = .ok (.getfield 80, 3) := by decide +kernel
theorem dX7_sum_21 : decode cX7_sum 21 = .ok (.bipush 43, 2) := by decide +kernel
theorem dX7_sum_23 : decode cX7_sum 23 = .ok (.if_icmp .eq 15, 3) := by decide +kernel
theorem dX7_sum_26 : decode cX7_sum 26 = .ok (.aload_n 0, 1) := by decide +kernel
theorem dX7_sum_27 : decode cX7_sum 27 = .ok (.getfield 43, 3) := by decide +kernel
theorem dX7_sum_30 : decode cX7_sum 30 = .ok (.getfield 80, 3) := by decide +kernel
theorem dX7_sum_33 : decode cX7_sum 33 = .ok (.bipush 45, 2) := by decide +kernel
theorem dX7_sum_35 : decode cX7_sum 35 = .ok (.if_icmp .ne 52, 3) := by decide +kernel
theorem dX7_sum_38 : decode cX7_sum 38 = .ok (.aload_n 0, 1) := by decide +kernel
theorem dX7_sum_39 : decode cX7_sum 39 = .ok (.getfield 43, 3) := by decide +kernel
theorem dX7_sum_42 : decode cX7_sum 42 = .ok (.getfield 80, 3) := by decide +kernel
theorem dX7_sum_45 : decode cX7_sum 45 = .ok (.istore_n 3, 1) := by decide +kernel
theorem dX7_sum_46 : decode cX7_sum 46 = .ok (.aload_n 0, 1) := by decide +kernel
theorem dX7_sum_47 : decode cX7_sum 47 = .ok (.getfield 43, 3) := by decide +kernel
theorem dX7_sum_50 : decode cX7_sum 50 = .ok (.invokevirtual 97, 3) := by decide +kernel
theorem dX7_sum_53 : decode cX7_sum 53 = .ok (.aload_n 0, 1) := by decide +kernel
theorem dX7_sum_54 : decode cX7_sum 54 = .ok (.iconst (-1), 1) := by decide +kernel
theorem dX7_sum_55 : decode cX7_sum 55 = .ok (.iconst 0, 1) := by decide +kernel
theorem dX7_sum_56 : decode cX7_sum 56 = .ok (.invokevirtual 273, 3) := by decide +kernel
theorem dX7_sum_59 : decode cX7_sum 59 = .ok (.istore 4, 2) := by decide +kernel
theorem dX7_sum_61 : decode cX7_sum 61 = .ok (.aload_n 0, 1) := by decide +kernel
theorem dX7_sum_62 : decode cX7_sum 62 = .ok (.iconst 0, 1) := by decide +kernel
theorem dX7_sum_63 : decode cX7_sum 63 = .ok (.invokevirtual 276, 3) := by decide +kernel
theorem dX7_sum_66 : decode cX7_sum 66 = .ok (.aload_n 0, 1) := by decide +kernel
theorem dX7_sum_67 : decode cX7_sum 67 = .ok (.bipush 7, 2) := by decide +kernel
theorem dX7_sum_69 : decode cX7_sum 69 = .ok (.iload_n 3, 1) := by decide +kernel
theorem dX7_sum_70 : decode cX7_sum 70 = .ok (.iconst 0, 1) := by decide +kernel
theorem dX7_sum_71 : decode cX7_sum 71 = .ok (.aload_n 0, 1) := by decide +kernel
theorem dX7_sum_72 : decode cX7_sum 72 = .ok (.iload 4, 2) := by decide +kernel
theorem dX7_sum_74 : decode cX7_sum 74 = .ok (.iconst 1, 1) := by decide +kernel
theorem dX7_sum_75 : decode cX7_sum 75 = .ok (.invokevirtual 273, 3) := by decide +kernel
theorem dX7_sum_78 : decode cX7_sum 78 = .ok (.invokevirtual 230, 3) := by decide +kernel
theorem dX7_sum_81 : decode cX7_sum 81 = .ok (.iinc 2 1, 3) := by decide +kernel
theorem dX7_sum_84 : decode cX7_sum 84 = .ok (.goto (-77), 3) := by decide +kernel
theorem dX7_sum_87 : decode cX7_sum 87 = .ok (.return_, 1) := by decide +kernel
theorem dX7_product_0 : decode cX7_product 0 = .ok (.aload_n 0, 1) := by decide +kernel
theorem dX7_product_1 : decode cX7_product 1 = .ok (.iload_n 1, 1) := by decide +kernel
theorem dX7_product_2 : decode cX7_product 2 = .ok (.invokevirtual 279, 3) := by decide +kernel
theorem dX7_product_5 : decode cX7_product 5 = .ok (.iconst 0, 1) := by decide +kernel
theorem dX7_product_6 : decode cX7_product 6 = .ok (.istore_n 2, 1) := by decide +kernel
theorem dX7_product_7 : decode cX7_product 7 = .ok (.iload_n 2, 1) := by decide +kernel
theorem dX7_product_8 : decode cX7_product 8 = .ok (.sipush 3000, 3) := by decide +kernel
theorem dX7_product_11 : decode cX7_product 11 = .ok (.if_icmp .ge 88, 3) := by decide +kernel
theorem dX7_product_14 : decode cX7_product 14 = .ok (.aload_n 0, 1) := by decide +kernel
theorem dX7_product_15 : decode cX7_product 15 = .ok (.getfield 43, 3) := by decide +kernel
theorem dX7_product_18 : decode cX7_product 18 = .ok (.getfield 80, 3) := by decide +kernel
theorem dX7_product_21 : decode cX7_product 21 = .ok (.bipush 42, 2) := by decide +kernel
theorem dX7_product_23 : decode cX7_product 23 = .ok (.if_icmp .eq 27, 3) := by decide +kernel
theorem dX7_product_26 : decode cX7_product 26 = .ok (.aload_n 0, 1) := by decide +kernel
theorem dX7_product_27 : decode cX7_product 27 = .ok (.getfield 43, 3) := by decide +kernel
theorem dX7_product_30 : decode cX7_product 30 = .ok (.getfield 80, 3) := by decide +kernel
theorem dX7_product_33 : decode cX7_product 33 = .ok (.bipush 47, 2) := by decide +kernel
theorem dX7_product_35 : decode cX7_product 35 = .ok (.if_icmp .eq 15, 3) := by decide +kernel
theorem dX7_product_38 : decode cX7_product 38 = .ok (.aload_n 0, 1) := by decide +kernel
theorem dX7_product_39 : decode cX7_product 39 = .ok (.getfield 43, 3) := by decide +kernel
theorem dX7_product_42 : decode cX7_product 42 = .ok (.getfield 80, 3) := by decide +kernel
theorem dX7_product_45 : decode cX7_product 45 = .ok (.bipush 37, 2) := by decide +kernel
theorem dX7_product_47 : decode cX7_product 47 = .ok (.if_icmp .ne 52, 3) := by decide +kernel
theorem dX7_product_50 : decode cX7_product 50 = .ok (.aload_n 0, 1) := by decide +kernel
theorem dX7_product_51 : decode cX7_product 51 = .ok (.getfield 43, 3) := by decide +kernel
theorem dX7_product_54 : decode cX7_product 54 = .ok (.getfield 80, 3) := by decide +kernel
theorem dX7_product_57 : decode cX7_product 57 = .ok (.istore_n 3, 1) := by decide +kernel
theorem dX7_product_58 : decode cX7_product 58 = .ok (.aload_n 0, 1) := by decide +kernel
theorem dX7_product_59 : decode cX7_product 59 = .ok (.getfield 43, 3) := by decide +kernel
theorem dX7_product_62 : decode cX7_product 62 = .ok (.invokevirtual 97, 3) := by decide +kernel
theorem dX7_product_65 : decode cX7_product 65 = .ok (.aload_n 0, 1) := by decide +kernel
theorem dX7_product_66 : decode cX7_product 66 = .ok (.iconst (-1), 1) := by decide +kernel
theorem dX7_product_67 : decode cX7_product 67 = .ok (.iconst 0, 1) := by decide +kernel
theorem dX7_product_68 : decode cX7_product 68 = .ok (.invokevirtual 273, 3) := by decide +kernel
theorem dX7_product_71 : decode cX7_product 71 = .ok (.istore 4, 2) := by decide +kernel
theorem dX7_product_73 : decode cX7_product 73 = .ok (.aload_n 0, 1) := by decide +kernel
theorem dX7_product_74 : decode cX7_product 74 = .ok (.iconst 0, 1) := by decide +kernel
theorem dX7_product_75 : decode cX7_product 75 = .ok (.invokevirtual 279, 3) := by decide +kernel
theorem dX7_product_78 : decode cX7_product 78 = .ok (.aload_n 0, 1) := by decide +kernel
theorem dX7_product_79 : decode cX7_product 79 = .ok (.bipush 7, 2) := by decide +kernel
theorem dX7_product_81 : decode cX7_product 81 = .ok (.iload_n 3, 1) := by decide +kernel
theorem dX7_product_82 : decode cX7_product 82 = .ok (.iconst 0, 1) := by decide +kernel
theorem dX7_product_83 : decode cX7_product 83 = .ok (.aload_n 0, 1) := by decide +kernel
theorem dX7_product_84 : decode cX7_product 84 = .ok (.iload 4, 2) := by decide +kernel
theorem dX7_product_86 : decode cX7_product 86 = .ok (.iconst 1, 1) := by decide +kernel
theorem dX7_product_87 : decode cX7_product 87 = .ok (.invokevirtual 273, 3) := by decide +kernel
theorem dX7_product_90 : decode cX7_product 90 = .ok (.invokevirtual 230, 3) := by decide +kernel
theorem dX7_product_93 : decode cX7_product 93 = .ok (.iinc 2 1, 3) := by decide +kernel
theorem dX7_product_96 : decode cX7_product 96 = .ok (.goto (-89), 3) := by decide +kernel
theorem dX7_product_99 : decode cX7_product 99 = .ok (.return_, 1) := by decide +kernel
theorem dX7_unary_0 : decode cX7_unary 0 = .ok (.iload_n 1, 1) := by decide +kernel
theorem dX7_unary_1 : decode cX7_unary 1 = .ok (.ifCond .eq 4, 3) := by decide +kernel
theorem dX7_unary_4 : decode cX7_unary 4 = .ok (.return_, 1) := by decide +kernel
theorem dX7_unary_5 : decode cX7_unary 5 = .ok (.aload_n 0, 1) := by decide +kernel
theorem dX7_unary_6 : decode cX7_unary 6 = .ok (.getfield 43, 3) := by decide +kernel
theorem dX7_unary_9 : decode cX7_unary 9 = .ok (.getfield 80, 3) := by decide +kernel
theorem dX7_unary_12 : decode cX7_unary 12 = .ok (.bipush 45, 2) := by decide +kernel
theorem dX7_unary_14 : decode cX7_unary 14 = .ok (.if_icmp .ne 41, 3) := by decide +kernel
theorem dX7_unary_17 : decode cX7_unary 17 = .ok (.aload_n 0, 1) := by decide +kernel
theorem dX7_unary_18 : decode cX7_unary 18 = .ok (.bipush 45, 2) := by decide +kernel
theorem dX7_unary_20 : decode cX7_unary 20 = .ok (.invokevirtual 164, 3) := by decide +kernel
theorem dX7_unary_23 : decode cX7_unary 23 = .ok (.aload_n 0, 1) := by decide +kernel
theorem dX7_unary_24 : decode cX7_unary 24 = .ok (.iconst 0, 1) := by decide +kernel
theorem dX7_unary_25 : decode cX7_unary 25 = .ok (.invokevirtual 279, 3) := by decide +kernel
theorem dX7_unary_28 : decode cX7_unary 28 = .ok (.aload_n 0, 1) := by decide +kernel
theorem dX7_unary_29 : decode cX7_unary 29 = .ok (.dup, 1) := by decide +kernel
theorem dX7_unary_30 : decode cX7_unary 30 = .ok (.getfield 32, 3) := by decide +kernel
theorem dX7_unary_33 : decode cX7_unary 33 = .ok (.iconst 1, 1) := by decide +kernel
theorem dX7_unary_34 : decode cX7_unary 34 = .ok (.isub, 1) := by decide +kernel
theorem dX7_unary_35 : decode cX7_unary 35 = .ok (.putfield 32, 3) := by decide +kernel
theorem dX7_unary_38 : decode cX7_unary 38 = .ok (.aload_n 0, 1) := by decide +kernel
theorem dX7_unary_39 : decode cX7_unary 39 = .ok (.bipush 8, 2) := by decide +kernel
theorem dX7_unary_41 : decode cX7_unary 41 = .ok (.iconst 0, 1) := by decide +kernel
theorem dX7_unary_42 : decode cX7_unary 42 = .ok (.iconst 0, 1) := by decide +kernel
theorem dX7_unary_43 : decode cX7_unary 43 = .ok (.aload_n 0, 1) := by decide +kernel
theorem dX7_unary_44 : decode cX7_unary 44 = .ok (.iconst (-1), 1) := by decide +kernel
theorem dX7_unary_45 : decode cX7_unary 45 = .ok (.iconst 0, 1) := by decide +kernel
theorem dX7_unary_46 : decode cX7_unary 46 = .ok (.invokevirtual 273, 3) := by decide +kernel
theorem dX7_unary_49 : decode cX7_unary 49 = .ok (.invokevirtual 230, 3) := by decide +kernel
theorem dX7_unary_52 : decode cX7_unary 52 = .ok (.goto 7, 3) := by decide +kernel
theorem dX7_unary_55 : decode cX7_unary 55 = .ok (.aload_n 0, 1) := by decide +kernel
theorem dX7_unary_56 : decode cX7_unary 56 = .ok (.invokevirtual 282, 3) := by decide +kernel
theorem dX7_unary_59 : decode cX7_unary 59 = .ok (.return_, 1) := by decide +kernel
set_option maxHeartbeats 4000000 in
set_option maxRecDepth 100000 in
theorem c_X7_unary (ω : Om) (l : Launch) (μ : M3) (x1 : Int) (F : Nat) (Lo : Nat) (Fu : Nat) (Lu : Nat) (kf : Int) (P : Int) (tt : Int) (hx1 : x1 = 0 ∨ x1 = 1) (hI : IC μ) (hP : P = μ.1 23 2) (htt : tt = μ.1 23 8) (hF : 60 ≤ F) (hLo : 2000 ≤ Lo) (hFu : Fu ≤ F) (hLu : Lu ≤ Lo) (hE : ∀ (μ : M3) (x1 : Int) (P : Int) (tt : Int) (hx1 : x1 = 0 ∨ x1 = 1) (hI : IC μ) (hP : P = μ.1 23 2) (htt : tt = μ.1 23 8) (hTK : TK μ) (hB : 2 * μ.1 P 1 ≤ 5 * μ.1 26 10 + 200 + 80 * μ.1 26 11) (hKc : μ.1 (P + 2) 3 ≤ μ.1 P 1) (ht3 : 0 ≤ tt ∧ tt ≤ 3) (hdp : 0 ≤ μ.1 23 9 ∧ μ.1 23 9 ≤ 8 + μ.1 26 11) (hfu : 0 ≤ (kf - 1) ∧ 9 ≤ μ.1 23 9 + (kf - 1) + 20 * μ.1 26 11) (hbg : ∀ _ : Unit, x1 = 0 ∨ μ.1 26 11 ≠ 0 ∨ 2 ≤ hs μ P (μ.1 P 1)), CtV ω l yX7_expression cX7_expression 3 (F + 0) (Lo + 0) [.ref (oP ω 23), .int (iv x1)] μ (fun (μ' : M3) => (Fr [2, 3, 4, 23, 24, 26, P, P + 1, P + 2, (P + 2) + 1, (P + 2) + 2, (P + 2) + 3] μ μ') ∧ (IC μ') ∧ (TK μ') ∧ (μ.1 26 11 ≤ μ'.1 26 11) ∧ (μ.1 26 10 ≤ μ'.1 26 10) ∧ (μ.1 P 1 ≤ μ'.1 P 1 ∧ μ'.1 P 1 ≤ μ.1 P 1 + 2 * (μ'.1 26 10 - μ.1 26 10) + (- 1 + 3 * μ'.1 26 11 - 2 * μ.1 26 11 + x1)) ∧ (μ'.1 (P + 2) 3 - μ.1 (P + 2) 3 ≤ μ'.1 P 1 - μ.1 P 1 ∧ μ.1 (P + 2) 3 ≤ μ'.1 (P + 2) 3) ∧ (μ'.1 26 11 = 0 → EX μ μ' P tt (1 - x1) 0) ∧ (μ'.1 23 2 = μ.1 23 2) ∧ (μ'.1 23 5 = μ.1 23 5) ∧ (μ'.1 23 6 = μ.1 23 6) ∧ (μ'.1 23 7 = μ.1 23 7) ∧ (μ'.1 23 8 = μ.1 23 8) ∧ (μ'.1 23 9 = μ.1 23 9) ∧ (μ'.1 23 10 = μ.1 23 10) ∧ (μ'.1 26 6 = μ.1 26 6) ∧ (μ'.1 P 7 = μ.1 P 7))) (hU : ∀ (μ : M3) (x1 : Int) (P : Int) (tt : Int) (hx1 : x1 = 0 ∨ x1 = 1) (hI : IC μ) (hP : P = μ.1 23 2) (htt : tt = μ.1 23 8) (hTK : TK μ) (hB : 2 * μ.1 P 1 ≤ 5 * μ.1 26 10 + 200 + 80 * μ.1 26 11) (hKc : μ.1 (P + 2) 3 ≤ μ.1 P 1) (ht3 : 0 ≤ tt ∧ tt ≤ 3) (hdp : 0 ≤ μ.1 23 9 ∧ μ.1 23 9 ≤ 8 + μ.1 26 11) (hfu : 0 ≤ (kf - 1) ∧ 9 ≤ μ.1 23 9 + (kf - 1) + 20 * μ.1 26 11) (hbg : ∀ _ : Unit, x1 = 0 ∨ μ.1 26 11 ≠ 0 ∨ 2 ≤ hs μ P (μ.1 P 1)), CtV ω l yX7_unary cX7_unary 2 (Fu + 0) (Lu + 0) [.ref (oP ω 23), .int (iv x1)] μ (fun (μ' : M3) => (Fr [2, 3, 4, 23, 24, 26, P, P + 1, P + 2, (P + 2) + 1, (P + 2) + 2, (P + 2) + 3] μ μ') ∧ (IC μ') ∧ (TK μ') ∧ (μ.1 26 11 ≤ μ'.1 26 11) ∧ (μ.1 26 10 ≤ μ'.1 26 10) ∧ (μ.1 P 1 ≤ μ'.1 P 1 ∧ μ'.1 P 1 ≤ μ.1 P 1 + 2 * (μ'.1 26 10 - μ.1 26 10) + (- 1 + 3 * μ'.1 26 11 - 2 * μ.1 26 11 + x1)) ∧ (μ'.1 (P + 2) 3 - μ.1 (P + 2) 3 ≤ μ'.1 P 1 - μ.1 P 1 ∧ μ.1 (P + 2) 3 ≤ μ'.1 (P + 2) 3) ∧ (μ'.1 26 11 = 0 → EX μ μ' P tt (1 - x1) 0) ∧ (μ'.1 23 2 = μ.1 23 2) ∧ (μ'.1 23 5 = μ.1 23 5) ∧ (μ'.1 23 6 = μ.1 23 6) ∧ (μ'.1 23 7 = μ.1 23 7) ∧ (μ'.1 23 8 = μ.1 23 8) ∧ (μ'.1 23 9 = μ.1 23 9) ∧ (μ'.1 23 10 = μ.1 23 10) ∧ (μ'.1 26 6 = μ.1 26 6) ∧ (μ'.1 P 7 = μ.1 P 7))) (hTK : TK μ) (hB : 2 * μ.1 P 1 ≤ 5 * μ.1 26 10 + 200 + 80 * μ.1 26 11) (hKc : μ.1 (P + 2) 3 ≤ μ.1 P 1) (ht3 : 0 ≤ tt ∧ tt ≤ 3) (hdp : 0 ≤ μ.1 23 9 ∧ μ.1 23 9 ≤ 8 + μ.1 26 11) (hfu : 0 ≤ kf ∧ 9 ≤ μ.1 23 9 + kf + 20 * μ.1 26 11) (hbg : ∀ _ : Unit, x1 = 0 ∨ μ.1 26 11 ≠ 0 ∨ 2 ≤ hs μ P (μ.1 P 1)) : CtV ω l yX7_unary cX7_unary 2 (F + 5) (Lo + 114) [.ref (oP ω 23), .int (iv x1)] μ (fun (μ' : M3) => (Fr [2, 3, 4, 23, 24, 26, P, P + 1, P + 2, (P + 2) + 1, (P + 2) + 2, (P + 2) + 3] μ μ') ∧ (IC μ') ∧ (TK μ') ∧ (μ.1 26 11 ≤ μ'.1 26 11) ∧ (μ.1 26 10 ≤ μ'.1 26 10) ∧ (μ.1 P 1 ≤ μ'.1 P 1 ∧ μ'.1 P 1 ≤ μ.1 P 1 + 2 * (μ'.1 26 10 - μ.1 26 10) + (- 1 + 3 * μ'.1 26 11 - 2 * μ.1 26 11 + x1)) ∧ (μ'.1 (P + 2) 3 - μ.1 (P + 2) 3 ≤ μ'.1 P 1 - μ.1 P 1 ∧ μ.1 (P + 2) 3 ≤ μ'.1 (P + 2) 3) ∧ (μ'.1 26 11 = 0 → EX μ μ' P tt (1 - x1) 0) ∧ (μ'.1 23 2 = μ.1 23 2) ∧ (μ'.1 23 5 = μ.1 23 5) ∧ (μ'.1 23 6 = μ.1 23 6) ∧ (μ'.1 23 7 = μ.1 23 7) ∧ (μ'.1 23 8 = μ.1 23 8) ∧ (μ'.1 23 9 = μ.1 23 9) ∧ (μ'.1 23 10 = μ.1 23 10) ∧ (μ'.1 26 6 = μ.1 26 6) ∧ (μ'.1 P 7 = μ.1 P 7)) := by
  refine CtV.go (by decide) (Nat.le_of_ble_eq_true rfl) (fun ρ p e s m below meth c R ls G hR hret hlk hl => ?_)
  have hx := G.1.1
  have hb := G.1.2.1
  have hl : lv_has ls 2 [(0, .ref (oP ω 23)), (1, .int (iv x1))] := hl
  generalize s.drawn = d0 at G ⊢
  have hTKb := hTK.b
  have hprP : isPr P := by have h9 := G.sr0.2.2.2.2.2; rw [← hP] at h9; exact h9
  have hprP_d : 13 ≤ P ∧ P ≤ 101 := by rcases hprP with h9 | h9 | h9 | h9 | h9 <;> omega
  have hk_1 := hI.pr (p := P) hprP
  unfold pk at hk_1
  have hc_2 : 16 ≤ μ.2.1 (P + 1) ∧ μ.2.1 (P + 1) ≤ 73024 := hI.rm.1 _ hprP.cap
  have hx1l : 0 ≤ x1 ∧ x1 ≤ 1 := by omega
  clear hx1
  have hnil : μ.1 26 11 = 0 → PXE μ μ P tt 0 (-1) (1 - x1) := fun _ => PXE.nil (by omega)
  refine lv_iload_n hx hb dX7_unary_0 rfl (lv_at hl 1 rfl) ?_
  refine xb_if_eq (tgt := 5) hx hb (by unfold ir; omega) dX7_unary_1 (by decide) (fun c_1 => ?_) (fun c_1 => ?_)
  · refine lv_aload_n hx hb dX7_unary_5 rfl (lv_at hl 0 rfl) ?_
    refine xa_getr G fd_X7 (a := 23) (x := 26) 0 rfl (by decide) rfl (wm 2 17 rfl rfl) ⟨rfl, rfl, rfl⟩ dX7_unary_6 rfl (G.sk 23 rfl) (by decide) rfl ?_
    refine xa_getN G fd_X10 (host := "FourTongues") (a := 26) 12 rfl (by decide) (by decide) ⟨rfl, rfl, rfl⟩ dX7_unary_9 rfl (v := .int (iv (μ.1 26 12))) (by rw [show μ.1 26 12 = μ.1 26 12 from rfl]; rfl) ?_
    have hr_3 : -2147483648 ≤ μ.1 26 12 ∧ μ.1 26 12 ≤ 2147483647 := by have h9 := G.hr (a := 26) (k := 12) rfl; exact h9
    refine lv_bipush (v := iv 45) hx hb dX7_unary_12 rfl ?_
    refine xb_icmp_ne (tgt := 55) hx hb (by unfold ir; omega) (by unfold ir; omega) dX7_unary_14 (by decide) (fun c_14 => ?_) (fun c_14 => ?_)
    · refine lv_aload_n hx hb dX7_unary_55 rfl (lv_at hl 0 rfl) ?_
      have e_4 : μ.1 23 2 = P := hP.symm
      have e_5 : μ.1 23 8 = tt := htt.symm
      have hn_6 : -1 ≤ μ.1 26 10 ∧ μ.1 26 10 ≤ 3000 := hI.nm.2.2.2.2.2.2.2.2.2.2.2.2
      have hk_7 := hI.row (r := P + 2) (hprP.row)
      unfold rk at hk_7
      refine xc_vV G (b := 23) (rest := []) (As := []) (c_X7_primary ω l μ F Lo Fu Lu kf P tt hI (by omega) (by omega) hF hLo hFu hLu hE hU hTK (by omega) (by omega) (by omega) (by omega) (by omega)) (wm 4 55 rfl rfl) (wm 4 57 rfl rfl) (wm 0 34 rfl rfl) rfl rfl (by decide) rfl (wm 1 12 rfl rfl) (wm 4 58 rfl rfl) (by decide) hR ⟨sfr (F := F) (a := 4) (by decide), slo (L := Lo) (m := 5) (a := 90) (by decide)⟩ (n := 0) rfl rfl (Nat.le_of_ble_eq_true rfl) hl.1 dX7_unary_56 (fun μ8 ρ d0 H locs hp G => ?_)
      obtain ⟨F_9, hI_10, hp_11, hp_12, hp_13, hp_14, hp_15, hp_16, hs_17, hs_18, hs_19, hs_20, hs_21, hs_22, hs_23, hs_24, hs_25⟩ := hp
      have hn_26 : -1 ≤ μ8.1 26 10 ∧ μ8.1 26 10 ≤ 3000 := hI_10.nm.2.2.2.2.2.2.2.2.2.2.2.2
      have hk_27 := hI_10.pr (p := P) hprP
      unfold pk at hk_27
      have hc_28 : 16 ≤ μ8.2.1 (P + 1) ∧ μ8.2.1 (P + 1) ≤ 73024 := hI_10.rm.1 _ hprP.cap
      have hk_29 := hI_10.row (r := P + 2) (hprP.row)
      unfold rk at hk_29
      have htb_30 := hp_11.b
      have hpx_31 : μ8.1 26 11 = 0 → PXE μ μ8 P tt 1 (-1) (1 - x1) := fun h0 => (PXE.app (hnil (by have h9 : μ.1 26 11 = μ.1 26 11 := rfl; have h8 : μ8.1 26 11 = μ8.1 26 11 := rfl; omega)) (hp_16 h0)).e (by omega)
      exact xr_v G hret hlk dX7_unary_59 ⟨(Fr.tr Fr.rf F_9 (si hprP (fun P => [2, 3, 4, 23, 24, 26, P, P + 1, P + 2, (P + 2) + 1, (P + 2) + 2, (P + 2) + 3]) (fun P => [2, 3, 4, 23, 24, 26, P, P + 1, P + 2, (P + 2) + 1, (P + 2) + 2, (P + 2) + 3]) rfl)), hI_10, hp_11, (by omega), (by omega), (by omega), (by omega), (fun h0 => (PXE.ex (hpx_31 h0)).e (by omega)), ((hs_17.trans hP.symm)).trans hP, hs_18, hs_19, hs_20, ((hs_21.trans htt.symm)).trans htt, hs_22, hs_23, hs_24, hs_25⟩
    · have hs0_ : μ.1 26 11 = 0 := hTK.k.resolve_right (by omega)
      refine lv_aload_n hx hb dX7_unary_17 rfl (lv_at hl 0 rfl) ?_
      refine lv_bipush (v := iv 45) hx hb dX7_unary_18 rfl ?_
      have hn_32 : -1 ≤ μ.1 26 10 ∧ μ.1 26 10 ≤ 3000 := hI.nm.2.2.2.2.2.2.2.2.2.2.2.2
      refine xc_vV G (b := 23) (rest := []) (As := [.int (iv 45)]) (c_X7_needOpen_b ω l μ 45 (by unfold ir; omega) hI hTK (by omega) (by omega)) (wm 3 197 rfl rfl) (wm 3 199 rfl rfl) (wm 0 14 rfl rfl) rfl rfl (by decide) rfl (wm 1 12 rfl rfl) (wm 3 200 rfl rfl) (by decide) hR ⟨nfr hF (by decide), nlo hLo (by decide)⟩ (n := 1) rfl rfl (Nat.le_of_ble_eq_true rfl) hl.1 dX7_unary_20 (fun μ33 ρ d0 H locs hp G => ?_)
      obtain ⟨F_34, hI_35, hp_36, hp_37, hp_38, hp_39, hs_40, hs_41, hs_42, hs_43, hs_44, hs_45, hs_46, hs_47, hs_48, hs_49, hs_50⟩ := hp
      have hn_51 : -1 ≤ μ33.1 26 10 ∧ μ33.1 26 10 ≤ 3000 := hI_35.nm.2.2.2.2.2.2.2.2.2.2.2.2
      have htb_52 := hp_36.b
      refine lv_aload_n hx hb dX7_unary_23 rfl (lv_at hl 0 rfl) ?_
      refine lv_iconst (v := iv 0) hx hb dX7_unary_24 rfl ?_
      have hpx_53 : μ33.1 26 11 = 0 → PXE μ μ33 P tt 0 (-1) (1 - x1) := fun h0 => (hnil (by have h9 : μ.1 26 11 = μ.1 26 11 := rfl; have h8 : μ33.1 26 11 = μ33.1 26 11 := rfl; omega)).fr (K := [26, 23]) (Fr.tr Fr.rf F_34 (by decide)) (npL_p (L := [26, 23]) (by decide) hprP).1 (npL_p (L := [26, 23]) (by decide) hprP).2.1
      have e_54 : μ33.1 23 2 = P := (hs_45.trans hP.symm)
      have e_55 : μ33.1 23 8 = tt := (hs_49.trans htt.symm)
      have e_56 : μ33.1 P 1 = μ.1 P 1 := (F_34.1 P (ni hprP (fun P => P) (fun P => [26, 23]) rfl) 1)
      have hk_57 := hI.row (r := P + 2) (hprP.row)
      unfold rk at hk_57
      have e_58 : μ33.1 (P + 2) 3 = μ.1 (P + 2) 3 := (F_34.1 (P + 2) (ni hprP (fun P => P + 2) (fun P => [26, 23]) rfl) 3)
      have e_59 : μ33.1 P 1 = μ.1 P 1 := (F_34.1 P (ni hprP (fun P => P) (fun P => [26, 23]) rfl) 1)
      have e_60 : μ33.1 23 9 = μ.1 23 9 + 1 := hs_40
      have e_61 : μ33.1 23 9 = μ.1 23 9 + 1 := hs_40
      have e_62 : μ33.1 23 9 = μ.1 23 9 + 1 := hs_40
      have e_63 : μ33.1 P 1 = μ.1 P 1 := (F_34.1 P (ni hprP (fun P => P) (fun P => [26, 23]) rfl) 1)
      have e_64 : μ33.1 P 1 = μ.1 P 1 := (F_34.1 P (ni hprP (fun P => P) (fun P => [26, 23]) rfl) 1)
      have e_65 : μ33.1 (P + 2) 3 = μ.1 (P + 2) 3 := (F_34.1 (P + 2) (ni hprP (fun P => P + 2) (fun P => [26, 23]) rfl) 3)
      have e_66 : μ33.1 P 1 = μ.1 P 1 := (F_34.1 P (ni hprP (fun P => P) (fun P => [26, 23]) rfl) 1)
      have e_67 : μ33.1 (P + 2) 3 = μ.1 (P + 2) 3 := (F_34.1 (P + 2) (ni hprP (fun P => P + 2) (fun P => [26, 23]) rfl) 3)
      refine xc_vV G (b := 23) (rest := []) (As := [.int (iv 0)]) (((fun (_ : Om) (_ : Launch) => hU)) ω l μ33 0 P tt (by omega) hI_35 (by omega) (by omega) hp_36 (by omega) (by omega) (by omega) (by omega) (by omega) (fun _ => Or.inl (by omega))) (wm 4 19 rfl rfl) (wm 4 21 rfl rfl) (wm 0 28 rfl rfl) rfl rfl (by decide) rfl (wm 1 12 rfl rfl) (wm 4 22 rfl rfl) (by decide) hR ⟨ufr hFu (by decide), ulo hLu (m := 2) (by decide)⟩ (n := 1) rfl rfl (Nat.le_of_ble_eq_true rfl) hl.1 dX7_unary_25 (fun μ68 ρ d0 H locs hp G => ?_)
      obtain ⟨F_69, hI_70, hp_71, hp_72, hp_73, hp_74, hp_75, hp_76, hs_77, hs_78, hs_79, hs_80, hs_81, hs_82, hs_83, hs_84, hs_85⟩ := hp
      have hn_86 : -1 ≤ μ68.1 26 10 ∧ μ68.1 26 10 ≤ 3000 := hI_70.nm.2.2.2.2.2.2.2.2.2.2.2.2
      have hk_87 := hI_70.pr (p := P) hprP
      unfold pk at hk_87
      have hc_88 : 16 ≤ μ68.2.1 (P + 1) ∧ μ68.2.1 (P + 1) ≤ 73024 := hI_70.rm.1 _ hprP.cap
      have hk_89 := hI_70.row (r := P + 2) (hprP.row)
      unfold rk at hk_89
      have htb_90 := hp_71.b
      have hpx_91 : μ68.1 26 11 = 0 → PXE μ μ68 P tt (0 + (1 - 0)) (-1) (1 - x1) := fun h0 => (PXE.app (hpx_53 (by have h9 : μ33.1 26 11 = μ33.1 26 11 := rfl; have h8 : μ68.1 26 11 = μ68.1 26 11 := rfl; omega)) (hp_76 h0)).e (by omega)
      refine lv_aload_n hx hb dX7_unary_28 rfl (lv_at hl 0 rfl) ?_
      refine lv_dup hx hb dX7_unary_29 rfl ?_
      refine xa_geti G fd_X7 (a := 23) (x := μ.1 23 9 + 1) 9 rfl (by decide) rfl (wm 2 26 rfl rfl) ⟨rfl, rfl, rfl⟩ dX7_unary_30 rfl (hs_82.trans hs_40) ?_
      have hr_92 : -2147483648 ≤ μ.1 23 9 + 1 ∧ μ.1 23 9 + 1 ≤ 2147483647 := by have h9 := G.hr (a := 23) (k := 9) rfl; rw [show μ68.1 23 9 = μ.1 23 9 + 1 from (hs_82.trans hs_40)] at h9; exact h9
      refine lv_iconst (v := iv 1) hx hb dX7_unary_33 rfl ?_
      refine xb_isub hx hb dX7_unary_34 ?_
      refine xb_ti (y := μ.1 23 9) (by omega) ?_
      refine xa_puti G fd_X7 (a := 23) (x := μ.1 23 9) 9 (kz := 9) rfl rfl (by decide) rfl (by unfold ir; omega) (wm 2 26 rfl rfl) ⟨rfl, rfl, rfl, rfl⟩ rfl dX7_unary_35 rfl (fun H locs G => ?_)
      refine lv_aload_n hx hb dX7_unary_38 rfl (lv_at hl 0 rfl) ?_
      refine lv_bipush (v := iv 8) hx hb dX7_unary_39 rfl ?_
      refine lv_iconst (v := iv 0) hx hb dX7_unary_41 rfl ?_
      refine lv_iconst (v := iv 0) hx hb dX7_unary_42 rfl ?_
      refine lv_aload_n hx hb dX7_unary_43 rfl (lv_at hl 0 rfl) ?_
      refine lv_iconst (v := iv (-1)) hx hb dX7_unary_44 rfl ?_
      refine lv_iconst (v := iv 0) hx hb dX7_unary_45 rfl ?_
      have hpx_93 : (sv μ68 23 9 (μ.1 23 9)).1 26 11 = 0 → PXE μ (sv μ68 23 9 (μ.1 23 9)) P tt (0 + (1 - 0)) (-1) (1 - x1) := fun h0 => (hpx_91 (by have h9 : μ68.1 26 11 = μ68.1 26 11 := rfl; have h8 : (sv μ68 23 9 (μ.1 23 9)).1 26 11 = μ68.1 26 11 := (sv_n _ (fun h9 => absurd h9.1 (by decide))); omega)).fr (K := [23]) (Fr.put Fr.rf (by decide)) (npL_p (L := [23]) (by decide) hprP).1 (npL_p (L := [23]) (by decide) hprP).2.1
      have hI_94 : IC (sv μ68 23 9 (μ.1 23 9)) := (IC.put hI_70 (by decide +kernel))
      have e_95 : (sv μ68 23 9 (μ.1 23 9)).1 23 2 = P := ((sv_n _ (by decide)).trans (hs_77.trans (hs_45.trans hP.symm)))
      have e_96 : (sv μ68 23 9 (μ.1 23 9)).1 23 8 = tt := ((sv_n _ (by decide)).trans (hs_81.trans (hs_49.trans htt.symm)))
      have e_97 : (sv μ68 23 9 (μ.1 23 9)).1 P 1 = μ68.1 P 1 := (sv_n _ (by omega))
      have e_98 : (sv μ68 23 9 (μ.1 23 9)).1 P 1 = μ68.1 P 1 := (sv_n _ (by omega))
      have e_99 : (sv μ68 23 9 (μ.1 23 9)).1 P 1 = μ68.1 P 1 := (sv_n _ (by omega))
      refine xc_iV G (b := 23) (rest := [.int (iv 0), .int (iv 0), .int (iv 8), .ref (oP ω 23)]) (As := [.int (iv (-1)), .int (iv 0)]) (c_X7_ifFails ω l (sv μ68 23 9 (μ.1 23 9)) (-1) 0 μ (0 + (1 - 0)) (1 - x1) P tt (by unfold ir; omega) (by unfold ir; omega) hI_94 (by omega) (by omega) (by omega) hpx_93 (by omega) (by omega)) (wm 4 23 rfl rfl) (wm 4 25 rfl rfl) (wm 0 29 rfl rfl) rfl rfl (by decide) rfl (wm 1 12 rfl rfl) (wm 4 26 rfl rfl) (by decide) hR ⟨nfr hF (by decide), nlo hLo (by decide)⟩ (n := 2) rfl rfl (Nat.le_of_ble_eq_true rfl) hl.1 dX7_unary_46 (fun r_101 μ100 ρ d0 H locs hr_r_101 hp G => ?_)
      have hr_r_101 : -2147483648 ≤ r_101 ∧ r_101 ≤ 2147483647 := hr_r_101
      obtain ⟨F_102, hI_103, hp_104, hp_105, hs_106⟩ := hp
      have hk_107 := hI_103.pr (p := P) hprP
      unfold pk at hk_107
      have hc_108 : 16 ≤ μ100.2.1 (P + 1) ∧ μ100.2.1 (P + 1) ≤ 73024 := hI_103.rm.1 _ hprP.cap
      have hpx_109 : μ100.1 26 11 = 0 → PXE μ μ100 P tt (0 + (1 - 0)) r_101 (1 - x1) := fun h0 => hp_104 (by have h9 : (sv μ68 23 9 (μ.1 23 9)).1 26 11 = μ68.1 26 11 := (sv_n _ (fun h9 => absurd h9.1 (by decide))); have h8 : μ100.1 26 11 = μ68.1 26 11 := ((F_102.1 26 (ni hprP (fun P => 26) (fun P => [P, P + 1]) rfl) 11).trans (sv_n _ (fun h9 => absurd h9.1 (by decide)))); omega)
      clear hp_104
      have e_110 : μ100.1 23 2 = P := ((F_102.1 23 (ni hprP (fun P => 23) (fun P => [P, P + 1]) rfl) 2).trans ((sv_n _ (by decide)).trans (hs_77.trans (hs_45.trans hP.symm))))
      have e_111 : μ100.1 23 8 = tt := ((F_102.1 23 (ni hprP (fun P => 23) (fun P => [P, P + 1]) rfl) 8).trans ((sv_n _ (by decide)).trans (hs_81.trans (hs_49.trans htt.symm))))
      refine xc_vV G (b := 23) (rest := []) (As := [.int (iv 8), .int (iv 0), .int (iv 0), .int (iv r_101)]) (c_X7_endOfParts ω l μ100 8 0 0 r_101 μ (0 + (1 - 0)) (1 - x1) P tt (by unfold ir; omega) (by unfold ir; omega) (by unfold ir; omega) (by unfold ir; omega) hI_103 (by omega) (by omega) (by omega) hpx_109 (Or.inl (by unfold plain; omega)) (by omega) (by rw [show eff 8 0 = 0 from rfl]; omega)) (wm 4 27 rfl rfl) (wm 4 29 rfl rfl) (wm 0 30 rfl rfl) rfl rfl (by decide) rfl (wm 1 12 rfl rfl) (wm 4 30 rfl rfl) (by decide) hR ⟨nfr hF (by decide), nlo hLo (by decide)⟩ (n := 4) rfl rfl (Nat.le_of_ble_eq_true rfl) hl.1 dX7_unary_49 (fun μ112 ρ d0 H locs hp G => ?_)
      obtain ⟨F_113, hI_114, hp_115, hs_116, hs_117⟩ := hp
      have hpx_118 : μ112.1 26 11 = 0 → PXE μ μ112 P tt (1 - x1) (-1) (1 - x1) := fun h0 => PXE.of (hp_115 (by have h9 : μ100.1 26 11 = μ68.1 26 11 := ((F_102.1 26 (ni hprP (fun P => 26) (fun P => [P, P + 1]) rfl) 11).trans (sv_n _ (fun h9 => absurd h9.1 (by decide)))); have h8 : μ112.1 26 11 = μ68.1 26 11 := ((F_113.1 26 (ni hprP (fun P => 26) (fun P => [P, P + 1]) rfl) 11).trans ((F_102.1 26 (ni hprP (fun P => 26) (fun P => [P, P + 1]) rfl) 11).trans (sv_n _ (fun h9 => absurd h9.1 (by decide))))); omega))
      clear hp_115
      refine lv_goto (tgt := 59) hx hb dX7_unary_52 (by decide) ?_
      have htk_119 : TK μ112 := hp_71.fr (K := [P, P + 1, 23]) (Fr.tr (Fr.tr (Fr.put Fr.rf (si hprP (fun P => [23]) (fun P => [P, P + 1, 23]) rfl 23 (List.mem_singleton.2 rfl))) F_102 (si hprP (fun P => [P, P + 1]) (fun P => [P, P + 1, 23]) rfl)) F_113 (si hprP (fun P => [P, P + 1]) (fun P => [P, P + 1, 23]) rfl)) (ni hprP (fun P => 26) (fun P => [P, P + 1, 23]) rfl) (ni hprP (fun P => 28) (fun P => [P, P + 1, 23]) rfl) (ni hprP (fun P => 29) (fun P => [P, P + 1, 23]) rfl)
      have e_120 : μ112.1 26 11 = μ68.1 26 11 := ((F_113.1 26 (ni hprP (fun P => 26) (fun P => [P, P + 1]) rfl) 11).trans ((F_102.1 26 (ni hprP (fun P => 26) (fun P => [P, P + 1]) rfl) 11).trans (sv_n _ (fun h9 => absurd h9.1 (by decide)))))
      have e_121 : μ112.1 26 11 = μ68.1 26 11 := ((F_113.1 26 (ni hprP (fun P => 26) (fun P => [P, P + 1]) rfl) 11).trans ((F_102.1 26 (ni hprP (fun P => 26) (fun P => [P, P + 1]) rfl) 11).trans (sv_n _ (fun h9 => absurd h9.1 (by decide)))))
      have e_122 : μ112.1 26 10 = μ68.1 26 10 := ((F_113.1 26 (ni hprP (fun P => 26) (fun P => [P, P + 1]) rfl) 10).trans ((F_102.1 26 (ni hprP (fun P => 26) (fun P => [P, P + 1]) rfl) 10).trans (sv_n _ (fun h9 => absurd h9.1 (by decide)))))
      have e_123 : μ112.1 P 1 = μ100.1 P 1 + 1 := hs_116
      have e_124 : μ112.1 P 1 = μ100.1 P 1 + 1 := hs_116
      have e_125 : μ112.1 26 10 = μ68.1 26 10 := ((F_113.1 26 (ni hprP (fun P => 26) (fun P => [P, P + 1]) rfl) 10).trans ((F_102.1 26 (ni hprP (fun P => 26) (fun P => [P, P + 1]) rfl) 10).trans (sv_n _ (fun h9 => absurd h9.1 (by decide)))))
      have e_126 : μ112.1 26 11 = μ68.1 26 11 := ((F_113.1 26 (ni hprP (fun P => 26) (fun P => [P, P + 1]) rfl) 11).trans ((F_102.1 26 (ni hprP (fun P => 26) (fun P => [P, P + 1]) rfl) 11).trans (sv_n _ (fun h9 => absurd h9.1 (by decide)))))
      have e_127 : μ112.1 (P + 2) 3 = μ68.1 (P + 2) 3 := ((F_113.1 (P + 2) (ni hprP (fun P => P + 2) (fun P => [P, P + 1]) rfl) 3).trans ((F_102.1 (P + 2) (ni hprP (fun P => P + 2) (fun P => [P, P + 1]) rfl) 3).trans (sv_n _ (by omega))))
      have e_128 : μ112.1 P 1 = μ100.1 P 1 + 1 := hs_116
      have e_129 : μ112.1 (P + 2) 3 = μ68.1 (P + 2) 3 := ((F_113.1 (P + 2) (ni hprP (fun P => P + 2) (fun P => [P, P + 1]) rfl) 3).trans ((F_102.1 (P + 2) (ni hprP (fun P => P + 2) (fun P => [P, P + 1]) rfl) 3).trans (sv_n _ (by omega))))
      exact xr_v G hret hlk dX7_unary_59 ⟨(Fr.tr (Fr.tr (Fr.put (Fr.tr (Fr.tr Fr.rf F_34 (si hprP (fun P => [26, 23]) (fun P => [2, 3, 4, 23, 24, 26, P, P + 1, P + 2, (P + 2) + 1, (P + 2) + 2, (P + 2) + 3]) rfl)) F_69 (si hprP (fun P => [2, 3, 4, 23, 24, 26, P, P + 1, P + 2, (P + 2) + 1, (P + 2) + 2, (P + 2) + 3]) (fun P => [2, 3, 4, 23, 24, 26, P, P + 1, P + 2, (P + 2) + 1, (P + 2) + 2, (P + 2) + 3]) rfl)) (si hprP (fun P => [23]) (fun P => [2, 3, 4, 23, 24, 26, P, P + 1, P + 2, (P + 2) + 1, (P + 2) + 2, (P + 2) + 3]) rfl 23 (List.mem_singleton.2 rfl))) F_102 (si hprP (fun P => [P, P + 1]) (fun P => [2, 3, 4, 23, 24, 26, P, P + 1, P + 2, (P + 2) + 1, (P + 2) + 2, (P + 2) + 3]) rfl)) F_113 (si hprP (fun P => [P, P + 1]) (fun P => [2, 3, 4, 23, 24, 26, P, P + 1, P + 2, (P + 2) + 1, (P + 2) + 2, (P + 2) + 3]) rfl)), hI_114, htk_119, (by omega), (by omega), (by omega), (by omega), (fun h0 => (PXE.ex (hpx_118 h0)).e (by omega)), (((F_113.1 23 (ni hprP (fun P => 23) (fun P => [P, P + 1]) rfl) 2).trans ((F_102.1 23 (ni hprP (fun P => 23) (fun P => [P, P + 1]) rfl) 2).trans ((sv_n _ (by decide)).trans (hs_77.trans (hs_45.trans hP.symm)))))).trans hP, ((F_113.1 23 (ni hprP (fun P => 23) (fun P => [P, P + 1]) rfl) 5).trans ((F_102.1 23 (ni hprP (fun P => 23) (fun P => [P, P + 1]) rfl) 5).trans ((sv_n _ (by decide)).trans (hs_78.trans hs_46)))), ((F_113.1 23 (ni hprP (fun P => 23) (fun P => [P, P + 1]) rfl) 6).trans ((F_102.1 23 (ni hprP (fun P => 23) (fun P => [P, P + 1]) rfl) 6).trans ((sv_n _ (by decide)).trans (hs_79.trans hs_47)))), ((F_113.1 23 (ni hprP (fun P => 23) (fun P => [P, P + 1]) rfl) 7).trans ((F_102.1 23 (ni hprP (fun P => 23) (fun P => [P, P + 1]) rfl) 7).trans ((sv_n _ (by decide)).trans (hs_80.trans hs_48)))), (((F_113.1 23 (ni hprP (fun P => 23) (fun P => [P, P + 1]) rfl) 8).trans ((F_102.1 23 (ni hprP (fun P => 23) (fun P => [P, P + 1]) rfl) 8).trans ((sv_n _ (by decide)).trans (hs_81.trans (hs_49.trans htt.symm)))))).trans htt, ((F_113.1 23 (ni hprP (fun P => 23) (fun P => [P, P + 1]) rfl) 9).trans ((F_102.1 23 (ni hprP (fun P => 23) (fun P => [P, P + 1]) rfl) 9).trans (sv_s _ _ _ _))), ((F_113.1 23 (ni hprP (fun P => 23) (fun P => [P, P + 1]) rfl) 10).trans ((F_102.1 23 (ni hprP (fun P => 23) (fun P => [P, P + 1]) rfl) 10).trans ((sv_n _ (by decide)).trans (hs_83.trans hs_50)))), ((F_113.1 26 (ni hprP (fun P => 26) (fun P => [P, P + 1]) rfl) 6).trans ((F_102.1 26 (ni hprP (fun P => 26) (fun P => [P, P + 1]) rfl) 6).trans ((sv_n _ (fun h9 => absurd h9.1 (by decide))).trans (hs_84.trans hs_41)))), (hs_117.trans (hs_106.trans ((sv_n _ (by omega)).trans (hs_85.trans (F_34.1 P (ni hprP (fun P => P) (fun P => [26, 23]) rfl) 7)))))⟩
  · exact xr_v G hret hlk dX7_unary_4 ⟨Fr.rf, hI, hTK, (by omega), (by omega), (by omega), (by omega), (fun h0 => (PXE.ex (hnil h0)).e (by omega)), (hP.symm).trans hP, rfl, rfl, rfl, (htt.symm).trans htt, rfl, rfl, rfl, rfl⟩

set_option maxHeartbeats 4000000 in
set_option maxRecDepth 100000 in
theorem c_X7_product (ω : Om) (l : Launch) (μ : M3) (x1 : Int) (F : Nat) (Lo : Nat) (Fu : Nat) (Lu : Nat) (kf : Int) (P : Int) (tt : Int) (hx1 : x1 = 0 ∨ x1 = 1) (hI : IC μ) (hP : P = μ.1 23 2) (htt : tt = μ.1 23 8) (hF : 60 ≤ F) (hLo : 2000 ≤ Lo) (hFu : Fu ≤ F) (hLu : Lu ≤ Lo) (hE : ∀ (μ : M3) (x1 : Int) (P : Int) (tt : Int) (hx1 : x1 = 0 ∨ x1 = 1) (hI : IC μ) (hP : P = μ.1 23 2) (htt : tt = μ.1 23 8) (hTK : TK μ) (hB : 2 * μ.1 P 1 ≤ 5 * μ.1 26 10 + 200 + 80 * μ.1 26 11) (hKc : μ.1 (P + 2) 3 ≤ μ.1 P 1) (ht3 : 0 ≤ tt ∧ tt ≤ 3) (hdp : 0 ≤ μ.1 23 9 ∧ μ.1 23 9 ≤ 8 + μ.1 26 11) (hfu : 0 ≤ (kf - 1) ∧ 9 ≤ μ.1 23 9 + (kf - 1) + 20 * μ.1 26 11) (hbg : ∀ _ : Unit, x1 = 0 ∨ μ.1 26 11 ≠ 0 ∨ 2 ≤ hs μ P (μ.1 P 1)), CtV ω l yX7_expression cX7_expression 3 (F + 0) (Lo + 0) [.ref (oP ω 23), .int (iv x1)] μ (fun (μ' : M3) => (Fr [2, 3, 4, 23, 24, 26, P, P + 1, P + 2, (P + 2) + 1, (P + 2) + 2, (P + 2) + 3] μ μ') ∧ (IC μ') ∧ (TK μ') ∧ (μ.1 26 11 ≤ μ'.1 26 11) ∧ (μ.1 26 10 ≤ μ'.1 26 10) ∧ (μ.1 P 1 ≤ μ'.1 P 1 ∧ μ'.1 P 1 ≤ μ.1 P 1 + 2 * (μ'.1 26 10 - μ.1 26 10) + (- 1 + 3 * μ'.1 26 11 - 2 * μ.1 26 11 + x1)) ∧ (μ'.1 (P + 2) 3 - μ.1 (P + 2) 3 ≤ μ'.1 P 1 - μ.1 P 1 ∧ μ.1 (P + 2) 3 ≤ μ'.1 (P + 2) 3) ∧ (μ'.1 26 11 = 0 → EX μ μ' P tt (1 - x1) 0) ∧ (μ'.1 23 2 = μ.1 23 2) ∧ (μ'.1 23 5 = μ.1 23 5) ∧ (μ'.1 23 6 = μ.1 23 6) ∧ (μ'.1 23 7 = μ.1 23 7) ∧ (μ'.1 23 8 = μ.1 23 8) ∧ (μ'.1 23 9 = μ.1 23 9) ∧ (μ'.1 23 10 = μ.1 23 10) ∧ (μ'.1 26 6 = μ.1 26 6) ∧ (μ'.1 P 7 = μ.1 P 7))) (hU : ∀ (μ : M3) (x1 : Int) (P : Int) (tt : Int) (hx1 : x1 = 0 ∨ x1 = 1) (hI : IC μ) (hP : P = μ.1 23 2) (htt : tt = μ.1 23 8) (hTK : TK μ) (hB : 2 * μ.1 P 1 ≤ 5 * μ.1 26 10 + 200 + 80 * μ.1 26 11) (hKc : μ.1 (P + 2) 3 ≤ μ.1 P 1) (ht3 : 0 ≤ tt ∧ tt ≤ 3) (hdp : 0 ≤ μ.1 23 9 ∧ μ.1 23 9 ≤ 8 + μ.1 26 11) (hfu : 0 ≤ (kf - 1) ∧ 9 ≤ μ.1 23 9 + (kf - 1) + 20 * μ.1 26 11) (hbg : ∀ _ : Unit, x1 = 0 ∨ μ.1 26 11 ≠ 0 ∨ 2 ≤ hs μ P (μ.1 P 1)), CtV ω l yX7_unary cX7_unary 2 (Fu + 0) (Lu + 0) [.ref (oP ω 23), .int (iv x1)] μ (fun (μ' : M3) => (Fr [2, 3, 4, 23, 24, 26, P, P + 1, P + 2, (P + 2) + 1, (P + 2) + 2, (P + 2) + 3] μ μ') ∧ (IC μ') ∧ (TK μ') ∧ (μ.1 26 11 ≤ μ'.1 26 11) ∧ (μ.1 26 10 ≤ μ'.1 26 10) ∧ (μ.1 P 1 ≤ μ'.1 P 1 ∧ μ'.1 P 1 ≤ μ.1 P 1 + 2 * (μ'.1 26 10 - μ.1 26 10) + (- 1 + 3 * μ'.1 26 11 - 2 * μ.1 26 11 + x1)) ∧ (μ'.1 (P + 2) 3 - μ.1 (P + 2) 3 ≤ μ'.1 P 1 - μ.1 P 1 ∧ μ.1 (P + 2) 3 ≤ μ'.1 (P + 2) 3) ∧ (μ'.1 26 11 = 0 → EX μ μ' P tt (1 - x1) 0) ∧ (μ'.1 23 2 = μ.1 23 2) ∧ (μ'.1 23 5 = μ.1 23 5) ∧ (μ'.1 23 6 = μ.1 23 6) ∧ (μ'.1 23 7 = μ.1 23 7) ∧ (μ'.1 23 8 = μ.1 23 8) ∧ (μ'.1 23 9 = μ.1 23 9) ∧ (μ'.1 23 10 = μ.1 23 10) ∧ (μ'.1 26 6 = μ.1 26 6) ∧ (μ'.1 P 7 = μ.1 P 7))) (hTK : TK μ) (hB : 2 * μ.1 P 1 ≤ 5 * μ.1 26 10 + 200 + 80 * μ.1 26 11) (hKc : μ.1 (P + 2) 3 ≤ μ.1 P 1) (ht3 : 0 ≤ tt ∧ tt ≤ 3) (hdp : 0 ≤ μ.1 23 9 ∧ μ.1 23 9 ≤ 8 + μ.1 26 11) (hfu : 0 ≤ kf ∧ 9 ≤ μ.1 23 9 + kf + 20 * μ.1 26 11) (hbg : ∀ _ : Unit, x1 = 0 ∨ μ.1 26 11 ≠ 0 ∨ 2 ≤ hs μ P (μ.1 P 1)) : CtV ω l yX7_product cX7_product 5 (F + 6) (Lo + 135) [.ref (oP ω 23), .int (iv x1)] μ (fun (μ' : M3) => (Fr [2, 3, 4, 23, 24, 26, P, P + 1, P + 2, (P + 2) + 1, (P + 2) + 2, (P + 2) + 3] μ μ') ∧ (IC μ') ∧ (TK μ') ∧ (μ.1 26 11 ≤ μ'.1 26 11) ∧ (μ.1 26 10 ≤ μ'.1 26 10) ∧ (μ.1 P 1 ≤ μ'.1 P 1 ∧ μ'.1 P 1 ≤ μ.1 P 1 + 2 * (μ'.1 26 10 - μ.1 26 10) + (- 1 + 3 * μ'.1 26 11 - 2 * μ.1 26 11 + x1)) ∧ (μ'.1 (P + 2) 3 - μ.1 (P + 2) 3 ≤ μ'.1 P 1 - μ.1 P 1 ∧ μ.1 (P + 2) 3 ≤ μ'.1 (P + 2) 3) ∧ (μ'.1 26 11 = 0 → EX μ μ' P tt (1 - x1) 0) ∧ (μ'.1 23 2 = μ.1 23 2) ∧ (μ'.1 23 5 = μ.1 23 5) ∧ (μ'.1 23 6 = μ.1 23 6) ∧ (μ'.1 23 7 = μ.1 23 7) ∧ (μ'.1 23 8 = μ.1 23 8) ∧ (μ'.1 23 9 = μ.1 23 9) ∧ (μ'.1 23 10 = μ.1 23 10) ∧ (μ'.1 26 6 = μ.1 26 6) ∧ (μ'.1 P 7 = μ.1 P 7)) := by
  refine CtV.go (by decide) (Nat.le_of_ble_eq_true rfl) (fun ρ p e s m below meth c R ls G hR hret hlk hl => ?_)
  have hx := G.1.1
  have hb := G.1.2.1
  have hl : lv_has ls 5 [(0, .ref (oP ω 23)), (1, .int (iv x1))] := hl
  generalize s.drawn = d0 at G ⊢
  have hTKb := hTK.b
  have hprP : isPr P := by have h9 := G.sr0.2.2.2.2.2; rw [← hP] at h9; exact h9
  have hprP_d : 13 ≤ P ∧ P ≤ 101 := by rcases hprP with h9 | h9 | h9 | h9 | h9 <;> omega
  have hk_1 := hI.pr (p := P) hprP
  unfold pk at hk_1
  have hc_2 : 16 ≤ μ.2.1 (P + 1) ∧ μ.2.1 (P + 1) ≤ 73024 := hI.rm.1 _ hprP.cap
  have hx1l : 0 ≤ x1 ∧ x1 ≤ 1 := by omega
  clear hx1
  have hnil : μ.1 26 11 = 0 → PXE μ μ P tt 0 (-1) (1 - x1) := fun _ => PXE.nil (by omega)
  refine lv_aload_n hx hb dX7_product_0 rfl (lv_at hl 0 rfl) ?_
  refine lv_iload_n hx hb dX7_product_1 rfl (lv_at hl 1 rfl) ?_
  have e_3 : μ.1 23 2 = P := hP.symm
  have e_4 : μ.1 23 8 = tt := htt.symm
  have hn_5 : -1 ≤ μ.1 26 10 ∧ μ.1 26 10 ≤ 3000 := hI.nm.2.2.2.2.2.2.2.2.2.2.2.2
  have hk_6 := hI.row (r := P + 2) (hprP.row)
  unfold rk at hk_6
  refine xc_vV G (b := 23) (rest := []) (As := [.int (iv x1)]) (c_X7_unary ω l μ x1 F Lo Fu Lu kf P tt (by omega) hI (by omega) (by omega) hF hLo hFu hLu hE hU hTK (by omega) (by omega) (by omega) (by omega) (by omega) hbg) (wm 4 19 rfl rfl) (wm 4 21 rfl rfl) (wm 0 28 rfl rfl) rfl rfl (by decide) rfl (wm 1 12 rfl rfl) (wm 4 22 rfl rfl) (by decide) hR ⟨sfr (F := F) (a := 5) (by decide), slo (L := Lo) (m := 2) (a := 114) (by decide)⟩ (n := 1) rfl rfl (Nat.le_of_ble_eq_true rfl) hl.1 dX7_product_2 (fun μ7 ρ d0 H locs hp G => ?_)
  obtain ⟨F_8, hI_9, hp_10, hp_11, hp_12, hp_13, hp_14, hp_15, hs_16, hs_17, hs_18, hs_19, hs_20, hs_21, hs_22, hs_23, hs_24⟩ := hp
  have hn_25 : -1 ≤ μ7.1 26 10 ∧ μ7.1 26 10 ≤ 3000 := hI_9.nm.2.2.2.2.2.2.2.2.2.2.2.2
  have hk_26 := hI_9.pr (p := P) hprP
  unfold pk at hk_26
  have hc_27 : 16 ≤ μ7.2.1 (P + 1) ∧ μ7.2.1 (P + 1) ≤ 73024 := hI_9.rm.1 _ hprP.cap
  have hk_28 := hI_9.row (r := P + 2) (hprP.row)
  unfold rk at hk_28
  have htb_29 := hp_10.b
  have hpx_30 : μ7.1 26 11 = 0 → PXE μ μ7 P tt (0 + (1 - x1)) (-1) (1 - x1) := fun h0 => (PXE.app (hnil (by have h9 : μ.1 26 11 = μ.1 26 11 := rfl; have h8 : μ7.1 26 11 = μ7.1 26 11 := rfl; omega)) (hp_15 h0)).e (by omega)
  refine lv_iconst (v := iv 0) hx hb dX7_product_5 rfl ?_
  refine lv_istore_n (lv' := [(2, .int (iv 0)), (0, .ref (oP ω 23)), (1, .int (iv x1))]) hx hb dX7_product_6 rfl hl (by decide) rfl (fun ls hl => ?_)
  have e_31 : μ7.1 23 9 = μ.1 23 9 := hs_21
  refine xl (fun n_9 μ' ls => ∃ (i9 : Int), (Fr [2, 3, 4, 23, 24, 26, P, P + 1, P + 2, (P + 2) + 1, (P + 2) + 2, (P + 2) + 3] μ7 μ') ∧ (-2147483648 ≤ i9 ∧ i9 ≤ 2147483647) ∧ (0 ≤ i9) ∧ (TK μ') ∧ (μ.1 26 11 ≤ μ'.1 26 11) ∧ (μ.1 26 10 ≤ μ'.1 26 10) ∧ (μ.1 P 1 ≤ μ'.1 P 1 ∧ μ'.1 P 1 ≤ μ.1 P 1 + 2 * (μ'.1 26 10 - μ.1 26 10) + (- 1 + 3 * μ'.1 26 11 - 2 * μ.1 26 11 + x1)) ∧ (μ'.1 (P + 2) 3 - μ.1 (P + 2) 3 ≤ μ'.1 P 1 - μ.1 P 1 ∧ μ.1 (P + 2) 3 ≤ μ'.1 (P + 2) 3) ∧ (μ'.1 23 9 = μ.1 23 9) ∧ (μ'.1 26 11 = 0 → EX μ μ' P tt (1 - x1) 0) ∧ (μ'.1 23 2 = P) ∧ (μ'.1 23 5 = μ.1 23 5) ∧ (μ'.1 23 6 = μ.1 23 6) ∧ (μ'.1 23 7 = μ.1 23 7) ∧ (μ'.1 23 8 = tt) ∧ (μ'.1 23 10 = μ.1 23 10) ∧ (μ'.1 26 6 = μ.1 26 6) ∧ (μ'.1 P 7 = μ.1 P 7) ∧ (IC μ') ∧ n_9 = Int.toNat (3000 - i9) ∧ lv_has ls 5 [(2, .int (iv i9)), (0, .ref (oP ω 23)), (1, .int (iv x1))]) (fun n_9 ρ μL32 d0 H locs ls hI_l G ih => ?_) _ _ _ _ _ _ _ ⟨0, Fr.rf, (by omega), (by omega), hp_10, (by omega), (by omega), (by omega), (by omega), (by omega), (fun h0 => (PXE.ex (hpx_30 h0)).e (by omega)), (hs_16.trans hP.symm), hs_17, hs_18, hs_19, (hs_20.trans htt.symm), hs_22, hs_23, hs_24, hI_9, rfl, lv_sub hl [0, 1, 2] rfl⟩ G
  obtain ⟨i9, FL33, hi_35, hi_36, hi_37, hi_38, hi_39, hi_40, hi_41, hi_42, hi_43, hi_44, hi_45, hi_46, hi_47, hi_48, hi_49, hi_50, hi_51, hi_52, hn34, hl⟩ := hI_l
  have htb_53 := hi_37.b
  have hpx_54 : μL32.1 26 11 = 0 → PXE μ μL32 P tt (1 - x1) (-1) (1 - x1) := fun h0 => PXE.of (hi_43 h0)
  refine lv_iload_n hx hb dX7_product_7 rfl (lv_at hl 0 rfl) ?_
  refine lv_sipush (v := iv 3000) hx hb dX7_product_8 rfl ?_
  refine xb_icmp_ge (tgt := 99) hx hb (by unfold ir; omega) (by unfold ir; omega) dX7_product_11 (by decide) (fun c_11 => ?_) (fun c_11 => ?_)
  · exact xr_v G hret hlk dX7_product_99 ⟨(Fr.tr (Fr.tr Fr.rf F_8 (si hprP (fun P => [2, 3, 4, 23, 24, 26, P, P + 1, P + 2, (P + 2) + 1, (P + 2) + 2, (P + 2) + 3]) (fun P => [2, 3, 4, 23, 24, 26, P, P + 1, P + 2, (P + 2) + 1, (P + 2) + 2, (P + 2) + 3]) rfl)) FL33 (si hprP (fun P => [2, 3, 4, 23, 24, 26, P, P + 1, P + 2, (P + 2) + 1, (P + 2) + 2, (P + 2) + 3]) (fun P => [2, 3, 4, 23, 24, 26, P, P + 1, P + 2, (P + 2) + 1, (P + 2) + 2, (P + 2) + 3]) rfl)), hi_52, hi_37, (by omega), (by omega), (by omega), (by omega), (fun h0 => (PXE.ex (hpx_54 h0)).e (by omega)), (hi_44).trans hP, hi_45, hi_46, hi_47, (hi_48).trans htt, (by omega), hi_49, hi_50, hi_51⟩
  · refine xj (pc2 := 50) (st2 := fun v_55 => []) (C := fun v_55 => v_55 = μL32.1 26 12 ∧ 37 ≤ v_55) (fun v_55 hv_v_55 => ?_) (fun kont_50 => ?_)
    · skip
      refine lv_aload_n hx hb dX7_product_50 rfl (lv_at hl 1 rfl) ?_
      refine xa_getr G fd_X7 (a := 23) (x := 26) 0 rfl (by decide) rfl (wm 2 17 rfl rfl) ⟨rfl, rfl, rfl⟩ dX7_product_51 rfl (G.sk 23 rfl) (by decide) rfl ?_
      refine xa_getN G fd_X10 (host := "FourTongues") (a := 26) 12 rfl (by decide) (by decide) ⟨rfl, rfl, rfl⟩ dX7_product_54 rfl (v := .int (iv (μL32.1 26 12))) (by rw [show μL32.1 26 12 = μL32.1 26 12 from rfl]; rfl) ?_
      have hr_56 : -2147483648 ≤ μL32.1 26 12 ∧ μL32.1 26 12 ≤ 2147483647 := by have h9 := G.hr (a := 26) (k := 12) rfl; exact h9
      refine lv_istore_n (lv' := [(3, .int (iv (μL32.1 26 12))), (2, .int (iv i9)), (0, .ref (oP ω 23)), (1, .int (iv x1))]) hx hb dX7_product_57 rfl hl (by decide) rfl (fun ls hl => ?_)
      refine lv_aload_n hx hb dX7_product_58 rfl (lv_at hl 2 rfl) ?_
      refine xa_getr G fd_X7 (a := 23) (x := 26) 0 rfl (by decide) rfl (wm 2 17 rfl rfl) ⟨rfl, rfl, rfl⟩ dX7_product_59 rfl (G.sk 23 rfl) (by decide) rfl ?_
      have hn_57 : 0 ≤ μ.1 26 6 ∧ μ.1 26 6 ≤ 3001 := hI.nm.2.2.2.2.2.2.2.2.2.1
      have e_58 : μL32.1 26 6 = μ.1 26 6 := hi_50
      have hn_59 : -1 ≤ μL32.1 26 10 ∧ μL32.1 26 10 ≤ 3000 := hi_52.nm.2.2.2.2.2.2.2.2.2.2.2.2
      have e_60 : μL32.1 26 6 = μ.1 26 6 := hi_50
      have e_61 : μL32.1 26 6 = μ.1 26 6 := hi_50
      refine xc_vV G (b := 26) (rest := []) (As := []) (c_X10_next ω l μL32  hi_52 (by omega) (by omega)) (wm 3 164 rfl rfl) (wm 3 157 rfl rfl) (wm 3 158 rfl rfl) rfl rfl (by decide) rfl (wm 1 13 rfl rfl) (wm 3 159 rfl rfl) (by decide) hR ⟨nfr hF (by decide), nlo hLo (by decide)⟩ (n := 0) rfl rfl (Nat.le_of_ble_eq_true rfl) hl.1 dX7_product_62 (fun μ62 ρ d0 H locs hp G => ?_)
      obtain ⟨F_63, hI_64, hp_65, hp_66, hs_67, hs_68, hs_69, hs_70, hs_71⟩ := hp
      have hn_72 : -1 ≤ μ62.1 26 10 ∧ μ62.1 26 10 ≤ 3000 := hI_64.nm.2.2.2.2.2.2.2.2.2.2.2.2
      obtain ⟨htk_73, htk_73_s, htk_73_n⟩ := TK.nx hi_37 F_63 (((hs_68.trans hi_50)).trans (hi_50).symm) hs_67 (by have h9 : μL32.1 26 12 = μL32.1 26 12 := rfl; omega) hp_65 hp_66
      clear hp_65 hp_66
      have htb_74 := htk_73.b
      refine lv_aload_n hx hb dX7_product_65 rfl (lv_at hl 2 rfl) ?_
      refine lv_iconst (v := iv (-1)) hx hb dX7_product_66 rfl ?_
      refine lv_iconst (v := iv 0) hx hb dX7_product_67 rfl ?_
      have hpx_75 : μ62.1 26 11 = 0 → PXE μ μ62 P tt (1 - x1) (-1) (1 - x1) := fun h0 => (hpx_54 (by have h9 : μL32.1 26 11 = μL32.1 26 11 := rfl; have h8 : μ62.1 26 11 = μL32.1 26 11 := hs_67; omega)).fr (K := [26]) (Fr.tr Fr.rf F_63 (by decide)) (npL_p (L := [26]) (by decide) hprP).1 (npL_p (L := [26]) (by decide) hprP).2.1
      have e_76 : μ62.1 23 2 = P := ((F_63.1 23 (by decide) 2).trans hi_44)
      have e_77 : μ62.1 23 8 = tt := ((F_63.1 23 (by decide) 8).trans hi_48)
      have hk_78 := hi_52.pr (p := P) hprP
      unfold pk at hk_78
      have hc_79 : 16 ≤ μL32.2.1 (P + 1) ∧ μL32.2.1 (P + 1) ≤ 73024 := hi_52.rm.1 _ hprP.cap
      have e_80 : μ62.1 P 1 = μL32.1 P 1 := (F_63.1 P (ni hprP (fun P => P) (fun P => [26]) rfl) 1)
      have e_81 : μ62.1 P 1 = μL32.1 P 1 := (F_63.1 P (ni hprP (fun P => P) (fun P => [26]) rfl) 1)
      have e_82 : μ62.1 P 1 = μL32.1 P 1 := (F_63.1 P (ni hprP (fun P => P) (fun P => [26]) rfl) 1)
      refine xc_iV G (b := 23) (rest := []) (As := [.int (iv (-1)), .int (iv 0)]) (c_X7_ifFails ω l μ62 (-1) 0 μ (1 - x1) (1 - x1) P tt (by unfold ir; omega) (by unfold ir; omega) hI_64 (by omega) (by omega) (by omega) hpx_75 (by omega) (by omega)) (wm 4 23 rfl rfl) (wm 4 25 rfl rfl) (wm 0 29 rfl rfl) rfl rfl (by decide) rfl (wm 1 12 rfl rfl) (wm 4 26 rfl rfl) (by decide) hR ⟨nfr hF (by decide), nlo hLo (by decide)⟩ (n := 2) rfl rfl (Nat.le_of_ble_eq_true rfl) hl.1 dX7_product_68 (fun r_84 μ83 ρ d0 H locs hr_r_84 hp G => ?_)
      have hr_r_84 : -2147483648 ≤ r_84 ∧ r_84 ≤ 2147483647 := hr_r_84
      obtain ⟨F_85, hI_86, hp_87, hp_88, hs_89⟩ := hp
      have hk_90 := hI_86.pr (p := P) hprP
      unfold pk at hk_90
      have hc_91 : 16 ≤ μ83.2.1 (P + 1) ∧ μ83.2.1 (P + 1) ≤ 73024 := hI_86.rm.1 _ hprP.cap
      have hpx_92 : μ83.1 26 11 = 0 → PXE μ μ83 P tt (1 - x1) r_84 (1 - x1) := fun h0 => hp_87 (by have h9 : μ62.1 26 11 = μL32.1 26 11 := hs_67; have h8 : μ83.1 26 11 = μL32.1 26 11 := ((F_85.1 26 (ni hprP (fun P => 26) (fun P => [P, P + 1]) rfl) 11).trans hs_67); omega)
      clear hp_87
      refine lv_istore (lv' := [(4, .int (iv r_84)), (3, .int (iv (μL32.1 26 12))), (2, .int (iv i9)), (0, .ref (oP ω 23)), (1, .int (iv x1))]) hx hb dX7_product_71 hl (by decide) rfl (fun ls hl => ?_)
      refine lv_aload_n hx hb dX7_product_73 rfl (lv_at hl 3 rfl) ?_
      refine lv_iconst (v := iv 0) hx hb dX7_product_74 rfl ?_
      have e_93 : μ83.1 23 2 = P := ((F_85.1 23 (ni hprP (fun P => 23) (fun P => [P, P + 1]) rfl) 2).trans ((F_63.1 23 (by decide) 2).trans hi_44))
      have e_94 : μ83.1 23 8 = tt := ((F_85.1 23 (ni hprP (fun P => 23) (fun P => [P, P + 1]) rfl) 8).trans ((F_63.1 23 (by decide) 8).trans hi_48))
      have htk_95 : TK μ83 := htk_73.fr (K := [P, P + 1]) (Fr.tr Fr.rf F_85 (si hprP (fun P => [P, P + 1]) (fun P => [P, P + 1]) rfl)) (ni hprP (fun P => 26) (fun P => [P, P + 1]) rfl) (ni hprP (fun P => 28) (fun P => [P, P + 1]) rfl) (ni hprP (fun P => 29) (fun P => [P, P + 1]) rfl)
      have e_96 : μ83.1 26 10 = μ62.1 26 10 := (F_85.1 26 (ni hprP (fun P => 26) (fun P => [P, P + 1]) rfl) 10)
      have e_97 : μ83.1 26 11 = μL32.1 26 11 := ((F_85.1 26 (ni hprP (fun P => 26) (fun P => [P, P + 1]) rfl) 11).trans hs_67)
      have hk_98 := hi_52.row (r := P + 2) (hprP.row)
      unfold rk at hk_98
      have e_99 : μ83.1 (P + 2) 3 = μL32.1 (P + 2) 3 := ((F_85.1 (P + 2) (ni hprP (fun P => P + 2) (fun P => [P, P + 1]) rfl) 3).trans (F_63.1 (P + 2) (ni hprP (fun P => P + 2) (fun P => [26]) rfl) 3))
      have e_100 : μ83.1 23 9 = μL32.1 23 9 := ((F_85.1 23 (ni hprP (fun P => 23) (fun P => [P, P + 1]) rfl) 9).trans (F_63.1 23 (by decide) 9))
      have e_101 : μ83.1 23 9 = μL32.1 23 9 := ((F_85.1 23 (ni hprP (fun P => 23) (fun P => [P, P + 1]) rfl) 9).trans (F_63.1 23 (by decide) 9))
      have e_102 : μ83.1 26 11 = μL32.1 26 11 := ((F_85.1 26 (ni hprP (fun P => 26) (fun P => [P, P + 1]) rfl) 11).trans hs_67)
      have e_103 : μ83.1 23 9 = μL32.1 23 9 := ((F_85.1 23 (ni hprP (fun P => 23) (fun P => [P, P + 1]) rfl) 9).trans (F_63.1 23 (by decide) 9))
      have e_104 : μ83.1 26 11 = μL32.1 26 11 := ((F_85.1 26 (ni hprP (fun P => 26) (fun P => [P, P + 1]) rfl) 11).trans hs_67)
      have e_105 : μ83.1 26 11 = μL32.1 26 11 := ((F_85.1 26 (ni hprP (fun P => 26) (fun P => [P, P + 1]) rfl) 11).trans hs_67)
      have e_106 : μ83.1 26 10 = μ62.1 26 10 := (F_85.1 26 (ni hprP (fun P => 26) (fun P => [P, P + 1]) rfl) 10)
      have e_107 : μ83.1 26 10 = μ62.1 26 10 := (F_85.1 26 (ni hprP (fun P => 26) (fun P => [P, P + 1]) rfl) 10)
      have e_108 : μ83.1 26 11 = μL32.1 26 11 := ((F_85.1 26 (ni hprP (fun P => 26) (fun P => [P, P + 1]) rfl) 11).trans hs_67)
      have e_109 : μ83.1 (P + 2) 3 = μL32.1 (P + 2) 3 := ((F_85.1 (P + 2) (ni hprP (fun P => P + 2) (fun P => [P, P + 1]) rfl) 3).trans (F_63.1 (P + 2) (ni hprP (fun P => P + 2) (fun P => [26]) rfl) 3))
      have e_110 : μ83.1 (P + 2) 3 = μL32.1 (P + 2) 3 := ((F_85.1 (P + 2) (ni hprP (fun P => P + 2) (fun P => [P, P + 1]) rfl) 3).trans (F_63.1 (P + 2) (ni hprP (fun P => P + 2) (fun P => [26]) rfl) 3))
      refine xc_vV G (b := 23) (rest := []) (As := [.int (iv 0)]) (c_X7_unary ω l μ83 0 F Lo Fu Lu kf P tt (by omega) hI_86 (by omega) (by omega) hF hLo hFu hLu hE hU htk_95 (by omega) (by omega) (by omega) (by omega) (by omega) (fun _ => Or.inl (by omega))) (wm 4 19 rfl rfl) (wm 4 21 rfl rfl) (wm 0 28 rfl rfl) rfl rfl (by decide) rfl (wm 1 12 rfl rfl) (wm 4 22 rfl rfl) (by decide) hR ⟨sfr (F := F) (a := 5) (by decide), slo (L := Lo) (m := 2) (a := 114) (by decide)⟩ (n := 1) rfl rfl (Nat.le_of_ble_eq_true rfl) hl.1 dX7_product_75 (fun μ111 ρ d0 H locs hp G => ?_)
      obtain ⟨F_112, hI_113, hp_114, hp_115, hp_116, hp_117, hp_118, hp_119, hs_120, hs_121, hs_122, hs_123, hs_124, hs_125, hs_126, hs_127, hs_128⟩ := hp
      have hn_129 : -1 ≤ μ111.1 26 10 ∧ μ111.1 26 10 ≤ 3000 := hI_113.nm.2.2.2.2.2.2.2.2.2.2.2.2
      have hk_130 := hI_113.pr (p := P) hprP
      unfold pk at hk_130
      have hc_131 : 16 ≤ μ111.2.1 (P + 1) ∧ μ111.2.1 (P + 1) ≤ 73024 := hI_113.rm.1 _ hprP.cap
      have hk_132 := hI_113.row (r := P + 2) (hprP.row)
      unfold rk at hk_132
      have htb_133 := hp_114.b
      have hpx_134 : μ111.1 26 11 = 0 → PXE μ μ111 P tt ((1 - x1) + (1 - 0)) r_84 (1 - x1) := fun h0 => (PXE.app (hpx_92 (by have h9 : μ83.1 26 11 = μL32.1 26 11 := ((F_85.1 26 (ni hprP (fun P => 26) (fun P => [P, P + 1]) rfl) 11).trans hs_67); have h8 : μ111.1 26 11 = μ111.1 26 11 := rfl; omega)) (hp_119 h0)).e (by omega)
      refine lv_aload_n hx hb dX7_product_78 rfl (lv_at hl 3 rfl) ?_
      refine lv_bipush (v := iv 7) hx hb dX7_product_79 rfl ?_
      refine lv_iload_n hx hb dX7_product_81 rfl (lv_at hl 1 rfl) ?_
      refine lv_iconst (v := iv 0) hx hb dX7_product_82 rfl ?_
      refine lv_aload_n hx hb dX7_product_83 rfl (lv_at hl 3 rfl) ?_
      refine lv_iload hx hb dX7_product_84 (lv_at hl 0 rfl) ?_
      refine lv_iconst (v := iv 1) hx hb dX7_product_86 rfl ?_
      have e_135 : μ111.1 23 2 = P := (hs_120.trans ((F_85.1 23 (ni hprP (fun P => 23) (fun P => [P, P + 1]) rfl) 2).trans ((F_63.1 23 (by decide) 2).trans hi_44)))
      have e_136 : μ111.1 23 8 = tt := (hs_124.trans ((F_85.1 23 (ni hprP (fun P => 23) (fun P => [P, P + 1]) rfl) 8).trans ((F_63.1 23 (by decide) 8).trans hi_48)))
      refine xc_iV G (b := 23) (rest := [.int (iv 0), .int (iv (μL32.1 26 12)), .int (iv 7), .ref (oP ω 23)]) (As := [.int (iv r_84), .int (iv 1)]) (c_X7_ifFails ω l μ111 r_84 1 μ ((1 - x1) + (1 - 0)) (1 - x1) P tt (by unfold ir; omega) (by unfold ir; omega) hI_113 (by omega) (by omega) (by omega) hpx_134 (by omega) (by omega)) (wm 4 23 rfl rfl) (wm 4 25 rfl rfl) (wm 0 29 rfl rfl) rfl rfl (by decide) rfl (wm 1 12 rfl rfl) (wm 4 26 rfl rfl) (by decide) hR ⟨nfr hF (by decide), nlo hLo (by decide)⟩ (n := 2) rfl rfl (Nat.le_of_ble_eq_true rfl) hl.1 dX7_product_87 (fun r_138 μ137 ρ d0 H locs hr_r_138 hp G => ?_)
      have hr_r_138 : -2147483648 ≤ r_138 ∧ r_138 ≤ 2147483647 := hr_r_138
      obtain ⟨F_139, hI_140, hp_141, hp_142, hs_143⟩ := hp
      have hk_144 := hI_140.pr (p := P) hprP
      unfold pk at hk_144
      have hc_145 : 16 ≤ μ137.2.1 (P + 1) ∧ μ137.2.1 (P + 1) ≤ 73024 := hI_140.rm.1 _ hprP.cap
      have hpx_146 : μ137.1 26 11 = 0 → PXE μ μ137 P tt ((1 - x1) + (1 - 0)) r_138 (1 - x1) := fun h0 => hp_141 (by have h9 : μ111.1 26 11 = μ111.1 26 11 := rfl; have h8 : μ137.1 26 11 = μ111.1 26 11 := (F_139.1 26 (ni hprP (fun P => 26) (fun P => [P, P + 1]) rfl) 11); omega)
      clear hp_141
      have e_147 : μ137.1 23 2 = P := ((F_139.1 23 (ni hprP (fun P => 23) (fun P => [P, P + 1]) rfl) 2).trans (hs_120.trans ((F_85.1 23 (ni hprP (fun P => 23) (fun P => [P, P + 1]) rfl) 2).trans ((F_63.1 23 (by decide) 2).trans hi_44))))
      have e_148 : μ137.1 23 8 = tt := ((F_139.1 23 (ni hprP (fun P => 23) (fun P => [P, P + 1]) rfl) 8).trans (hs_124.trans ((F_85.1 23 (ni hprP (fun P => 23) (fun P => [P, P + 1]) rfl) 8).trans ((F_63.1 23 (by decide) 8).trans hi_48))))
      refine xc_vV G (b := 23) (rest := []) (As := [.int (iv 7), .int (iv (μL32.1 26 12)), .int (iv 0), .int (iv r_138)]) (c_X7_endOfParts ω l μ137 7 (μL32.1 26 12) 0 r_138 μ ((1 - x1) + (1 - 0)) (1 - x1) P tt (by unfold ir; omega) (by unfold ir; omega) (by unfold ir; omega) (by unfold ir; omega) hI_140 (by omega) (by omega) (by omega) hpx_146 (Or.inl (by unfold plain; omega)) (by omega) (by rw [show eff 7 (μL32.1 26 12) = -1 from rfl]; omega)) (wm 4 27 rfl rfl) (wm 4 29 rfl rfl) (wm 0 30 rfl rfl) rfl rfl (by decide) rfl (wm 1 12 rfl rfl) (wm 4 30 rfl rfl) (by decide) hR ⟨nfr hF (by decide), nlo hLo (by decide)⟩ (n := 4) rfl rfl (Nat.le_of_ble_eq_true rfl) hl.1 dX7_product_90 (fun μ149 ρ d0 H locs hp G => ?_)
      obtain ⟨F_150, hI_151, hp_152, hs_153, hs_154⟩ := hp
      have hpx_155 : μ149.1 26 11 = 0 → PXE μ μ149 P tt (1 - x1) (-1) (1 - x1) := fun h0 => PXE.of (hp_152 (by have h9 : μ137.1 26 11 = μ111.1 26 11 := (F_139.1 26 (ni hprP (fun P => 26) (fun P => [P, P + 1]) rfl) 11); have h8 : μ149.1 26 11 = μ111.1 26 11 := ((F_150.1 26 (ni hprP (fun P => 26) (fun P => [P, P + 1]) rfl) 11).trans (F_139.1 26 (ni hprP (fun P => 26) (fun P => [P, P + 1]) rfl) 11)); omega))
      clear hp_152
      refine lv_iinc (v := iv (i9 + 1)) (lv' := [(2, .int (iv (i9 + 1))), (4, .int (iv r_84)), (3, .int (iv (μL32.1 26 12))), (0, .ref (oP ω 23)), (1, .int (iv x1))]) hx hb dX7_product_93 hl (k := 2) rfl (by rw [show Int32.ofInt 1 = iv 1 from rfl, iv_add]) (by decide) rfl (fun ls hl => ?_)
      refine lv_goto (tgt := 7) hx hb dX7_product_96 (by decide) ?_
      have htk_156 : TK μ149 := hp_114.fr (K := [P, P + 1]) (Fr.tr (Fr.tr Fr.rf F_139 (si hprP (fun P => [P, P + 1]) (fun P => [P, P + 1]) rfl)) F_150 (si hprP (fun P => [P, P + 1]) (fun P => [P, P + 1]) rfl)) (ni hprP (fun P => 26) (fun P => [P, P + 1]) rfl) (ni hprP (fun P => 28) (fun P => [P, P + 1]) rfl) (ni hprP (fun P => 29) (fun P => [P, P + 1]) rfl)
      have e_157 : μ149.1 26 11 = μ111.1 26 11 := ((F_150.1 26 (ni hprP (fun P => 26) (fun P => [P, P + 1]) rfl) 11).trans (F_139.1 26 (ni hprP (fun P => 26) (fun P => [P, P + 1]) rfl) 11))
      have e_158 : μ149.1 26 10 = μ111.1 26 10 := ((F_150.1 26 (ni hprP (fun P => 26) (fun P => [P, P + 1]) rfl) 10).trans (F_139.1 26 (ni hprP (fun P => 26) (fun P => [P, P + 1]) rfl) 10))
      have e_159 : μ149.1 P 1 = μ137.1 P 1 + 1 := hs_153
      have e_160 : μ149.1 P 1 = μ137.1 P 1 + 1 := hs_153
      have e_161 : μ149.1 26 10 = μ111.1 26 10 := ((F_150.1 26 (ni hprP (fun P => 26) (fun P => [P, P + 1]) rfl) 10).trans (F_139.1 26 (ni hprP (fun P => 26) (fun P => [P, P + 1]) rfl) 10))
      have e_162 : μ149.1 26 11 = μ111.1 26 11 := ((F_150.1 26 (ni hprP (fun P => 26) (fun P => [P, P + 1]) rfl) 11).trans (F_139.1 26 (ni hprP (fun P => 26) (fun P => [P, P + 1]) rfl) 11))
      have e_163 : μ149.1 (P + 2) 3 = μ111.1 (P + 2) 3 := ((F_150.1 (P + 2) (ni hprP (fun P => P + 2) (fun P => [P, P + 1]) rfl) 3).trans (F_139.1 (P + 2) (ni hprP (fun P => P + 2) (fun P => [P, P + 1]) rfl) 3))
      have e_164 : μ149.1 P 1 = μ137.1 P 1 + 1 := hs_153
      have e_165 : μ149.1 (P + 2) 3 = μ111.1 (P + 2) 3 := ((F_150.1 (P + 2) (ni hprP (fun P => P + 2) (fun P => [P, P + 1]) rfl) 3).trans (F_139.1 (P + 2) (ni hprP (fun P => P + 2) (fun P => [P, P + 1]) rfl) 3))
      have e_166 : μ149.1 23 9 = μL32.1 23 9 := ((F_150.1 23 (ni hprP (fun P => 23) (fun P => [P, P + 1]) rfl) 9).trans ((F_139.1 23 (ni hprP (fun P => 23) (fun P => [P, P + 1]) rfl) 9).trans (hs_125.trans ((F_85.1 23 (ni hprP (fun P => 23) (fun P => [P, P + 1]) rfl) 9).trans (F_63.1 23 (by decide) 9)))))
      exact ih _ _ _ _ _ _ _ (by omega) ⟨i9 + 1, (Fr.tr (Fr.tr (Fr.tr (Fr.tr (Fr.tr FL33 F_63 (si hprP (fun P => [26]) (fun P => [2, 3, 4, 23, 24, 26, P, P + 1, P + 2, (P + 2) + 1, (P + 2) + 2, (P + 2) + 3]) rfl)) F_85 (si hprP (fun P => [P, P + 1]) (fun P => [2, 3, 4, 23, 24, 26, P, P + 1, P + 2, (P + 2) + 1, (P + 2) + 2, (P + 2) + 3]) rfl)) F_112 (si hprP (fun P => [2, 3, 4, 23, 24, 26, P, P + 1, P + 2, (P + 2) + 1, (P + 2) + 2, (P + 2) + 3]) (fun P => [2, 3, 4, 23, 24, 26, P, P + 1, P + 2, (P + 2) + 1, (P + 2) + 2, (P + 2) + 3]) rfl)) F_139 (si hprP (fun P => [P, P + 1]) (fun P => [2, 3, 4, 23, 24, 26, P, P + 1, P + 2, (P + 2) + 1, (P + 2) + 2, (P + 2) + 3]) rfl)) F_150 (si hprP (fun P => [P, P + 1]) (fun P => [2, 3, 4, 23, 24, 26, P, P + 1, P + 2, (P + 2) + 1, (P + 2) + 2, (P + 2) + 3]) rfl)), (by omega), (by omega), htk_156, (by omega), (by omega), (by omega), (by omega), (by omega), (fun h0 => (PXE.ex (hpx_155 h0)).e (by omega)), ((F_150.1 23 (ni hprP (fun P => 23) (fun P => [P, P + 1]) rfl) 2).trans ((F_139.1 23 (ni hprP (fun P => 23) (fun P => [P, P + 1]) rfl) 2).trans (hs_120.trans ((F_85.1 23 (ni hprP (fun P => 23) (fun P => [P, P + 1]) rfl) 2).trans ((F_63.1 23 (by decide) 2).trans hi_44))))), ((F_150.1 23 (ni hprP (fun P => 23) (fun P => [P, P + 1]) rfl) 5).trans ((F_139.1 23 (ni hprP (fun P => 23) (fun P => [P, P + 1]) rfl) 5).trans (hs_121.trans ((F_85.1 23 (ni hprP (fun P => 23) (fun P => [P, P + 1]) rfl) 5).trans ((F_63.1 23 (by decide) 5).trans hi_45))))), ((F_150.1 23 (ni hprP (fun P => 23) (fun P => [P, P + 1]) rfl) 6).trans ((F_139.1 23 (ni hprP (fun P => 23) (fun P => [P, P + 1]) rfl) 6).trans (hs_122.trans ((F_85.1 23 (ni hprP (fun P => 23) (fun P => [P, P + 1]) rfl) 6).trans ((F_63.1 23 (by decide) 6).trans hi_46))))), ((F_150.1 23 (ni hprP (fun P => 23) (fun P => [P, P + 1]) rfl) 7).trans ((F_139.1 23 (ni hprP (fun P => 23) (fun P => [P, P + 1]) rfl) 7).trans (hs_123.trans ((F_85.1 23 (ni hprP (fun P => 23) (fun P => [P, P + 1]) rfl) 7).trans ((F_63.1 23 (by decide) 7).trans hi_47))))), ((F_150.1 23 (ni hprP (fun P => 23) (fun P => [P, P + 1]) rfl) 8).trans ((F_139.1 23 (ni hprP (fun P => 23) (fun P => [P, P + 1]) rfl) 8).trans (hs_124.trans ((F_85.1 23 (ni hprP (fun P => 23) (fun P => [P, P + 1]) rfl) 8).trans ((F_63.1 23 (by decide) 8).trans hi_48))))), ((F_150.1 23 (ni hprP (fun P => 23) (fun P => [P, P + 1]) rfl) 10).trans ((F_139.1 23 (ni hprP (fun P => 23) (fun P => [P, P + 1]) rfl) 10).trans (hs_126.trans ((F_85.1 23 (ni hprP (fun P => 23) (fun P => [P, P + 1]) rfl) 10).trans ((F_63.1 23 (by decide) 10).trans hi_49))))), ((F_150.1 26 (ni hprP (fun P => 26) (fun P => [P, P + 1]) rfl) 6).trans ((F_139.1 26 (ni hprP (fun P => 26) (fun P => [P, P + 1]) rfl) 6).trans (hs_127.trans ((F_85.1 26 (ni hprP (fun P => 26) (fun P => [P, P + 1]) rfl) 6).trans (hs_68.trans hi_50))))), (hs_154.trans (hs_143.trans (hs_128.trans (hs_89.trans ((F_63.1 P (ni hprP (fun P => P) (fun P => [26]) rfl) 7).trans hi_51))))), hI_151, rfl, lv_sub hl [0, 3, 4] rfl⟩ G
    · skip
      refine lv_aload_n hx hb dX7_product_14 rfl (lv_at hl 1 rfl) ?_
      refine xa_getr G fd_X7 (a := 23) (x := 26) 0 rfl (by decide) rfl (wm 2 17 rfl rfl) ⟨rfl, rfl, rfl⟩ dX7_product_15 rfl (G.sk 23 rfl) (by decide) rfl ?_
      refine xa_getN G fd_X10 (host := "FourTongues") (a := 26) 12 rfl (by decide) (by decide) ⟨rfl, rfl, rfl⟩ dX7_product_18 rfl (v := .int (iv (μL32.1 26 12))) (by rw [show μL32.1 26 12 = μL32.1 26 12 from rfl]; rfl) ?_
      have hr_167 : -2147483648 ≤ μL32.1 26 12 ∧ μL32.1 26 12 ≤ 2147483647 := by have h9 := G.hr (a := 26) (k := 12) rfl; exact h9
      refine lv_bipush (v := iv 42) hx hb dX7_product_21 rfl ?_
      refine xb_icmp_eq (tgt := 50) hx hb (by unfold ir; omega) (by unfold ir; omega) dX7_product_23 (by decide) (fun c_23 => ?_) (fun c_23 => ?_)
      · exact kont_50 (μL32.1 26 12) (by omega)
      · refine lv_aload_n hx hb dX7_product_26 rfl (lv_at hl 1 rfl) ?_
        refine xa_getr G fd_X7 (a := 23) (x := 26) 0 rfl (by decide) rfl (wm 2 17 rfl rfl) ⟨rfl, rfl, rfl⟩ dX7_product_27 rfl (G.sk 23 rfl) (by decide) rfl ?_
        refine xa_getN G fd_X10 (host := "FourTongues") (a := 26) 12 rfl (by decide) (by decide) ⟨rfl, rfl, rfl⟩ dX7_product_30 rfl (v := .int (iv (μL32.1 26 12))) (by rw [show μL32.1 26 12 = μL32.1 26 12 from rfl]; rfl) ?_
        refine lv_bipush (v := iv 47) hx hb dX7_product_33 rfl ?_
        refine xb_icmp_eq (tgt := 50) hx hb (by unfold ir; omega) (by unfold ir; omega) dX7_product_35 (by decide) (fun c_35 => ?_) (fun c_35 => ?_)
        · exact kont_50 (μL32.1 26 12) (by omega)
        · refine lv_aload_n hx hb dX7_product_38 rfl (lv_at hl 1 rfl) ?_
          refine xa_getr G fd_X7 (a := 23) (x := 26) 0 rfl (by decide) rfl (wm 2 17 rfl rfl) ⟨rfl, rfl, rfl⟩ dX7_product_39 rfl (G.sk 23 rfl) (by decide) rfl ?_
          refine xa_getN G fd_X10 (host := "FourTongues") (a := 26) 12 rfl (by decide) (by decide) ⟨rfl, rfl, rfl⟩ dX7_product_42 rfl (v := .int (iv (μL32.1 26 12))) (by rw [show μL32.1 26 12 = μL32.1 26 12 from rfl]; rfl) ?_
          refine lv_bipush (v := iv 37) hx hb dX7_product_45 rfl ?_
          refine xb_icmp_ne (tgt := 99) hx hb (by unfold ir; omega) (by unfold ir; omega) dX7_product_47 (by decide) (fun c_47 => ?_) (fun c_47 => ?_)
          · exact xr_v G hret hlk dX7_product_99 ⟨(Fr.tr (Fr.tr Fr.rf F_8 (si hprP (fun P => [2, 3, 4, 23, 24, 26, P, P + 1, P + 2, (P + 2) + 1, (P + 2) + 2, (P + 2) + 3]) (fun P => [2, 3, 4, 23, 24, 26, P, P + 1, P + 2, (P + 2) + 1, (P + 2) + 2, (P + 2) + 3]) rfl)) FL33 (si hprP (fun P => [2, 3, 4, 23, 24, 26, P, P + 1, P + 2, (P + 2) + 1, (P + 2) + 2, (P + 2) + 3]) (fun P => [2, 3, 4, 23, 24, 26, P, P + 1, P + 2, (P + 2) + 1, (P + 2) + 2, (P + 2) + 3]) rfl)), hi_52, hi_37, (by omega), (by omega), (by omega), (by omega), (fun h0 => (PXE.ex (hpx_54 h0)).e (by omega)), (hi_44).trans hP, hi_45, hi_46, hi_47, (hi_48).trans htt, (by omega), hi_49, hi_50, hi_51⟩
          · exact kont_50 (μL32.1 26 12) (by omega)

set_option maxHeartbeats 4000000 in
set_option maxRecDepth 100000 in
theorem c_X7_sum (ω : Om) (l : Launch) (μ : M3) (x1 : Int) (F : Nat) (Lo : Nat) (Fu : Nat) (Lu : Nat) (kf : Int) (P : Int) (tt : Int) (hx1 : x1 = 0 ∨ x1 = 1) (hI : IC μ) (hP : P = μ.1 23 2) (htt : tt = μ.1 23 8) (hF : 60 ≤ F) (hLo : 2000 ≤ Lo) (hFu : Fu ≤ F) (hLu : Lu ≤ Lo) (hE : ∀ (μ : M3) (x1 : Int) (P : Int) (tt : Int) (hx1 : x1 = 0 ∨ x1 = 1) (hI : IC μ) (hP : P = μ.1 23 2) (htt : tt = μ.1 23 8) (hTK : TK μ) (hB : 2 * μ.1 P 1 ≤ 5 * μ.1 26 10 + 200 + 80 * μ.1 26 11) (hKc : μ.1 (P + 2) 3 ≤ μ.1 P 1) (ht3 : 0 ≤ tt ∧ tt ≤ 3) (hdp : 0 ≤ μ.1 23 9 ∧ μ.1 23 9 ≤ 8 + μ.1 26 11) (hfu : 0 ≤ (kf - 1) ∧ 9 ≤ μ.1 23 9 + (kf - 1) + 20 * μ.1 26 11) (hbg : ∀ _ : Unit, x1 = 0 ∨ μ.1 26 11 ≠ 0 ∨ 2 ≤ hs μ P (μ.1 P 1)), CtV ω l yX7_expression cX7_expression 3 (F + 0) (Lo + 0) [.ref (oP ω 23), .int (iv x1)] μ (fun (μ' : M3) => (Fr [2, 3, 4, 23, 24, 26, P, P + 1, P + 2, (P + 2) + 1, (P + 2) + 2, (P + 2) + 3] μ μ') ∧ (IC μ') ∧ (TK μ') ∧ (μ.1 26 11 ≤ μ'.1 26 11) ∧ (μ.1 26 10 ≤ μ'.1 26 10) ∧ (μ.1 P 1 ≤ μ'.1 P 1 ∧ μ'.1 P 1 ≤ μ.1 P 1 + 2 * (μ'.1 26 10 - μ.1 26 10) + (- 1 + 3 * μ'.1 26 11 - 2 * μ.1 26 11 + x1)) ∧ (μ'.1 (P + 2) 3 - μ.1 (P + 2) 3 ≤ μ'.1 P 1 - μ.1 P 1 ∧ μ.1 (P + 2) 3 ≤ μ'.1 (P + 2) 3) ∧ (μ'.1 26 11 = 0 → EX μ μ' P tt (1 - x1) 0) ∧ (μ'.1 23 2 = μ.1 23 2) ∧ (μ'.1 23 5 = μ.1 23 5) ∧ (μ'.1 23 6 = μ.1 23 6) ∧ (μ'.1 23 7 = μ.1 23 7) ∧ (μ'.1 23 8 = μ.1 23 8) ∧ (μ'.1 23 9 = μ.1 23 9) ∧ (μ'.1 23 10 = μ.1 23 10) ∧ (μ'.1 26 6 = μ.1 26 6) ∧ (μ'.1 P 7 = μ.1 P 7))) (hU : ∀ (μ : M3) (x1 : Int) (P : Int) (tt : Int) (hx1 : x1 = 0 ∨ x1 = 1) (hI : IC μ) (hP : P = μ.1 23 2) (htt : tt = μ.1 23 8) (hTK : TK μ) (hB : 2 * μ.1 P 1 ≤ 5 * μ.1 26 10 + 200 + 80 * μ.1 26 11) (hKc : μ.1 (P + 2) 3 ≤ μ.1 P 1) (ht3 : 0 ≤ tt ∧ tt ≤ 3) (hdp : 0 ≤ μ.1 23 9 ∧ μ.1 23 9 ≤ 8 + μ.1 26 11) (hfu : 0 ≤ (kf - 1) ∧ 9 ≤ μ.1 23 9 + (kf - 1) + 20 * μ.1 26 11) (hbg : ∀ _ : Unit, x1 = 0 ∨ μ.1 26 11 ≠ 0 ∨ 2 ≤ hs μ P (μ.1 P 1)), CtV ω l yX7_unary cX7_unary 2 (Fu + 0) (Lu + 0) [.ref (oP ω 23), .int (iv x1)] μ (fun (μ' : M3) => (Fr [2, 3, 4, 23, 24, 26, P, P + 1, P + 2, (P + 2) + 1, (P + 2) + 2, (P + 2) + 3] μ μ') ∧ (IC μ') ∧ (TK μ') ∧ (μ.1 26 11 ≤ μ'.1 26 11) ∧ (μ.1 26 10 ≤ μ'.1 26 10) ∧ (μ.1 P 1 ≤ μ'.1 P 1 ∧ μ'.1 P 1 ≤ μ.1 P 1 + 2 * (μ'.1 26 10 - μ.1 26 10) + (- 1 + 3 * μ'.1 26 11 - 2 * μ.1 26 11 + x1)) ∧ (μ'.1 (P + 2) 3 - μ.1 (P + 2) 3 ≤ μ'.1 P 1 - μ.1 P 1 ∧ μ.1 (P + 2) 3 ≤ μ'.1 (P + 2) 3) ∧ (μ'.1 26 11 = 0 → EX μ μ' P tt (1 - x1) 0) ∧ (μ'.1 23 2 = μ.1 23 2) ∧ (μ'.1 23 5 = μ.1 23 5) ∧ (μ'.1 23 6 = μ.1 23 6) ∧ (μ'.1 23 7 = μ.1 23 7) ∧ (μ'.1 23 8 = μ.1 23 8) ∧ (μ'.1 23 9 = μ.1 23 9) ∧ (μ'.1 23 10 = μ.1 23 10) ∧ (μ'.1 26 6 = μ.1 26 6) ∧ (μ'.1 P 7 = μ.1 P 7))) (hTK : TK μ) (hB : 2 * μ.1 P 1 ≤ 5 * μ.1 26 10 + 200 + 80 * μ.1 26 11) (hKc : μ.1 (P + 2) 3 ≤ μ.1 P 1) (ht3 : 0 ≤ tt ∧ tt ≤ 3) (hdp : 0 ≤ μ.1 23 9 ∧ μ.1 23 9 ≤ 8 + μ.1 26 11) (hfu : 0 ≤ kf ∧ 9 ≤ μ.1 23 9 + kf + 20 * μ.1 26 11) (hbg : ∀ _ : Unit, x1 = 0 ∨ μ.1 26 11 ≠ 0 ∨ 2 ≤ hs μ P (μ.1 P 1)) : CtV ω l yX7_sum cX7_sum 5 (F + 7) (Lo + 159) [.ref (oP ω 23), .int (iv x1)] μ (fun (μ' : M3) => (Fr [2, 3, 4, 23, 24, 26, P, P + 1, P + 2, (P + 2) + 1, (P + 2) + 2, (P + 2) + 3] μ μ') ∧ (IC μ') ∧ (TK μ') ∧ (μ.1 26 11 ≤ μ'.1 26 11) ∧ (μ.1 26 10 ≤ μ'.1 26 10) ∧ (μ.1 P 1 ≤ μ'.1 P 1 ∧ μ'.1 P 1 ≤ μ.1 P 1 + 2 * (μ'.1 26 10 - μ.1 26 10) + (- 1 + 3 * μ'.1 26 11 - 2 * μ.1 26 11 + x1)) ∧ (μ'.1 (P + 2) 3 - μ.1 (P + 2) 3 ≤ μ'.1 P 1 - μ.1 P 1 ∧ μ.1 (P + 2) 3 ≤ μ'.1 (P + 2) 3) ∧ (μ'.1 26 11 = 0 → EX μ μ' P tt (1 - x1) 0) ∧ (μ'.1 23 2 = μ.1 23 2) ∧ (μ'.1 23 5 = μ.1 23 5) ∧ (μ'.1 23 6 = μ.1 23 6) ∧ (μ'.1 23 7 = μ.1 23 7) ∧ (μ'.1 23 8 = μ.1 23 8) ∧ (μ'.1 23 9 = μ.1 23 9) ∧ (μ'.1 23 10 = μ.1 23 10) ∧ (μ'.1 26 6 = μ.1 26 6) ∧ (μ'.1 P 7 = μ.1 P 7)) := by
  refine CtV.go (by decide) (Nat.le_of_ble_eq_true rfl) (fun ρ p e s m below meth c R ls G hR hret hlk hl => ?_)
  have hx := G.1.1
  have hb := G.1.2.1
  have hl : lv_has ls 5 [(0, .ref (oP ω 23)), (1, .int (iv x1))] := hl
  generalize s.drawn = d0 at G ⊢
  have hTKb := hTK.b
  have hprP : isPr P := by have h9 := G.sr0.2.2.2.2.2; rw [← hP] at h9; exact h9
  have hprP_d : 13 ≤ P ∧ P ≤ 101 := by rcases hprP with h9 | h9 | h9 | h9 | h9 <;> omega
  have hk_1 := hI.pr (p := P) hprP
  unfold pk at hk_1
  have hc_2 : 16 ≤ μ.2.1 (P + 1) ∧ μ.2.1 (P + 1) ≤ 73024 := hI.rm.1 _ hprP.cap
  have hx1l : 0 ≤ x1 ∧ x1 ≤ 1 := by omega
  clear hx1
  have hnil : μ.1 26 11 = 0 → PXE μ μ P tt 0 (-1) (1 - x1) := fun _ => PXE.nil (by omega)
  refine lv_aload_n hx hb dX7_sum_0 rfl (lv_at hl 0 rfl) ?_
  refine lv_iload_n hx hb dX7_sum_1 rfl (lv_at hl 1 rfl) ?_
  have e_3 : μ.1 23 2 = P := hP.symm
  have e_4 : μ.1 23 8 = tt := htt.symm
  have hn_5 : -1 ≤ μ.1 26 10 ∧ μ.1 26 10 ≤ 3000 := hI.nm.2.2.2.2.2.2.2.2.2.2.2.2
  have hk_6 := hI.row (r := P + 2) (hprP.row)
  unfold rk at hk_6
  refine xc_vV G (b := 23) (rest := []) (As := [.int (iv x1)]) (c_X7_product ω l μ x1 F Lo Fu Lu kf P tt (by omega) hI (by omega) (by omega) hF hLo hFu hLu hE hU hTK (by omega) (by omega) (by omega) (by omega) (by omega) hbg) (wm 4 15 rfl rfl) (wm 4 17 rfl rfl) (wm 0 27 rfl rfl) rfl rfl (by decide) rfl (wm 1 12 rfl rfl) (wm 4 18 rfl rfl) (by decide) hR ⟨sfr (F := F) (a := 6) (by decide), slo (L := Lo) (m := 5) (a := 135) (by decide)⟩ (n := 1) rfl rfl (Nat.le_of_ble_eq_true rfl) hl.1 dX7_sum_2 (fun μ7 ρ d0 H locs hp G => ?_)
  obtain ⟨F_8, hI_9, hp_10, hp_11, hp_12, hp_13, hp_14, hp_15, hs_16, hs_17, hs_18, hs_19, hs_20, hs_21, hs_22, hs_23, hs_24⟩ := hp
  have hn_25 : -1 ≤ μ7.1 26 10 ∧ μ7.1 26 10 ≤ 3000 := hI_9.nm.2.2.2.2.2.2.2.2.2.2.2.2
  have hk_26 := hI_9.pr (p := P) hprP
  unfold pk at hk_26
  have hc_27 : 16 ≤ μ7.2.1 (P + 1) ∧ μ7.2.1 (P + 1) ≤ 73024 := hI_9.rm.1 _ hprP.cap
  have hk_28 := hI_9.row (r := P + 2) (hprP.row)
  unfold rk at hk_28
  have htb_29 := hp_10.b
  have hpx_30 : μ7.1 26 11 = 0 → PXE μ μ7 P tt (0 + (1 - x1)) (-1) (1 - x1) := fun h0 => (PXE.app (hnil (by have h9 : μ.1 26 11 = μ.1 26 11 := rfl; have h8 : μ7.1 26 11 = μ7.1 26 11 := rfl; omega)) (hp_15 h0)).e (by omega)
  refine lv_iconst (v := iv 0) hx hb dX7_sum_5 rfl ?_
  refine lv_istore_n (lv' := [(2, .int (iv 0)), (0, .ref (oP ω 23)), (1, .int (iv x1))]) hx hb dX7_sum_6 rfl hl (by decide) rfl (fun ls hl => ?_)
  have e_31 : μ7.1 23 9 = μ.1 23 9 := hs_21
  refine xl (fun n_9 μ' ls => ∃ (i9 : Int), (Fr [2, 3, 4, 23, 24, 26, P, P + 1, P + 2, (P + 2) + 1, (P + 2) + 2, (P + 2) + 3] μ7 μ') ∧ (-2147483648 ≤ i9 ∧ i9 ≤ 2147483647) ∧ (0 ≤ i9) ∧ (TK μ') ∧ (μ.1 26 11 ≤ μ'.1 26 11) ∧ (μ.1 26 10 ≤ μ'.1 26 10) ∧ (μ.1 P 1 ≤ μ'.1 P 1 ∧ μ'.1 P 1 ≤ μ.1 P 1 + 2 * (μ'.1 26 10 - μ.1 26 10) + (- 1 + 3 * μ'.1 26 11 - 2 * μ.1 26 11 + x1)) ∧ (μ'.1 (P + 2) 3 - μ.1 (P + 2) 3 ≤ μ'.1 P 1 - μ.1 P 1 ∧ μ.1 (P + 2) 3 ≤ μ'.1 (P + 2) 3) ∧ (μ'.1 23 9 = μ.1 23 9) ∧ (μ'.1 26 11 = 0 → EX μ μ' P tt (1 - x1) 0) ∧ (μ'.1 23 2 = P) ∧ (μ'.1 23 5 = μ.1 23 5) ∧ (μ'.1 23 6 = μ.1 23 6) ∧ (μ'.1 23 7 = μ.1 23 7) ∧ (μ'.1 23 8 = tt) ∧ (μ'.1 23 10 = μ.1 23 10) ∧ (μ'.1 26 6 = μ.1 26 6) ∧ (μ'.1 P 7 = μ.1 P 7) ∧ (IC μ') ∧ n_9 = Int.toNat (3000 - i9) ∧ lv_has ls 5 [(2, .int (iv i9)), (0, .ref (oP ω 23)), (1, .int (iv x1))]) (fun n_9 ρ μL32 d0 H locs ls hI_l G ih => ?_) _ _ _ _ _ _ _ ⟨0, Fr.rf, (by omega), (by omega), hp_10, (by omega), (by omega), (by omega), (by omega), (by omega), (fun h0 => (PXE.ex (hpx_30 h0)).e (by omega)), (hs_16.trans hP.symm), hs_17, hs_18, hs_19, (hs_20.trans htt.symm), hs_22, hs_23, hs_24, hI_9, rfl, lv_sub hl [0, 1, 2] rfl⟩ G
  obtain ⟨i9, FL33, hi_35, hi_36, hi_37, hi_38, hi_39, hi_40, hi_41, hi_42, hi_43, hi_44, hi_45, hi_46, hi_47, hi_48, hi_49, hi_50, hi_51, hi_52, hn34, hl⟩ := hI_l
  have htb_53 := hi_37.b
  have hpx_54 : μL32.1 26 11 = 0 → PXE μ μL32 P tt (1 - x1) (-1) (1 - x1) := fun h0 => PXE.of (hi_43 h0)
  refine lv_iload_n hx hb dX7_sum_7 rfl (lv_at hl 0 rfl) ?_
  refine lv_sipush (v := iv 3000) hx hb dX7_sum_8 rfl ?_
  refine xb_icmp_ge (tgt := 87) hx hb (by unfold ir; omega) (by unfold ir; omega) dX7_sum_11 (by decide) (fun c_11 => ?_) (fun c_11 => ?_)
  · exact xr_v G hret hlk dX7_sum_87 ⟨(Fr.tr (Fr.tr Fr.rf F_8 (si hprP (fun P => [2, 3, 4, 23, 24, 26, P, P + 1, P + 2, (P + 2) + 1, (P + 2) + 2, (P + 2) + 3]) (fun P => [2, 3, 4, 23, 24, 26, P, P + 1, P + 2, (P + 2) + 1, (P + 2) + 2, (P + 2) + 3]) rfl)) FL33 (si hprP (fun P => [2, 3, 4, 23, 24, 26, P, P + 1, P + 2, (P + 2) + 1, (P + 2) + 2, (P + 2) + 3]) (fun P => [2, 3, 4, 23, 24, 26, P, P + 1, P + 2, (P + 2) + 1, (P + 2) + 2, (P + 2) + 3]) rfl)), hi_52, hi_37, (by omega), (by omega), (by omega), (by omega), (fun h0 => (PXE.ex (hpx_54 h0)).e (by omega)), (hi_44).trans hP, hi_45, hi_46, hi_47, (hi_48).trans htt, (by omega), hi_49, hi_50, hi_51⟩
  · refine xj (pc2 := 38) (st2 := fun v_55 => []) (C := fun v_55 => v_55 = μL32.1 26 12 ∧ 37 ≤ v_55) (fun v_55 hv_v_55 => ?_) (fun kont_38 => ?_)
    · skip
      refine lv_aload_n hx hb dX7_sum_38 rfl (lv_at hl 1 rfl) ?_
      refine xa_getr G fd_X7 (a := 23) (x := 26) 0 rfl (by decide) rfl (wm 2 17 rfl rfl) ⟨rfl, rfl, rfl⟩ dX7_sum_39 rfl (G.sk 23 rfl) (by decide) rfl ?_
      refine xa_getN G fd_X10 (host := "FourTongues") (a := 26) 12 rfl (by decide) (by decide) ⟨rfl, rfl, rfl⟩ dX7_sum_42 rfl (v := .int (iv (μL32.1 26 12))) (by rw [show μL32.1 26 12 = μL32.1 26 12 from rfl]; rfl) ?_
      have hr_56 : -2147483648 ≤ μL32.1 26 12 ∧ μL32.1 26 12 ≤ 2147483647 := by have h9 := G.hr (a := 26) (k := 12) rfl; exact h9
      refine lv_istore_n (lv' := [(3, .int (iv (μL32.1 26 12))), (2, .int (iv i9)), (0, .ref (oP ω 23)), (1, .int (iv x1))]) hx hb dX7_sum_45 rfl hl (by decide) rfl (fun ls hl => ?_)
      refine lv_aload_n hx hb dX7_sum_46 rfl (lv_at hl 2 rfl) ?_
      refine xa_getr G fd_X7 (a := 23) (x := 26) 0 rfl (by decide) rfl (wm 2 17 rfl rfl) ⟨rfl, rfl, rfl⟩ dX7_sum_47 rfl (G.sk 23 rfl) (by decide) rfl ?_
      have hn_57 : 0 ≤ μ.1 26 6 ∧ μ.1 26 6 ≤ 3001 := hI.nm.2.2.2.2.2.2.2.2.2.1
      have e_58 : μL32.1 26 6 = μ.1 26 6 := hi_50
      have hn_59 : -1 ≤ μL32.1 26 10 ∧ μL32.1 26 10 ≤ 3000 := hi_52.nm.2.2.2.2.2.2.2.2.2.2.2.2
      have e_60 : μL32.1 26 6 = μ.1 26 6 := hi_50
      have e_61 : μL32.1 26 6 = μ.1 26 6 := hi_50
      refine xc_vV G (b := 26) (rest := []) (As := []) (c_X10_next ω l μL32  hi_52 (by omega) (by omega)) (wm 3 164 rfl rfl) (wm 3 157 rfl rfl) (wm 3 158 rfl rfl) rfl rfl (by decide) rfl (wm 1 13 rfl rfl) (wm 3 159 rfl rfl) (by decide) hR ⟨nfr hF (by decide), nlo hLo (by decide)⟩ (n := 0) rfl rfl (Nat.le_of_ble_eq_true rfl) hl.1 dX7_sum_50 (fun μ62 ρ d0 H locs hp G => ?_)
      obtain ⟨F_63, hI_64, hp_65, hp_66, hs_67, hs_68, hs_69, hs_70, hs_71⟩ := hp
      have hn_72 : -1 ≤ μ62.1 26 10 ∧ μ62.1 26 10 ≤ 3000 := hI_64.nm.2.2.2.2.2.2.2.2.2.2.2.2
      obtain ⟨htk_73, htk_73_s, htk_73_n⟩ := TK.nx hi_37 F_63 (((hs_68.trans hi_50)).trans (hi_50).symm) hs_67 (by have h9 : μL32.1 26 12 = μL32.1 26 12 := rfl; omega) hp_65 hp_66
      clear hp_65 hp_66
      have htb_74 := htk_73.b
      refine lv_aload_n hx hb dX7_sum_53 rfl (lv_at hl 2 rfl) ?_
      refine lv_iconst (v := iv (-1)) hx hb dX7_sum_54 rfl ?_
      refine lv_iconst (v := iv 0) hx hb dX7_sum_55 rfl ?_
      have hpx_75 : μ62.1 26 11 = 0 → PXE μ μ62 P tt (1 - x1) (-1) (1 - x1) := fun h0 => (hpx_54 (by have h9 : μL32.1 26 11 = μL32.1 26 11 := rfl; have h8 : μ62.1 26 11 = μL32.1 26 11 := hs_67; omega)).fr (K := [26]) (Fr.tr Fr.rf F_63 (by decide)) (npL_p (L := [26]) (by decide) hprP).1 (npL_p (L := [26]) (by decide) hprP).2.1
      have e_76 : μ62.1 23 2 = P := ((F_63.1 23 (by decide) 2).trans hi_44)
      have e_77 : μ62.1 23 8 = tt := ((F_63.1 23 (by decide) 8).trans hi_48)
      have hk_78 := hi_52.pr (p := P) hprP
      unfold pk at hk_78
      have hc_79 : 16 ≤ μL32.2.1 (P + 1) ∧ μL32.2.1 (P + 1) ≤ 73024 := hi_52.rm.1 _ hprP.cap
      have e_80 : μ62.1 P 1 = μL32.1 P 1 := (F_63.1 P (ni hprP (fun P => P) (fun P => [26]) rfl) 1)
      have e_81 : μ62.1 P 1 = μL32.1 P 1 := (F_63.1 P (ni hprP (fun P => P) (fun P => [26]) rfl) 1)
      have e_82 : μ62.1 P 1 = μL32.1 P 1 := (F_63.1 P (ni hprP (fun P => P) (fun P => [26]) rfl) 1)
      refine xc_iV G (b := 23) (rest := []) (As := [.int (iv (-1)), .int (iv 0)]) (c_X7_ifFails ω l μ62 (-1) 0 μ (1 - x1) (1 - x1) P tt (by unfold ir; omega) (by unfold ir; omega) hI_64 (by omega) (by omega) (by omega) hpx_75 (by omega) (by omega)) (wm 4 23 rfl rfl) (wm 4 25 rfl rfl) (wm 0 29 rfl rfl) rfl rfl (by decide) rfl (wm 1 12 rfl rfl) (wm 4 26 rfl rfl) (by decide) hR ⟨nfr hF (by decide), nlo hLo (by decide)⟩ (n := 2) rfl rfl (Nat.le_of_ble_eq_true rfl) hl.1 dX7_sum_56 (fun r_84 μ83 ρ d0 H locs hr_r_84 hp G => ?_)
      have hr_r_84 : -2147483648 ≤ r_84 ∧ r_84 ≤ 2147483647 := hr_r_84
      obtain ⟨F_85, hI_86, hp_87, hp_88, hs_89⟩ := hp
      have hk_90 := hI_86.pr (p := P) hprP
      unfold pk at hk_90
      have hc_91 : 16 ≤ μ83.2.1 (P + 1) ∧ μ83.2.1 (P + 1) ≤ 73024 := hI_86.rm.1 _ hprP.cap
      have hpx_92 : μ83.1 26 11 = 0 → PXE μ μ83 P tt (1 - x1) r_84 (1 - x1) := fun h0 => hp_87 (by have h9 : μ62.1 26 11 = μL32.1 26 11 := hs_67; have h8 : μ83.1 26 11 = μL32.1 26 11 := ((F_85.1 26 (ni hprP (fun P => 26) (fun P => [P, P + 1]) rfl) 11).trans hs_67); omega)
      clear hp_87
      refine lv_istore (lv' := [(4, .int (iv r_84)), (3, .int (iv (μL32.1 26 12))), (2, .int (iv i9)), (0, .ref (oP ω 23)), (1, .int (iv x1))]) hx hb dX7_sum_59 hl (by decide) rfl (fun ls hl => ?_)
      refine lv_aload_n hx hb dX7_sum_61 rfl (lv_at hl 3 rfl) ?_
      refine lv_iconst (v := iv 0) hx hb dX7_sum_62 rfl ?_
      have e_93 : μ83.1 23 2 = P := ((F_85.1 23 (ni hprP (fun P => 23) (fun P => [P, P + 1]) rfl) 2).trans ((F_63.1 23 (by decide) 2).trans hi_44))
      have e_94 : μ83.1 23 8 = tt := ((F_85.1 23 (ni hprP (fun P => 23) (fun P => [P, P + 1]) rfl) 8).trans ((F_63.1 23 (by decide) 8).trans hi_48))
      have htk_95 : TK μ83 := htk_73.fr (K := [P, P + 1]) (Fr.tr Fr.rf F_85 (si hprP (fun P => [P, P + 1]) (fun P => [P, P + 1]) rfl)) (ni hprP (fun P => 26) (fun P => [P, P + 1]) rfl) (ni hprP (fun P => 28) (fun P => [P, P + 1]) rfl) (ni hprP (fun P => 29) (fun P => [P, P + 1]) rfl)
      have e_96 : μ83.1 26 10 = μ62.1 26 10 := (F_85.1 26 (ni hprP (fun P => 26) (fun P => [P, P + 1]) rfl) 10)
      have e_97 : μ83.1 26 11 = μL32.1 26 11 := ((F_85.1 26 (ni hprP (fun P => 26) (fun P => [P, P + 1]) rfl) 11).trans hs_67)
      have hk_98 := hi_52.row (r := P + 2) (hprP.row)
      unfold rk at hk_98
      have e_99 : μ83.1 (P + 2) 3 = μL32.1 (P + 2) 3 := ((F_85.1 (P + 2) (ni hprP (fun P => P + 2) (fun P => [P, P + 1]) rfl) 3).trans (F_63.1 (P + 2) (ni hprP (fun P => P + 2) (fun P => [26]) rfl) 3))
      have e_100 : μ83.1 23 9 = μL32.1 23 9 := ((F_85.1 23 (ni hprP (fun P => 23) (fun P => [P, P + 1]) rfl) 9).trans (F_63.1 23 (by decide) 9))
      have e_101 : μ83.1 23 9 = μL32.1 23 9 := ((F_85.1 23 (ni hprP (fun P => 23) (fun P => [P, P + 1]) rfl) 9).trans (F_63.1 23 (by decide) 9))
      have e_102 : μ83.1 26 11 = μL32.1 26 11 := ((F_85.1 26 (ni hprP (fun P => 26) (fun P => [P, P + 1]) rfl) 11).trans hs_67)
      have e_103 : μ83.1 23 9 = μL32.1 23 9 := ((F_85.1 23 (ni hprP (fun P => 23) (fun P => [P, P + 1]) rfl) 9).trans (F_63.1 23 (by decide) 9))
      have e_104 : μ83.1 26 11 = μL32.1 26 11 := ((F_85.1 26 (ni hprP (fun P => 26) (fun P => [P, P + 1]) rfl) 11).trans hs_67)
      have e_105 : μ83.1 26 11 = μL32.1 26 11 := ((F_85.1 26 (ni hprP (fun P => 26) (fun P => [P, P + 1]) rfl) 11).trans hs_67)
      have e_106 : μ83.1 26 10 = μ62.1 26 10 := (F_85.1 26 (ni hprP (fun P => 26) (fun P => [P, P + 1]) rfl) 10)
      have e_107 : μ83.1 26 10 = μ62.1 26 10 := (F_85.1 26 (ni hprP (fun P => 26) (fun P => [P, P + 1]) rfl) 10)
      have e_108 : μ83.1 26 11 = μL32.1 26 11 := ((F_85.1 26 (ni hprP (fun P => 26) (fun P => [P, P + 1]) rfl) 11).trans hs_67)
      have e_109 : μ83.1 (P + 2) 3 = μL32.1 (P + 2) 3 := ((F_85.1 (P + 2) (ni hprP (fun P => P + 2) (fun P => [P, P + 1]) rfl) 3).trans (F_63.1 (P + 2) (ni hprP (fun P => P + 2) (fun P => [26]) rfl) 3))
      have e_110 : μ83.1 (P + 2) 3 = μL32.1 (P + 2) 3 := ((F_85.1 (P + 2) (ni hprP (fun P => P + 2) (fun P => [P, P + 1]) rfl) 3).trans (F_63.1 (P + 2) (ni hprP (fun P => P + 2) (fun P => [26]) rfl) 3))
      refine xc_vV G (b := 23) (rest := []) (As := [.int (iv 0)]) (c_X7_product ω l μ83 0 F Lo Fu Lu kf P tt (by omega) hI_86 (by omega) (by omega) hF hLo hFu hLu hE hU htk_95 (by omega) (by omega) (by omega) (by omega) (by omega) (fun _ => Or.inl (by omega))) (wm 4 15 rfl rfl) (wm 4 17 rfl rfl) (wm 0 27 rfl rfl) rfl rfl (by decide) rfl (wm 1 12 rfl rfl) (wm 4 18 rfl rfl) (by decide) hR ⟨sfr (F := F) (a := 6) (by decide), slo (L := Lo) (m := 5) (a := 135) (by decide)⟩ (n := 1) rfl rfl (Nat.le_of_ble_eq_true rfl) hl.1 dX7_sum_63 (fun μ111 ρ d0 H locs hp G => ?_)
      obtain ⟨F_112, hI_113, hp_114, hp_115, hp_116, hp_117, hp_118, hp_119, hs_120, hs_121, hs_122, hs_123, hs_124, hs_125, hs_126, hs_127, hs_128⟩ := hp
      have hn_129 : -1 ≤ μ111.1 26 10 ∧ μ111.1 26 10 ≤ 3000 := hI_113.nm.2.2.2.2.2.2.2.2.2.2.2.2
      have hk_130 := hI_113.pr (p := P) hprP
      unfold pk at hk_130
      have hc_131 : 16 ≤ μ111.2.1 (P + 1) ∧ μ111.2.1 (P + 1) ≤ 73024 := hI_113.rm.1 _ hprP.cap
      have hk_132 := hI_113.row (r := P + 2) (hprP.row)
      unfold rk at hk_132
      have htb_133 := hp_114.b
      have hpx_134 : μ111.1 26 11 = 0 → PXE μ μ111 P tt ((1 - x1) + (1 - 0)) r_84 (1 - x1) := fun h0 => (PXE.app (hpx_92 (by have h9 : μ83.1 26 11 = μL32.1 26 11 := ((F_85.1 26 (ni hprP (fun P => 26) (fun P => [P, P + 1]) rfl) 11).trans hs_67); have h8 : μ111.1 26 11 = μ111.1 26 11 := rfl; omega)) (hp_119 h0)).e (by omega)
      refine lv_aload_n hx hb dX7_sum_66 rfl (lv_at hl 3 rfl) ?_
      refine lv_bipush (v := iv 7) hx hb dX7_sum_67 rfl ?_
      refine lv_iload_n hx hb dX7_sum_69 rfl (lv_at hl 1 rfl) ?_
      refine lv_iconst (v := iv 0) hx hb dX7_sum_70 rfl ?_
      refine lv_aload_n hx hb dX7_sum_71 rfl (lv_at hl 3 rfl) ?_
      refine lv_iload hx hb dX7_sum_72 (lv_at hl 0 rfl) ?_
      refine lv_iconst (v := iv 1) hx hb dX7_sum_74 rfl ?_
      have e_135 : μ111.1 23 2 = P := (hs_120.trans ((F_85.1 23 (ni hprP (fun P => 23) (fun P => [P, P + 1]) rfl) 2).trans ((F_63.1 23 (by decide) 2).trans hi_44)))
      have e_136 : μ111.1 23 8 = tt := (hs_124.trans ((F_85.1 23 (ni hprP (fun P => 23) (fun P => [P, P + 1]) rfl) 8).trans ((F_63.1 23 (by decide) 8).trans hi_48)))
      refine xc_iV G (b := 23) (rest := [.int (iv 0), .int (iv (μL32.1 26 12)), .int (iv 7), .ref (oP ω 23)]) (As := [.int (iv r_84), .int (iv 1)]) (c_X7_ifFails ω l μ111 r_84 1 μ ((1 - x1) + (1 - 0)) (1 - x1) P tt (by unfold ir; omega) (by unfold ir; omega) hI_113 (by omega) (by omega) (by omega) hpx_134 (by omega) (by omega)) (wm 4 23 rfl rfl) (wm 4 25 rfl rfl) (wm 0 29 rfl rfl) rfl rfl (by decide) rfl (wm 1 12 rfl rfl) (wm 4 26 rfl rfl) (by decide) hR ⟨nfr hF (by decide), nlo hLo (by decide)⟩ (n := 2) rfl rfl (Nat.le_of_ble_eq_true rfl) hl.1 dX7_sum_75 (fun r_138 μ137 ρ d0 H locs hr_r_138 hp G => ?_)
      have hr_r_138 : -2147483648 ≤ r_138 ∧ r_138 ≤ 2147483647 := hr_r_138
      obtain ⟨F_139, hI_140, hp_141, hp_142, hs_143⟩ := hp
      have hk_144 := hI_140.pr (p := P) hprP
      unfold pk at hk_144
      have hc_145 : 16 ≤ μ137.2.1 (P + 1) ∧ μ137.2.1 (P + 1) ≤ 73024 := hI_140.rm.1 _ hprP.cap
      have hpx_146 : μ137.1 26 11 = 0 → PXE μ μ137 P tt ((1 - x1) + (1 - 0)) r_138 (1 - x1) := fun h0 => hp_141 (by have h9 : μ111.1 26 11 = μ111.1 26 11 := rfl; have h8 : μ137.1 26 11 = μ111.1 26 11 := (F_139.1 26 (ni hprP (fun P => 26) (fun P => [P, P + 1]) rfl) 11); omega)
      clear hp_141
      have e_147 : μ137.1 23 2 = P := ((F_139.1 23 (ni hprP (fun P => 23) (fun P => [P, P + 1]) rfl) 2).trans (hs_120.trans ((F_85.1 23 (ni hprP (fun P => 23) (fun P => [P, P + 1]) rfl) 2).trans ((F_63.1 23 (by decide) 2).trans hi_44))))
      have e_148 : μ137.1 23 8 = tt := ((F_139.1 23 (ni hprP (fun P => 23) (fun P => [P, P + 1]) rfl) 8).trans (hs_124.trans ((F_85.1 23 (ni hprP (fun P => 23) (fun P => [P, P + 1]) rfl) 8).trans ((F_63.1 23 (by decide) 8).trans hi_48))))
      refine xc_vV G (b := 23) (rest := []) (As := [.int (iv 7), .int (iv (μL32.1 26 12)), .int (iv 0), .int (iv r_138)]) (c_X7_endOfParts ω l μ137 7 (μL32.1 26 12) 0 r_138 μ ((1 - x1) + (1 - 0)) (1 - x1) P tt (by unfold ir; omega) (by unfold ir; omega) (by unfold ir; omega) (by unfold ir; omega) hI_140 (by omega) (by omega) (by omega) hpx_146 (Or.inl (by unfold plain; omega)) (by omega) (by rw [show eff 7 (μL32.1 26 12) = -1 from rfl]; omega)) (wm 4 27 rfl rfl) (wm 4 29 rfl rfl) (wm 0 30 rfl rfl) rfl rfl (by decide) rfl (wm 1 12 rfl rfl) (wm 4 30 rfl rfl) (by decide) hR ⟨nfr hF (by decide), nlo hLo (by decide)⟩ (n := 4) rfl rfl (Nat.le_of_ble_eq_true rfl) hl.1 dX7_sum_78 (fun μ149 ρ d0 H locs hp G => ?_)
      obtain ⟨F_150, hI_151, hp_152, hs_153, hs_154⟩ := hp
      have hpx_155 : μ149.1 26 11 = 0 → PXE μ μ149 P tt (1 - x1) (-1) (1 - x1) := fun h0 => PXE.of (hp_152 (by have h9 : μ137.1 26 11 = μ111.1 26 11 := (F_139.1 26 (ni hprP (fun P => 26) (fun P => [P, P + 1]) rfl) 11); have h8 : μ149.1 26 11 = μ111.1 26 11 := ((F_150.1 26 (ni hprP (fun P => 26) (fun P => [P, P + 1]) rfl) 11).trans (F_139.1 26 (ni hprP (fun P => 26) (fun P => [P, P + 1]) rfl) 11)); omega))
      clear hp_152
      refine lv_iinc (v := iv (i9 + 1)) (lv' := [(2, .int (iv (i9 + 1))), (4, .int (iv r_84)), (3, .int (iv (μL32.1 26 12))), (0, .ref (oP ω 23)), (1, .int (iv x1))]) hx hb dX7_sum_81 hl (k := 2) rfl (by rw [show Int32.ofInt 1 = iv 1 from rfl, iv_add]) (by decide) rfl (fun ls hl => ?_)
      refine lv_goto (tgt := 7) hx hb dX7_sum_84 (by decide) ?_
      have htk_156 : TK μ149 := hp_114.fr (K := [P, P + 1]) (Fr.tr (Fr.tr Fr.rf F_139 (si hprP (fun P => [P, P + 1]) (fun P => [P, P + 1]) rfl)) F_150 (si hprP (fun P => [P, P + 1]) (fun P => [P, P + 1]) rfl)) (ni hprP (fun P => 26) (fun P => [P, P + 1]) rfl) (ni hprP (fun P => 28) (fun P => [P, P + 1]) rfl) (ni hprP (fun P => 29) (fun P => [P, P + 1]) rfl)
      have e_157 : μ149.1 26 11 = μ111.1 26 11 := ((F_150.1 26 (ni hprP (fun P => 26) (fun P => [P, P + 1]) rfl) 11).trans (F_139.1 26 (ni hprP (fun P => 26) (fun P => [P, P + 1]) rfl) 11))
      have e_158 : μ149.1 26 10 = μ111.1 26 10 := ((F_150.1 26 (ni hprP (fun P => 26) (fun P => [P, P + 1]) rfl) 10).trans (F_139.1 26 (ni hprP (fun P => 26) (fun P => [P, P + 1]) rfl) 10))
      have e_159 : μ149.1 P 1 = μ137.1 P 1 + 1 := hs_153
      have e_160 : μ149.1 P 1 = μ137.1 P 1 + 1 := hs_153
      have e_161 : μ149.1 26 10 = μ111.1 26 10 := ((F_150.1 26 (ni hprP (fun P => 26) (fun P => [P, P + 1]) rfl) 10).trans (F_139.1 26 (ni hprP (fun P => 26) (fun P => [P, P + 1]) rfl) 10))
      have e_162 : μ149.1 26 11 = μ111.1 26 11 := ((F_150.1 26 (ni hprP (fun P => 26) (fun P => [P, P + 1]) rfl) 11).trans (F_139.1 26 (ni hprP (fun P => 26) (fun P => [P, P + 1]) rfl) 11))
      have e_163 : μ149.1 (P + 2) 3 = μ111.1 (P + 2) 3 := ((F_150.1 (P + 2) (ni hprP (fun P => P + 2) (fun P => [P, P + 1]) rfl) 3).trans (F_139.1 (P + 2) (ni hprP (fun P => P + 2) (fun P => [P, P + 1]) rfl) 3))
      have e_164 : μ149.1 P 1 = μ137.1 P 1 + 1 := hs_153
      have e_165 : μ149.1 (P + 2) 3 = μ111.1 (P + 2) 3 := ((F_150.1 (P + 2) (ni hprP (fun P => P + 2) (fun P => [P, P + 1]) rfl) 3).trans (F_139.1 (P + 2) (ni hprP (fun P => P + 2) (fun P => [P, P + 1]) rfl) 3))
      have e_166 : μ149.1 23 9 = μL32.1 23 9 := ((F_150.1 23 (ni hprP (fun P => 23) (fun P => [P, P + 1]) rfl) 9).trans ((F_139.1 23 (ni hprP (fun P => 23) (fun P => [P, P + 1]) rfl) 9).trans (hs_125.trans ((F_85.1 23 (ni hprP (fun P => 23) (fun P => [P, P + 1]) rfl) 9).trans (F_63.1 23 (by decide) 9)))))
      exact ih _ _ _ _ _ _ _ (by omega) ⟨i9 + 1, (Fr.tr (Fr.tr (Fr.tr (Fr.tr (Fr.tr FL33 F_63 (si hprP (fun P => [26]) (fun P => [2, 3, 4, 23, 24, 26, P, P + 1, P + 2, (P + 2) + 1, (P + 2) + 2, (P + 2) + 3]) rfl)) F_85 (si hprP (fun P => [P, P + 1]) (fun P => [2, 3, 4, 23, 24, 26, P, P + 1, P + 2, (P + 2) + 1, (P + 2) + 2, (P + 2) + 3]) rfl)) F_112 (si hprP (fun P => [2, 3, 4, 23, 24, 26, P, P + 1, P + 2, (P + 2) + 1, (P + 2) + 2, (P + 2) + 3]) (fun P => [2, 3, 4, 23, 24, 26, P, P + 1, P + 2, (P + 2) + 1, (P + 2) + 2, (P + 2) + 3]) rfl)) F_139 (si hprP (fun P => [P, P + 1]) (fun P => [2, 3, 4, 23, 24, 26, P, P + 1, P + 2, (P + 2) + 1, (P + 2) + 2, (P + 2) + 3]) rfl)) F_150 (si hprP (fun P => [P, P + 1]) (fun P => [2, 3, 4, 23, 24, 26, P, P + 1, P + 2, (P + 2) + 1, (P + 2) + 2, (P + 2) + 3]) rfl)), (by omega), (by omega), htk_156, (by omega), (by omega), (by omega), (by omega), (by omega), (fun h0 => (PXE.ex (hpx_155 h0)).e (by omega)), ((F_150.1 23 (ni hprP (fun P => 23) (fun P => [P, P + 1]) rfl) 2).trans ((F_139.1 23 (ni hprP (fun P => 23) (fun P => [P, P + 1]) rfl) 2).trans (hs_120.trans ((F_85.1 23 (ni hprP (fun P => 23) (fun P => [P, P + 1]) rfl) 2).trans ((F_63.1 23 (by decide) 2).trans hi_44))))), ((F_150.1 23 (ni hprP (fun P => 23) (fun P => [P, P + 1]) rfl) 5).trans ((F_139.1 23 (ni hprP (fun P => 23) (fun P => [P, P + 1]) rfl) 5).trans (hs_121.trans ((F_85.1 23 (ni hprP (fun P => 23) (fun P => [P, P + 1]) rfl) 5).trans ((F_63.1 23 (by decide) 5).trans hi_45))))), ((F_150.1 23 (ni hprP (fun P => 23) (fun P => [P, P + 1]) rfl) 6).trans ((F_139.1 23 (ni hprP (fun P => 23) (fun P => [P, P + 1]) rfl) 6).trans (hs_122.trans ((F_85.1 23 (ni hprP (fun P => 23) (fun P => [P, P + 1]) rfl) 6).trans ((F_63.1 23 (by decide) 6).trans hi_46))))), ((F_150.1 23 (ni hprP (fun P => 23) (fun P => [P, P + 1]) rfl) 7).trans ((F_139.1 23 (ni hprP (fun P => 23) (fun P => [P, P + 1]) rfl) 7).trans (hs_123.trans ((F_85.1 23 (ni hprP (fun P => 23) (fun P => [P, P + 1]) rfl) 7).trans ((F_63.1 23 (by decide) 7).trans hi_47))))), ((F_150.1 23 (ni hprP (fun P => 23) (fun P => [P, P + 1]) rfl) 8).trans ((F_139.1 23 (ni hprP (fun P => 23) (fun P => [P, P + 1]) rfl) 8).trans (hs_124.trans ((F_85.1 23 (ni hprP (fun P => 23) (fun P => [P, P + 1]) rfl) 8).trans ((F_63.1 23 (by decide) 8).trans hi_48))))), ((F_150.1 23 (ni hprP (fun P => 23) (fun P => [P, P + 1]) rfl) 10).trans ((F_139.1 23 (ni hprP (fun P => 23) (fun P => [P, P + 1]) rfl) 10).trans (hs_126.trans ((F_85.1 23 (ni hprP (fun P => 23) (fun P => [P, P + 1]) rfl) 10).trans ((F_63.1 23 (by decide) 10).trans hi_49))))), ((F_150.1 26 (ni hprP (fun P => 26) (fun P => [P, P + 1]) rfl) 6).trans ((F_139.1 26 (ni hprP (fun P => 26) (fun P => [P, P + 1]) rfl) 6).trans (hs_127.trans ((F_85.1 26 (ni hprP (fun P => 26) (fun P => [P, P + 1]) rfl) 6).trans (hs_68.trans hi_50))))), (hs_154.trans (hs_143.trans (hs_128.trans (hs_89.trans ((F_63.1 P (ni hprP (fun P => P) (fun P => [26]) rfl) 7).trans hi_51))))), hI_151, rfl, lv_sub hl [0, 3, 4] rfl⟩ G
    · skip
      refine lv_aload_n hx hb dX7_sum_14 rfl (lv_at hl 1 rfl) ?_
      refine xa_getr G fd_X7 (a := 23) (x := 26) 0 rfl (by decide) rfl (wm 2 17 rfl rfl) ⟨rfl, rfl, rfl⟩ dX7_sum_15 rfl (G.sk 23 rfl) (by decide) rfl ?_
      refine xa_getN G fd_X10 (host := "FourTongues") (a := 26) 12 rfl (by decide) (by decide) ⟨rfl, rfl, rfl⟩ dX7_sum_18 rfl (v := .int (iv (μL32.1 26 12))) (by rw [show μL32.1 26 12 = μL32.1 26 12 from rfl]; rfl) ?_
      have hr_167 : -2147483648 ≤ μL32.1 26 12 ∧ μL32.1 26 12 ≤ 2147483647 := by have h9 := G.hr (a := 26) (k := 12) rfl; exact h9
      refine lv_bipush (v := iv 43) hx hb dX7_sum_21 rfl ?_
      refine xb_icmp_eq (tgt := 38) hx hb (by unfold ir; omega) (by unfold ir; omega) dX7_sum_23 (by decide) (fun c_23 => ?_) (fun c_23 => ?_)
      · exact kont_38 (μL32.1 26 12) (by omega)
      · refine lv_aload_n hx hb dX7_sum_26 rfl (lv_at hl 1 rfl) ?_
        refine xa_getr G fd_X7 (a := 23) (x := 26) 0 rfl (by decide) rfl (wm 2 17 rfl rfl) ⟨rfl, rfl, rfl⟩ dX7_sum_27 rfl (G.sk 23 rfl) (by decide) rfl ?_
        refine xa_getN G fd_X10 (host := "FourTongues") (a := 26) 12 rfl (by decide) (by decide) ⟨rfl, rfl, rfl⟩ dX7_sum_30 rfl (v := .int (iv (μL32.1 26 12))) (by rw [show μL32.1 26 12 = μL32.1 26 12 from rfl]; rfl) ?_
        refine lv_bipush (v := iv 45) hx hb dX7_sum_33 rfl ?_
        refine xb_icmp_ne (tgt := 87) hx hb (by unfold ir; omega) (by unfold ir; omega) dX7_sum_35 (by decide) (fun c_35 => ?_) (fun c_35 => ?_)
        · exact xr_v G hret hlk dX7_sum_87 ⟨(Fr.tr (Fr.tr Fr.rf F_8 (si hprP (fun P => [2, 3, 4, 23, 24, 26, P, P + 1, P + 2, (P + 2) + 1, (P + 2) + 2, (P + 2) + 3]) (fun P => [2, 3, 4, 23, 24, 26, P, P + 1, P + 2, (P + 2) + 1, (P + 2) + 2, (P + 2) + 3]) rfl)) FL33 (si hprP (fun P => [2, 3, 4, 23, 24, 26, P, P + 1, P + 2, (P + 2) + 1, (P + 2) + 2, (P + 2) + 3]) (fun P => [2, 3, 4, 23, 24, 26, P, P + 1, P + 2, (P + 2) + 1, (P + 2) + 2, (P + 2) + 3]) rfl)), hi_52, hi_37, (by omega), (by omega), (by omega), (by omega), (fun h0 => (PXE.ex (hpx_54 h0)).e (by omega)), (hi_44).trans hP, hi_45, hi_46, hi_47, (hi_48).trans htt, (by omega), hi_49, hi_50, hi_51⟩
        · exact kont_38 (μL32.1 26 12) (by omega)

set_option maxHeartbeats 4000000 in
set_option maxRecDepth 100000 in
theorem c_X7_comparison (ω : Om) (l : Launch) (μ : M3) (x1 : Int) (F : Nat) (Lo : Nat) (Fu : Nat) (Lu : Nat) (kf : Int) (P : Int) (tt : Int) (hx1 : x1 = 0 ∨ x1 = 1) (hI : IC μ) (hP : P = μ.1 23 2) (htt : tt = μ.1 23 8) (hF : 60 ≤ F) (hLo : 2000 ≤ Lo) (hFu : Fu ≤ F) (hLu : Lu ≤ Lo) (hE : ∀ (μ : M3) (x1 : Int) (P : Int) (tt : Int) (hx1 : x1 = 0 ∨ x1 = 1) (hI : IC μ) (hP : P = μ.1 23 2) (htt : tt = μ.1 23 8) (hTK : TK μ) (hB : 2 * μ.1 P 1 ≤ 5 * μ.1 26 10 + 200 + 80 * μ.1 26 11) (hKc : μ.1 (P + 2) 3 ≤ μ.1 P 1) (ht3 : 0 ≤ tt ∧ tt ≤ 3) (hdp : 0 ≤ μ.1 23 9 ∧ μ.1 23 9 ≤ 8 + μ.1 26 11) (hfu : 0 ≤ (kf - 1) ∧ 9 ≤ μ.1 23 9 + (kf - 1) + 20 * μ.1 26 11) (hbg : ∀ _ : Unit, x1 = 0 ∨ μ.1 26 11 ≠ 0 ∨ 2 ≤ hs μ P (μ.1 P 1)), CtV ω l yX7_expression cX7_expression 3 (F + 0) (Lo + 0) [.ref (oP ω 23), .int (iv x1)] μ (fun (μ' : M3) => (Fr [2, 3, 4, 23, 24, 26, P, P + 1, P + 2, (P + 2) + 1, (P + 2) + 2, (P + 2) + 3] μ μ') ∧ (IC μ') ∧ (TK μ') ∧ (μ.1 26 11 ≤ μ'.1 26 11) ∧ (μ.1 26 10 ≤ μ'.1 26 10) ∧ (μ.1 P 1 ≤ μ'.1 P 1 ∧ μ'.1 P 1 ≤ μ.1 P 1 + 2 * (μ'.1 26 10 - μ.1 26 10) + (- 1 + 3 * μ'.1 26 11 - 2 * μ.1 26 11 + x1)) ∧ (μ'.1 (P + 2) 3 - μ.1 (P + 2) 3 ≤ μ'.1 P 1 - μ.1 P 1 ∧ μ.1 (P + 2) 3 ≤ μ'.1 (P + 2) 3) ∧ (μ'.1 26 11 = 0 → EX μ μ' P tt (1 - x1) 0) ∧ (μ'.1 23 2 = μ.1 23 2) ∧ (μ'.1 23 5 = μ.1 23 5) ∧ (μ'.1 23 6 = μ.1 23 6) ∧ (μ'.1 23 7 = μ.1 23 7) ∧ (μ'.1 23 8 = μ.1 23 8) ∧ (μ'.1 23 9 = μ.1 23 9) ∧ (μ'.1 23 10 = μ.1 23 10) ∧ (μ'.1 26 6 = μ.1 26 6) ∧ (μ'.1 P 7 = μ.1 P 7))) (hU : ∀ (μ : M3) (x1 : Int) (P : Int) (tt : Int) (hx1 : x1 = 0 ∨ x1 = 1) (hI : IC μ) (hP : P = μ.1 23 2) (htt : tt = μ.1 23 8) (hTK : TK μ) (hB : 2 * μ.1 P 1 ≤ 5 * μ.1 26 10 + 200 + 80 * μ.1 26 11) (hKc : μ.1 (P + 2) 3 ≤ μ.1 P 1) (ht3 : 0 ≤ tt ∧ tt ≤ 3) (hdp : 0 ≤ μ.1 23 9 ∧ μ.1 23 9 ≤ 8 + μ.1 26 11) (hfu : 0 ≤ (kf - 1) ∧ 9 ≤ μ.1 23 9 + (kf - 1) + 20 * μ.1 26 11) (hbg : ∀ _ : Unit, x1 = 0 ∨ μ.1 26 11 ≠ 0 ∨ 2 ≤ hs μ P (μ.1 P 1)), CtV ω l yX7_unary cX7_unary 2 (Fu + 0) (Lu + 0) [.ref (oP ω 23), .int (iv x1)] μ (fun (μ' : M3) => (Fr [2, 3, 4, 23, 24, 26, P, P + 1, P + 2, (P + 2) + 1, (P + 2) + 2, (P + 2) + 3] μ μ') ∧ (IC μ') ∧ (TK μ') ∧ (μ.1 26 11 ≤ μ'.1 26 11) ∧ (μ.1 26 10 ≤ μ'.1 26 10) ∧ (μ.1 P 1 ≤ μ'.1 P 1 ∧ μ'.1 P 1 ≤ μ.1 P 1 + 2 * (μ'.1 26 10 - μ.1 26 10) + (- 1 + 3 * μ'.1 26 11 - 2 * μ.1 26 11 + x1)) ∧ (μ'.1 (P + 2) 3 - μ.1 (P + 2) 3 ≤ μ'.1 P 1 - μ.1 P 1 ∧ μ.1 (P + 2) 3 ≤ μ'.1 (P + 2) 3) ∧ (μ'.1 26 11 = 0 → EX μ μ' P tt (1 - x1) 0) ∧ (μ'.1 23 2 = μ.1 23 2) ∧ (μ'.1 23 5 = μ.1 23 5) ∧ (μ'.1 23 6 = μ.1 23 6) ∧ (μ'.1 23 7 = μ.1 23 7) ∧ (μ'.1 23 8 = μ.1 23 8) ∧ (μ'.1 23 9 = μ.1 23 9) ∧ (μ'.1 23 10 = μ.1 23 10) ∧ (μ'.1 26 6 = μ.1 26 6) ∧ (μ'.1 P 7 = μ.1 P 7))) (hTK : TK μ) (hB : 2 * μ.1 P 1 ≤ 5 * μ.1 26 10 + 200 + 80 * μ.1 26 11) (hKc : μ.1 (P + 2) 3 ≤ μ.1 P 1) (ht3 : 0 ≤ tt ∧ tt ≤ 3) (hdp : 0 ≤ μ.1 23 9 ∧ μ.1 23 9 ≤ 8 + μ.1 26 11) (hfu : 0 ≤ kf ∧ 9 ≤ μ.1 23 9 + kf + 20 * μ.1 26 11) (hbg : ∀ _ : Unit, x1 = 0 ∨ μ.1 26 11 ≠ 0 ∨ 2 ≤ hs μ P (μ.1 P 1)) : CtV ω l yX7_comparison cX7_comparison 4 (F + 8) (Lo + 183) [.ref (oP ω 23), .int (iv x1)] μ (fun (μ' : M3) => (Fr [2, 3, 4, 23, 24, 26, P, P + 1, P + 2, (P + 2) + 1, (P + 2) + 2, (P + 2) + 3] μ μ') ∧ (IC μ') ∧ (TK μ') ∧ (μ.1 26 11 ≤ μ'.1 26 11) ∧ (μ.1 26 10 ≤ μ'.1 26 10) ∧ (μ.1 P 1 ≤ μ'.1 P 1 ∧ μ'.1 P 1 ≤ μ.1 P 1 + 2 * (μ'.1 26 10 - μ.1 26 10) + (- 1 + 3 * μ'.1 26 11 - 2 * μ.1 26 11 + x1)) ∧ (μ'.1 (P + 2) 3 - μ.1 (P + 2) 3 ≤ μ'.1 P 1 - μ.1 P 1 ∧ μ.1 (P + 2) 3 ≤ μ'.1 (P + 2) 3) ∧ (μ'.1 26 11 = 0 → EX μ μ' P tt (1 - x1) 0) ∧ (μ'.1 23 2 = μ.1 23 2) ∧ (μ'.1 23 5 = μ.1 23 5) ∧ (μ'.1 23 6 = μ.1 23 6) ∧ (μ'.1 23 7 = μ.1 23 7) ∧ (μ'.1 23 8 = μ.1 23 8) ∧ (μ'.1 23 9 = μ.1 23 9) ∧ (μ'.1 23 10 = μ.1 23 10) ∧ (μ'.1 26 6 = μ.1 26 6) ∧ (μ'.1 P 7 = μ.1 P 7)) := by
  refine CtV.go (by decide) (Nat.le_of_ble_eq_true rfl) (fun ρ p e s m below meth c R ls G hR hret hlk hl => ?_)
  have hx := G.1.1
  have hb := G.1.2.1
  have hl : lv_has ls 4 [(0, .ref (oP ω 23)), (1, .int (iv x1))] := hl
  generalize s.drawn = d0 at G ⊢
  have hTKb := hTK.b
  have hprP : isPr P := by have h9 := G.sr0.2.2.2.2.2; rw [← hP] at h9; exact h9
  have hprP_d : 13 ≤ P ∧ P ≤ 101 := by rcases hprP with h9 | h9 | h9 | h9 | h9 <;> omega
  have hk_1 := hI.pr (p := P) hprP
  unfold pk at hk_1
  have hc_2 : 16 ≤ μ.2.1 (P + 1) ∧ μ.2.1 (P + 1) ≤ 73024 := hI.rm.1 _ hprP.cap
  have hx1l : 0 ≤ x1 ∧ x1 ≤ 1 := by omega
  clear hx1
  have hnil : μ.1 26 11 = 0 → PXE μ μ P tt 0 (-1) (1 - x1) := fun _ => PXE.nil (by omega)
  refine lv_aload_n hx hb dX7_comparison_0 rfl (lv_at hl 0 rfl) ?_
  refine lv_iload_n hx hb dX7_comparison_1 rfl (lv_at hl 1 rfl) ?_
  have e_3 : μ.1 23 2 = P := hP.symm
  have e_4 : μ.1 23 8 = tt := htt.symm
  have hn_5 : -1 ≤ μ.1 26 10 ∧ μ.1 26 10 ≤ 3000 := hI.nm.2.2.2.2.2.2.2.2.2.2.2.2
  have hk_6 := hI.row (r := P + 2) (hprP.row)
  unfold rk at hk_6
  refine xc_vV G (b := 23) (rest := []) (As := [.int (iv x1)]) (c_X7_sum ω l μ x1 F Lo Fu Lu kf P tt (by omega) hI (by omega) (by omega) hF hLo hFu hLu hE hU hTK (by omega) (by omega) (by omega) (by omega) (by omega) hbg) (wm 4 11 rfl rfl) (wm 4 13 rfl rfl) (wm 0 26 rfl rfl) rfl rfl (by decide) rfl (wm 1 12 rfl rfl) (wm 4 14 rfl rfl) (by decide) hR ⟨sfr (F := F) (a := 7) (by decide), slo (L := Lo) (m := 5) (a := 159) (by decide)⟩ (n := 1) rfl rfl (Nat.le_of_ble_eq_true rfl) hl.1 dX7_comparison_2 (fun μ7 ρ d0 H locs hp G => ?_)
  obtain ⟨F_8, hI_9, hp_10, hp_11, hp_12, hp_13, hp_14, hp_15, hs_16, hs_17, hs_18, hs_19, hs_20, hs_21, hs_22, hs_23, hs_24⟩ := hp
  have hn_25 : -1 ≤ μ7.1 26 10 ∧ μ7.1 26 10 ≤ 3000 := hI_9.nm.2.2.2.2.2.2.2.2.2.2.2.2
  have hk_26 := hI_9.pr (p := P) hprP
  unfold pk at hk_26
  have hc_27 : 16 ≤ μ7.2.1 (P + 1) ∧ μ7.2.1 (P + 1) ≤ 73024 := hI_9.rm.1 _ hprP.cap
  have hk_28 := hI_9.row (r := P + 2) (hprP.row)
  unfold rk at hk_28
  have htb_29 := hp_10.b
  have hpx_30 : μ7.1 26 11 = 0 → PXE μ μ7 P tt (0 + (1 - x1)) (-1) (1 - x1) := fun h0 => (PXE.app (hnil (by have h9 : μ.1 26 11 = μ.1 26 11 := rfl; have h8 : μ7.1 26 11 = μ7.1 26 11 := rfl; omega)) (hp_15 h0)).e (by omega)
  refine lv_aload_n hx hb dX7_comparison_5 rfl (lv_at hl 0 rfl) ?_
  refine xa_getr G fd_X7 (a := 23) (x := 26) 0 rfl (by decide) rfl (wm 2 17 rfl rfl) ⟨rfl, rfl, rfl⟩ dX7_comparison_6 rfl (G.sk 23 rfl) (by decide) rfl ?_
  refine xa_getN G fd_X10 (host := "FourTongues") (a := 26) 12 rfl (by decide) (by decide) ⟨rfl, rfl, rfl⟩ dX7_comparison_9 rfl (v := .int (iv (μ7.1 26 12))) (by rw [show μ7.1 26 12 = μ7.1 26 12 from rfl]; rfl) ?_
  have hr_31 : -2147483648 ≤ μ7.1 26 12 ∧ μ7.1 26 12 ≤ 2147483647 := by have h9 := G.hr (a := 26) (k := 12) rfl; exact h9
  refine lv_istore_n (lv' := [(2, .int (iv (μ7.1 26 12))), (0, .ref (oP ω 23)), (1, .int (iv x1))]) hx hb dX7_comparison_12 rfl hl (by decide) rfl (fun ls hl => ?_)
  refine xj (pc2 := 39) (st2 := fun v_32 => []) (C := fun v_32 => v_32 = μ7.1 26 12 ∧ 37 ≤ v_32) (fun v_32 hv_v_32 => ?_) (fun kont_39 => ?_)
  · skip
    refine lv_aload_n hx hb dX7_comparison_39 rfl (lv_at hl 1 rfl) ?_
    refine xa_getr G fd_X7 (a := 23) (x := 26) 0 rfl (by decide) rfl (wm 2 17 rfl rfl) ⟨rfl, rfl, rfl⟩ dX7_comparison_40 rfl (G.sk 23 rfl) (by decide) rfl ?_
    have hn_33 : 0 ≤ μ.1 26 6 ∧ μ.1 26 6 ≤ 3001 := hI.nm.2.2.2.2.2.2.2.2.2.1
    have e_34 : μ7.1 26 6 = μ.1 26 6 := hs_23
    have e_35 : μ7.1 26 6 = μ.1 26 6 := hs_23
    have e_36 : μ7.1 26 6 = μ.1 26 6 := hs_23
    refine xc_vV G (b := 26) (rest := []) (As := []) (c_X10_next ω l μ7  hI_9 (by omega) (by omega)) (wm 3 164 rfl rfl) (wm 3 157 rfl rfl) (wm 3 158 rfl rfl) rfl rfl (by decide) rfl (wm 1 13 rfl rfl) (wm 3 159 rfl rfl) (by decide) hR ⟨nfr hF (by decide), nlo hLo (by decide)⟩ (n := 0) rfl rfl (Nat.le_of_ble_eq_true rfl) hl.1 dX7_comparison_43 (fun μ37 ρ d0 H locs hp G => ?_)
    obtain ⟨F_38, hI_39, hp_40, hp_41, hs_42, hs_43, hs_44, hs_45, hs_46⟩ := hp
    have hn_47 : -1 ≤ μ37.1 26 10 ∧ μ37.1 26 10 ≤ 3000 := hI_39.nm.2.2.2.2.2.2.2.2.2.2.2.2
    obtain ⟨htk_48, htk_48_s, htk_48_n⟩ := TK.nx hp_10 F_38 (((hs_43.trans hs_23)).trans (hs_23).symm) hs_42 (by have h9 : μ7.1 26 12 = μ7.1 26 12 := rfl; omega) hp_40 hp_41
    clear hp_40 hp_41
    have htb_49 := htk_48.b
    refine lv_aload_n hx hb dX7_comparison_46 rfl (lv_at hl 1 rfl) ?_
    refine lv_iconst (v := iv (-1)) hx hb dX7_comparison_47 rfl ?_
    refine lv_iconst (v := iv 0) hx hb dX7_comparison_48 rfl ?_
    have hpx_50 : μ37.1 26 11 = 0 → PXE μ μ37 P tt (0 + (1 - x1)) (-1) (1 - x1) := fun h0 => (hpx_30 (by have h9 : μ7.1 26 11 = μ7.1 26 11 := rfl; have h8 : μ37.1 26 11 = μ7.1 26 11 := hs_42; omega)).fr (K := [26]) (Fr.tr Fr.rf F_38 (by decide)) (npL_p (L := [26]) (by decide) hprP).1 (npL_p (L := [26]) (by decide) hprP).2.1
    have e_51 : μ37.1 23 2 = P := ((F_38.1 23 (by decide) 2).trans (hs_16.trans hP.symm))
    have e_52 : μ37.1 23 8 = tt := ((F_38.1 23 (by decide) 8).trans (hs_20.trans htt.symm))
    have e_53 : μ37.1 P 1 = μ7.1 P 1 := (F_38.1 P (ni hprP (fun P => P) (fun P => [26]) rfl) 1)
    have e_54 : μ37.1 P 1 = μ7.1 P 1 := (F_38.1 P (ni hprP (fun P => P) (fun P => [26]) rfl) 1)
    have e_55 : μ37.1 P 1 = μ7.1 P 1 := (F_38.1 P (ni hprP (fun P => P) (fun P => [26]) rfl) 1)
    refine xc_iV G (b := 23) (rest := []) (As := [.int (iv (-1)), .int (iv 0)]) (c_X7_ifFails ω l μ37 (-1) 0 μ (0 + (1 - x1)) (1 - x1) P tt (by unfold ir; omega) (by unfold ir; omega) hI_39 (by omega) (by omega) (by omega) hpx_50 (by omega) (by omega)) (wm 4 23 rfl rfl) (wm 4 25 rfl rfl) (wm 0 29 rfl rfl) rfl rfl (by decide) rfl (wm 1 12 rfl rfl) (wm 4 26 rfl rfl) (by decide) hR ⟨nfr hF (by decide), nlo hLo (by decide)⟩ (n := 2) rfl rfl (Nat.le_of_ble_eq_true rfl) hl.1 dX7_comparison_49 (fun r_57 μ56 ρ d0 H locs hr_r_57 hp G => ?_)
    have hr_r_57 : -2147483648 ≤ r_57 ∧ r_57 ≤ 2147483647 := hr_r_57
    obtain ⟨F_58, hI_59, hp_60, hp_61, hs_62⟩ := hp
    have hk_63 := hI_59.pr (p := P) hprP
    unfold pk at hk_63
    have hc_64 : 16 ≤ μ56.2.1 (P + 1) ∧ μ56.2.1 (P + 1) ≤ 73024 := hI_59.rm.1 _ hprP.cap
    have hpx_65 : μ56.1 26 11 = 0 → PXE μ μ56 P tt (0 + (1 - x1)) r_57 (1 - x1) := fun h0 => hp_60 (by have h9 : μ37.1 26 11 = μ7.1 26 11 := hs_42; have h8 : μ56.1 26 11 = μ7.1 26 11 := ((F_58.1 26 (ni hprP (fun P => 26) (fun P => [P, P + 1]) rfl) 11).trans hs_42); omega)
    clear hp_60
    refine lv_istore_n (lv' := [(3, .int (iv r_57)), (2, .int (iv (μ7.1 26 12))), (0, .ref (oP ω 23)), (1, .int (iv x1))]) hx hb dX7_comparison_52 rfl hl (by decide) rfl (fun ls hl => ?_)
    refine lv_aload_n hx hb dX7_comparison_53 rfl (lv_at hl 2 rfl) ?_
    refine lv_iconst (v := iv 0) hx hb dX7_comparison_54 rfl ?_
    have e_66 : μ56.1 23 2 = P := ((F_58.1 23 (ni hprP (fun P => 23) (fun P => [P, P + 1]) rfl) 2).trans ((F_38.1 23 (by decide) 2).trans (hs_16.trans hP.symm)))
    have e_67 : μ56.1 23 8 = tt := ((F_58.1 23 (ni hprP (fun P => 23) (fun P => [P, P + 1]) rfl) 8).trans ((F_38.1 23 (by decide) 8).trans (hs_20.trans htt.symm)))
    have htk_68 : TK μ56 := htk_48.fr (K := [P, P + 1]) (Fr.tr Fr.rf F_58 (si hprP (fun P => [P, P + 1]) (fun P => [P, P + 1]) rfl)) (ni hprP (fun P => 26) (fun P => [P, P + 1]) rfl) (ni hprP (fun P => 28) (fun P => [P, P + 1]) rfl) (ni hprP (fun P => 29) (fun P => [P, P + 1]) rfl)
    have e_69 : μ56.1 26 10 = μ37.1 26 10 := (F_58.1 26 (ni hprP (fun P => 26) (fun P => [P, P + 1]) rfl) 10)
    have e_70 : μ56.1 26 11 = μ7.1 26 11 := ((F_58.1 26 (ni hprP (fun P => 26) (fun P => [P, P + 1]) rfl) 11).trans hs_42)
    have e_71 : μ56.1 (P + 2) 3 = μ7.1 (P + 2) 3 := ((F_58.1 (P + 2) (ni hprP (fun P => P + 2) (fun P => [P, P + 1]) rfl) 3).trans (F_38.1 (P + 2) (ni hprP (fun P => P + 2) (fun P => [26]) rfl) 3))
    have e_72 : μ56.1 23 9 = μ.1 23 9 := ((F_58.1 23 (ni hprP (fun P => 23) (fun P => [P, P + 1]) rfl) 9).trans ((F_38.1 23 (by decide) 9).trans hs_21))
    have e_73 : μ56.1 23 9 = μ.1 23 9 := ((F_58.1 23 (ni hprP (fun P => 23) (fun P => [P, P + 1]) rfl) 9).trans ((F_38.1 23 (by decide) 9).trans hs_21))
    have e_74 : μ56.1 26 11 = μ7.1 26 11 := ((F_58.1 26 (ni hprP (fun P => 26) (fun P => [P, P + 1]) rfl) 11).trans hs_42)
    have e_75 : μ56.1 23 9 = μ.1 23 9 := ((F_58.1 23 (ni hprP (fun P => 23) (fun P => [P, P + 1]) rfl) 9).trans ((F_38.1 23 (by decide) 9).trans hs_21))
    have e_76 : μ56.1 26 11 = μ7.1 26 11 := ((F_58.1 26 (ni hprP (fun P => 26) (fun P => [P, P + 1]) rfl) 11).trans hs_42)
    have e_77 : μ56.1 26 11 = μ7.1 26 11 := ((F_58.1 26 (ni hprP (fun P => 26) (fun P => [P, P + 1]) rfl) 11).trans hs_42)
    have e_78 : μ56.1 26 10 = μ37.1 26 10 := (F_58.1 26 (ni hprP (fun P => 26) (fun P => [P, P + 1]) rfl) 10)
    have e_79 : μ56.1 26 10 = μ37.1 26 10 := (F_58.1 26 (ni hprP (fun P => 26) (fun P => [P, P + 1]) rfl) 10)
    have e_80 : μ56.1 26 11 = μ7.1 26 11 := ((F_58.1 26 (ni hprP (fun P => 26) (fun P => [P, P + 1]) rfl) 11).trans hs_42)
    have e_81 : μ56.1 (P + 2) 3 = μ7.1 (P + 2) 3 := ((F_58.1 (P + 2) (ni hprP (fun P => P + 2) (fun P => [P, P + 1]) rfl) 3).trans (F_38.1 (P + 2) (ni hprP (fun P => P + 2) (fun P => [26]) rfl) 3))
    have e_82 : μ56.1 (P + 2) 3 = μ7.1 (P + 2) 3 := ((F_58.1 (P + 2) (ni hprP (fun P => P + 2) (fun P => [P, P + 1]) rfl) 3).trans (F_38.1 (P + 2) (ni hprP (fun P => P + 2) (fun P => [26]) rfl) 3))
    refine xc_vV G (b := 23) (rest := []) (As := [.int (iv 0)]) (c_X7_sum ω l μ56 0 F Lo Fu Lu kf P tt (by omega) hI_59 (by omega) (by omega) hF hLo hFu hLu hE hU htk_68 (by omega) (by omega) (by omega) (by omega) (by omega) (fun _ => Or.inl (by omega))) (wm 4 11 rfl rfl) (wm 4 13 rfl rfl) (wm 0 26 rfl rfl) rfl rfl (by decide) rfl (wm 1 12 rfl rfl) (wm 4 14 rfl rfl) (by decide) hR ⟨sfr (F := F) (a := 7) (by decide), slo (L := Lo) (m := 5) (a := 159) (by decide)⟩ (n := 1) rfl rfl (Nat.le_of_ble_eq_true rfl) hl.1 dX7_comparison_55 (fun μ83 ρ d0 H locs hp G => ?_)
    obtain ⟨F_84, hI_85, hp_86, hp_87, hp_88, hp_89, hp_90, hp_91, hs_92, hs_93, hs_94, hs_95, hs_96, hs_97, hs_98, hs_99, hs_100⟩ := hp
    have hn_101 : -1 ≤ μ83.1 26 10 ∧ μ83.1 26 10 ≤ 3000 := hI_85.nm.2.2.2.2.2.2.2.2.2.2.2.2
    have hk_102 := hI_85.pr (p := P) hprP
    unfold pk at hk_102
    have hc_103 : 16 ≤ μ83.2.1 (P + 1) ∧ μ83.2.1 (P + 1) ≤ 73024 := hI_85.rm.1 _ hprP.cap
    have hk_104 := hI_85.row (r := P + 2) (hprP.row)
    unfold rk at hk_104
    have htb_105 := hp_86.b
    have hpx_106 : μ83.1 26 11 = 0 → PXE μ μ83 P tt ((0 + (1 - x1)) + (1 - 0)) r_57 (1 - x1) := fun h0 => (PXE.app (hpx_65 (by have h9 : μ56.1 26 11 = μ7.1 26 11 := ((F_58.1 26 (ni hprP (fun P => 26) (fun P => [P, P + 1]) rfl) 11).trans hs_42); have h8 : μ83.1 26 11 = μ83.1 26 11 := rfl; omega)) (hp_91 h0)).e (by omega)
    refine lv_aload_n hx hb dX7_comparison_58 rfl (lv_at hl 2 rfl) ?_
    refine lv_bipush (v := iv 7) hx hb dX7_comparison_59 rfl ?_
    refine lv_iload_n hx hb dX7_comparison_61 rfl (lv_at hl 1 rfl) ?_
    refine lv_iconst (v := iv 0) hx hb dX7_comparison_62 rfl ?_
    refine lv_aload_n hx hb dX7_comparison_63 rfl (lv_at hl 2 rfl) ?_
    refine lv_iload_n hx hb dX7_comparison_64 rfl (lv_at hl 0 rfl) ?_
    refine lv_iconst (v := iv 1) hx hb dX7_comparison_65 rfl ?_
    have e_107 : μ83.1 23 2 = P := (hs_92.trans ((F_58.1 23 (ni hprP (fun P => 23) (fun P => [P, P + 1]) rfl) 2).trans ((F_38.1 23 (by decide) 2).trans (hs_16.trans hP.symm))))
    have e_108 : μ83.1 23 8 = tt := (hs_96.trans ((F_58.1 23 (ni hprP (fun P => 23) (fun P => [P, P + 1]) rfl) 8).trans ((F_38.1 23 (by decide) 8).trans (hs_20.trans htt.symm))))
    refine xc_iV G (b := 23) (rest := [.int (iv 0), .int (iv (μ7.1 26 12)), .int (iv 7), .ref (oP ω 23)]) (As := [.int (iv r_57), .int (iv 1)]) (c_X7_ifFails ω l μ83 r_57 1 μ ((0 + (1 - x1)) + (1 - 0)) (1 - x1) P tt (by unfold ir; omega) (by unfold ir; omega) hI_85 (by omega) (by omega) (by omega) hpx_106 (by omega) (by omega)) (wm 4 23 rfl rfl) (wm 4 25 rfl rfl) (wm 0 29 rfl rfl) rfl rfl (by decide) rfl (wm 1 12 rfl rfl) (wm 4 26 rfl rfl) (by decide) hR ⟨nfr hF (by decide), nlo hLo (by decide)⟩ (n := 2) rfl rfl (Nat.le_of_ble_eq_true rfl) hl.1 dX7_comparison_66 (fun r_110 μ109 ρ d0 H locs hr_r_110 hp G => ?_)
    have hr_r_110 : -2147483648 ≤ r_110 ∧ r_110 ≤ 2147483647 := hr_r_110
    obtain ⟨F_111, hI_112, hp_113, hp_114, hs_115⟩ := hp
    have hk_116 := hI_112.pr (p := P) hprP
    unfold pk at hk_116
    have hc_117 : 16 ≤ μ109.2.1 (P + 1) ∧ μ109.2.1 (P + 1) ≤ 73024 := hI_112.rm.1 _ hprP.cap
    have hpx_118 : μ109.1 26 11 = 0 → PXE μ μ109 P tt ((0 + (1 - x1)) + (1 - 0)) r_110 (1 - x1) := fun h0 => hp_113 (by have h9 : μ83.1 26 11 = μ83.1 26 11 := rfl; have h8 : μ109.1 26 11 = μ83.1 26 11 := (F_111.1 26 (ni hprP (fun P => 26) (fun P => [P, P + 1]) rfl) 11); omega)
    clear hp_113
    have e_119 : μ109.1 23 2 = P := ((F_111.1 23 (ni hprP (fun P => 23) (fun P => [P, P + 1]) rfl) 2).trans (hs_92.trans ((F_58.1 23 (ni hprP (fun P => 23) (fun P => [P, P + 1]) rfl) 2).trans ((F_38.1 23 (by decide) 2).trans (hs_16.trans hP.symm)))))
    have e_120 : μ109.1 23 8 = tt := ((F_111.1 23 (ni hprP (fun P => 23) (fun P => [P, P + 1]) rfl) 8).trans (hs_96.trans ((F_58.1 23 (ni hprP (fun P => 23) (fun P => [P, P + 1]) rfl) 8).trans ((F_38.1 23 (by decide) 8).trans (hs_20.trans htt.symm)))))
    refine xc_vV G (b := 23) (rest := []) (As := [.int (iv 7), .int (iv (μ7.1 26 12)), .int (iv 0), .int (iv r_110)]) (c_X7_endOfParts ω l μ109 7 (μ7.1 26 12) 0 r_110 μ ((0 + (1 - x1)) + (1 - 0)) (1 - x1) P tt (by unfold ir; omega) (by unfold ir; omega) (by unfold ir; omega) (by unfold ir; omega) hI_112 (by omega) (by omega) (by omega) hpx_118 (Or.inl (by unfold plain; omega)) (by omega) (by rw [show eff 7 (μ7.1 26 12) = -1 from rfl]; omega)) (wm 4 27 rfl rfl) (wm 4 29 rfl rfl) (wm 0 30 rfl rfl) rfl rfl (by decide) rfl (wm 1 12 rfl rfl) (wm 4 30 rfl rfl) (by decide) hR ⟨nfr hF (by decide), nlo hLo (by decide)⟩ (n := 4) rfl rfl (Nat.le_of_ble_eq_true rfl) hl.1 dX7_comparison_69 (fun μ121 ρ d0 H locs hp G => ?_)
    obtain ⟨F_122, hI_123, hp_124, hs_125, hs_126⟩ := hp
    have hpx_127 : μ121.1 26 11 = 0 → PXE μ μ121 P tt (1 - x1) (-1) (1 - x1) := fun h0 => PXE.of (hp_124 (by have h9 : μ109.1 26 11 = μ83.1 26 11 := (F_111.1 26 (ni hprP (fun P => 26) (fun P => [P, P + 1]) rfl) 11); have h8 : μ121.1 26 11 = μ83.1 26 11 := ((F_122.1 26 (ni hprP (fun P => 26) (fun P => [P, P + 1]) rfl) 11).trans (F_111.1 26 (ni hprP (fun P => 26) (fun P => [P, P + 1]) rfl) 11)); omega))
    clear hp_124
    have htk_128 : TK μ121 := hp_86.fr (K := [P, P + 1]) (Fr.tr (Fr.tr Fr.rf F_111 (si hprP (fun P => [P, P + 1]) (fun P => [P, P + 1]) rfl)) F_122 (si hprP (fun P => [P, P + 1]) (fun P => [P, P + 1]) rfl)) (ni hprP (fun P => 26) (fun P => [P, P + 1]) rfl) (ni hprP (fun P => 28) (fun P => [P, P + 1]) rfl) (ni hprP (fun P => 29) (fun P => [P, P + 1]) rfl)
    have e_129 : μ121.1 26 11 = μ83.1 26 11 := ((F_122.1 26 (ni hprP (fun P => 26) (fun P => [P, P + 1]) rfl) 11).trans (F_111.1 26 (ni hprP (fun P => 26) (fun P => [P, P + 1]) rfl) 11))
    have e_130 : μ121.1 26 11 = μ83.1 26 11 := ((F_122.1 26 (ni hprP (fun P => 26) (fun P => [P, P + 1]) rfl) 11).trans (F_111.1 26 (ni hprP (fun P => 26) (fun P => [P, P + 1]) rfl) 11))
    have e_131 : μ121.1 26 10 = μ83.1 26 10 := ((F_122.1 26 (ni hprP (fun P => 26) (fun P => [P, P + 1]) rfl) 10).trans (F_111.1 26 (ni hprP (fun P => 26) (fun P => [P, P + 1]) rfl) 10))
    have e_132 : μ121.1 P 1 = μ109.1 P 1 + 1 := hs_125
    have e_133 : μ121.1 P 1 = μ109.1 P 1 + 1 := hs_125
    have e_134 : μ121.1 26 10 = μ83.1 26 10 := ((F_122.1 26 (ni hprP (fun P => 26) (fun P => [P, P + 1]) rfl) 10).trans (F_111.1 26 (ni hprP (fun P => 26) (fun P => [P, P + 1]) rfl) 10))
    have e_135 : μ121.1 26 11 = μ83.1 26 11 := ((F_122.1 26 (ni hprP (fun P => 26) (fun P => [P, P + 1]) rfl) 11).trans (F_111.1 26 (ni hprP (fun P => 26) (fun P => [P, P + 1]) rfl) 11))
    have e_136 : μ121.1 (P + 2) 3 = μ83.1 (P + 2) 3 := ((F_122.1 (P + 2) (ni hprP (fun P => P + 2) (fun P => [P, P + 1]) rfl) 3).trans (F_111.1 (P + 2) (ni hprP (fun P => P + 2) (fun P => [P, P + 1]) rfl) 3))
    have e_137 : μ121.1 P 1 = μ109.1 P 1 + 1 := hs_125
    have e_138 : μ121.1 (P + 2) 3 = μ83.1 (P + 2) 3 := ((F_122.1 (P + 2) (ni hprP (fun P => P + 2) (fun P => [P, P + 1]) rfl) 3).trans (F_111.1 (P + 2) (ni hprP (fun P => P + 2) (fun P => [P, P + 1]) rfl) 3))
    exact xr_v G hret hlk dX7_comparison_72 ⟨(Fr.tr (Fr.tr (Fr.tr (Fr.tr (Fr.tr (Fr.tr Fr.rf F_8 (si hprP (fun P => [2, 3, 4, 23, 24, 26, P, P + 1, P + 2, (P + 2) + 1, (P + 2) + 2, (P + 2) + 3]) (fun P => [2, 3, 4, 23, 24, 26, P, P + 1, P + 2, (P + 2) + 1, (P + 2) + 2, (P + 2) + 3]) rfl)) F_38 (si hprP (fun P => [26]) (fun P => [2, 3, 4, 23, 24, 26, P, P + 1, P + 2, (P + 2) + 1, (P + 2) + 2, (P + 2) + 3]) rfl)) F_58 (si hprP (fun P => [P, P + 1]) (fun P => [2, 3, 4, 23, 24, 26, P, P + 1, P + 2, (P + 2) + 1, (P + 2) + 2, (P + 2) + 3]) rfl)) F_84 (si hprP (fun P => [2, 3, 4, 23, 24, 26, P, P + 1, P + 2, (P + 2) + 1, (P + 2) + 2, (P + 2) + 3]) (fun P => [2, 3, 4, 23, 24, 26, P, P + 1, P + 2, (P + 2) + 1, (P + 2) + 2, (P + 2) + 3]) rfl)) F_111 (si hprP (fun P => [P, P + 1]) (fun P => [2, 3, 4, 23, 24, 26, P, P + 1, P + 2, (P + 2) + 1, (P + 2) + 2, (P + 2) + 3]) rfl)) F_122 (si hprP (fun P => [P, P + 1]) (fun P => [2, 3, 4, 23, 24, 26, P, P + 1, P + 2, (P + 2) + 1, (P + 2) + 2, (P + 2) + 3]) rfl)), hI_123, htk_128, (by omega), (by omega), (by omega), (by omega), (fun h0 => (PXE.ex (hpx_127 h0)).e (by omega)), (((F_122.1 23 (ni hprP (fun P => 23) (fun P => [P, P + 1]) rfl) 2).trans ((F_111.1 23 (ni hprP (fun P => 23) (fun P => [P, P + 1]) rfl) 2).trans (hs_92.trans ((F_58.1 23 (ni hprP (fun P => 23) (fun P => [P, P + 1]) rfl) 2).trans ((F_38.1 23 (by decide) 2).trans (hs_16.trans hP.symm))))))).trans hP, ((F_122.1 23 (ni hprP (fun P => 23) (fun P => [P, P + 1]) rfl) 5).trans ((F_111.1 23 (ni hprP (fun P => 23) (fun P => [P, P + 1]) rfl) 5).trans (hs_93.trans ((F_58.1 23 (ni hprP (fun P => 23) (fun P => [P, P + 1]) rfl) 5).trans ((F_38.1 23 (by decide) 5).trans hs_17))))), ((F_122.1 23 (ni hprP (fun P => 23) (fun P => [P, P + 1]) rfl) 6).trans ((F_111.1 23 (ni hprP (fun P => 23) (fun P => [P, P + 1]) rfl) 6).trans (hs_94.trans ((F_58.1 23 (ni hprP (fun P => 23) (fun P => [P, P + 1]) rfl) 6).trans ((F_38.1 23 (by decide) 6).trans hs_18))))), ((F_122.1 23 (ni hprP (fun P => 23) (fun P => [P, P + 1]) rfl) 7).trans ((F_111.1 23 (ni hprP (fun P => 23) (fun P => [P, P + 1]) rfl) 7).trans (hs_95.trans ((F_58.1 23 (ni hprP (fun P => 23) (fun P => [P, P + 1]) rfl) 7).trans ((F_38.1 23 (by decide) 7).trans hs_19))))), (((F_122.1 23 (ni hprP (fun P => 23) (fun P => [P, P + 1]) rfl) 8).trans ((F_111.1 23 (ni hprP (fun P => 23) (fun P => [P, P + 1]) rfl) 8).trans (hs_96.trans ((F_58.1 23 (ni hprP (fun P => 23) (fun P => [P, P + 1]) rfl) 8).trans ((F_38.1 23 (by decide) 8).trans (hs_20.trans htt.symm))))))).trans htt, ((F_122.1 23 (ni hprP (fun P => 23) (fun P => [P, P + 1]) rfl) 9).trans ((F_111.1 23 (ni hprP (fun P => 23) (fun P => [P, P + 1]) rfl) 9).trans (hs_97.trans ((F_58.1 23 (ni hprP (fun P => 23) (fun P => [P, P + 1]) rfl) 9).trans ((F_38.1 23 (by decide) 9).trans hs_21))))), ((F_122.1 23 (ni hprP (fun P => 23) (fun P => [P, P + 1]) rfl) 10).trans ((F_111.1 23 (ni hprP (fun P => 23) (fun P => [P, P + 1]) rfl) 10).trans (hs_98.trans ((F_58.1 23 (ni hprP (fun P => 23) (fun P => [P, P + 1]) rfl) 10).trans ((F_38.1 23 (by decide) 10).trans hs_22))))), ((F_122.1 26 (ni hprP (fun P => 26) (fun P => [P, P + 1]) rfl) 6).trans ((F_111.1 26 (ni hprP (fun P => 26) (fun P => [P, P + 1]) rfl) 6).trans (hs_99.trans ((F_58.1 26 (ni hprP (fun P => 26) (fun P => [P, P + 1]) rfl) 6).trans (hs_43.trans hs_23))))), (hs_126.trans (hs_115.trans (hs_100.trans (hs_62.trans ((F_38.1 P (ni hprP (fun P => P) (fun P => [26]) rfl) 7).trans hs_24)))))⟩
  · skip
    refine lv_iload_n hx hb dX7_comparison_13 rfl (lv_at hl 0 rfl) ?_
    refine lv_bipush (v := iv 60) hx hb dX7_comparison_14 rfl ?_
    refine xb_icmp_eq (tgt := 39) hx hb (by unfold ir; omega) (by unfold ir; omega) dX7_comparison_16 (by decide) (fun c_16 => ?_) (fun c_16 => ?_)
    · exact kont_39 (μ7.1 26 12) (by omega)
    · refine lv_iload_n hx hb dX7_comparison_19 rfl (lv_at hl 0 rfl) ?_
      refine lv_bipush (v := iv 62) hx hb dX7_comparison_20 rfl ?_
      refine xb_icmp_eq (tgt := 39) hx hb (by unfold ir; omega) (by unfold ir; omega) dX7_comparison_22 (by decide) (fun c_22 => ?_) (fun c_22 => ?_)
      · exact kont_39 (μ7.1 26 12) (by omega)
      · refine lv_iload_n hx hb dX7_comparison_25 rfl (lv_at hl 0 rfl) ?_
        refine lv_sipush (v := iv 129) hx hb dX7_comparison_26 rfl ?_
        refine xb_icmp_lt (tgt := 72) hx hb (by unfold ir; omega) (by unfold ir; omega) dX7_comparison_29 (by decide) (fun c_29 => ?_) (fun c_29 => ?_)
        · exact xr_v G hret hlk dX7_comparison_72 ⟨(Fr.tr Fr.rf F_8 (si hprP (fun P => [2, 3, 4, 23, 24, 26, P, P + 1, P + 2, (P + 2) + 1, (P + 2) + 2, (P + 2) + 3]) (fun P => [2, 3, 4, 23, 24, 26, P, P + 1, P + 2, (P + 2) + 1, (P + 2) + 2, (P + 2) + 3]) rfl)), hI_9, hp_10, (by omega), (by omega), (by omega), (by omega), (fun h0 => (PXE.ex (hpx_30 h0)).e (by omega)), ((hs_16.trans hP.symm)).trans hP, hs_17, hs_18, hs_19, ((hs_20.trans htt.symm)).trans htt, hs_21, hs_22, hs_23, hs_24⟩
        · refine lv_iload_n hx hb dX7_comparison_32 rfl (lv_at hl 0 rfl) ?_
          refine lv_sipush (v := iv 132) hx hb dX7_comparison_33 rfl ?_
          refine xb_icmp_gt (tgt := 72) hx hb (by unfold ir; omega) (by unfold ir; omega) dX7_comparison_36 (by decide) (fun c_36 => ?_) (fun c_36 => ?_)
          · exact xr_v G hret hlk dX7_comparison_72 ⟨(Fr.tr Fr.rf F_8 (si hprP (fun P => [2, 3, 4, 23, 24, 26, P, P + 1, P + 2, (P + 2) + 1, (P + 2) + 2, (P + 2) + 3]) (fun P => [2, 3, 4, 23, 24, 26, P, P + 1, P + 2, (P + 2) + 1, (P + 2) + 2, (P + 2) + 3]) rfl)), hI_9, hp_10, (by omega), (by omega), (by omega), (by omega), (fun h0 => (PXE.ex (hpx_30 h0)).e (by omega)), ((hs_16.trans hP.symm)).trans hP, hs_17, hs_18, hs_19, ((hs_20.trans htt.symm)).trans htt, hs_21, hs_22, hs_23, hs_24⟩
          · exact kont_39 (μ7.1 26 12) (by omega)
