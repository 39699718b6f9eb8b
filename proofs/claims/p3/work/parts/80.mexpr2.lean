abbrev cX12_elses : ByteArray := prog_14_method_59_code
def yX12_elses : MethodName := ⟨RX12, "elses", "()V"⟩
abbrev cX12_question : ByteArray := prog_14_method_61_code
def yX12_question : MethodName := ⟨RX12, "question", "()V"⟩
abbrev cX12_compares : ByteArray := prog_14_method_62_code
def yX12_compares : MethodName := ⟨RX12, "compares", "()V"⟩
abbrev cX12_sum : ByteArray := prog_14_method_64_code
def yX12_sum : MethodName := ⟨RX12, "sum", "()V"⟩
abbrev cX12_sums : ByteArray := prog_14_method_65_code
def yX12_sums : MethodName := ⟨RX12, "sums", "()V"⟩
abbrev cX12_product : ByteArray := prog_14_method_66_code
def yX12_product : MethodName := ⟨RX12, "product", "()V"⟩
abbrev cX12_products : ByteArray := prog_14_method_67_code
def yX12_products : MethodName := ⟨RX12, "products", "()V"⟩
theorem dX12_expr_0 : decode cX12_expr 0 = .ok (.aload_n 0, 1) := by decide +kernel
theorem dX12_expr_1 : decode cX12_expr 1 = .ok (.invokevirtual 453, 3) := by decide +kernel
theorem dX12_expr_4 : decode cX12_expr 4 = .ok (.aload_n 0, 1) := by decide +kernel
theorem dX12_expr_5 : decode cX12_expr 5 = .ok (.invokevirtual 456, 3) := by decide +kernel
theorem dX12_expr_8 : decode cX12_expr 8 = .ok (.return_, 1) := by decide +kernel
theorem dX12_elses_0 : decode cX12_elses 0 = .ok (.aload_n 0, 1) := by decide +kernel
theorem dX12_elses_1 : decode cX12_elses 1 = .ok (.getfield 266, 3) := by decide +kernel
theorem dX12_elses_4 : decode cX12_elses 4 = .ok (.iconst 2, 1) := by decide +kernel
theorem dX12_elses_5 : decode cX12_elses 5 = .ok (.if_icmp .ne 11, 3) := by decide +kernel
theorem dX12_elses_8 : decode cX12_elses 8 = .ok (.aload_n 0, 1) := by decide +kernel
theorem dX12_elses_9 : decode cX12_elses 9 = .ok (.iconst 5, 1) := by decide +kernel
theorem dX12_elses_10 : decode cX12_elses 10 = .ok (.invokevirtual 298, 3) := by decide +kernel
theorem dX12_elses_13 : decode cX12_elses 13 = .ok (.ifCond .ne 4, 3) := by decide +kernel
theorem dX12_elses_16 : decode cX12_elses 16 = .ok (.return_, 1) := by decide +kernel
theorem dX12_elses_17 : decode cX12_elses 17 = .ok (.aload_n 0, 1) := by decide +kernel
theorem dX12_elses_18 : decode cX12_elses 18 = .ok (.invokevirtual 310, 3) := by decide +kernel
theorem dX12_elses_21 : decode cX12_elses 21 = .ok (.aload_n 0, 1) := by decide +kernel
theorem dX12_elses_22 : decode cX12_elses 22 = .ok (.bipush 34, 2) := by decide +kernel
theorem dX12_elses_24 : decode cX12_elses 24 = .ok (.lconst 0, 1) := by decide +kernel
theorem dX12_elses_25 : decode cX12_elses 25 = .ok (.iconst 0, 1) := by decide +kernel
theorem dX12_elses_26 : decode cX12_elses 26 = .ok (.invokevirtual 374, 3) := by decide +kernel
theorem dX12_elses_29 : decode cX12_elses 29 = .ok (.istore_n 1, 1) := by decide +kernel
theorem dX12_elses_30 : decode cX12_elses 30 = .ok (.aload_n 0, 1) := by decide +kernel
theorem dX12_elses_31 : decode cX12_elses 31 = .ok (.invokevirtual 402, 3) := by decide +kernel
theorem dX12_elses_34 : decode cX12_elses 34 = .ok (.aload_n 0, 1) := by decide +kernel
theorem dX12_elses_35 : decode cX12_elses 35 = .ok (.iload_n 1, 1) := by decide +kernel
theorem dX12_elses_36 : decode cX12_elses 36 = .ok (.invokevirtual 421, 3) := by decide +kernel
theorem dX12_elses_39 : decode cX12_elses 39 = .ok (.aload_n 0, 1) := by decide +kernel
theorem dX12_elses_40 : decode cX12_elses 40 = .ok (.dup, 1) := by decide +kernel
theorem dX12_elses_41 : decode cX12_elses 41 = .ok (.getfield 307, 3) := by decide +kernel
theorem dX12_elses_44 : decode cX12_elses 44 = .ok (.iconst 1, 1) := by decide +kernel
theorem dX12_elses_45 : decode cX12_elses 45 = .ok (.isub, 1) := by decide +kernel
theorem dX12_elses_46 : decode cX12_elses 46 = .ok (.putfield 307, 3) := by decide +kernel
theorem dX12_elses_49 : decode cX12_elses 49 = .ok (.return_, 1) := by decide +kernel
theorem dX12_question_0 : decode cX12_question 0 = .ok (.aload_n 0, 1) := by decide +kernel
theorem dX12_question_1 : decode cX12_question 1 = .ok (.invokevirtual 459, 3) := by decide +kernel
theorem dX12_question_4 : decode cX12_question 4 = .ok (.aload_n 0, 1) := by decide +kernel
theorem dX12_question_5 : decode cX12_question 5 = .ok (.invokevirtual 462, 3) := by decide +kernel
theorem dX12_question_8 : decode cX12_question 8 = .ok (.return_, 1) := by decide +kernel
theorem dX12_compares_0 : decode cX12_compares 0 = .ok (.aload_n 0, 1) := by decide +kernel
theorem dX12_compares_1 : decode cX12_compares 1 = .ok (.invokevirtual 215, 3) := by decide +kernel
theorem dX12_compares_4 : decode cX12_compares 4 = .ok (.ifCond .ne 21, 3) := by decide +kernel
theorem dX12_compares_7 : decode cX12_compares 7 = .ok (.aload_n 0, 1) := by decide +kernel
theorem dX12_compares_8 : decode cX12_compares 8 = .ok (.getfield 225, 3) := by decide +kernel
theorem dX12_compares_11 : decode cX12_compares 11 = .ok (.iconst 3, 1) := by decide +kernel
theorem dX12_compares_12 : decode cX12_compares 12 = .ok (.if_icmp .ne 13, 3) := by decide +kernel
theorem dX12_compares_15 : decode cX12_compares 15 = .ok (.aload_n 0, 1) := by decide +kernel
theorem dX12_compares_16 : decode cX12_compares 16 = .ok (.getfield 289, 3) := by decide +kernel
theorem dX12_compares_19 : decode cX12_compares 19 = .ok (.invokestatic 465, 3) := by decide +kernel
theorem dX12_compares_22 : decode cX12_compares 22 = .ok (.ifCond .ne 4, 3) := by decide +kernel
theorem dX12_compares_25 : decode cX12_compares 25 = .ok (.return_, 1) := by decide +kernel
theorem dX12_compares_26 : decode cX12_compares 26 = .ok (.aload_n 0, 1) := by decide +kernel
theorem dX12_compares_27 : decode cX12_compares 27 = .ok (.getfield 289, 3) := by decide +kernel
theorem dX12_compares_30 : decode cX12_compares 30 = .ok (.istore_n 1, 1) := by decide +kernel
theorem dX12_compares_31 : decode cX12_compares 31 = .ok (.aload_n 0, 1) := by decide +kernel
theorem dX12_compares_32 : decode cX12_compares 32 = .ok (.iconst 0, 1) := by decide +kernel
theorem dX12_compares_33 : decode cX12_compares 33 = .ok (.invokevirtual 468, 3) := by decide +kernel
theorem dX12_compares_36 : decode cX12_compares 36 = .ok (.istore_n 2, 1) := by decide +kernel
theorem dX12_compares_37 : decode cX12_compares 37 = .ok (.aload_n 0, 1) := by decide +kernel
theorem dX12_compares_38 : decode cX12_compares 38 = .ok (.invokevirtual 295, 3) := by decide +kernel
theorem dX12_compares_41 : decode cX12_compares 41 = .ok (.aload_n 0, 1) := by decide +kernel
theorem dX12_compares_42 : decode cX12_compares 42 = .ok (.invokevirtual 459, 3) := by decide +kernel
theorem dX12_compares_45 : decode cX12_compares 45 = .ok (.aload_n 0, 1) := by decide +kernel
theorem dX12_compares_46 : decode cX12_compares 46 = .ok (.iload_n 1, 1) := by decide +kernel
theorem dX12_compares_47 : decode cX12_compares 47 = .ok (.iload_n 2, 1) := by decide +kernel
theorem dX12_compares_48 : decode cX12_compares 48 = .ok (.invokevirtual 471, 3) := by decide +kernel
theorem dX12_compares_51 : decode cX12_compares 51 = .ok (.return_, 1) := by decide +kernel
theorem dX12_sum_0 : decode cX12_sum 0 = .ok (.aload_n 0, 1) := by decide +kernel
theorem dX12_sum_1 : decode cX12_sum 1 = .ok (.invokevirtual 477, 3) := by decide +kernel
theorem dX12_sum_4 : decode cX12_sum 4 = .ok (.aload_n 0, 1) := by decide +kernel
theorem dX12_sum_5 : decode cX12_sum 5 = .ok (.invokevirtual 480, 3) := by decide +kernel
theorem dX12_sum_8 : decode cX12_sum 8 = .ok (.return_, 1) := by decide +kernel
theorem dX12_sums_0 : decode cX12_sums 0 = .ok (.aload_n 0, 1) := by decide +kernel
theorem dX12_sums_1 : decode cX12_sums 1 = .ok (.bipush 43, 2) := by decide +kernel
theorem dX12_sums_3 : decode cX12_sums 3 = .ok (.invokevirtual 292, 3) := by decide +kernel
theorem dX12_sums_6 : decode cX12_sums 6 = .ok (.ifCond .ne 12, 3) := by decide +kernel
theorem dX12_sums_9 : decode cX12_sums 9 = .ok (.aload_n 0, 1) := by decide +kernel
theorem dX12_sums_10 : decode cX12_sums 10 = .ok (.bipush 45, 2) := by decide +kernel
theorem dX12_sums_12 : decode cX12_sums 12 = .ok (.invokevirtual 292, 3) := by decide +kernel
theorem dX12_sums_15 : decode cX12_sums 15 = .ok (.ifCond .eq 31, 3) := by decide +kernel
theorem dX12_sums_18 : decode cX12_sums 18 = .ok (.aload_n 0, 1) := by decide +kernel
theorem dX12_sums_19 : decode cX12_sums 19 = .ok (.getfield 289, 3) := by decide +kernel
theorem dX12_sums_22 : decode cX12_sums 22 = .ok (.istore_n 1, 1) := by decide +kernel
theorem dX12_sums_23 : decode cX12_sums 23 = .ok (.aload_n 0, 1) := by decide +kernel
theorem dX12_sums_24 : decode cX12_sums 24 = .ok (.iconst 0, 1) := by decide +kernel
theorem dX12_sums_25 : decode cX12_sums 25 = .ok (.invokevirtual 468, 3) := by decide +kernel
theorem dX12_sums_28 : decode cX12_sums 28 = .ok (.istore_n 2, 1) := by decide +kernel
theorem dX12_sums_29 : decode cX12_sums 29 = .ok (.aload_n 0, 1) := by decide +kernel
theorem dX12_sums_30 : decode cX12_sums 30 = .ok (.invokevirtual 295, 3) := by decide +kernel
theorem dX12_sums_33 : decode cX12_sums 33 = .ok (.aload_n 0, 1) := by decide +kernel
theorem dX12_sums_34 : decode cX12_sums 34 = .ok (.invokevirtual 477, 3) := by decide +kernel
theorem dX12_sums_37 : decode cX12_sums 37 = .ok (.aload_n 0, 1) := by decide +kernel
theorem dX12_sums_38 : decode cX12_sums 38 = .ok (.iload_n 1, 1) := by decide +kernel
theorem dX12_sums_39 : decode cX12_sums 39 = .ok (.iload_n 2, 1) := by decide +kernel
theorem dX12_sums_40 : decode cX12_sums 40 = .ok (.invokevirtual 471, 3) := by decide +kernel
theorem dX12_sums_43 : decode cX12_sums 43 = .ok (.goto (-43), 3) := by decide +kernel
theorem dX12_sums_46 : decode cX12_sums 46 = .ok (.return_, 1) := by decide +kernel
theorem dX12_product_0 : decode cX12_product 0 = .ok (.aload_n 0, 1) := by decide +kernel
theorem dX12_product_1 : decode cX12_product 1 = .ok (.invokevirtual 483, 3) := by decide +kernel
theorem dX12_product_4 : decode cX12_product 4 = .ok (.aload_n 0, 1) := by decide +kernel
theorem dX12_product_5 : decode cX12_product 5 = .ok (.invokevirtual 486, 3) := by decide +kernel
theorem dX12_product_8 : decode cX12_product 8 = .ok (.return_, 1) := by decide +kernel
theorem dX12_products_0 : decode cX12_products 0 = .ok (.aload_n 0, 1) := by decide +kernel
theorem dX12_products_1 : decode cX12_products 1 = .ok (.bipush 42, 2) := by decide +kernel
theorem dX12_products_3 : decode cX12_products 3 = .ok (.invokevirtual 292, 3) := by decide +kernel
theorem dX12_products_6 : decode cX12_products 6 = .ok (.ifCond .ne 21, 3) := by decide +kernel
theorem dX12_products_9 : decode cX12_products 9 = .ok (.aload_n 0, 1) := by decide +kernel
theorem dX12_products_10 : decode cX12_products 10 = .ok (.bipush 47, 2) := by decide +kernel
theorem dX12_products_12 : decode cX12_products 12 = .ok (.invokevirtual 292, 3) := by decide +kernel
theorem dX12_products_15 : decode cX12_products 15 = .ok (.ifCond .ne 12, 3) := by decide +kernel
theorem dX12_products_18 : decode cX12_products 18 = .ok (.aload_n 0, 1) := by decide +kernel
theorem dX12_products_19 : decode cX12_products 19 = .ok (.bipush 37, 2) := by decide +kernel
theorem dX12_products_21 : decode cX12_products 21 = .ok (.invokevirtual 292, 3) := by decide +kernel
theorem dX12_products_24 : decode cX12_products 24 = .ok (.ifCond .eq 31, 3) := by decide +kernel
theorem dX12_products_27 : decode cX12_products 27 = .ok (.aload_n 0, 1) := by decide +kernel
theorem dX12_products_28 : decode cX12_products 28 = .ok (.getfield 289, 3) := by decide +kernel
theorem dX12_products_31 : decode cX12_products 31 = .ok (.istore_n 1, 1) := by decide +kernel
theorem dX12_products_32 : decode cX12_products 32 = .ok (.aload_n 0, 1) := by decide +kernel
theorem dX12_products_33 : decode cX12_products 33 = .ok (.iconst 0, 1) := by decide +kernel
theorem dX12_products_34 : decode cX12_products 34 = .ok (.invokevirtual 468, 3) := by decide +kernel
theorem dX12_products_37 : decode cX12_products 37 = .ok (.istore_n 2, 1) := by decide +kernel
theorem dX12_products_38 : decode cX12_products 38 = .ok (.aload_n 0, 1) := by decide +kernel
theorem dX12_products_39 : decode cX12_products 39 = .ok (.invokevirtual 295, 3) := by decide +kernel
theorem dX12_products_42 : decode cX12_products 42 = .ok (.aload_n 0, 1) := by decide +kernel
theorem dX12_products_43 : decode cX12_products 43 = .ok (.invokevirtual 483, 3) := by decide +kernel
theorem dX12_products_46 : decode cX12_products 46 = .ok (.aload_n 0, 1) := by decide +kernel
theorem dX12_products_47 : decode cX12_products 47 = .ok (.iload_n 1, 1) := by decide +kernel
theorem dX12_products_48 : decode cX12_products 48 = .ok (.iload_n 2, 1) := by decide +kernel
theorem dX12_products_49 : decode cX12_products 49 = .ok (.invokevirtual 471, 3) := by decide +kernel
theorem dX12_products_52 : decode cX12_products 52 = .ok (.goto (-52), 3) := by decide +kernel
theorem dX12_products_55 : decode cX12_products 55 = .ok (.return_, 1) := by decide +kernel
set_option maxHeartbeats 4000000 in
set_option maxRecDepth 100000 in
theorem c_X12_products (ω : Om) (l : Launch) (μ : M3) (F : Nat) (Lo : Nat) (Fu : Nat) (Lu : Nat) (kf : Int) (μo : M3) (HH : Int) (tt : Int) (htt : tt = μ.1 111 14) (hF : 60 ≤ F) (hLo : 2000 ≤ Lo) (hFu : Fu ≤ F) (hLu : Lu ≤ Lo) (hE : ∀ (μ : M3) (tt : Int) (htt : tt = μ.1 111 14) (hPM : PM μ) (hnn : 0 ≤ nn μ ∧ nn μ ≤ 9 ∧ 9 * wr μ ≤ nn μ) (hn8 : nn μ ≤ 8 + wr μ) (hcd : 0 ≤ μ.1 111 22 ∧ μ.1 111 22 ≤ 2 * μ.1 111 9 + 200 + 40 * wr μ) (hW : 0 ≤ μ.1 111 39 ∧ μ.1 111 39 ≤ μ.1 111 22) (hsl : 0 ≤ μ.1 111 31 ∧ μ.1 111 31 ≤ 300) (hfu : 0 ≤ (kf - 1) ∧ 9 ≤ nn μ + (kf - 1)) (hH0 : ∀ _ : Unit, bd μ = 0 → mH0 μ), CtV ω l yX12_expr cX12_expr 1 (F + 0) (Lo + 0) [.ref (oP ω 111)] μ (fun (μ' : M3) => (FrM [111, 113, 115, 116, 117, 123, 126] μ μ') ∧ (∀ j, j ∉ ([6, 8, 9, 10, 11, 12, 13, 15, 16, 17, 18, 22, 29, 39] : List Int) → μ'.1 111 j = μ.1 111 j) ∧ (PM μ') ∧ (μ.1 111 22 ≤ μ'.1 111 22 ∧ μ'.1 111 22 ≤ μ.1 111 22 + 2 * (μ'.1 111 9 - μ.1 111 9) + (- 1 + 3 * wr μ' - 2 * wr μ)) ∧ (μ.1 111 9 ≤ μ'.1 111 9) ∧ (μ.1 111 29 ≤ μ'.1 111 29) ∧ (wr μ ≤ wr μ' ∧ bd μ ≤ bd μ') ∧ (nn μ ≤ nn μ' ∧ nn μ' ≤ nn μ + 9 * wr μ' ∧ nn μ' ≤ 9 ∧ 9 * wr μ' ≤ nn μ') ∧ (μ'.1 111 39 = μ.1 111 39) ∧ (∀ j, j < μ.1 111 39 → μ'.1 126 j = μ.1 126 j) ∧ (∀ _ : Unit, bd μ' = 0 → mEX μ μ' tt 1 0 (11 * (9 - nn μ))) ∧ (mEXT μ μ'))) (hU : ∀ (μ : M3) (tt : Int) (htt : tt = μ.1 111 14) (hPM : PM μ) (hnn : 0 ≤ nn μ ∧ nn μ ≤ 9 ∧ 9 * wr μ ≤ nn μ) (hn8 : nn μ ≤ 8 + wr μ) (hcd : 0 ≤ μ.1 111 22 ∧ μ.1 111 22 ≤ 2 * μ.1 111 9 + 200 + 40 * wr μ) (hW : 0 ≤ μ.1 111 39 ∧ μ.1 111 39 ≤ μ.1 111 22) (hsl : 0 ≤ μ.1 111 31 ∧ μ.1 111 31 ≤ 300) (hfu : 0 ≤ (kf - 1) ∧ 9 ≤ nn μ + (kf - 1)) (hH0 : ∀ _ : Unit, bd μ = 0 → mH0 μ), CtV ω l yX12_unary cX12_unary 6 (Fu + 0) (Lu + 0) [.ref (oP ω 111)] μ (fun (μ' : M3) => (FrM [111, 113, 115, 116, 117, 123, 126] μ μ') ∧ (∀ j, j ∉ ([6, 8, 9, 10, 11, 12, 13, 15, 16, 17, 18, 22, 29, 39] : List Int) → μ'.1 111 j = μ.1 111 j) ∧ (PM μ') ∧ (μ.1 111 22 ≤ μ'.1 111 22 ∧ μ'.1 111 22 ≤ μ.1 111 22 + 2 * (μ'.1 111 9 - μ.1 111 9) + (- 1 + 3 * wr μ' - 2 * wr μ)) ∧ (μ.1 111 9 ≤ μ'.1 111 9) ∧ (μ.1 111 29 ≤ μ'.1 111 29) ∧ (wr μ ≤ wr μ' ∧ bd μ ≤ bd μ') ∧ (nn μ ≤ nn μ' ∧ nn μ' ≤ nn μ + 9 * wr μ' ∧ nn μ' ≤ 9 ∧ 9 * wr μ' ≤ nn μ') ∧ (μ'.1 111 39 = μ.1 111 39) ∧ (∀ j, j < μ.1 111 39 → μ'.1 126 j = μ.1 126 j) ∧ (∀ _ : Unit, bd μ' = 0 → mEX μ μ' tt 1 0 (11 * (9 - nn μ) - 3)) ∧ (mEXT μ μ'))) (hPM : PM μ) (hnn : 0 ≤ nn μ ∧ nn μ ≤ 9 ∧ 9 * wr μ ≤ nn μ) (hn8 : nn μ ≤ 8 + wr μ) (hcd : 0 ≤ μ.1 111 22 ∧ μ.1 111 22 ≤ 2 * μ.1 111 9 + 200 + 40 * wr μ) (hW : 0 ≤ μ.1 111 39 ∧ μ.1 111 39 ≤ μ.1 111 22) (hsl : 0 ≤ μ.1 111 31 ∧ μ.1 111 31 ≤ 300) (hfu : 0 ≤ kf ∧ 9 ≤ nn μ + kf) (hEX : ∀ _ : Unit, bd μ = 0 → mEX μo μ tt 1 0 HH) (hHH : 11 * (9 - nn μ) - 3 + 1 ≤ HH) : CtV ω l yX12_products cX12_products 3 (F + 5) (Lo + 118) [.ref (oP ω 111)] μ (fun (μ' : M3) => (FrM [111, 113, 115, 116, 117, 123, 126] μ μ') ∧ (∀ j, j ∉ ([6, 8, 9, 10, 11, 12, 13, 15, 16, 17, 18, 22, 29, 39] : List Int) → μ'.1 111 j = μ.1 111 j) ∧ (PM μ') ∧ (μ.1 111 22 ≤ μ'.1 111 22 ∧ μ'.1 111 22 ≤ μ.1 111 22 + 2 * (μ'.1 111 9 - μ.1 111 9) + (0 + 3 * wr μ' - 3 * wr μ)) ∧ (μ.1 111 9 ≤ μ'.1 111 9) ∧ (μ.1 111 29 ≤ μ'.1 111 29) ∧ (wr μ ≤ wr μ' ∧ bd μ ≤ bd μ') ∧ (nn μ ≤ nn μ' ∧ nn μ' ≤ nn μ + 9 * wr μ' ∧ nn μ' ≤ 9 ∧ 9 * wr μ' ≤ nn μ') ∧ (μ'.1 111 39 = μ.1 111 39) ∧ (∀ j, j < μ.1 111 39 → μ'.1 126 j = μ.1 126 j) ∧ (∀ _ : Unit, bd μ' = 0 → mEX μo μ' tt 1 0 HH) ∧ (mEXT μ μ')) := by
  refine CtV.go (by decide) (Nat.le_of_ble_eq_true rfl) (fun ρ p e s m below meth c R ls G hR hret hlk hl => ?_)
  have hx := G.1.1
  have hb := G.1.2.1
  have hl : lv_has ls 3 [(0, .ref (oP ω 111))] := hl
  generalize s.drawn = d0 at G ⊢
  have hw_0 := wr_r (μ := μ)
  have hpp_ := hPM.1.2.1
  have hpn_ := hPM.2.1
  have hpt_ := hPM.1.2.2.2.1
  have hpw_ := hPM.1.2.2.2.2.1
  have hpa_ := hPM.1.1
  have hX_1 : ∀ _ : Unit, bd μ = 0 → mPX μo μ tt 1 1 HH [] := fun _ h0 => mPX.of (hEX () h0)
  refine xl (fun n_9 μ' ls => (FrM [111, 113, 115, 116, 117, 123, 126] μ μ') ∧ (∀ j, j ∉ ([6, 8, 9, 10, 11, 12, 13, 15, 16, 17, 18, 22, 29, 39] : List Int) → μ'.1 111 j = μ.1 111 j) ∧ (PM μ') ∧ (μ.1 111 22 ≤ μ'.1 111 22 ∧ μ'.1 111 22 ≤ μ.1 111 22 + 2 * (μ'.1 111 9 - μ.1 111 9) + (0 + 3 * wr μ' - 3 * wr μ)) ∧ (μ.1 111 9 ≤ μ'.1 111 9) ∧ (μ.1 111 29 ≤ μ'.1 111 29) ∧ (wr μ ≤ wr μ' ∧ bd μ ≤ bd μ') ∧ (nn μ ≤ nn μ' ∧ nn μ' ≤ nn μ + 9 * wr μ' ∧ nn μ' ≤ 9 ∧ 9 * wr μ' ≤ nn μ') ∧ (μ'.1 111 39 = μ.1 111 39) ∧ (∀ j, j < μ.1 111 39 → μ'.1 126 j = μ.1 126 j) ∧ (∀ _ : Unit, bd μ' = 0 → mEX μo μ' tt 1 0 HH) ∧ (nn μ' ≤ 8 + wr μ') ∧ (mEXT μ μ') ∧ n_9 = Int.toNat (3001 - μ'.1 111 9) ∧ lv_has ls 3 [(0, .ref (oP ω 111))]) (fun n_9 ρ μL2 d0 H locs ls hI_l G ih => ?_) _ _ _ _ _ _ _ ⟨FrM.rf, (fun j hj => rfl), hPM, (by omega), (by omega), (by omega), (by omega), (by omega), (by omega), (fun j hj => rfl), (fun _ h0 => (mPX.ex ((hX_1 ()) h0)).e (by omega)), (by omega), (mEXT.rf (μ := μ)), rfl, lv_sub hl [0] rfl⟩ G
  obtain ⟨FL3, hi_5, hi_6, hi_7, hi_8, hi_9, hi_10, hi_11, hi_12, hi_13, hi_14, hi_15, hi_16, hn4, hl⟩ := hI_l
  have hw_17 := wr_r (μ := μL2)
  have hw_18 := wr_r (μ := μL2)
  have hpl_19 := hi_6.pl
  have hX_20 : ∀ _ : Unit, bd μL2 = 0 → mPX μo μL2 tt 1 1 HH [] := fun _ h0 => mPX.of (hi_14 () h0)
  refine lv_aload_n hx hb dX12_products_0 rfl (lv_at hl 0 rfl) ?_
  refine lv_bipush (v := iv 42) hx hb dX12_products_1 rfl ?_
  have hw_21 := wr_r (μ := μL2)
  refine xc_iV G (b := 111) (rest := []) (As := [.int (iv 42)]) (c_X12_isSign ω l μL2 42 (by unfold ir; omega)) (wm 9 90 rfl rfl) (wm 9 92 rfl rfl) (wm 0 135 rfl rfl) rfl rfl (by decide) rfl (wm 1 18 rfl rfl) (wm 9 93 rfl rfl) (by decide) hR ⟨nfr hF (by decide), nlo hLo (by decide)⟩ (n := 1) rfl rfl (Nat.le_of_ble_eq_true rfl) hl.1 dX12_products_3 (fun r_23 μ22 ρ d0 H locs hr_r_23 hp G => ?_)
  have hr_r_23 : -2147483648 ≤ r_23 ∧ r_23 ≤ 2147483647 := hr_r_23
  obtain ⟨hsm_24, hp_25⟩ := hp
  have hsm_24 := Eq.symm hsm_24
  subst hsm_24
  have e_26 : μL2.1 111 31 = μ.1 111 31 := (hi_5 31 (by decide))
  refine xb_if_ne (tgt := 27) hx hb (by unfold ir; omega) dX12_products_6 (by decide) (fun c_6 => ?_) (fun c_6 => ?_)
  · refine lv_aload_n hx hb dX12_products_27 rfl (lv_at hl 0 rfl) ?_
    refine xa_geti G fd_X12 (a := 111) (x := μL2.1 111 13) 13 rfl (by decide) rfl (wm 7 162 rfl rfl) ⟨rfl, rfl, rfl⟩ dX12_products_28 rfl rfl ?_
    have hr_27 : -2147483648 ≤ μL2.1 111 13 ∧ μL2.1 111 13 ≤ 2147483647 := by have h9 := G.hr (a := 111) (k := 13) rfl; exact h9
    refine lv_istore_n (lv' := [(1, .int (iv (μL2.1 111 13))), (0, .ref (oP ω 111))]) hx hb dX12_products_31 rfl hl (by decide) rfl (fun ls hl => ?_)
    refine lv_aload_n hx hb dX12_products_32 rfl (lv_at hl 1 rfl) ?_
    refine lv_iconst (v := iv 0) hx hb dX12_products_33 rfl ?_
    have e_28 : μL2.1 111 14 = tt := ((hi_5 14 (by decide)).trans htt.symm)
    refine xc_iV G (b := 111) (rest := []) (As := [.int (iv 0)]) (c_X12_skips ω l μL2 0 tt (by unfold ir; omega) (by omega) (by omega)) (wm 9 159 rfl rfl) (wm 9 161 rfl rfl) (wm 0 152 rfl rfl) rfl rfl (by decide) rfl (wm 1 18 rfl rfl) (wm 9 162 rfl rfl) (by decide) hR ⟨nfr hF (by decide), nlo hLo (by decide)⟩ (n := 1) rfl rfl (Nat.le_of_ble_eq_true rfl) hl.1 dX12_products_34 (fun r_30 μ29 ρ d0 H locs hr_r_30 hp G => ?_)
    have hr_r_30 : -2147483648 ≤ r_30 ∧ r_30 ≤ 2147483647 := hr_r_30
    obtain ⟨F_31, hp_32, hp_33, hp_34⟩ := hp
    have hqr_r_30 : (r_30 = -1) ∨ (μ.1 111 22 ≤ r_30 ∧ r_30 < μ29.1 111 22) := by rcases hp_33 with ⟨q1, q2, q3, q4⟩ | ⟨q1, q2, q3⟩; (right; have := q2.2.1; omega); (left; exact q2)
    have hxt_35 : mEXT μ μ29 := hi_16.tr hp_33.ext
    have e_36 : μ29.1 111 31 = μ.1 111 31 := ((hp_32 31 (by decide)).trans (hi_5 31 (by decide)))
    have e_37 : wr μ29 = wr μL2 := (wr_cg (hp_32 15 (by decide)))
    have e_38 : bd μ29 = bd μL2 := (bd_cg (hp_32 15 (by decide)) (hp_32 16 (by decide)) (hp_32 17 (by decide)))
    have e_39 : nn μ29 = nn μL2 := (nn_cg (hp_32 15 (by decide)) (hp_32 18 (by decide)))
    replace hp_33 := fun _ : Unit => hp_33
    have e_41 : μ29.1 111 29 = μL2.1 111 29 := (hp_32 29 (by decide))
    have hX_40 : ∀ _ : Unit, bd μ29 = 0 → mPX μo μ29 tt 1 1 HH (lsk r_30 ++ []) := fun _ h0 => mPX.sk ((hX_20 ()) (by have e9 : bd μL2 = bd μL2 := rfl; have e8 : bd μ29 = bd μL2 := (bd_cg (hp_32 15 (by decide)) (hp_32 16 (by decide)) (hp_32 17 (by decide))); omega)) (hp_33 ()) (by omega) (by omega) (by decide)
    refine lv_istore_n (lv' := [(2, .int (iv r_30)), (1, .int (iv (μL2.1 111 13))), (0, .ref (oP ω 111))]) hx hb dX12_products_37 rfl hl (by decide) rfl (fun ls hl => ?_)
    refine lv_aload_n hx hb dX12_products_38 rfl (lv_at hl 2 rfl) ?_
    have hPM_42 : PM μ29 := hi_6.cg ((((hp_32 4 (by decide)).trans (hi_5 4 (by decide)))).trans ((hi_5 4 (by decide))).symm) (hp_32 6 (by decide)) ((((hp_32 7 (by decide)).trans (hi_5 7 (by decide)))).trans ((hi_5 7 (by decide))).symm) (hp_32 8 (by decide)) (hp_32 9 (by decide)) (hp_32 11 (by decide)) (hp_32 12 (by decide)) ((((hp_32 14 (by decide)).trans ((hi_5 14 (by decide)).trans htt.symm))).trans (((hi_5 14 (by decide)).trans htt.symm)).symm) (hp_32 15 (by decide)) (hp_32 29 (by decide)) (fun j => (F_31.1 123 (by decide) j))
    have e_43 : wr μ29 = wr μL2 := (wr_cg (hp_32 15 (by decide)))
    have e_44 : nn μ29 = nn μL2 := (nn_cg (hp_32 15 (by decide)) (hp_32 18 (by decide)))
    have e_45 : μ29.1 111 8 = μL2.1 111 8 := (hp_32 8 (by decide))
    have e_46 : wr μ29 = wr μL2 := (wr_cg (hp_32 15 (by decide)))
    have e_47 : μ29.1 111 9 = μL2.1 111 9 := (hp_32 9 (by decide))
    have e_48 : wr μ29 = wr μL2 := (wr_cg (hp_32 15 (by decide)))
    have e_49 : wr μ29 = wr μL2 := (wr_cg (hp_32 15 (by decide)))
    have e_50 : bd μ29 = bd μL2 := (bd_cg (hp_32 15 (by decide)) (hp_32 16 (by decide)) (hp_32 17 (by decide)))
    have e_51 : nn μ29 = nn μL2 := (nn_cg (hp_32 15 (by decide)) (hp_32 18 (by decide)))
    refine xc_vV G (b := 111) (rest := []) (As := []) (c_X12_next ω l μ29  hPM_42 (by omega) (by omega)) (wm 9 0 rfl rfl) (wm 9 2 rfl rfl) (wm 0 119 rfl rfl) rfl rfl (by decide) rfl (wm 1 18 rfl rfl) (wm 9 3 rfl rfl) (by decide) hR ⟨nfr hF (by decide), nlo hLo (by decide)⟩ (n := 0) rfl rfl (Nat.le_of_ble_eq_true rfl) hl.1 dX12_products_39 (fun μ52 ρ d0 H locs hp G => ?_)
    obtain ⟨F_53, hp_54, hp_55, hp_56, hp_57, hp_58⟩ := hp
    have hpl_59 := hp_55.pl
    have hw_60 := wr_r (μ := μ29)
    have hw_61 := wr_r (μ := μ52)
    have e_62 : μ52.1 111 31 = μ.1 111 31 := ((hp_54 31 (by decide)).trans ((hp_32 31 (by decide)).trans (hi_5 31 (by decide))))
    refine lv_aload_n hx hb dX12_products_42 rfl (lv_at hl 2 rfl) ?_
    have e_63 : μ52.1 111 29 = μL2.1 111 29 := ((hp_54 29 (by decide)).trans (hp_32 29 (by decide)))
    have e_65 : μ52.1 111 29 = μL2.1 111 29 := ((hp_54 29 (by decide)).trans (hp_32 29 (by decide)))
    have hX_64 : ∀ _ : Unit, bd μ52 = 0 → mPX μo μ52 tt 1 1 HH (lsk r_30 ++ []) := fun _ h0 => (hX_40 () (by have e9 : bd μ29 = bd μL2 := (bd_cg (hp_32 15 (by decide)) (hp_32 16 (by decide)) (hp_32 17 (by decide))); have e8 : bd μ52 = bd μ52 := rfl; omega)).qm (q0m.fr (K := [111]) (FrM.tr FrM.rf F_53 (by decide)) (by decide) (by decide) (by decide) (hp_54 22 (by decide)) (nS.le (by omega) (Int.le_of_eq (((((hp_54 31 (by decide)).trans ((hp_32 31 (by decide)).trans (hi_5 31 (by decide))))).trans (((hp_32 31 (by decide)).trans (hi_5 31 (by decide)))).symm)).symm)))
    have e_66 : μ52.1 111 29 = μL2.1 111 29 := ((hp_54 29 (by decide)).trans (hp_32 29 (by decide)))
    have e_67 : μ52.1 111 29 = μL2.1 111 29 := ((hp_54 29 (by decide)).trans (hp_32 29 (by decide)))
    have hxt_68 : mEXT μ μ52 := hxt_35.tr (q0m.fr (K := [111]) (FrM.tr FrM.rf F_53 (by decide)) (by decide) (by decide) (by decide) (hp_54 22 (by decide)) (nS.le (by omega) (Int.le_of_eq (((((hp_54 31 (by decide)).trans ((hp_32 31 (by decide)).trans (hi_5 31 (by decide))))).trans (((hp_32 31 (by decide)).trans (hi_5 31 (by decide)))).symm)).symm))).1
    have e_69 : μ52.1 111 14 = tt := ((hp_54 14 (by decide)).trans ((hp_32 14 (by decide)).trans ((hi_5 14 (by decide)).trans htt.symm)))
    have e_70 : μ52.1 111 22 = μ29.1 111 22 := (hp_54 22 (by decide))
    have e_71 : μ52.1 111 22 = μ29.1 111 22 := (hp_54 22 (by decide))
    have e_72 : μ52.1 111 39 = μL2.1 111 39 := ((hp_54 39 (by decide)).trans (hp_32 39 (by decide)))
    have e_73 : μ52.1 111 39 = μL2.1 111 39 := ((hp_54 39 (by decide)).trans (hp_32 39 (by decide)))
    have e_74 : μ52.1 111 22 = μ29.1 111 22 := (hp_54 22 (by decide))
    have e_75 : μ52.1 111 31 = μ.1 111 31 := ((hp_54 31 (by decide)).trans ((hp_32 31 (by decide)).trans (hi_5 31 (by decide))))
    have e_76 : μ52.1 111 31 = μ.1 111 31 := ((hp_54 31 (by decide)).trans ((hp_32 31 (by decide)).trans (hi_5 31 (by decide))))
    have e_77 : μ52.1 111 22 = μ29.1 111 22 := (hp_54 22 (by decide))
    have e_78 : μ52.1 111 22 = μ29.1 111 22 := (hp_54 22 (by decide))
    have e_79 : μ52.1 111 29 = μL2.1 111 29 := ((hp_54 29 (by decide)).trans (hp_32 29 (by decide)))
    have e_80 : μ52.1 111 39 = μL2.1 111 39 := ((hp_54 39 (by decide)).trans (hp_32 39 (by decide)))
    refine xc_vV G (b := 111) (rest := []) (As := []) (c_X12_unary ω l μ52 F Lo Fu Lu kf tt (by omega) hF hLo hFu hLu hE hU hp_55 (by omega) (by omega) (by omega) (by omega) (by omega) (by omega) (fun _ h0 => ((hX_64 ()) h0).h1.1)) (wm 9 155 rfl rfl) (wm 9 157 rfl rfl) (wm 0 151 rfl rfl) rfl rfl (by decide) rfl (wm 1 18 rfl rfl) (wm 9 158 rfl rfl) (by decide) hR ⟨sfr (F := F) (a := 4) (by decide), slo (L := Lo) (m := 6) (a := 93) (by decide)⟩ (n := 0) rfl rfl (Nat.le_of_ble_eq_true rfl) hl.1 dX12_products_43 (fun μ81 ρ d0 H locs hp G => ?_)
    obtain ⟨F_82, hp_83, hp_84, hp_85, hp_86, hp_87, hp_88, hp_89, hp_90, hp_91, hp_92, hp_93⟩ := hp
    have hpl_94 := hp_84.pl
    have hw_95 := wr_r (μ := μ81)
    have hxt_96 : mEXT μ μ81 := hxt_68.tr hp_93
    have e_97 : μ81.1 111 31 = μ.1 111 31 := ((hp_83 31 (by decide)).trans ((hp_54 31 (by decide)).trans ((hp_32 31 (by decide)).trans (hi_5 31 (by decide)))))
    have hX_98 : ∀ _ : Unit, bd μ81 = 0 → mPX μo μ81 tt 2 1 HH (lsk r_30 ++ []) := fun _ h0 => (((hX_64 ()) (by have e9 : bd μ52 = bd μ52 := rfl; have e8 : bd μ81 = bd μ81 := rfl; omega)).app (hp_92 () h0) (by omega)).ee (by omega)
    refine lv_aload_n hx hb dX12_products_46 rfl (lv_at hl 2 rfl) ?_
    refine lv_iload_n hx hb dX12_products_47 rfl (lv_at hl 1 rfl) ?_
    refine lv_iload_n hx hb dX12_products_48 rfl (lv_at hl 0 rfl) ?_
    have e_99 : μ81.1 111 14 = tt := ((hp_83 14 (by decide)).trans ((hp_54 14 (by decide)).trans ((hp_32 14 (by decide)).trans ((hi_5 14 (by decide)).trans htt.symm))))
    refine xc_vV G (b := 111) (rest := []) (As := [.int (iv (μL2.1 111 13)), .int (iv r_30)]) (c_X12_two ω l μ81 (μL2.1 111 13) r_30 μo (HH) tt (by unfold ir; omega) (by unfold ir; omega) (by omega) (by omega) (by unfold sgn; omega) (by omega) (fun _ => (hX_98 ()))) (wm 9 223 rfl rfl) (wm 9 225 rfl rfl) (wm 0 168 rfl rfl) rfl rfl (by decide) rfl (wm 1 18 rfl rfl) (wm 9 226 rfl rfl) (by decide) hR ⟨nfr hF (by decide), nlo hLo (by decide)⟩ (n := 2) rfl rfl (Nat.le_of_ble_eq_true rfl) hl.1 dX12_products_49 (fun μ100 ρ d0 H locs hp G => ?_)
    obtain ⟨F_101, hp_102, hp_103, hp_104, hp_105, hp_106⟩ := hp
    have hw_107 := wr_r (μ := μ100)
    have hxt_108 : mEXT μ μ100 := hp_106 _ hxt_96 (by omega)
    have e_109 : bd μ100 = bd μ81 := (bd_cg (hp_102 15 (by decide)) (hp_102 16 (by decide)) (hp_102 17 (by decide)))
    have e_111 : μ100.1 111 29 = μ81.1 111 29 := (hp_102 29 (by decide))
    have hX_110 : ∀ _ : Unit, bd μ100 = 0 → mPX μo μ100 tt 1 1 HH [] := fun _ h0 => mPX.of (hp_105 () h0)
    refine lv_goto (tgt := 0) hx hb dX12_products_52 (by decide) ?_
    have hPM_112 : PM μ100 := hp_84.cg ((((hp_102 4 (by decide)).trans ((hp_83 4 (by decide)).trans ((hp_54 4 (by decide)).trans ((hp_32 4 (by decide)).trans (hi_5 4 (by decide))))))).trans (((hp_83 4 (by decide)).trans ((hp_54 4 (by decide)).trans ((hp_32 4 (by decide)).trans (hi_5 4 (by decide)))))).symm) (hp_102 6 (by decide)) ((((hp_102 7 (by decide)).trans ((hp_83 7 (by decide)).trans ((hp_54 7 (by decide)).trans ((hp_32 7 (by decide)).trans (hi_5 7 (by decide))))))).trans (((hp_83 7 (by decide)).trans ((hp_54 7 (by decide)).trans ((hp_32 7 (by decide)).trans (hi_5 7 (by decide)))))).symm) (hp_102 8 (by decide)) (hp_102 9 (by decide)) (hp_102 11 (by decide)) (hp_102 12 (by decide)) ((((hp_102 14 (by decide)).trans ((hp_83 14 (by decide)).trans ((hp_54 14 (by decide)).trans ((hp_32 14 (by decide)).trans ((hi_5 14 (by decide)).trans htt.symm)))))).trans (((hp_83 14 (by decide)).trans ((hp_54 14 (by decide)).trans ((hp_32 14 (by decide)).trans ((hi_5 14 (by decide)).trans htt.symm))))).symm) (hp_102 15 (by decide)) (hp_102 29 (by decide)) (fun j => (F_101.1 123 (by decide) j))
    have e_113 : μ100.1 111 9 = μ81.1 111 9 := (hp_102 9 (by decide))
    have e_114 : wr μ100 = wr μ81 := (wr_cg (hp_102 15 (by decide)))
    have e_115 : μ100.1 111 9 = μ81.1 111 9 := (hp_102 9 (by decide))
    have e_116 : μ100.1 111 29 = μ81.1 111 29 := (hp_102 29 (by decide))
    have e_117 : wr μ100 = wr μ81 := (wr_cg (hp_102 15 (by decide)))
    have e_118 : bd μ100 = bd μ81 := (bd_cg (hp_102 15 (by decide)) (hp_102 16 (by decide)) (hp_102 17 (by decide)))
    have e_119 : wr μ100 = wr μ81 := (wr_cg (hp_102 15 (by decide)))
    have e_120 : nn μ100 = nn μ81 := (nn_cg (hp_102 15 (by decide)) (hp_102 18 (by decide)))
    have e_121 : μ100.1 111 39 = μ81.1 111 39 := (hp_102 39 (by decide))
    have e_122 : wr μ100 = wr μ81 := (wr_cg (hp_102 15 (by decide)))
    have e_123 : nn μ100 = nn μ81 := (nn_cg (hp_102 15 (by decide)) (hp_102 18 (by decide)))
    exact ih _ _ _ _ _ _ _ (by omega) ⟨(FrM.tr (FrM.tr (FrM.tr (FrM.tr FL3 F_31 (by decide)) F_53 (by decide)) F_82 (by decide)) F_101 (by decide)), (fun j hj => ((hp_102 j (fun h9 => hj ((by decide : ∀ x ∈ ([22] : List Int), x ∈ ([6, 8, 9, 10, 11, 12, 13, 15, 16, 17, 18, 22, 29, 39] : List Int)) j h9))).trans ((hp_83 j (fun h9 => hj ((by decide : ∀ x ∈ ([6, 8, 9, 10, 11, 12, 13, 15, 16, 17, 18, 22, 29, 39] : List Int), x ∈ ([6, 8, 9, 10, 11, 12, 13, 15, 16, 17, 18, 22, 29, 39] : List Int)) j h9))).trans ((hp_54 j (fun h9 => hj ((by decide : ∀ x ∈ ([6, 8, 9, 10, 11, 12, 13, 15] : List Int), x ∈ ([6, 8, 9, 10, 11, 12, 13, 15, 16, 17, 18, 22, 29, 39] : List Int)) j h9))).trans ((hp_32 j (fun h9 => hj ((by decide : ∀ x ∈ ([22] : List Int), x ∈ ([6, 8, 9, 10, 11, 12, 13, 15, 16, 17, 18, 22, 29, 39] : List Int)) j h9))).trans (hi_5 j (fun h9 => hj ((by decide : ∀ x ∈ ([6, 8, 9, 10, 11, 12, 13, 15, 16, 17, 18, 22, 29, 39] : List Int), x ∈ ([6, 8, 9, 10, 11, 12, 13, 15, 16, 17, 18, 22, 29, 39] : List Int)) j h9)))))))), hPM_112, (by omega), (by omega), (by omega), (by omega), (by omega), (by omega), (fun j hj => ((F_101.1 126 (by decide) j).trans ((hp_91 j (by omega)).trans ((F_53.1 126 (by decide) j).trans ((F_31.1 126 (by decide) j).trans (hi_13 j (by omega))))))), (fun _ h0 => (mPX.ex ((hX_110 ()) h0)).e (by omega)), (by omega), hxt_108, rfl, lv_sub hl [2] rfl⟩ G
  · refine lv_aload_n hx hb dX12_products_9 rfl (lv_at hl 0 rfl) ?_
    refine lv_bipush (v := iv 47) hx hb dX12_products_10 rfl ?_
    refine xc_iV G (b := 111) (rest := []) (As := [.int (iv 47)]) (c_X12_isSign ω l μL2 47 (by unfold ir; omega)) (wm 9 90 rfl rfl) (wm 9 92 rfl rfl) (wm 0 135 rfl rfl) rfl rfl (by decide) rfl (wm 1 18 rfl rfl) (wm 9 93 rfl rfl) (by decide) hR ⟨nfr hF (by decide), nlo hLo (by decide)⟩ (n := 1) rfl rfl (Nat.le_of_ble_eq_true rfl) hl.1 dX12_products_12 (fun r_125 μ124 ρ d0 H locs hr_r_125 hp G => ?_)
    have hr_r_125 : -2147483648 ≤ r_125 ∧ r_125 ≤ 2147483647 := hr_r_125
    obtain ⟨hsm_126, hp_127⟩ := hp
    have hsm_126 := Eq.symm hsm_126
    subst hsm_126
    have e_128 : μL2.1 111 31 = μ.1 111 31 := (hi_5 31 (by decide))
    refine xb_if_ne (tgt := 27) hx hb (by unfold ir; omega) dX12_products_15 (by decide) (fun c_15 => ?_) (fun c_15 => ?_)
    · refine lv_aload_n hx hb dX12_products_27 rfl (lv_at hl 0 rfl) ?_
      refine xa_geti G fd_X12 (a := 111) (x := μL2.1 111 13) 13 rfl (by decide) rfl (wm 7 162 rfl rfl) ⟨rfl, rfl, rfl⟩ dX12_products_28 rfl rfl ?_
      have hr_129 : -2147483648 ≤ μL2.1 111 13 ∧ μL2.1 111 13 ≤ 2147483647 := by have h9 := G.hr (a := 111) (k := 13) rfl; exact h9
      refine lv_istore_n (lv' := [(1, .int (iv (μL2.1 111 13))), (0, .ref (oP ω 111))]) hx hb dX12_products_31 rfl hl (by decide) rfl (fun ls hl => ?_)
      refine lv_aload_n hx hb dX12_products_32 rfl (lv_at hl 1 rfl) ?_
      refine lv_iconst (v := iv 0) hx hb dX12_products_33 rfl ?_
      have e_130 : μL2.1 111 14 = tt := ((hi_5 14 (by decide)).trans htt.symm)
      refine xc_iV G (b := 111) (rest := []) (As := [.int (iv 0)]) (c_X12_skips ω l μL2 0 tt (by unfold ir; omega) (by omega) (by omega)) (wm 9 159 rfl rfl) (wm 9 161 rfl rfl) (wm 0 152 rfl rfl) rfl rfl (by decide) rfl (wm 1 18 rfl rfl) (wm 9 162 rfl rfl) (by decide) hR ⟨nfr hF (by decide), nlo hLo (by decide)⟩ (n := 1) rfl rfl (Nat.le_of_ble_eq_true rfl) hl.1 dX12_products_34 (fun r_132 μ131 ρ d0 H locs hr_r_132 hp G => ?_)
      have hr_r_132 : -2147483648 ≤ r_132 ∧ r_132 ≤ 2147483647 := hr_r_132
      obtain ⟨F_133, hp_134, hp_135, hp_136⟩ := hp
      have hqr_r_132 : (r_132 = -1) ∨ (μ.1 111 22 ≤ r_132 ∧ r_132 < μ131.1 111 22) := by rcases hp_135 with ⟨q1, q2, q3, q4⟩ | ⟨q1, q2, q3⟩; (right; have := q2.2.1; omega); (left; exact q2)
      have hxt_137 : mEXT μ μ131 := hi_16.tr hp_135.ext
      have e_138 : μ131.1 111 31 = μ.1 111 31 := ((hp_134 31 (by decide)).trans (hi_5 31 (by decide)))
      have e_139 : wr μ131 = wr μL2 := (wr_cg (hp_134 15 (by decide)))
      have e_140 : bd μ131 = bd μL2 := (bd_cg (hp_134 15 (by decide)) (hp_134 16 (by decide)) (hp_134 17 (by decide)))
      have e_141 : nn μ131 = nn μL2 := (nn_cg (hp_134 15 (by decide)) (hp_134 18 (by decide)))
      replace hp_135 := fun _ : Unit => hp_135
      have e_143 : μ131.1 111 29 = μL2.1 111 29 := (hp_134 29 (by decide))
      have hX_142 : ∀ _ : Unit, bd μ131 = 0 → mPX μo μ131 tt 1 1 HH (lsk r_132 ++ []) := fun _ h0 => mPX.sk ((hX_20 ()) (by have e9 : bd μL2 = bd μL2 := rfl; have e8 : bd μ131 = bd μL2 := (bd_cg (hp_134 15 (by decide)) (hp_134 16 (by decide)) (hp_134 17 (by decide))); omega)) (hp_135 ()) (by omega) (by omega) (by decide)
      refine lv_istore_n (lv' := [(2, .int (iv r_132)), (1, .int (iv (μL2.1 111 13))), (0, .ref (oP ω 111))]) hx hb dX12_products_37 rfl hl (by decide) rfl (fun ls hl => ?_)
      refine lv_aload_n hx hb dX12_products_38 rfl (lv_at hl 2 rfl) ?_
      have hPM_144 : PM μ131 := hi_6.cg ((((hp_134 4 (by decide)).trans (hi_5 4 (by decide)))).trans ((hi_5 4 (by decide))).symm) (hp_134 6 (by decide)) ((((hp_134 7 (by decide)).trans (hi_5 7 (by decide)))).trans ((hi_5 7 (by decide))).symm) (hp_134 8 (by decide)) (hp_134 9 (by decide)) (hp_134 11 (by decide)) (hp_134 12 (by decide)) ((((hp_134 14 (by decide)).trans ((hi_5 14 (by decide)).trans htt.symm))).trans (((hi_5 14 (by decide)).trans htt.symm)).symm) (hp_134 15 (by decide)) (hp_134 29 (by decide)) (fun j => (F_133.1 123 (by decide) j))
      have e_145 : wr μ131 = wr μL2 := (wr_cg (hp_134 15 (by decide)))
      have e_146 : nn μ131 = nn μL2 := (nn_cg (hp_134 15 (by decide)) (hp_134 18 (by decide)))
      have e_147 : μ131.1 111 8 = μL2.1 111 8 := (hp_134 8 (by decide))
      have e_148 : wr μ131 = wr μL2 := (wr_cg (hp_134 15 (by decide)))
      have e_149 : μ131.1 111 9 = μL2.1 111 9 := (hp_134 9 (by decide))
      have e_150 : wr μ131 = wr μL2 := (wr_cg (hp_134 15 (by decide)))
      have e_151 : wr μ131 = wr μL2 := (wr_cg (hp_134 15 (by decide)))
      have e_152 : bd μ131 = bd μL2 := (bd_cg (hp_134 15 (by decide)) (hp_134 16 (by decide)) (hp_134 17 (by decide)))
      have e_153 : nn μ131 = nn μL2 := (nn_cg (hp_134 15 (by decide)) (hp_134 18 (by decide)))
      refine xc_vV G (b := 111) (rest := []) (As := []) (c_X12_next ω l μ131  hPM_144 (by omega) (by omega)) (wm 9 0 rfl rfl) (wm 9 2 rfl rfl) (wm 0 119 rfl rfl) rfl rfl (by decide) rfl (wm 1 18 rfl rfl) (wm 9 3 rfl rfl) (by decide) hR ⟨nfr hF (by decide), nlo hLo (by decide)⟩ (n := 0) rfl rfl (Nat.le_of_ble_eq_true rfl) hl.1 dX12_products_39 (fun μ154 ρ d0 H locs hp G => ?_)
      obtain ⟨F_155, hp_156, hp_157, hp_158, hp_159, hp_160⟩ := hp
      have hpl_161 := hp_157.pl
      have hw_162 := wr_r (μ := μ131)
      have hw_163 := wr_r (μ := μ154)
      have e_164 : μ154.1 111 31 = μ.1 111 31 := ((hp_156 31 (by decide)).trans ((hp_134 31 (by decide)).trans (hi_5 31 (by decide))))
      refine lv_aload_n hx hb dX12_products_42 rfl (lv_at hl 2 rfl) ?_
      have e_165 : μ154.1 111 29 = μL2.1 111 29 := ((hp_156 29 (by decide)).trans (hp_134 29 (by decide)))
      have e_167 : μ154.1 111 29 = μL2.1 111 29 := ((hp_156 29 (by decide)).trans (hp_134 29 (by decide)))
      have hX_166 : ∀ _ : Unit, bd μ154 = 0 → mPX μo μ154 tt 1 1 HH (lsk r_132 ++ []) := fun _ h0 => (hX_142 () (by have e9 : bd μ131 = bd μL2 := (bd_cg (hp_134 15 (by decide)) (hp_134 16 (by decide)) (hp_134 17 (by decide))); have e8 : bd μ154 = bd μ154 := rfl; omega)).qm (q0m.fr (K := [111]) (FrM.tr FrM.rf F_155 (by decide)) (by decide) (by decide) (by decide) (hp_156 22 (by decide)) (nS.le (by omega) (Int.le_of_eq (((((hp_156 31 (by decide)).trans ((hp_134 31 (by decide)).trans (hi_5 31 (by decide))))).trans (((hp_134 31 (by decide)).trans (hi_5 31 (by decide)))).symm)).symm)))
      have e_168 : μ154.1 111 29 = μL2.1 111 29 := ((hp_156 29 (by decide)).trans (hp_134 29 (by decide)))
      have e_169 : μ154.1 111 29 = μL2.1 111 29 := ((hp_156 29 (by decide)).trans (hp_134 29 (by decide)))
      have hxt_170 : mEXT μ μ154 := hxt_137.tr (q0m.fr (K := [111]) (FrM.tr FrM.rf F_155 (by decide)) (by decide) (by decide) (by decide) (hp_156 22 (by decide)) (nS.le (by omega) (Int.le_of_eq (((((hp_156 31 (by decide)).trans ((hp_134 31 (by decide)).trans (hi_5 31 (by decide))))).trans (((hp_134 31 (by decide)).trans (hi_5 31 (by decide)))).symm)).symm))).1
      have e_171 : μ154.1 111 14 = tt := ((hp_156 14 (by decide)).trans ((hp_134 14 (by decide)).trans ((hi_5 14 (by decide)).trans htt.symm)))
      have e_172 : μ154.1 111 22 = μ131.1 111 22 := (hp_156 22 (by decide))
      have e_173 : μ154.1 111 22 = μ131.1 111 22 := (hp_156 22 (by decide))
      have e_174 : μ154.1 111 39 = μL2.1 111 39 := ((hp_156 39 (by decide)).trans (hp_134 39 (by decide)))
      have e_175 : μ154.1 111 39 = μL2.1 111 39 := ((hp_156 39 (by decide)).trans (hp_134 39 (by decide)))
      have e_176 : μ154.1 111 22 = μ131.1 111 22 := (hp_156 22 (by decide))
      have e_177 : μ154.1 111 31 = μ.1 111 31 := ((hp_156 31 (by decide)).trans ((hp_134 31 (by decide)).trans (hi_5 31 (by decide))))
      have e_178 : μ154.1 111 31 = μ.1 111 31 := ((hp_156 31 (by decide)).trans ((hp_134 31 (by decide)).trans (hi_5 31 (by decide))))
      have e_179 : μ154.1 111 22 = μ131.1 111 22 := (hp_156 22 (by decide))
      have e_180 : μ154.1 111 22 = μ131.1 111 22 := (hp_156 22 (by decide))
      have e_181 : μ154.1 111 29 = μL2.1 111 29 := ((hp_156 29 (by decide)).trans (hp_134 29 (by decide)))
      have e_182 : μ154.1 111 39 = μL2.1 111 39 := ((hp_156 39 (by decide)).trans (hp_134 39 (by decide)))
      refine xc_vV G (b := 111) (rest := []) (As := []) (c_X12_unary ω l μ154 F Lo Fu Lu kf tt (by omega) hF hLo hFu hLu hE hU hp_157 (by omega) (by omega) (by omega) (by omega) (by omega) (by omega) (fun _ h0 => ((hX_166 ()) h0).h1.1)) (wm 9 155 rfl rfl) (wm 9 157 rfl rfl) (wm 0 151 rfl rfl) rfl rfl (by decide) rfl (wm 1 18 rfl rfl) (wm 9 158 rfl rfl) (by decide) hR ⟨sfr (F := F) (a := 4) (by decide), slo (L := Lo) (m := 6) (a := 93) (by decide)⟩ (n := 0) rfl rfl (Nat.le_of_ble_eq_true rfl) hl.1 dX12_products_43 (fun μ183 ρ d0 H locs hp G => ?_)
      obtain ⟨F_184, hp_185, hp_186, hp_187, hp_188, hp_189, hp_190, hp_191, hp_192, hp_193, hp_194, hp_195⟩ := hp
      have hpl_196 := hp_186.pl
      have hw_197 := wr_r (μ := μ183)
      have hxt_198 : mEXT μ μ183 := hxt_170.tr hp_195
      have e_199 : μ183.1 111 31 = μ.1 111 31 := ((hp_185 31 (by decide)).trans ((hp_156 31 (by decide)).trans ((hp_134 31 (by decide)).trans (hi_5 31 (by decide)))))
      have hX_200 : ∀ _ : Unit, bd μ183 = 0 → mPX μo μ183 tt 2 1 HH (lsk r_132 ++ []) := fun _ h0 => (((hX_166 ()) (by have e9 : bd μ154 = bd μ154 := rfl; have e8 : bd μ183 = bd μ183 := rfl; omega)).app (hp_194 () h0) (by omega)).ee (by omega)
      refine lv_aload_n hx hb dX12_products_46 rfl (lv_at hl 2 rfl) ?_
      refine lv_iload_n hx hb dX12_products_47 rfl (lv_at hl 1 rfl) ?_
      refine lv_iload_n hx hb dX12_products_48 rfl (lv_at hl 0 rfl) ?_
      have e_201 : μ183.1 111 14 = tt := ((hp_185 14 (by decide)).trans ((hp_156 14 (by decide)).trans ((hp_134 14 (by decide)).trans ((hi_5 14 (by decide)).trans htt.symm))))
      refine xc_vV G (b := 111) (rest := []) (As := [.int (iv (μL2.1 111 13)), .int (iv r_132)]) (c_X12_two ω l μ183 (μL2.1 111 13) r_132 μo (HH) tt (by unfold ir; omega) (by unfold ir; omega) (by omega) (by omega) (by unfold sgn; omega) (by omega) (fun _ => (hX_200 ()))) (wm 9 223 rfl rfl) (wm 9 225 rfl rfl) (wm 0 168 rfl rfl) rfl rfl (by decide) rfl (wm 1 18 rfl rfl) (wm 9 226 rfl rfl) (by decide) hR ⟨nfr hF (by decide), nlo hLo (by decide)⟩ (n := 2) rfl rfl (Nat.le_of_ble_eq_true rfl) hl.1 dX12_products_49 (fun μ202 ρ d0 H locs hp G => ?_)
      obtain ⟨F_203, hp_204, hp_205, hp_206, hp_207, hp_208⟩ := hp
      have hw_209 := wr_r (μ := μ202)
      have hxt_210 : mEXT μ μ202 := hp_208 _ hxt_198 (by omega)
      have e_211 : bd μ202 = bd μ183 := (bd_cg (hp_204 15 (by decide)) (hp_204 16 (by decide)) (hp_204 17 (by decide)))
      have e_213 : μ202.1 111 29 = μ183.1 111 29 := (hp_204 29 (by decide))
      have hX_212 : ∀ _ : Unit, bd μ202 = 0 → mPX μo μ202 tt 1 1 HH [] := fun _ h0 => mPX.of (hp_207 () h0)
      refine lv_goto (tgt := 0) hx hb dX12_products_52 (by decide) ?_
      have hPM_214 : PM μ202 := hp_186.cg ((((hp_204 4 (by decide)).trans ((hp_185 4 (by decide)).trans ((hp_156 4 (by decide)).trans ((hp_134 4 (by decide)).trans (hi_5 4 (by decide))))))).trans (((hp_185 4 (by decide)).trans ((hp_156 4 (by decide)).trans ((hp_134 4 (by decide)).trans (hi_5 4 (by decide)))))).symm) (hp_204 6 (by decide)) ((((hp_204 7 (by decide)).trans ((hp_185 7 (by decide)).trans ((hp_156 7 (by decide)).trans ((hp_134 7 (by decide)).trans (hi_5 7 (by decide))))))).trans (((hp_185 7 (by decide)).trans ((hp_156 7 (by decide)).trans ((hp_134 7 (by decide)).trans (hi_5 7 (by decide)))))).symm) (hp_204 8 (by decide)) (hp_204 9 (by decide)) (hp_204 11 (by decide)) (hp_204 12 (by decide)) ((((hp_204 14 (by decide)).trans ((hp_185 14 (by decide)).trans ((hp_156 14 (by decide)).trans ((hp_134 14 (by decide)).trans ((hi_5 14 (by decide)).trans htt.symm)))))).trans (((hp_185 14 (by decide)).trans ((hp_156 14 (by decide)).trans ((hp_134 14 (by decide)).trans ((hi_5 14 (by decide)).trans htt.symm))))).symm) (hp_204 15 (by decide)) (hp_204 29 (by decide)) (fun j => (F_203.1 123 (by decide) j))
      have e_215 : μ202.1 111 9 = μ183.1 111 9 := (hp_204 9 (by decide))
      have e_216 : wr μ202 = wr μ183 := (wr_cg (hp_204 15 (by decide)))
      have e_217 : μ202.1 111 9 = μ183.1 111 9 := (hp_204 9 (by decide))
      have e_218 : μ202.1 111 29 = μ183.1 111 29 := (hp_204 29 (by decide))
      have e_219 : wr μ202 = wr μ183 := (wr_cg (hp_204 15 (by decide)))
      have e_220 : bd μ202 = bd μ183 := (bd_cg (hp_204 15 (by decide)) (hp_204 16 (by decide)) (hp_204 17 (by decide)))
      have e_221 : wr μ202 = wr μ183 := (wr_cg (hp_204 15 (by decide)))
      have e_222 : nn μ202 = nn μ183 := (nn_cg (hp_204 15 (by decide)) (hp_204 18 (by decide)))
      have e_223 : μ202.1 111 39 = μ183.1 111 39 := (hp_204 39 (by decide))
      have e_224 : wr μ202 = wr μ183 := (wr_cg (hp_204 15 (by decide)))
      have e_225 : nn μ202 = nn μ183 := (nn_cg (hp_204 15 (by decide)) (hp_204 18 (by decide)))
      exact ih _ _ _ _ _ _ _ (by omega) ⟨(FrM.tr (FrM.tr (FrM.tr (FrM.tr FL3 F_133 (by decide)) F_155 (by decide)) F_184 (by decide)) F_203 (by decide)), (fun j hj => ((hp_204 j (fun h9 => hj ((by decide : ∀ x ∈ ([22] : List Int), x ∈ ([6, 8, 9, 10, 11, 12, 13, 15, 16, 17, 18, 22, 29, 39] : List Int)) j h9))).trans ((hp_185 j (fun h9 => hj ((by decide : ∀ x ∈ ([6, 8, 9, 10, 11, 12, 13, 15, 16, 17, 18, 22, 29, 39] : List Int), x ∈ ([6, 8, 9, 10, 11, 12, 13, 15, 16, 17, 18, 22, 29, 39] : List Int)) j h9))).trans ((hp_156 j (fun h9 => hj ((by decide : ∀ x ∈ ([6, 8, 9, 10, 11, 12, 13, 15] : List Int), x ∈ ([6, 8, 9, 10, 11, 12, 13, 15, 16, 17, 18, 22, 29, 39] : List Int)) j h9))).trans ((hp_134 j (fun h9 => hj ((by decide : ∀ x ∈ ([22] : List Int), x ∈ ([6, 8, 9, 10, 11, 12, 13, 15, 16, 17, 18, 22, 29, 39] : List Int)) j h9))).trans (hi_5 j (fun h9 => hj ((by decide : ∀ x ∈ ([6, 8, 9, 10, 11, 12, 13, 15, 16, 17, 18, 22, 29, 39] : List Int), x ∈ ([6, 8, 9, 10, 11, 12, 13, 15, 16, 17, 18, 22, 29, 39] : List Int)) j h9)))))))), hPM_214, (by omega), (by omega), (by omega), (by omega), (by omega), (by omega), (fun j hj => ((F_203.1 126 (by decide) j).trans ((hp_193 j (by omega)).trans ((F_155.1 126 (by decide) j).trans ((F_133.1 126 (by decide) j).trans (hi_13 j (by omega))))))), (fun _ h0 => (mPX.ex ((hX_212 ()) h0)).e (by omega)), (by omega), hxt_210, rfl, lv_sub hl [2] rfl⟩ G
    · refine lv_aload_n hx hb dX12_products_18 rfl (lv_at hl 0 rfl) ?_
      refine lv_bipush (v := iv 37) hx hb dX12_products_19 rfl ?_
      refine xc_iV G (b := 111) (rest := []) (As := [.int (iv 37)]) (c_X12_isSign ω l μL2 37 (by unfold ir; omega)) (wm 9 90 rfl rfl) (wm 9 92 rfl rfl) (wm 0 135 rfl rfl) rfl rfl (by decide) rfl (wm 1 18 rfl rfl) (wm 9 93 rfl rfl) (by decide) hR ⟨nfr hF (by decide), nlo hLo (by decide)⟩ (n := 1) rfl rfl (Nat.le_of_ble_eq_true rfl) hl.1 dX12_products_21 (fun r_227 μ226 ρ d0 H locs hr_r_227 hp G => ?_)
      have hr_r_227 : -2147483648 ≤ r_227 ∧ r_227 ≤ 2147483647 := hr_r_227
      obtain ⟨hsm_228, hp_229⟩ := hp
      have hsm_228 := Eq.symm hsm_228
      subst hsm_228
      have e_230 : μL2.1 111 31 = μ.1 111 31 := (hi_5 31 (by decide))
      refine xb_if_eq (tgt := 55) hx hb (by unfold ir; omega) dX12_products_24 (by decide) (fun c_24 => ?_) (fun c_24 => ?_)
      · exact xr_v G hret hlk dX12_products_55 ⟨(FrM.tr FrM.rf FL3 (by decide)), (fun j hj => (hi_5 j (fun h9 => hj ((by decide : ∀ x ∈ ([6, 8, 9, 10, 11, 12, 13, 15, 16, 17, 18, 22, 29, 39] : List Int), x ∈ ([6, 8, 9, 10, 11, 12, 13, 15, 16, 17, 18, 22, 29, 39] : List Int)) j h9)))), hi_6, (by omega), (by omega), (by omega), (by omega), (by omega), (by omega), (fun j hj => (hi_13 j (by omega))), (fun _ h0 => (mPX.ex ((hX_20 ()) h0)).e (by omega)), hi_16⟩
      · refine lv_aload_n hx hb dX12_products_27 rfl (lv_at hl 0 rfl) ?_
        refine xa_geti G fd_X12 (a := 111) (x := μL2.1 111 13) 13 rfl (by decide) rfl (wm 7 162 rfl rfl) ⟨rfl, rfl, rfl⟩ dX12_products_28 rfl rfl ?_
        have hr_231 : -2147483648 ≤ μL2.1 111 13 ∧ μL2.1 111 13 ≤ 2147483647 := by have h9 := G.hr (a := 111) (k := 13) rfl; exact h9
        refine lv_istore_n (lv' := [(1, .int (iv (μL2.1 111 13))), (0, .ref (oP ω 111))]) hx hb dX12_products_31 rfl hl (by decide) rfl (fun ls hl => ?_)
        refine lv_aload_n hx hb dX12_products_32 rfl (lv_at hl 1 rfl) ?_
        refine lv_iconst (v := iv 0) hx hb dX12_products_33 rfl ?_
        have e_232 : μL2.1 111 14 = tt := ((hi_5 14 (by decide)).trans htt.symm)
        refine xc_iV G (b := 111) (rest := []) (As := [.int (iv 0)]) (c_X12_skips ω l μL2 0 tt (by unfold ir; omega) (by omega) (by omega)) (wm 9 159 rfl rfl) (wm 9 161 rfl rfl) (wm 0 152 rfl rfl) rfl rfl (by decide) rfl (wm 1 18 rfl rfl) (wm 9 162 rfl rfl) (by decide) hR ⟨nfr hF (by decide), nlo hLo (by decide)⟩ (n := 1) rfl rfl (Nat.le_of_ble_eq_true rfl) hl.1 dX12_products_34 (fun r_234 μ233 ρ d0 H locs hr_r_234 hp G => ?_)
        have hr_r_234 : -2147483648 ≤ r_234 ∧ r_234 ≤ 2147483647 := hr_r_234
        obtain ⟨F_235, hp_236, hp_237, hp_238⟩ := hp
        have hqr_r_234 : (r_234 = -1) ∨ (μ.1 111 22 ≤ r_234 ∧ r_234 < μ233.1 111 22) := by rcases hp_237 with ⟨q1, q2, q3, q4⟩ | ⟨q1, q2, q3⟩; (right; have := q2.2.1; omega); (left; exact q2)
        have hxt_239 : mEXT μ μ233 := hi_16.tr hp_237.ext
        have e_240 : μ233.1 111 31 = μ.1 111 31 := ((hp_236 31 (by decide)).trans (hi_5 31 (by decide)))
        have e_241 : wr μ233 = wr μL2 := (wr_cg (hp_236 15 (by decide)))
        have e_242 : bd μ233 = bd μL2 := (bd_cg (hp_236 15 (by decide)) (hp_236 16 (by decide)) (hp_236 17 (by decide)))
        have e_243 : nn μ233 = nn μL2 := (nn_cg (hp_236 15 (by decide)) (hp_236 18 (by decide)))
        replace hp_237 := fun _ : Unit => hp_237
        have e_245 : μ233.1 111 29 = μL2.1 111 29 := (hp_236 29 (by decide))
        have hX_244 : ∀ _ : Unit, bd μ233 = 0 → mPX μo μ233 tt 1 1 HH (lsk r_234 ++ []) := fun _ h0 => mPX.sk ((hX_20 ()) (by have e9 : bd μL2 = bd μL2 := rfl; have e8 : bd μ233 = bd μL2 := (bd_cg (hp_236 15 (by decide)) (hp_236 16 (by decide)) (hp_236 17 (by decide))); omega)) (hp_237 ()) (by omega) (by omega) (by decide)
        refine lv_istore_n (lv' := [(2, .int (iv r_234)), (1, .int (iv (μL2.1 111 13))), (0, .ref (oP ω 111))]) hx hb dX12_products_37 rfl hl (by decide) rfl (fun ls hl => ?_)
        refine lv_aload_n hx hb dX12_products_38 rfl (lv_at hl 2 rfl) ?_
        have hPM_246 : PM μ233 := hi_6.cg ((((hp_236 4 (by decide)).trans (hi_5 4 (by decide)))).trans ((hi_5 4 (by decide))).symm) (hp_236 6 (by decide)) ((((hp_236 7 (by decide)).trans (hi_5 7 (by decide)))).trans ((hi_5 7 (by decide))).symm) (hp_236 8 (by decide)) (hp_236 9 (by decide)) (hp_236 11 (by decide)) (hp_236 12 (by decide)) ((((hp_236 14 (by decide)).trans ((hi_5 14 (by decide)).trans htt.symm))).trans (((hi_5 14 (by decide)).trans htt.symm)).symm) (hp_236 15 (by decide)) (hp_236 29 (by decide)) (fun j => (F_235.1 123 (by decide) j))
        have e_247 : wr μ233 = wr μL2 := (wr_cg (hp_236 15 (by decide)))
        have e_248 : nn μ233 = nn μL2 := (nn_cg (hp_236 15 (by decide)) (hp_236 18 (by decide)))
        have e_249 : μ233.1 111 8 = μL2.1 111 8 := (hp_236 8 (by decide))
        have e_250 : wr μ233 = wr μL2 := (wr_cg (hp_236 15 (by decide)))
        have e_251 : μ233.1 111 9 = μL2.1 111 9 := (hp_236 9 (by decide))
        have e_252 : wr μ233 = wr μL2 := (wr_cg (hp_236 15 (by decide)))
        have e_253 : wr μ233 = wr μL2 := (wr_cg (hp_236 15 (by decide)))
        have e_254 : bd μ233 = bd μL2 := (bd_cg (hp_236 15 (by decide)) (hp_236 16 (by decide)) (hp_236 17 (by decide)))
        have e_255 : nn μ233 = nn μL2 := (nn_cg (hp_236 15 (by decide)) (hp_236 18 (by decide)))
        refine xc_vV G (b := 111) (rest := []) (As := []) (c_X12_next ω l μ233  hPM_246 (by omega) (by omega)) (wm 9 0 rfl rfl) (wm 9 2 rfl rfl) (wm 0 119 rfl rfl) rfl rfl (by decide) rfl (wm 1 18 rfl rfl) (wm 9 3 rfl rfl) (by decide) hR ⟨nfr hF (by decide), nlo hLo (by decide)⟩ (n := 0) rfl rfl (Nat.le_of_ble_eq_true rfl) hl.1 dX12_products_39 (fun μ256 ρ d0 H locs hp G => ?_)
        obtain ⟨F_257, hp_258, hp_259, hp_260, hp_261, hp_262⟩ := hp
        have hpl_263 := hp_259.pl
        have hw_264 := wr_r (μ := μ233)
        have hw_265 := wr_r (μ := μ256)
        have e_266 : μ256.1 111 31 = μ.1 111 31 := ((hp_258 31 (by decide)).trans ((hp_236 31 (by decide)).trans (hi_5 31 (by decide))))
        refine lv_aload_n hx hb dX12_products_42 rfl (lv_at hl 2 rfl) ?_
        have e_267 : μ256.1 111 29 = μL2.1 111 29 := ((hp_258 29 (by decide)).trans (hp_236 29 (by decide)))
        have e_269 : μ256.1 111 29 = μL2.1 111 29 := ((hp_258 29 (by decide)).trans (hp_236 29 (by decide)))
        have hX_268 : ∀ _ : Unit, bd μ256 = 0 → mPX μo μ256 tt 1 1 HH (lsk r_234 ++ []) := fun _ h0 => (hX_244 () (by have e9 : bd μ233 = bd μL2 := (bd_cg (hp_236 15 (by decide)) (hp_236 16 (by decide)) (hp_236 17 (by decide))); have e8 : bd μ256 = bd μ256 := rfl; omega)).qm (q0m.fr (K := [111]) (FrM.tr FrM.rf F_257 (by decide)) (by decide) (by decide) (by decide) (hp_258 22 (by decide)) (nS.le (by omega) (Int.le_of_eq (((((hp_258 31 (by decide)).trans ((hp_236 31 (by decide)).trans (hi_5 31 (by decide))))).trans (((hp_236 31 (by decide)).trans (hi_5 31 (by decide)))).symm)).symm)))
        have e_270 : μ256.1 111 29 = μL2.1 111 29 := ((hp_258 29 (by decide)).trans (hp_236 29 (by decide)))
        have e_271 : μ256.1 111 29 = μL2.1 111 29 := ((hp_258 29 (by decide)).trans (hp_236 29 (by decide)))
        have hxt_272 : mEXT μ μ256 := hxt_239.tr (q0m.fr (K := [111]) (FrM.tr FrM.rf F_257 (by decide)) (by decide) (by decide) (by decide) (hp_258 22 (by decide)) (nS.le (by omega) (Int.le_of_eq (((((hp_258 31 (by decide)).trans ((hp_236 31 (by decide)).trans (hi_5 31 (by decide))))).trans (((hp_236 31 (by decide)).trans (hi_5 31 (by decide)))).symm)).symm))).1
        have e_273 : μ256.1 111 14 = tt := ((hp_258 14 (by decide)).trans ((hp_236 14 (by decide)).trans ((hi_5 14 (by decide)).trans htt.symm)))
        have e_274 : μ256.1 111 22 = μ233.1 111 22 := (hp_258 22 (by decide))
        have e_275 : μ256.1 111 22 = μ233.1 111 22 := (hp_258 22 (by decide))
        have e_276 : μ256.1 111 39 = μL2.1 111 39 := ((hp_258 39 (by decide)).trans (hp_236 39 (by decide)))
        have e_277 : μ256.1 111 39 = μL2.1 111 39 := ((hp_258 39 (by decide)).trans (hp_236 39 (by decide)))
        have e_278 : μ256.1 111 22 = μ233.1 111 22 := (hp_258 22 (by decide))
        have e_279 : μ256.1 111 31 = μ.1 111 31 := ((hp_258 31 (by decide)).trans ((hp_236 31 (by decide)).trans (hi_5 31 (by decide))))
        have e_280 : μ256.1 111 31 = μ.1 111 31 := ((hp_258 31 (by decide)).trans ((hp_236 31 (by decide)).trans (hi_5 31 (by decide))))
        have e_281 : μ256.1 111 22 = μ233.1 111 22 := (hp_258 22 (by decide))
        have e_282 : μ256.1 111 22 = μ233.1 111 22 := (hp_258 22 (by decide))
        have e_283 : μ256.1 111 29 = μL2.1 111 29 := ((hp_258 29 (by decide)).trans (hp_236 29 (by decide)))
        have e_284 : μ256.1 111 39 = μL2.1 111 39 := ((hp_258 39 (by decide)).trans (hp_236 39 (by decide)))
        refine xc_vV G (b := 111) (rest := []) (As := []) (c_X12_unary ω l μ256 F Lo Fu Lu kf tt (by omega) hF hLo hFu hLu hE hU hp_259 (by omega) (by omega) (by omega) (by omega) (by omega) (by omega) (fun _ h0 => ((hX_268 ()) h0).h1.1)) (wm 9 155 rfl rfl) (wm 9 157 rfl rfl) (wm 0 151 rfl rfl) rfl rfl (by decide) rfl (wm 1 18 rfl rfl) (wm 9 158 rfl rfl) (by decide) hR ⟨sfr (F := F) (a := 4) (by decide), slo (L := Lo) (m := 6) (a := 93) (by decide)⟩ (n := 0) rfl rfl (Nat.le_of_ble_eq_true rfl) hl.1 dX12_products_43 (fun μ285 ρ d0 H locs hp G => ?_)
        obtain ⟨F_286, hp_287, hp_288, hp_289, hp_290, hp_291, hp_292, hp_293, hp_294, hp_295, hp_296, hp_297⟩ := hp
        have hpl_298 := hp_288.pl
        have hw_299 := wr_r (μ := μ285)
        have hxt_300 : mEXT μ μ285 := hxt_272.tr hp_297
        have e_301 : μ285.1 111 31 = μ.1 111 31 := ((hp_287 31 (by decide)).trans ((hp_258 31 (by decide)).trans ((hp_236 31 (by decide)).trans (hi_5 31 (by decide)))))
        have hX_302 : ∀ _ : Unit, bd μ285 = 0 → mPX μo μ285 tt 2 1 HH (lsk r_234 ++ []) := fun _ h0 => (((hX_268 ()) (by have e9 : bd μ256 = bd μ256 := rfl; have e8 : bd μ285 = bd μ285 := rfl; omega)).app (hp_296 () h0) (by omega)).ee (by omega)
        refine lv_aload_n hx hb dX12_products_46 rfl (lv_at hl 2 rfl) ?_
        refine lv_iload_n hx hb dX12_products_47 rfl (lv_at hl 1 rfl) ?_
        refine lv_iload_n hx hb dX12_products_48 rfl (lv_at hl 0 rfl) ?_
        have e_303 : μ285.1 111 14 = tt := ((hp_287 14 (by decide)).trans ((hp_258 14 (by decide)).trans ((hp_236 14 (by decide)).trans ((hi_5 14 (by decide)).trans htt.symm))))
        refine xc_vV G (b := 111) (rest := []) (As := [.int (iv (μL2.1 111 13)), .int (iv r_234)]) (c_X12_two ω l μ285 (μL2.1 111 13) r_234 μo (HH) tt (by unfold ir; omega) (by unfold ir; omega) (by omega) (by omega) (by unfold sgn; omega) (by omega) (fun _ => (hX_302 ()))) (wm 9 223 rfl rfl) (wm 9 225 rfl rfl) (wm 0 168 rfl rfl) rfl rfl (by decide) rfl (wm 1 18 rfl rfl) (wm 9 226 rfl rfl) (by decide) hR ⟨nfr hF (by decide), nlo hLo (by decide)⟩ (n := 2) rfl rfl (Nat.le_of_ble_eq_true rfl) hl.1 dX12_products_49 (fun μ304 ρ d0 H locs hp G => ?_)
        obtain ⟨F_305, hp_306, hp_307, hp_308, hp_309, hp_310⟩ := hp
        have hw_311 := wr_r (μ := μ304)
        have hxt_312 : mEXT μ μ304 := hp_310 _ hxt_300 (by omega)
        have e_313 : bd μ304 = bd μ285 := (bd_cg (hp_306 15 (by decide)) (hp_306 16 (by decide)) (hp_306 17 (by decide)))
        have e_315 : μ304.1 111 29 = μ285.1 111 29 := (hp_306 29 (by decide))
        have hX_314 : ∀ _ : Unit, bd μ304 = 0 → mPX μo μ304 tt 1 1 HH [] := fun _ h0 => mPX.of (hp_309 () h0)
        refine lv_goto (tgt := 0) hx hb dX12_products_52 (by decide) ?_
        have hPM_316 : PM μ304 := hp_288.cg ((((hp_306 4 (by decide)).trans ((hp_287 4 (by decide)).trans ((hp_258 4 (by decide)).trans ((hp_236 4 (by decide)).trans (hi_5 4 (by decide))))))).trans (((hp_287 4 (by decide)).trans ((hp_258 4 (by decide)).trans ((hp_236 4 (by decide)).trans (hi_5 4 (by decide)))))).symm) (hp_306 6 (by decide)) ((((hp_306 7 (by decide)).trans ((hp_287 7 (by decide)).trans ((hp_258 7 (by decide)).trans ((hp_236 7 (by decide)).trans (hi_5 7 (by decide))))))).trans (((hp_287 7 (by decide)).trans ((hp_258 7 (by decide)).trans ((hp_236 7 (by decide)).trans (hi_5 7 (by decide)))))).symm) (hp_306 8 (by decide)) (hp_306 9 (by decide)) (hp_306 11 (by decide)) (hp_306 12 (by decide)) ((((hp_306 14 (by decide)).trans ((hp_287 14 (by decide)).trans ((hp_258 14 (by decide)).trans ((hp_236 14 (by decide)).trans ((hi_5 14 (by decide)).trans htt.symm)))))).trans (((hp_287 14 (by decide)).trans ((hp_258 14 (by decide)).trans ((hp_236 14 (by decide)).trans ((hi_5 14 (by decide)).trans htt.symm))))).symm) (hp_306 15 (by decide)) (hp_306 29 (by decide)) (fun j => (F_305.1 123 (by decide) j))
        have e_317 : μ304.1 111 9 = μ285.1 111 9 := (hp_306 9 (by decide))
        have e_318 : wr μ304 = wr μ285 := (wr_cg (hp_306 15 (by decide)))
        have e_319 : μ304.1 111 9 = μ285.1 111 9 := (hp_306 9 (by decide))
        have e_320 : μ304.1 111 29 = μ285.1 111 29 := (hp_306 29 (by decide))
        have e_321 : wr μ304 = wr μ285 := (wr_cg (hp_306 15 (by decide)))
        have e_322 : bd μ304 = bd μ285 := (bd_cg (hp_306 15 (by decide)) (hp_306 16 (by decide)) (hp_306 17 (by decide)))
        have e_323 : wr μ304 = wr μ285 := (wr_cg (hp_306 15 (by decide)))
        have e_324 : nn μ304 = nn μ285 := (nn_cg (hp_306 15 (by decide)) (hp_306 18 (by decide)))
        have e_325 : μ304.1 111 39 = μ285.1 111 39 := (hp_306 39 (by decide))
        have e_326 : wr μ304 = wr μ285 := (wr_cg (hp_306 15 (by decide)))
        have e_327 : nn μ304 = nn μ285 := (nn_cg (hp_306 15 (by decide)) (hp_306 18 (by decide)))
        exact ih _ _ _ _ _ _ _ (by omega) ⟨(FrM.tr (FrM.tr (FrM.tr (FrM.tr FL3 F_235 (by decide)) F_257 (by decide)) F_286 (by decide)) F_305 (by decide)), (fun j hj => ((hp_306 j (fun h9 => hj ((by decide : ∀ x ∈ ([22] : List Int), x ∈ ([6, 8, 9, 10, 11, 12, 13, 15, 16, 17, 18, 22, 29, 39] : List Int)) j h9))).trans ((hp_287 j (fun h9 => hj ((by decide : ∀ x ∈ ([6, 8, 9, 10, 11, 12, 13, 15, 16, 17, 18, 22, 29, 39] : List Int), x ∈ ([6, 8, 9, 10, 11, 12, 13, 15, 16, 17, 18, 22, 29, 39] : List Int)) j h9))).trans ((hp_258 j (fun h9 => hj ((by decide : ∀ x ∈ ([6, 8, 9, 10, 11, 12, 13, 15] : List Int), x ∈ ([6, 8, 9, 10, 11, 12, 13, 15, 16, 17, 18, 22, 29, 39] : List Int)) j h9))).trans ((hp_236 j (fun h9 => hj ((by decide : ∀ x ∈ ([22] : List Int), x ∈ ([6, 8, 9, 10, 11, 12, 13, 15, 16, 17, 18, 22, 29, 39] : List Int)) j h9))).trans (hi_5 j (fun h9 => hj ((by decide : ∀ x ∈ ([6, 8, 9, 10, 11, 12, 13, 15, 16, 17, 18, 22, 29, 39] : List Int), x ∈ ([6, 8, 9, 10, 11, 12, 13, 15, 16, 17, 18, 22, 29, 39] : List Int)) j h9)))))))), hPM_316, (by omega), (by omega), (by omega), (by omega), (by omega), (by omega), (fun j hj => ((F_305.1 126 (by decide) j).trans ((hp_295 j (by omega)).trans ((F_257.1 126 (by decide) j).trans ((F_235.1 126 (by decide) j).trans (hi_13 j (by omega))))))), (fun _ h0 => (mPX.ex ((hX_314 ()) h0)).e (by omega)), (by omega), hxt_312, rfl, lv_sub hl [2] rfl⟩ G

set_option maxHeartbeats 4000000 in
set_option maxRecDepth 100000 in
theorem c_X12_product (ω : Om) (l : Launch) (μ : M3) (F : Nat) (Lo : Nat) (Fu : Nat) (Lu : Nat) (kf : Int) (tt : Int) (htt : tt = μ.1 111 14) (hF : 60 ≤ F) (hLo : 2000 ≤ Lo) (hFu : Fu ≤ F) (hLu : Lu ≤ Lo) (hE : ∀ (μ : M3) (tt : Int) (htt : tt = μ.1 111 14) (hPM : PM μ) (hnn : 0 ≤ nn μ ∧ nn μ ≤ 9 ∧ 9 * wr μ ≤ nn μ) (hn8 : nn μ ≤ 8 + wr μ) (hcd : 0 ≤ μ.1 111 22 ∧ μ.1 111 22 ≤ 2 * μ.1 111 9 + 200 + 40 * wr μ) (hW : 0 ≤ μ.1 111 39 ∧ μ.1 111 39 ≤ μ.1 111 22) (hsl : 0 ≤ μ.1 111 31 ∧ μ.1 111 31 ≤ 300) (hfu : 0 ≤ (kf - 1) ∧ 9 ≤ nn μ + (kf - 1)) (hH0 : ∀ _ : Unit, bd μ = 0 → mH0 μ), CtV ω l yX12_expr cX12_expr 1 (F + 0) (Lo + 0) [.ref (oP ω 111)] μ (fun (μ' : M3) => (FrM [111, 113, 115, 116, 117, 123, 126] μ μ') ∧ (∀ j, j ∉ ([6, 8, 9, 10, 11, 12, 13, 15, 16, 17, 18, 22, 29, 39] : List Int) → μ'.1 111 j = μ.1 111 j) ∧ (PM μ') ∧ (μ.1 111 22 ≤ μ'.1 111 22 ∧ μ'.1 111 22 ≤ μ.1 111 22 + 2 * (μ'.1 111 9 - μ.1 111 9) + (- 1 + 3 * wr μ' - 2 * wr μ)) ∧ (μ.1 111 9 ≤ μ'.1 111 9) ∧ (μ.1 111 29 ≤ μ'.1 111 29) ∧ (wr μ ≤ wr μ' ∧ bd μ ≤ bd μ') ∧ (nn μ ≤ nn μ' ∧ nn μ' ≤ nn μ + 9 * wr μ' ∧ nn μ' ≤ 9 ∧ 9 * wr μ' ≤ nn μ') ∧ (μ'.1 111 39 = μ.1 111 39) ∧ (∀ j, j < μ.1 111 39 → μ'.1 126 j = μ.1 126 j) ∧ (∀ _ : Unit, bd μ' = 0 → mEX μ μ' tt 1 0 (11 * (9 - nn μ))) ∧ (mEXT μ μ'))) (hU : ∀ (μ : M3) (tt : Int) (htt : tt = μ.1 111 14) (hPM : PM μ) (hnn : 0 ≤ nn μ ∧ nn μ ≤ 9 ∧ 9 * wr μ ≤ nn μ) (hn8 : nn μ ≤ 8 + wr μ) (hcd : 0 ≤ μ.1 111 22 ∧ μ.1 111 22 ≤ 2 * μ.1 111 9 + 200 + 40 * wr μ) (hW : 0 ≤ μ.1 111 39 ∧ μ.1 111 39 ≤ μ.1 111 22) (hsl : 0 ≤ μ.1 111 31 ∧ μ.1 111 31 ≤ 300) (hfu : 0 ≤ (kf - 1) ∧ 9 ≤ nn μ + (kf - 1)) (hH0 : ∀ _ : Unit, bd μ = 0 → mH0 μ), CtV ω l yX12_unary cX12_unary 6 (Fu + 0) (Lu + 0) [.ref (oP ω 111)] μ (fun (μ' : M3) => (FrM [111, 113, 115, 116, 117, 123, 126] μ μ') ∧ (∀ j, j ∉ ([6, 8, 9, 10, 11, 12, 13, 15, 16, 17, 18, 22, 29, 39] : List Int) → μ'.1 111 j = μ.1 111 j) ∧ (PM μ') ∧ (μ.1 111 22 ≤ μ'.1 111 22 ∧ μ'.1 111 22 ≤ μ.1 111 22 + 2 * (μ'.1 111 9 - μ.1 111 9) + (- 1 + 3 * wr μ' - 2 * wr μ)) ∧ (μ.1 111 9 ≤ μ'.1 111 9) ∧ (μ.1 111 29 ≤ μ'.1 111 29) ∧ (wr μ ≤ wr μ' ∧ bd μ ≤ bd μ') ∧ (nn μ ≤ nn μ' ∧ nn μ' ≤ nn μ + 9 * wr μ' ∧ nn μ' ≤ 9 ∧ 9 * wr μ' ≤ nn μ') ∧ (μ'.1 111 39 = μ.1 111 39) ∧ (∀ j, j < μ.1 111 39 → μ'.1 126 j = μ.1 126 j) ∧ (∀ _ : Unit, bd μ' = 0 → mEX μ μ' tt 1 0 (11 * (9 - nn μ) - 3)) ∧ (mEXT μ μ'))) (hPM : PM μ) (hnn : 0 ≤ nn μ ∧ nn μ ≤ 9 ∧ 9 * wr μ ≤ nn μ) (hn8 : nn μ ≤ 8 + wr μ) (hcd : 0 ≤ μ.1 111 22 ∧ μ.1 111 22 ≤ 2 * μ.1 111 9 + 200 + 40 * wr μ) (hW : 0 ≤ μ.1 111 39 ∧ μ.1 111 39 ≤ μ.1 111 22) (hsl : 0 ≤ μ.1 111 31 ∧ μ.1 111 31 ≤ 300) (hfu : 0 ≤ kf ∧ 9 ≤ nn μ + kf) (hH0 : ∀ _ : Unit, bd μ = 0 → mH0 μ) : CtV ω l yX12_product cX12_product 1 (F + 6) (Lo + 140) [.ref (oP ω 111)] μ (fun (μ' : M3) => (FrM [111, 113, 115, 116, 117, 123, 126] μ μ') ∧ (∀ j, j ∉ ([6, 8, 9, 10, 11, 12, 13, 15, 16, 17, 18, 22, 29, 39] : List Int) → μ'.1 111 j = μ.1 111 j) ∧ (PM μ') ∧ (μ.1 111 22 ≤ μ'.1 111 22 ∧ μ'.1 111 22 ≤ μ.1 111 22 + 2 * (μ'.1 111 9 - μ.1 111 9) + (- 1 + 3 * wr μ' - 2 * wr μ)) ∧ (μ.1 111 9 ≤ μ'.1 111 9) ∧ (μ.1 111 29 ≤ μ'.1 111 29) ∧ (wr μ ≤ wr μ' ∧ bd μ ≤ bd μ') ∧ (nn μ ≤ nn μ' ∧ nn μ' ≤ nn μ + 9 * wr μ' ∧ nn μ' ≤ 9 ∧ 9 * wr μ' ≤ nn μ') ∧ (μ'.1 111 39 = μ.1 111 39) ∧ (∀ j, j < μ.1 111 39 → μ'.1 126 j = μ.1 126 j) ∧ (∀ _ : Unit, bd μ' = 0 → mEX μ μ' tt 1 0 (11 * (9 - nn μ) - 2)) ∧ (mEXT μ μ')) := by
  refine CtV.go (by decide) (Nat.le_of_ble_eq_true rfl) (fun ρ p e s m below meth c R ls G hR hret hlk hl => ?_)
  have hx := G.1.1
  have hb := G.1.2.1
  have hl : lv_has ls 1 [(0, .ref (oP ω 111))] := hl
  generalize s.drawn = d0 at G ⊢
  have hw_0 := wr_r (μ := μ)
  have hpp_ := hPM.1.2.1
  have hpn_ := hPM.2.1
  have hpt_ := hPM.1.2.2.2.1
  have hpw_ := hPM.1.2.2.2.2.1
  have hpa_ := hPM.1.1
  have hX_1 : ∀ _ : Unit, bd μ = 0 → mPX μ μ tt 0 1 (11 * (9 - nn μ) - 2) [] := fun _ h0 => mPX.nil (hH0 () h0) (by omega)
  refine lv_aload_n hx hb dX12_product_0 rfl (lv_at hl 0 rfl) ?_
  have e_2 : μ.1 111 14 = tt := htt.symm
  refine xc_vV G (b := 111) (rest := []) (As := []) (c_X12_unary ω l μ F Lo Fu Lu kf tt (by omega) hF hLo hFu hLu hE hU hPM (by omega) (by omega) (by omega) (by omega) (by omega) (by omega) (fun _ h0 => ((hX_1 ()) h0).h1.1)) (wm 9 155 rfl rfl) (wm 9 157 rfl rfl) (wm 0 151 rfl rfl) rfl rfl (by decide) rfl (wm 1 18 rfl rfl) (wm 9 158 rfl rfl) (by decide) hR ⟨sfr (F := F) (a := 4) (by decide), slo (L := Lo) (m := 6) (a := 93) (by decide)⟩ (n := 0) rfl rfl (Nat.le_of_ble_eq_true rfl) hl.1 dX12_product_1 (fun μ3 ρ d0 H locs hp G => ?_)
  obtain ⟨F_4, hp_5, hp_6, hp_7, hp_8, hp_9, hp_10, hp_11, hp_12, hp_13, hp_14, hp_15⟩ := hp
  have hpl_16 := hp_6.pl
  have hw_17 := wr_r (μ := μ3)
  have hxt_18 : mEXT μ μ3 := (mEXT.rf (μ := μ)).tr hp_15
  have e_19 : μ3.1 111 31 = μ.1 111 31 := (hp_5 31 (by decide))
  have hX_20 : ∀ _ : Unit, bd μ3 = 0 → mPX μ μ3 tt 1 1 (11 * (9 - nn μ) - 2) [] := fun _ h0 => (((hX_1 ()) (by have e9 : bd μ = bd μ := rfl; have e8 : bd μ3 = bd μ3 := rfl; omega)).app (hp_14 () h0) (by omega)).ee (by omega)
  refine lv_aload_n hx hb dX12_product_4 rfl (lv_at hl 0 rfl) ?_
  have e_21 : μ3.1 111 14 = tt := ((hp_5 14 (by decide)).trans htt.symm)
  have e_22 : μ3.1 111 31 = μ.1 111 31 := (hp_5 31 (by decide))
  have e_23 : μ3.1 111 31 = μ.1 111 31 := (hp_5 31 (by decide))
  refine xc_vV G (b := 111) (rest := []) (As := []) (c_X12_products ω l μ3 F Lo Fu Lu kf μ (11 * (9 - nn μ) - 2) tt (by omega) hF hLo hFu hLu hE hU hp_6 (by omega) (by omega) (by omega) (by omega) (by omega) (by omega) (fun _ h0 => (mPX.ex ((hX_20 ()) h0)).e (by omega)) (by omega)) (wm 9 219 rfl rfl) (wm 9 221 rfl rfl) (wm 0 167 rfl rfl) rfl rfl (by decide) rfl (wm 1 18 rfl rfl) (wm 9 222 rfl rfl) (by decide) hR ⟨sfr (F := F) (a := 5) (by decide), slo (L := Lo) (m := 3) (a := 118) (by decide)⟩ (n := 0) rfl rfl (Nat.le_of_ble_eq_true rfl) hl.1 dX12_product_5 (fun μ24 ρ d0 H locs hp G => ?_)
  obtain ⟨F_25, hp_26, hp_27, hp_28, hp_29, hp_30, hp_31, hp_32, hp_33, hp_34, hp_35, hp_36⟩ := hp
  have hpl_37 := hp_27.pl
  have hw_38 := wr_r (μ := μ24)
  have hxt_39 : mEXT μ μ24 := hxt_18.tr hp_36
  have hX_40 : ∀ _ : Unit, bd μ24 = 0 → mPX μ μ24 tt 1 1 (11 * (9 - nn μ) - 2) [] := fun _ h0 => mPX.of (hp_35 () h0)
  exact xr_v G hret hlk dX12_product_8 ⟨(FrM.tr (FrM.tr FrM.rf F_4 (by decide)) F_25 (by decide)), (fun j hj => ((hp_26 j (fun h9 => hj ((by decide : ∀ x ∈ ([6, 8, 9, 10, 11, 12, 13, 15, 16, 17, 18, 22, 29, 39] : List Int), x ∈ ([6, 8, 9, 10, 11, 12, 13, 15, 16, 17, 18, 22, 29, 39] : List Int)) j h9))).trans (hp_5 j (fun h9 => hj ((by decide : ∀ x ∈ ([6, 8, 9, 10, 11, 12, 13, 15, 16, 17, 18, 22, 29, 39] : List Int), x ∈ ([6, 8, 9, 10, 11, 12, 13, 15, 16, 17, 18, 22, 29, 39] : List Int)) j h9))))), hp_27, (by omega), (by omega), (by omega), (by omega), (by omega), (by omega), (fun j hj => ((hp_34 j (by omega)).trans (hp_13 j (by omega)))), (fun _ h0 => (mPX.ex ((hX_40 ()) h0)).e (by omega)), hxt_39⟩

set_option maxHeartbeats 4000000 in
set_option maxRecDepth 100000 in
theorem c_X12_sums (ω : Om) (l : Launch) (μ : M3) (F : Nat) (Lo : Nat) (Fu : Nat) (Lu : Nat) (kf : Int) (μo : M3) (HH : Int) (tt : Int) (htt : tt = μ.1 111 14) (hF : 60 ≤ F) (hLo : 2000 ≤ Lo) (hFu : Fu ≤ F) (hLu : Lu ≤ Lo) (hE : ∀ (μ : M3) (tt : Int) (htt : tt = μ.1 111 14) (hPM : PM μ) (hnn : 0 ≤ nn μ ∧ nn μ ≤ 9 ∧ 9 * wr μ ≤ nn μ) (hn8 : nn μ ≤ 8 + wr μ) (hcd : 0 ≤ μ.1 111 22 ∧ μ.1 111 22 ≤ 2 * μ.1 111 9 + 200 + 40 * wr μ) (hW : 0 ≤ μ.1 111 39 ∧ μ.1 111 39 ≤ μ.1 111 22) (hsl : 0 ≤ μ.1 111 31 ∧ μ.1 111 31 ≤ 300) (hfu : 0 ≤ (kf - 1) ∧ 9 ≤ nn μ + (kf - 1)) (hH0 : ∀ _ : Unit, bd μ = 0 → mH0 μ), CtV ω l yX12_expr cX12_expr 1 (F + 0) (Lo + 0) [.ref (oP ω 111)] μ (fun (μ' : M3) => (FrM [111, 113, 115, 116, 117, 123, 126] μ μ') ∧ (∀ j, j ∉ ([6, 8, 9, 10, 11, 12, 13, 15, 16, 17, 18, 22, 29, 39] : List Int) → μ'.1 111 j = μ.1 111 j) ∧ (PM μ') ∧ (μ.1 111 22 ≤ μ'.1 111 22 ∧ μ'.1 111 22 ≤ μ.1 111 22 + 2 * (μ'.1 111 9 - μ.1 111 9) + (- 1 + 3 * wr μ' - 2 * wr μ)) ∧ (μ.1 111 9 ≤ μ'.1 111 9) ∧ (μ.1 111 29 ≤ μ'.1 111 29) ∧ (wr μ ≤ wr μ' ∧ bd μ ≤ bd μ') ∧ (nn μ ≤ nn μ' ∧ nn μ' ≤ nn μ + 9 * wr μ' ∧ nn μ' ≤ 9 ∧ 9 * wr μ' ≤ nn μ') ∧ (μ'.1 111 39 = μ.1 111 39) ∧ (∀ j, j < μ.1 111 39 → μ'.1 126 j = μ.1 126 j) ∧ (∀ _ : Unit, bd μ' = 0 → mEX μ μ' tt 1 0 (11 * (9 - nn μ))) ∧ (mEXT μ μ'))) (hU : ∀ (μ : M3) (tt : Int) (htt : tt = μ.1 111 14) (hPM : PM μ) (hnn : 0 ≤ nn μ ∧ nn μ ≤ 9 ∧ 9 * wr μ ≤ nn μ) (hn8 : nn μ ≤ 8 + wr μ) (hcd : 0 ≤ μ.1 111 22 ∧ μ.1 111 22 ≤ 2 * μ.1 111 9 + 200 + 40 * wr μ) (hW : 0 ≤ μ.1 111 39 ∧ μ.1 111 39 ≤ μ.1 111 22) (hsl : 0 ≤ μ.1 111 31 ∧ μ.1 111 31 ≤ 300) (hfu : 0 ≤ (kf - 1) ∧ 9 ≤ nn μ + (kf - 1)) (hH0 : ∀ _ : Unit, bd μ = 0 → mH0 μ), CtV ω l yX12_unary cX12_unary 6 (Fu + 0) (Lu + 0) [.ref (oP ω 111)] μ (fun (μ' : M3) => (FrM [111, 113, 115, 116, 117, 123, 126] μ μ') ∧ (∀ j, j ∉ ([6, 8, 9, 10, 11, 12, 13, 15, 16, 17, 18, 22, 29, 39] : List Int) → μ'.1 111 j = μ.1 111 j) ∧ (PM μ') ∧ (μ.1 111 22 ≤ μ'.1 111 22 ∧ μ'.1 111 22 ≤ μ.1 111 22 + 2 * (μ'.1 111 9 - μ.1 111 9) + (- 1 + 3 * wr μ' - 2 * wr μ)) ∧ (μ.1 111 9 ≤ μ'.1 111 9) ∧ (μ.1 111 29 ≤ μ'.1 111 29) ∧ (wr μ ≤ wr μ' ∧ bd μ ≤ bd μ') ∧ (nn μ ≤ nn μ' ∧ nn μ' ≤ nn μ + 9 * wr μ' ∧ nn μ' ≤ 9 ∧ 9 * wr μ' ≤ nn μ') ∧ (μ'.1 111 39 = μ.1 111 39) ∧ (∀ j, j < μ.1 111 39 → μ'.1 126 j = μ.1 126 j) ∧ (∀ _ : Unit, bd μ' = 0 → mEX μ μ' tt 1 0 (11 * (9 - nn μ) - 3)) ∧ (mEXT μ μ'))) (hPM : PM μ) (hnn : 0 ≤ nn μ ∧ nn μ ≤ 9 ∧ 9 * wr μ ≤ nn μ) (hn8 : nn μ ≤ 8 + wr μ) (hcd : 0 ≤ μ.1 111 22 ∧ μ.1 111 22 ≤ 2 * μ.1 111 9 + 200 + 40 * wr μ) (hW : 0 ≤ μ.1 111 39 ∧ μ.1 111 39 ≤ μ.1 111 22) (hsl : 0 ≤ μ.1 111 31 ∧ μ.1 111 31 ≤ 300) (hfu : 0 ≤ kf ∧ 9 ≤ nn μ + kf) (hEX : ∀ _ : Unit, bd μ = 0 → mEX μo μ tt 1 0 HH) (hHH : 11 * (9 - nn μ) - 2 + 1 ≤ HH) : CtV ω l yX12_sums cX12_sums 3 (F + 7) (Lo + 160) [.ref (oP ω 111)] μ (fun (μ' : M3) => (FrM [111, 113, 115, 116, 117, 123, 126] μ μ') ∧ (∀ j, j ∉ ([6, 8, 9, 10, 11, 12, 13, 15, 16, 17, 18, 22, 29, 39] : List Int) → μ'.1 111 j = μ.1 111 j) ∧ (PM μ') ∧ (μ.1 111 22 ≤ μ'.1 111 22 ∧ μ'.1 111 22 ≤ μ.1 111 22 + 2 * (μ'.1 111 9 - μ.1 111 9) + (0 + 3 * wr μ' - 3 * wr μ)) ∧ (μ.1 111 9 ≤ μ'.1 111 9) ∧ (μ.1 111 29 ≤ μ'.1 111 29) ∧ (wr μ ≤ wr μ' ∧ bd μ ≤ bd μ') ∧ (nn μ ≤ nn μ' ∧ nn μ' ≤ nn μ + 9 * wr μ' ∧ nn μ' ≤ 9 ∧ 9 * wr μ' ≤ nn μ') ∧ (μ'.1 111 39 = μ.1 111 39) ∧ (∀ j, j < μ.1 111 39 → μ'.1 126 j = μ.1 126 j) ∧ (∀ _ : Unit, bd μ' = 0 → mEX μo μ' tt 1 0 HH) ∧ (mEXT μ μ')) := by
  refine CtV.go (by decide) (Nat.le_of_ble_eq_true rfl) (fun ρ p e s m below meth c R ls G hR hret hlk hl => ?_)
  have hx := G.1.1
  have hb := G.1.2.1
  have hl : lv_has ls 3 [(0, .ref (oP ω 111))] := hl
  generalize s.drawn = d0 at G ⊢
  have hw_0 := wr_r (μ := μ)
  have hpp_ := hPM.1.2.1
  have hpn_ := hPM.2.1
  have hpt_ := hPM.1.2.2.2.1
  have hpw_ := hPM.1.2.2.2.2.1
  have hpa_ := hPM.1.1
  have hX_1 : ∀ _ : Unit, bd μ = 0 → mPX μo μ tt 1 1 HH [] := fun _ h0 => mPX.of (hEX () h0)
  refine xl (fun n_9 μ' ls => (FrM [111, 113, 115, 116, 117, 123, 126] μ μ') ∧ (∀ j, j ∉ ([6, 8, 9, 10, 11, 12, 13, 15, 16, 17, 18, 22, 29, 39] : List Int) → μ'.1 111 j = μ.1 111 j) ∧ (PM μ') ∧ (μ.1 111 22 ≤ μ'.1 111 22 ∧ μ'.1 111 22 ≤ μ.1 111 22 + 2 * (μ'.1 111 9 - μ.1 111 9) + (0 + 3 * wr μ' - 3 * wr μ)) ∧ (μ.1 111 9 ≤ μ'.1 111 9) ∧ (μ.1 111 29 ≤ μ'.1 111 29) ∧ (wr μ ≤ wr μ' ∧ bd μ ≤ bd μ') ∧ (nn μ ≤ nn μ' ∧ nn μ' ≤ nn μ + 9 * wr μ' ∧ nn μ' ≤ 9 ∧ 9 * wr μ' ≤ nn μ') ∧ (μ'.1 111 39 = μ.1 111 39) ∧ (∀ j, j < μ.1 111 39 → μ'.1 126 j = μ.1 126 j) ∧ (∀ _ : Unit, bd μ' = 0 → mEX μo μ' tt 1 0 HH) ∧ (nn μ' ≤ 8 + wr μ') ∧ (mEXT μ μ') ∧ n_9 = Int.toNat (3001 - μ'.1 111 9) ∧ lv_has ls 3 [(0, .ref (oP ω 111))]) (fun n_9 ρ μL2 d0 H locs ls hI_l G ih => ?_) _ _ _ _ _ _ _ ⟨FrM.rf, (fun j hj => rfl), hPM, (by omega), (by omega), (by omega), (by omega), (by omega), (by omega), (fun j hj => rfl), (fun _ h0 => (mPX.ex ((hX_1 ()) h0)).e (by omega)), (by omega), (mEXT.rf (μ := μ)), rfl, lv_sub hl [0] rfl⟩ G
  obtain ⟨FL3, hi_5, hi_6, hi_7, hi_8, hi_9, hi_10, hi_11, hi_12, hi_13, hi_14, hi_15, hi_16, hn4, hl⟩ := hI_l
  have hw_17 := wr_r (μ := μL2)
  have hw_18 := wr_r (μ := μL2)
  have hpl_19 := hi_6.pl
  have hX_20 : ∀ _ : Unit, bd μL2 = 0 → mPX μo μL2 tt 1 1 HH [] := fun _ h0 => mPX.of (hi_14 () h0)
  refine lv_aload_n hx hb dX12_sums_0 rfl (lv_at hl 0 rfl) ?_
  refine lv_bipush (v := iv 43) hx hb dX12_sums_1 rfl ?_
  have hw_21 := wr_r (μ := μL2)
  refine xc_iV G (b := 111) (rest := []) (As := [.int (iv 43)]) (c_X12_isSign ω l μL2 43 (by unfold ir; omega)) (wm 9 90 rfl rfl) (wm 9 92 rfl rfl) (wm 0 135 rfl rfl) rfl rfl (by decide) rfl (wm 1 18 rfl rfl) (wm 9 93 rfl rfl) (by decide) hR ⟨nfr hF (by decide), nlo hLo (by decide)⟩ (n := 1) rfl rfl (Nat.le_of_ble_eq_true rfl) hl.1 dX12_sums_3 (fun r_23 μ22 ρ d0 H locs hr_r_23 hp G => ?_)
  have hr_r_23 : -2147483648 ≤ r_23 ∧ r_23 ≤ 2147483647 := hr_r_23
  obtain ⟨hsm_24, hp_25⟩ := hp
  have hsm_24 := Eq.symm hsm_24
  subst hsm_24
  have e_26 : μL2.1 111 31 = μ.1 111 31 := (hi_5 31 (by decide))
  refine xb_if_ne (tgt := 18) hx hb (by unfold ir; omega) dX12_sums_6 (by decide) (fun c_6 => ?_) (fun c_6 => ?_)
  · refine lv_aload_n hx hb dX12_sums_18 rfl (lv_at hl 0 rfl) ?_
    refine xa_geti G fd_X12 (a := 111) (x := μL2.1 111 13) 13 rfl (by decide) rfl (wm 7 162 rfl rfl) ⟨rfl, rfl, rfl⟩ dX12_sums_19 rfl rfl ?_
    have hr_27 : -2147483648 ≤ μL2.1 111 13 ∧ μL2.1 111 13 ≤ 2147483647 := by have h9 := G.hr (a := 111) (k := 13) rfl; exact h9
    refine lv_istore_n (lv' := [(1, .int (iv (μL2.1 111 13))), (0, .ref (oP ω 111))]) hx hb dX12_sums_22 rfl hl (by decide) rfl (fun ls hl => ?_)
    refine lv_aload_n hx hb dX12_sums_23 rfl (lv_at hl 1 rfl) ?_
    refine lv_iconst (v := iv 0) hx hb dX12_sums_24 rfl ?_
    have e_28 : μL2.1 111 14 = tt := ((hi_5 14 (by decide)).trans htt.symm)
    refine xc_iV G (b := 111) (rest := []) (As := [.int (iv 0)]) (c_X12_skips ω l μL2 0 tt (by unfold ir; omega) (by omega) (by omega)) (wm 9 159 rfl rfl) (wm 9 161 rfl rfl) (wm 0 152 rfl rfl) rfl rfl (by decide) rfl (wm 1 18 rfl rfl) (wm 9 162 rfl rfl) (by decide) hR ⟨nfr hF (by decide), nlo hLo (by decide)⟩ (n := 1) rfl rfl (Nat.le_of_ble_eq_true rfl) hl.1 dX12_sums_25 (fun r_30 μ29 ρ d0 H locs hr_r_30 hp G => ?_)
    have hr_r_30 : -2147483648 ≤ r_30 ∧ r_30 ≤ 2147483647 := hr_r_30
    obtain ⟨F_31, hp_32, hp_33, hp_34⟩ := hp
    have hqr_r_30 : (r_30 = -1) ∨ (μ.1 111 22 ≤ r_30 ∧ r_30 < μ29.1 111 22) := by rcases hp_33 with ⟨q1, q2, q3, q4⟩ | ⟨q1, q2, q3⟩; (right; have := q2.2.1; omega); (left; exact q2)
    have hxt_35 : mEXT μ μ29 := hi_16.tr hp_33.ext
    have e_36 : μ29.1 111 31 = μ.1 111 31 := ((hp_32 31 (by decide)).trans (hi_5 31 (by decide)))
    have e_37 : wr μ29 = wr μL2 := (wr_cg (hp_32 15 (by decide)))
    have e_38 : bd μ29 = bd μL2 := (bd_cg (hp_32 15 (by decide)) (hp_32 16 (by decide)) (hp_32 17 (by decide)))
    have e_39 : nn μ29 = nn μL2 := (nn_cg (hp_32 15 (by decide)) (hp_32 18 (by decide)))
    replace hp_33 := fun _ : Unit => hp_33
    have e_41 : μ29.1 111 29 = μL2.1 111 29 := (hp_32 29 (by decide))
    have hX_40 : ∀ _ : Unit, bd μ29 = 0 → mPX μo μ29 tt 1 1 HH (lsk r_30 ++ []) := fun _ h0 => mPX.sk ((hX_20 ()) (by have e9 : bd μL2 = bd μL2 := rfl; have e8 : bd μ29 = bd μL2 := (bd_cg (hp_32 15 (by decide)) (hp_32 16 (by decide)) (hp_32 17 (by decide))); omega)) (hp_33 ()) (by omega) (by omega) (by decide)
    refine lv_istore_n (lv' := [(2, .int (iv r_30)), (1, .int (iv (μL2.1 111 13))), (0, .ref (oP ω 111))]) hx hb dX12_sums_28 rfl hl (by decide) rfl (fun ls hl => ?_)
    refine lv_aload_n hx hb dX12_sums_29 rfl (lv_at hl 2 rfl) ?_
    have hPM_42 : PM μ29 := hi_6.cg ((((hp_32 4 (by decide)).trans (hi_5 4 (by decide)))).trans ((hi_5 4 (by decide))).symm) (hp_32 6 (by decide)) ((((hp_32 7 (by decide)).trans (hi_5 7 (by decide)))).trans ((hi_5 7 (by decide))).symm) (hp_32 8 (by decide)) (hp_32 9 (by decide)) (hp_32 11 (by decide)) (hp_32 12 (by decide)) ((((hp_32 14 (by decide)).trans ((hi_5 14 (by decide)).trans htt.symm))).trans (((hi_5 14 (by decide)).trans htt.symm)).symm) (hp_32 15 (by decide)) (hp_32 29 (by decide)) (fun j => (F_31.1 123 (by decide) j))
    have e_43 : wr μ29 = wr μL2 := (wr_cg (hp_32 15 (by decide)))
    have e_44 : nn μ29 = nn μL2 := (nn_cg (hp_32 15 (by decide)) (hp_32 18 (by decide)))
    have e_45 : μ29.1 111 8 = μL2.1 111 8 := (hp_32 8 (by decide))
    have e_46 : wr μ29 = wr μL2 := (wr_cg (hp_32 15 (by decide)))
    have e_47 : μ29.1 111 9 = μL2.1 111 9 := (hp_32 9 (by decide))
    have e_48 : wr μ29 = wr μL2 := (wr_cg (hp_32 15 (by decide)))
    have e_49 : wr μ29 = wr μL2 := (wr_cg (hp_32 15 (by decide)))
    have e_50 : bd μ29 = bd μL2 := (bd_cg (hp_32 15 (by decide)) (hp_32 16 (by decide)) (hp_32 17 (by decide)))
    have e_51 : nn μ29 = nn μL2 := (nn_cg (hp_32 15 (by decide)) (hp_32 18 (by decide)))
    refine xc_vV G (b := 111) (rest := []) (As := []) (c_X12_next ω l μ29  hPM_42 (by omega) (by omega)) (wm 9 0 rfl rfl) (wm 9 2 rfl rfl) (wm 0 119 rfl rfl) rfl rfl (by decide) rfl (wm 1 18 rfl rfl) (wm 9 3 rfl rfl) (by decide) hR ⟨nfr hF (by decide), nlo hLo (by decide)⟩ (n := 0) rfl rfl (Nat.le_of_ble_eq_true rfl) hl.1 dX12_sums_30 (fun μ52 ρ d0 H locs hp G => ?_)
    obtain ⟨F_53, hp_54, hp_55, hp_56, hp_57, hp_58⟩ := hp
    have hpl_59 := hp_55.pl
    have hw_60 := wr_r (μ := μ29)
    have hw_61 := wr_r (μ := μ52)
    have e_62 : μ52.1 111 31 = μ.1 111 31 := ((hp_54 31 (by decide)).trans ((hp_32 31 (by decide)).trans (hi_5 31 (by decide))))
    refine lv_aload_n hx hb dX12_sums_33 rfl (lv_at hl 2 rfl) ?_
    have e_63 : μ52.1 111 29 = μL2.1 111 29 := ((hp_54 29 (by decide)).trans (hp_32 29 (by decide)))
    have e_65 : μ52.1 111 29 = μL2.1 111 29 := ((hp_54 29 (by decide)).trans (hp_32 29 (by decide)))
    have hX_64 : ∀ _ : Unit, bd μ52 = 0 → mPX μo μ52 tt 1 1 HH (lsk r_30 ++ []) := fun _ h0 => (hX_40 () (by have e9 : bd μ29 = bd μL2 := (bd_cg (hp_32 15 (by decide)) (hp_32 16 (by decide)) (hp_32 17 (by decide))); have e8 : bd μ52 = bd μ52 := rfl; omega)).qm (q0m.fr (K := [111]) (FrM.tr FrM.rf F_53 (by decide)) (by decide) (by decide) (by decide) (hp_54 22 (by decide)) (nS.le (by omega) (Int.le_of_eq (((((hp_54 31 (by decide)).trans ((hp_32 31 (by decide)).trans (hi_5 31 (by decide))))).trans (((hp_32 31 (by decide)).trans (hi_5 31 (by decide)))).symm)).symm)))
    have e_66 : μ52.1 111 29 = μL2.1 111 29 := ((hp_54 29 (by decide)).trans (hp_32 29 (by decide)))
    have e_67 : μ52.1 111 29 = μL2.1 111 29 := ((hp_54 29 (by decide)).trans (hp_32 29 (by decide)))
    have hxt_68 : mEXT μ μ52 := hxt_35.tr (q0m.fr (K := [111]) (FrM.tr FrM.rf F_53 (by decide)) (by decide) (by decide) (by decide) (hp_54 22 (by decide)) (nS.le (by omega) (Int.le_of_eq (((((hp_54 31 (by decide)).trans ((hp_32 31 (by decide)).trans (hi_5 31 (by decide))))).trans (((hp_32 31 (by decide)).trans (hi_5 31 (by decide)))).symm)).symm))).1
    have e_69 : μ52.1 111 14 = tt := ((hp_54 14 (by decide)).trans ((hp_32 14 (by decide)).trans ((hi_5 14 (by decide)).trans htt.symm)))
    have e_70 : μ52.1 111 22 = μ29.1 111 22 := (hp_54 22 (by decide))
    have e_71 : μ52.1 111 22 = μ29.1 111 22 := (hp_54 22 (by decide))
    have e_72 : μ52.1 111 39 = μL2.1 111 39 := ((hp_54 39 (by decide)).trans (hp_32 39 (by decide)))
    have e_73 : μ52.1 111 39 = μL2.1 111 39 := ((hp_54 39 (by decide)).trans (hp_32 39 (by decide)))
    have e_74 : μ52.1 111 22 = μ29.1 111 22 := (hp_54 22 (by decide))
    have e_75 : μ52.1 111 31 = μ.1 111 31 := ((hp_54 31 (by decide)).trans ((hp_32 31 (by decide)).trans (hi_5 31 (by decide))))
    have e_76 : μ52.1 111 31 = μ.1 111 31 := ((hp_54 31 (by decide)).trans ((hp_32 31 (by decide)).trans (hi_5 31 (by decide))))
    have e_77 : μ52.1 111 22 = μ29.1 111 22 := (hp_54 22 (by decide))
    have e_78 : μ52.1 111 22 = μ29.1 111 22 := (hp_54 22 (by decide))
    have e_79 : μ52.1 111 29 = μL2.1 111 29 := ((hp_54 29 (by decide)).trans (hp_32 29 (by decide)))
    have e_80 : μ52.1 111 39 = μL2.1 111 39 := ((hp_54 39 (by decide)).trans (hp_32 39 (by decide)))
    refine xc_vV G (b := 111) (rest := []) (As := []) (c_X12_product ω l μ52 F Lo Fu Lu kf tt (by omega) hF hLo hFu hLu hE hU hp_55 (by omega) (by omega) (by omega) (by omega) (by omega) (by omega) (fun _ h0 => ((hX_64 ()) h0).h1.1)) (wm 9 151 rfl rfl) (wm 9 153 rfl rfl) (wm 0 150 rfl rfl) rfl rfl (by decide) rfl (wm 1 18 rfl rfl) (wm 9 154 rfl rfl) (by decide) hR ⟨sfr (F := F) (a := 6) (by decide), slo (L := Lo) (m := 1) (a := 140) (by decide)⟩ (n := 0) rfl rfl (Nat.le_of_ble_eq_true rfl) hl.1 dX12_sums_34 (fun μ81 ρ d0 H locs hp G => ?_)
    obtain ⟨F_82, hp_83, hp_84, hp_85, hp_86, hp_87, hp_88, hp_89, hp_90, hp_91, hp_92, hp_93⟩ := hp
    have hpl_94 := hp_84.pl
    have hw_95 := wr_r (μ := μ81)
    have hxt_96 : mEXT μ μ81 := hxt_68.tr hp_93
    have e_97 : μ81.1 111 31 = μ.1 111 31 := ((hp_83 31 (by decide)).trans ((hp_54 31 (by decide)).trans ((hp_32 31 (by decide)).trans (hi_5 31 (by decide)))))
    have hX_98 : ∀ _ : Unit, bd μ81 = 0 → mPX μo μ81 tt 2 1 HH (lsk r_30 ++ []) := fun _ h0 => (((hX_64 ()) (by have e9 : bd μ52 = bd μ52 := rfl; have e8 : bd μ81 = bd μ81 := rfl; omega)).app (hp_92 () h0) (by omega)).ee (by omega)
    refine lv_aload_n hx hb dX12_sums_37 rfl (lv_at hl 2 rfl) ?_
    refine lv_iload_n hx hb dX12_sums_38 rfl (lv_at hl 1 rfl) ?_
    refine lv_iload_n hx hb dX12_sums_39 rfl (lv_at hl 0 rfl) ?_
    have e_99 : μ81.1 111 14 = tt := ((hp_83 14 (by decide)).trans ((hp_54 14 (by decide)).trans ((hp_32 14 (by decide)).trans ((hi_5 14 (by decide)).trans htt.symm))))
    refine xc_vV G (b := 111) (rest := []) (As := [.int (iv (μL2.1 111 13)), .int (iv r_30)]) (c_X12_two ω l μ81 (μL2.1 111 13) r_30 μo (HH) tt (by unfold ir; omega) (by unfold ir; omega) (by omega) (by omega) (by unfold sgn; omega) (by omega) (fun _ => (hX_98 ()))) (wm 9 223 rfl rfl) (wm 9 225 rfl rfl) (wm 0 168 rfl rfl) rfl rfl (by decide) rfl (wm 1 18 rfl rfl) (wm 9 226 rfl rfl) (by decide) hR ⟨nfr hF (by decide), nlo hLo (by decide)⟩ (n := 2) rfl rfl (Nat.le_of_ble_eq_true rfl) hl.1 dX12_sums_40 (fun μ100 ρ d0 H locs hp G => ?_)
    obtain ⟨F_101, hp_102, hp_103, hp_104, hp_105, hp_106⟩ := hp
    have hw_107 := wr_r (μ := μ100)
    have hxt_108 : mEXT μ μ100 := hp_106 _ hxt_96 (by omega)
    have e_109 : bd μ100 = bd μ81 := (bd_cg (hp_102 15 (by decide)) (hp_102 16 (by decide)) (hp_102 17 (by decide)))
    have e_111 : μ100.1 111 29 = μ81.1 111 29 := (hp_102 29 (by decide))
    have hX_110 : ∀ _ : Unit, bd μ100 = 0 → mPX μo μ100 tt 1 1 HH [] := fun _ h0 => mPX.of (hp_105 () h0)
    refine lv_goto (tgt := 0) hx hb dX12_sums_43 (by decide) ?_
    have hPM_112 : PM μ100 := hp_84.cg ((((hp_102 4 (by decide)).trans ((hp_83 4 (by decide)).trans ((hp_54 4 (by decide)).trans ((hp_32 4 (by decide)).trans (hi_5 4 (by decide))))))).trans (((hp_83 4 (by decide)).trans ((hp_54 4 (by decide)).trans ((hp_32 4 (by decide)).trans (hi_5 4 (by decide)))))).symm) (hp_102 6 (by decide)) ((((hp_102 7 (by decide)).trans ((hp_83 7 (by decide)).trans ((hp_54 7 (by decide)).trans ((hp_32 7 (by decide)).trans (hi_5 7 (by decide))))))).trans (((hp_83 7 (by decide)).trans ((hp_54 7 (by decide)).trans ((hp_32 7 (by decide)).trans (hi_5 7 (by decide)))))).symm) (hp_102 8 (by decide)) (hp_102 9 (by decide)) (hp_102 11 (by decide)) (hp_102 12 (by decide)) ((((hp_102 14 (by decide)).trans ((hp_83 14 (by decide)).trans ((hp_54 14 (by decide)).trans ((hp_32 14 (by decide)).trans ((hi_5 14 (by decide)).trans htt.symm)))))).trans (((hp_83 14 (by decide)).trans ((hp_54 14 (by decide)).trans ((hp_32 14 (by decide)).trans ((hi_5 14 (by decide)).trans htt.symm))))).symm) (hp_102 15 (by decide)) (hp_102 29 (by decide)) (fun j => (F_101.1 123 (by decide) j))
    have e_113 : μ100.1 111 9 = μ81.1 111 9 := (hp_102 9 (by decide))
    have e_114 : wr μ100 = wr μ81 := (wr_cg (hp_102 15 (by decide)))
    have e_115 : μ100.1 111 9 = μ81.1 111 9 := (hp_102 9 (by decide))
    have e_116 : μ100.1 111 29 = μ81.1 111 29 := (hp_102 29 (by decide))
    have e_117 : wr μ100 = wr μ81 := (wr_cg (hp_102 15 (by decide)))
    have e_118 : bd μ100 = bd μ81 := (bd_cg (hp_102 15 (by decide)) (hp_102 16 (by decide)) (hp_102 17 (by decide)))
    have e_119 : wr μ100 = wr μ81 := (wr_cg (hp_102 15 (by decide)))
    have e_120 : nn μ100 = nn μ81 := (nn_cg (hp_102 15 (by decide)) (hp_102 18 (by decide)))
    have e_121 : μ100.1 111 39 = μ81.1 111 39 := (hp_102 39 (by decide))
    have e_122 : wr μ100 = wr μ81 := (wr_cg (hp_102 15 (by decide)))
    have e_123 : nn μ100 = nn μ81 := (nn_cg (hp_102 15 (by decide)) (hp_102 18 (by decide)))
    exact ih _ _ _ _ _ _ _ (by omega) ⟨(FrM.tr (FrM.tr (FrM.tr (FrM.tr FL3 F_31 (by decide)) F_53 (by decide)) F_82 (by decide)) F_101 (by decide)), (fun j hj => ((hp_102 j (fun h9 => hj ((by decide : ∀ x ∈ ([22] : List Int), x ∈ ([6, 8, 9, 10, 11, 12, 13, 15, 16, 17, 18, 22, 29, 39] : List Int)) j h9))).trans ((hp_83 j (fun h9 => hj ((by decide : ∀ x ∈ ([6, 8, 9, 10, 11, 12, 13, 15, 16, 17, 18, 22, 29, 39] : List Int), x ∈ ([6, 8, 9, 10, 11, 12, 13, 15, 16, 17, 18, 22, 29, 39] : List Int)) j h9))).trans ((hp_54 j (fun h9 => hj ((by decide : ∀ x ∈ ([6, 8, 9, 10, 11, 12, 13, 15] : List Int), x ∈ ([6, 8, 9, 10, 11, 12, 13, 15, 16, 17, 18, 22, 29, 39] : List Int)) j h9))).trans ((hp_32 j (fun h9 => hj ((by decide : ∀ x ∈ ([22] : List Int), x ∈ ([6, 8, 9, 10, 11, 12, 13, 15, 16, 17, 18, 22, 29, 39] : List Int)) j h9))).trans (hi_5 j (fun h9 => hj ((by decide : ∀ x ∈ ([6, 8, 9, 10, 11, 12, 13, 15, 16, 17, 18, 22, 29, 39] : List Int), x ∈ ([6, 8, 9, 10, 11, 12, 13, 15, 16, 17, 18, 22, 29, 39] : List Int)) j h9)))))))), hPM_112, (by omega), (by omega), (by omega), (by omega), (by omega), (by omega), (fun j hj => ((F_101.1 126 (by decide) j).trans ((hp_91 j (by omega)).trans ((F_53.1 126 (by decide) j).trans ((F_31.1 126 (by decide) j).trans (hi_13 j (by omega))))))), (fun _ h0 => (mPX.ex ((hX_110 ()) h0)).e (by omega)), (by omega), hxt_108, rfl, lv_sub hl [2] rfl⟩ G
  · refine lv_aload_n hx hb dX12_sums_9 rfl (lv_at hl 0 rfl) ?_
    refine lv_bipush (v := iv 45) hx hb dX12_sums_10 rfl ?_
    refine xc_iV G (b := 111) (rest := []) (As := [.int (iv 45)]) (c_X12_isSign ω l μL2 45 (by unfold ir; omega)) (wm 9 90 rfl rfl) (wm 9 92 rfl rfl) (wm 0 135 rfl rfl) rfl rfl (by decide) rfl (wm 1 18 rfl rfl) (wm 9 93 rfl rfl) (by decide) hR ⟨nfr hF (by decide), nlo hLo (by decide)⟩ (n := 1) rfl rfl (Nat.le_of_ble_eq_true rfl) hl.1 dX12_sums_12 (fun r_125 μ124 ρ d0 H locs hr_r_125 hp G => ?_)
    have hr_r_125 : -2147483648 ≤ r_125 ∧ r_125 ≤ 2147483647 := hr_r_125
    obtain ⟨hsm_126, hp_127⟩ := hp
    have hsm_126 := Eq.symm hsm_126
    subst hsm_126
    have e_128 : μL2.1 111 31 = μ.1 111 31 := (hi_5 31 (by decide))
    refine xb_if_eq (tgt := 46) hx hb (by unfold ir; omega) dX12_sums_15 (by decide) (fun c_15 => ?_) (fun c_15 => ?_)
    · exact xr_v G hret hlk dX12_sums_46 ⟨(FrM.tr FrM.rf FL3 (by decide)), (fun j hj => (hi_5 j (fun h9 => hj ((by decide : ∀ x ∈ ([6, 8, 9, 10, 11, 12, 13, 15, 16, 17, 18, 22, 29, 39] : List Int), x ∈ ([6, 8, 9, 10, 11, 12, 13, 15, 16, 17, 18, 22, 29, 39] : List Int)) j h9)))), hi_6, (by omega), (by omega), (by omega), (by omega), (by omega), (by omega), (fun j hj => (hi_13 j (by omega))), (fun _ h0 => (mPX.ex ((hX_20 ()) h0)).e (by omega)), hi_16⟩
    · refine lv_aload_n hx hb dX12_sums_18 rfl (lv_at hl 0 rfl) ?_
      refine xa_geti G fd_X12 (a := 111) (x := μL2.1 111 13) 13 rfl (by decide) rfl (wm 7 162 rfl rfl) ⟨rfl, rfl, rfl⟩ dX12_sums_19 rfl rfl ?_
      have hr_129 : -2147483648 ≤ μL2.1 111 13 ∧ μL2.1 111 13 ≤ 2147483647 := by have h9 := G.hr (a := 111) (k := 13) rfl; exact h9
      refine lv_istore_n (lv' := [(1, .int (iv (μL2.1 111 13))), (0, .ref (oP ω 111))]) hx hb dX12_sums_22 rfl hl (by decide) rfl (fun ls hl => ?_)
      refine lv_aload_n hx hb dX12_sums_23 rfl (lv_at hl 1 rfl) ?_
      refine lv_iconst (v := iv 0) hx hb dX12_sums_24 rfl ?_
      have e_130 : μL2.1 111 14 = tt := ((hi_5 14 (by decide)).trans htt.symm)
      refine xc_iV G (b := 111) (rest := []) (As := [.int (iv 0)]) (c_X12_skips ω l μL2 0 tt (by unfold ir; omega) (by omega) (by omega)) (wm 9 159 rfl rfl) (wm 9 161 rfl rfl) (wm 0 152 rfl rfl) rfl rfl (by decide) rfl (wm 1 18 rfl rfl) (wm 9 162 rfl rfl) (by decide) hR ⟨nfr hF (by decide), nlo hLo (by decide)⟩ (n := 1) rfl rfl (Nat.le_of_ble_eq_true rfl) hl.1 dX12_sums_25 (fun r_132 μ131 ρ d0 H locs hr_r_132 hp G => ?_)
      have hr_r_132 : -2147483648 ≤ r_132 ∧ r_132 ≤ 2147483647 := hr_r_132
      obtain ⟨F_133, hp_134, hp_135, hp_136⟩ := hp
      have hqr_r_132 : (r_132 = -1) ∨ (μ.1 111 22 ≤ r_132 ∧ r_132 < μ131.1 111 22) := by rcases hp_135 with ⟨q1, q2, q3, q4⟩ | ⟨q1, q2, q3⟩; (right; have := q2.2.1; omega); (left; exact q2)
      have hxt_137 : mEXT μ μ131 := hi_16.tr hp_135.ext
      have e_138 : μ131.1 111 31 = μ.1 111 31 := ((hp_134 31 (by decide)).trans (hi_5 31 (by decide)))
      have e_139 : wr μ131 = wr μL2 := (wr_cg (hp_134 15 (by decide)))
      have e_140 : bd μ131 = bd μL2 := (bd_cg (hp_134 15 (by decide)) (hp_134 16 (by decide)) (hp_134 17 (by decide)))
      have e_141 : nn μ131 = nn μL2 := (nn_cg (hp_134 15 (by decide)) (hp_134 18 (by decide)))
      replace hp_135 := fun _ : Unit => hp_135
      have e_143 : μ131.1 111 29 = μL2.1 111 29 := (hp_134 29 (by decide))
      have hX_142 : ∀ _ : Unit, bd μ131 = 0 → mPX μo μ131 tt 1 1 HH (lsk r_132 ++ []) := fun _ h0 => mPX.sk ((hX_20 ()) (by have e9 : bd μL2 = bd μL2 := rfl; have e8 : bd μ131 = bd μL2 := (bd_cg (hp_134 15 (by decide)) (hp_134 16 (by decide)) (hp_134 17 (by decide))); omega)) (hp_135 ()) (by omega) (by omega) (by decide)
      refine lv_istore_n (lv' := [(2, .int (iv r_132)), (1, .int (iv (μL2.1 111 13))), (0, .ref (oP ω 111))]) hx hb dX12_sums_28 rfl hl (by decide) rfl (fun ls hl => ?_)
      refine lv_aload_n hx hb dX12_sums_29 rfl (lv_at hl 2 rfl) ?_
      have hPM_144 : PM μ131 := hi_6.cg ((((hp_134 4 (by decide)).trans (hi_5 4 (by decide)))).trans ((hi_5 4 (by decide))).symm) (hp_134 6 (by decide)) ((((hp_134 7 (by decide)).trans (hi_5 7 (by decide)))).trans ((hi_5 7 (by decide))).symm) (hp_134 8 (by decide)) (hp_134 9 (by decide)) (hp_134 11 (by decide)) (hp_134 12 (by decide)) ((((hp_134 14 (by decide)).trans ((hi_5 14 (by decide)).trans htt.symm))).trans (((hi_5 14 (by decide)).trans htt.symm)).symm) (hp_134 15 (by decide)) (hp_134 29 (by decide)) (fun j => (F_133.1 123 (by decide) j))
      have e_145 : wr μ131 = wr μL2 := (wr_cg (hp_134 15 (by decide)))
      have e_146 : nn μ131 = nn μL2 := (nn_cg (hp_134 15 (by decide)) (hp_134 18 (by decide)))
      have e_147 : μ131.1 111 8 = μL2.1 111 8 := (hp_134 8 (by decide))
      have e_148 : wr μ131 = wr μL2 := (wr_cg (hp_134 15 (by decide)))
      have e_149 : μ131.1 111 9 = μL2.1 111 9 := (hp_134 9 (by decide))
      have e_150 : wr μ131 = wr μL2 := (wr_cg (hp_134 15 (by decide)))
      have e_151 : wr μ131 = wr μL2 := (wr_cg (hp_134 15 (by decide)))
      have e_152 : bd μ131 = bd μL2 := (bd_cg (hp_134 15 (by decide)) (hp_134 16 (by decide)) (hp_134 17 (by decide)))
      have e_153 : nn μ131 = nn μL2 := (nn_cg (hp_134 15 (by decide)) (hp_134 18 (by decide)))
      refine xc_vV G (b := 111) (rest := []) (As := []) (c_X12_next ω l μ131  hPM_144 (by omega) (by omega)) (wm 9 0 rfl rfl) (wm 9 2 rfl rfl) (wm 0 119 rfl rfl) rfl rfl (by decide) rfl (wm 1 18 rfl rfl) (wm 9 3 rfl rfl) (by decide) hR ⟨nfr hF (by decide), nlo hLo (by decide)⟩ (n := 0) rfl rfl (Nat.le_of_ble_eq_true rfl) hl.1 dX12_sums_30 (fun μ154 ρ d0 H locs hp G => ?_)
      obtain ⟨F_155, hp_156, hp_157, hp_158, hp_159, hp_160⟩ := hp
      have hpl_161 := hp_157.pl
      have hw_162 := wr_r (μ := μ131)
      have hw_163 := wr_r (μ := μ154)
      have e_164 : μ154.1 111 31 = μ.1 111 31 := ((hp_156 31 (by decide)).trans ((hp_134 31 (by decide)).trans (hi_5 31 (by decide))))
      refine lv_aload_n hx hb dX12_sums_33 rfl (lv_at hl 2 rfl) ?_
      have e_165 : μ154.1 111 29 = μL2.1 111 29 := ((hp_156 29 (by decide)).trans (hp_134 29 (by decide)))
      have e_167 : μ154.1 111 29 = μL2.1 111 29 := ((hp_156 29 (by decide)).trans (hp_134 29 (by decide)))
      have hX_166 : ∀ _ : Unit, bd μ154 = 0 → mPX μo μ154 tt 1 1 HH (lsk r_132 ++ []) := fun _ h0 => (hX_142 () (by have e9 : bd μ131 = bd μL2 := (bd_cg (hp_134 15 (by decide)) (hp_134 16 (by decide)) (hp_134 17 (by decide))); have e8 : bd μ154 = bd μ154 := rfl; omega)).qm (q0m.fr (K := [111]) (FrM.tr FrM.rf F_155 (by decide)) (by decide) (by decide) (by decide) (hp_156 22 (by decide)) (nS.le (by omega) (Int.le_of_eq (((((hp_156 31 (by decide)).trans ((hp_134 31 (by decide)).trans (hi_5 31 (by decide))))).trans (((hp_134 31 (by decide)).trans (hi_5 31 (by decide)))).symm)).symm)))
      have e_168 : μ154.1 111 29 = μL2.1 111 29 := ((hp_156 29 (by decide)).trans (hp_134 29 (by decide)))
      have e_169 : μ154.1 111 29 = μL2.1 111 29 := ((hp_156 29 (by decide)).trans (hp_134 29 (by decide)))
      have hxt_170 : mEXT μ μ154 := hxt_137.tr (q0m.fr (K := [111]) (FrM.tr FrM.rf F_155 (by decide)) (by decide) (by decide) (by decide) (hp_156 22 (by decide)) (nS.le (by omega) (Int.le_of_eq (((((hp_156 31 (by decide)).trans ((hp_134 31 (by decide)).trans (hi_5 31 (by decide))))).trans (((hp_134 31 (by decide)).trans (hi_5 31 (by decide)))).symm)).symm))).1
      have e_171 : μ154.1 111 14 = tt := ((hp_156 14 (by decide)).trans ((hp_134 14 (by decide)).trans ((hi_5 14 (by decide)).trans htt.symm)))
      have e_172 : μ154.1 111 22 = μ131.1 111 22 := (hp_156 22 (by decide))
      have e_173 : μ154.1 111 22 = μ131.1 111 22 := (hp_156 22 (by decide))
      have e_174 : μ154.1 111 39 = μL2.1 111 39 := ((hp_156 39 (by decide)).trans (hp_134 39 (by decide)))
      have e_175 : μ154.1 111 39 = μL2.1 111 39 := ((hp_156 39 (by decide)).trans (hp_134 39 (by decide)))
      have e_176 : μ154.1 111 22 = μ131.1 111 22 := (hp_156 22 (by decide))
      have e_177 : μ154.1 111 31 = μ.1 111 31 := ((hp_156 31 (by decide)).trans ((hp_134 31 (by decide)).trans (hi_5 31 (by decide))))
      have e_178 : μ154.1 111 31 = μ.1 111 31 := ((hp_156 31 (by decide)).trans ((hp_134 31 (by decide)).trans (hi_5 31 (by decide))))
      have e_179 : μ154.1 111 22 = μ131.1 111 22 := (hp_156 22 (by decide))
      have e_180 : μ154.1 111 22 = μ131.1 111 22 := (hp_156 22 (by decide))
      have e_181 : μ154.1 111 29 = μL2.1 111 29 := ((hp_156 29 (by decide)).trans (hp_134 29 (by decide)))
      have e_182 : μ154.1 111 39 = μL2.1 111 39 := ((hp_156 39 (by decide)).trans (hp_134 39 (by decide)))
      refine xc_vV G (b := 111) (rest := []) (As := []) (c_X12_product ω l μ154 F Lo Fu Lu kf tt (by omega) hF hLo hFu hLu hE hU hp_157 (by omega) (by omega) (by omega) (by omega) (by omega) (by omega) (fun _ h0 => ((hX_166 ()) h0).h1.1)) (wm 9 151 rfl rfl) (wm 9 153 rfl rfl) (wm 0 150 rfl rfl) rfl rfl (by decide) rfl (wm 1 18 rfl rfl) (wm 9 154 rfl rfl) (by decide) hR ⟨sfr (F := F) (a := 6) (by decide), slo (L := Lo) (m := 1) (a := 140) (by decide)⟩ (n := 0) rfl rfl (Nat.le_of_ble_eq_true rfl) hl.1 dX12_sums_34 (fun μ183 ρ d0 H locs hp G => ?_)
      obtain ⟨F_184, hp_185, hp_186, hp_187, hp_188, hp_189, hp_190, hp_191, hp_192, hp_193, hp_194, hp_195⟩ := hp
      have hpl_196 := hp_186.pl
      have hw_197 := wr_r (μ := μ183)
      have hxt_198 : mEXT μ μ183 := hxt_170.tr hp_195
      have e_199 : μ183.1 111 31 = μ.1 111 31 := ((hp_185 31 (by decide)).trans ((hp_156 31 (by decide)).trans ((hp_134 31 (by decide)).trans (hi_5 31 (by decide)))))
      have hX_200 : ∀ _ : Unit, bd μ183 = 0 → mPX μo μ183 tt 2 1 HH (lsk r_132 ++ []) := fun _ h0 => (((hX_166 ()) (by have e9 : bd μ154 = bd μ154 := rfl; have e8 : bd μ183 = bd μ183 := rfl; omega)).app (hp_194 () h0) (by omega)).ee (by omega)
      refine lv_aload_n hx hb dX12_sums_37 rfl (lv_at hl 2 rfl) ?_
      refine lv_iload_n hx hb dX12_sums_38 rfl (lv_at hl 1 rfl) ?_
      refine lv_iload_n hx hb dX12_sums_39 rfl (lv_at hl 0 rfl) ?_
      have e_201 : μ183.1 111 14 = tt := ((hp_185 14 (by decide)).trans ((hp_156 14 (by decide)).trans ((hp_134 14 (by decide)).trans ((hi_5 14 (by decide)).trans htt.symm))))
      refine xc_vV G (b := 111) (rest := []) (As := [.int (iv (μL2.1 111 13)), .int (iv r_132)]) (c_X12_two ω l μ183 (μL2.1 111 13) r_132 μo (HH) tt (by unfold ir; omega) (by unfold ir; omega) (by omega) (by omega) (by unfold sgn; omega) (by omega) (fun _ => (hX_200 ()))) (wm 9 223 rfl rfl) (wm 9 225 rfl rfl) (wm 0 168 rfl rfl) rfl rfl (by decide) rfl (wm 1 18 rfl rfl) (wm 9 226 rfl rfl) (by decide) hR ⟨nfr hF (by decide), nlo hLo (by decide)⟩ (n := 2) rfl rfl (Nat.le_of_ble_eq_true rfl) hl.1 dX12_sums_40 (fun μ202 ρ d0 H locs hp G => ?_)
      obtain ⟨F_203, hp_204, hp_205, hp_206, hp_207, hp_208⟩ := hp
      have hw_209 := wr_r (μ := μ202)
      have hxt_210 : mEXT μ μ202 := hp_208 _ hxt_198 (by omega)
      have e_211 : bd μ202 = bd μ183 := (bd_cg (hp_204 15 (by decide)) (hp_204 16 (by decide)) (hp_204 17 (by decide)))
      have e_213 : μ202.1 111 29 = μ183.1 111 29 := (hp_204 29 (by decide))
      have hX_212 : ∀ _ : Unit, bd μ202 = 0 → mPX μo μ202 tt 1 1 HH [] := fun _ h0 => mPX.of (hp_207 () h0)
      refine lv_goto (tgt := 0) hx hb dX12_sums_43 (by decide) ?_
      have hPM_214 : PM μ202 := hp_186.cg ((((hp_204 4 (by decide)).trans ((hp_185 4 (by decide)).trans ((hp_156 4 (by decide)).trans ((hp_134 4 (by decide)).trans (hi_5 4 (by decide))))))).trans (((hp_185 4 (by decide)).trans ((hp_156 4 (by decide)).trans ((hp_134 4 (by decide)).trans (hi_5 4 (by decide)))))).symm) (hp_204 6 (by decide)) ((((hp_204 7 (by decide)).trans ((hp_185 7 (by decide)).trans ((hp_156 7 (by decide)).trans ((hp_134 7 (by decide)).trans (hi_5 7 (by decide))))))).trans (((hp_185 7 (by decide)).trans ((hp_156 7 (by decide)).trans ((hp_134 7 (by decide)).trans (hi_5 7 (by decide)))))).symm) (hp_204 8 (by decide)) (hp_204 9 (by decide)) (hp_204 11 (by decide)) (hp_204 12 (by decide)) ((((hp_204 14 (by decide)).trans ((hp_185 14 (by decide)).trans ((hp_156 14 (by decide)).trans ((hp_134 14 (by decide)).trans ((hi_5 14 (by decide)).trans htt.symm)))))).trans (((hp_185 14 (by decide)).trans ((hp_156 14 (by decide)).trans ((hp_134 14 (by decide)).trans ((hi_5 14 (by decide)).trans htt.symm))))).symm) (hp_204 15 (by decide)) (hp_204 29 (by decide)) (fun j => (F_203.1 123 (by decide) j))
      have e_215 : μ202.1 111 9 = μ183.1 111 9 := (hp_204 9 (by decide))
      have e_216 : wr μ202 = wr μ183 := (wr_cg (hp_204 15 (by decide)))
      have e_217 : μ202.1 111 9 = μ183.1 111 9 := (hp_204 9 (by decide))
      have e_218 : μ202.1 111 29 = μ183.1 111 29 := (hp_204 29 (by decide))
      have e_219 : wr μ202 = wr μ183 := (wr_cg (hp_204 15 (by decide)))
      have e_220 : bd μ202 = bd μ183 := (bd_cg (hp_204 15 (by decide)) (hp_204 16 (by decide)) (hp_204 17 (by decide)))
      have e_221 : wr μ202 = wr μ183 := (wr_cg (hp_204 15 (by decide)))
      have e_222 : nn μ202 = nn μ183 := (nn_cg (hp_204 15 (by decide)) (hp_204 18 (by decide)))
      have e_223 : μ202.1 111 39 = μ183.1 111 39 := (hp_204 39 (by decide))
      have e_224 : wr μ202 = wr μ183 := (wr_cg (hp_204 15 (by decide)))
      have e_225 : nn μ202 = nn μ183 := (nn_cg (hp_204 15 (by decide)) (hp_204 18 (by decide)))
      exact ih _ _ _ _ _ _ _ (by omega) ⟨(FrM.tr (FrM.tr (FrM.tr (FrM.tr FL3 F_133 (by decide)) F_155 (by decide)) F_184 (by decide)) F_203 (by decide)), (fun j hj => ((hp_204 j (fun h9 => hj ((by decide : ∀ x ∈ ([22] : List Int), x ∈ ([6, 8, 9, 10, 11, 12, 13, 15, 16, 17, 18, 22, 29, 39] : List Int)) j h9))).trans ((hp_185 j (fun h9 => hj ((by decide : ∀ x ∈ ([6, 8, 9, 10, 11, 12, 13, 15, 16, 17, 18, 22, 29, 39] : List Int), x ∈ ([6, 8, 9, 10, 11, 12, 13, 15, 16, 17, 18, 22, 29, 39] : List Int)) j h9))).trans ((hp_156 j (fun h9 => hj ((by decide : ∀ x ∈ ([6, 8, 9, 10, 11, 12, 13, 15] : List Int), x ∈ ([6, 8, 9, 10, 11, 12, 13, 15, 16, 17, 18, 22, 29, 39] : List Int)) j h9))).trans ((hp_134 j (fun h9 => hj ((by decide : ∀ x ∈ ([22] : List Int), x ∈ ([6, 8, 9, 10, 11, 12, 13, 15, 16, 17, 18, 22, 29, 39] : List Int)) j h9))).trans (hi_5 j (fun h9 => hj ((by decide : ∀ x ∈ ([6, 8, 9, 10, 11, 12, 13, 15, 16, 17, 18, 22, 29, 39] : List Int), x ∈ ([6, 8, 9, 10, 11, 12, 13, 15, 16, 17, 18, 22, 29, 39] : List Int)) j h9)))))))), hPM_214, (by omega), (by omega), (by omega), (by omega), (by omega), (by omega), (fun j hj => ((F_203.1 126 (by decide) j).trans ((hp_193 j (by omega)).trans ((F_155.1 126 (by decide) j).trans ((F_133.1 126 (by decide) j).trans (hi_13 j (by omega))))))), (fun _ h0 => (mPX.ex ((hX_212 ()) h0)).e (by omega)), (by omega), hxt_210, rfl, lv_sub hl [2] rfl⟩ G

set_option maxHeartbeats 4000000 in
set_option maxRecDepth 100000 in
theorem c_X12_sum (ω : Om) (l : Launch) (μ : M3) (F : Nat) (Lo : Nat) (Fu : Nat) (Lu : Nat) (kf : Int) (tt : Int) (htt : tt = μ.1 111 14) (hF : 60 ≤ F) (hLo : 2000 ≤ Lo) (hFu : Fu ≤ F) (hLu : Lu ≤ Lo) (hE : ∀ (μ : M3) (tt : Int) (htt : tt = μ.1 111 14) (hPM : PM μ) (hnn : 0 ≤ nn μ ∧ nn μ ≤ 9 ∧ 9 * wr μ ≤ nn μ) (hn8 : nn μ ≤ 8 + wr μ) (hcd : 0 ≤ μ.1 111 22 ∧ μ.1 111 22 ≤ 2 * μ.1 111 9 + 200 + 40 * wr μ) (hW : 0 ≤ μ.1 111 39 ∧ μ.1 111 39 ≤ μ.1 111 22) (hsl : 0 ≤ μ.1 111 31 ∧ μ.1 111 31 ≤ 300) (hfu : 0 ≤ (kf - 1) ∧ 9 ≤ nn μ + (kf - 1)) (hH0 : ∀ _ : Unit, bd μ = 0 → mH0 μ), CtV ω l yX12_expr cX12_expr 1 (F + 0) (Lo + 0) [.ref (oP ω 111)] μ (fun (μ' : M3) => (FrM [111, 113, 115, 116, 117, 123, 126] μ μ') ∧ (∀ j, j ∉ ([6, 8, 9, 10, 11, 12, 13, 15, 16, 17, 18, 22, 29, 39] : List Int) → μ'.1 111 j = μ.1 111 j) ∧ (PM μ') ∧ (μ.1 111 22 ≤ μ'.1 111 22 ∧ μ'.1 111 22 ≤ μ.1 111 22 + 2 * (μ'.1 111 9 - μ.1 111 9) + (- 1 + 3 * wr μ' - 2 * wr μ)) ∧ (μ.1 111 9 ≤ μ'.1 111 9) ∧ (μ.1 111 29 ≤ μ'.1 111 29) ∧ (wr μ ≤ wr μ' ∧ bd μ ≤ bd μ') ∧ (nn μ ≤ nn μ' ∧ nn μ' ≤ nn μ + 9 * wr μ' ∧ nn μ' ≤ 9 ∧ 9 * wr μ' ≤ nn μ') ∧ (μ'.1 111 39 = μ.1 111 39) ∧ (∀ j, j < μ.1 111 39 → μ'.1 126 j = μ.1 126 j) ∧ (∀ _ : Unit, bd μ' = 0 → mEX μ μ' tt 1 0 (11 * (9 - nn μ))) ∧ (mEXT μ μ'))) (hU : ∀ (μ : M3) (tt : Int) (htt : tt = μ.1 111 14) (hPM : PM μ) (hnn : 0 ≤ nn μ ∧ nn μ ≤ 9 ∧ 9 * wr μ ≤ nn μ) (hn8 : nn μ ≤ 8 + wr μ) (hcd : 0 ≤ μ.1 111 22 ∧ μ.1 111 22 ≤ 2 * μ.1 111 9 + 200 + 40 * wr μ) (hW : 0 ≤ μ.1 111 39 ∧ μ.1 111 39 ≤ μ.1 111 22) (hsl : 0 ≤ μ.1 111 31 ∧ μ.1 111 31 ≤ 300) (hfu : 0 ≤ (kf - 1) ∧ 9 ≤ nn μ + (kf - 1)) (hH0 : ∀ _ : Unit, bd μ = 0 → mH0 μ), CtV ω l yX12_unary cX12_unary 6 (Fu + 0) (Lu + 0) [.ref (oP ω 111)] μ (fun (μ' : M3) => (FrM [111, 113, 115, 116, 117, 123, 126] μ μ') ∧ (∀ j, j ∉ ([6, 8, 9, 10, 11, 12, 13, 15, 16, 17, 18, 22, 29, 39] : List Int) → μ'.1 111 j = μ.1 111 j) ∧ (PM μ') ∧ (μ.1 111 22 ≤ μ'.1 111 22 ∧ μ'.1 111 22 ≤ μ.1 111 22 + 2 * (μ'.1 111 9 - μ.1 111 9) + (- 1 + 3 * wr μ' - 2 * wr μ)) ∧ (μ.1 111 9 ≤ μ'.1 111 9) ∧ (μ.1 111 29 ≤ μ'.1 111 29) ∧ (wr μ ≤ wr μ' ∧ bd μ ≤ bd μ') ∧ (nn μ ≤ nn μ' ∧ nn μ' ≤ nn μ + 9 * wr μ' ∧ nn μ' ≤ 9 ∧ 9 * wr μ' ≤ nn μ') ∧ (μ'.1 111 39 = μ.1 111 39) ∧ (∀ j, j < μ.1 111 39 → μ'.1 126 j = μ.1 126 j) ∧ (∀ _ : Unit, bd μ' = 0 → mEX μ μ' tt 1 0 (11 * (9 - nn μ) - 3)) ∧ (mEXT μ μ'))) (hPM : PM μ) (hnn : 0 ≤ nn μ ∧ nn μ ≤ 9 ∧ 9 * wr μ ≤ nn μ) (hn8 : nn μ ≤ 8 + wr μ) (hcd : 0 ≤ μ.1 111 22 ∧ μ.1 111 22 ≤ 2 * μ.1 111 9 + 200 + 40 * wr μ) (hW : 0 ≤ μ.1 111 39 ∧ μ.1 111 39 ≤ μ.1 111 22) (hsl : 0 ≤ μ.1 111 31 ∧ μ.1 111 31 ≤ 300) (hfu : 0 ≤ kf ∧ 9 ≤ nn μ + kf) (hH0 : ∀ _ : Unit, bd μ = 0 → mH0 μ) : CtV ω l yX12_sum cX12_sum 1 (F + 8) (Lo + 182) [.ref (oP ω 111)] μ (fun (μ' : M3) => (FrM [111, 113, 115, 116, 117, 123, 126] μ μ') ∧ (∀ j, j ∉ ([6, 8, 9, 10, 11, 12, 13, 15, 16, 17, 18, 22, 29, 39] : List Int) → μ'.1 111 j = μ.1 111 j) ∧ (PM μ') ∧ (μ.1 111 22 ≤ μ'.1 111 22 ∧ μ'.1 111 22 ≤ μ.1 111 22 + 2 * (μ'.1 111 9 - μ.1 111 9) + (- 1 + 3 * wr μ' - 2 * wr μ)) ∧ (μ.1 111 9 ≤ μ'.1 111 9) ∧ (μ.1 111 29 ≤ μ'.1 111 29) ∧ (wr μ ≤ wr μ' ∧ bd μ ≤ bd μ') ∧ (nn μ ≤ nn μ' ∧ nn μ' ≤ nn μ + 9 * wr μ' ∧ nn μ' ≤ 9 ∧ 9 * wr μ' ≤ nn μ') ∧ (μ'.1 111 39 = μ.1 111 39) ∧ (∀ j, j < μ.1 111 39 → μ'.1 126 j = μ.1 126 j) ∧ (∀ _ : Unit, bd μ' = 0 → mEX μ μ' tt 1 0 (11 * (9 - nn μ) - 1)) ∧ (mEXT μ μ')) := by
  refine CtV.go (by decide) (Nat.le_of_ble_eq_true rfl) (fun ρ p e s m below meth c R ls G hR hret hlk hl => ?_)
  have hx := G.1.1
  have hb := G.1.2.1
  have hl : lv_has ls 1 [(0, .ref (oP ω 111))] := hl
  generalize s.drawn = d0 at G ⊢
  have hw_0 := wr_r (μ := μ)
  have hpp_ := hPM.1.2.1
  have hpn_ := hPM.2.1
  have hpt_ := hPM.1.2.2.2.1
  have hpw_ := hPM.1.2.2.2.2.1
  have hpa_ := hPM.1.1
  have hX_1 : ∀ _ : Unit, bd μ = 0 → mPX μ μ tt 0 1 (11 * (9 - nn μ) - 1) [] := fun _ h0 => mPX.nil (hH0 () h0) (by omega)
  refine lv_aload_n hx hb dX12_sum_0 rfl (lv_at hl 0 rfl) ?_
  have e_2 : μ.1 111 14 = tt := htt.symm
  refine xc_vV G (b := 111) (rest := []) (As := []) (c_X12_product ω l μ F Lo Fu Lu kf tt (by omega) hF hLo hFu hLu hE hU hPM (by omega) (by omega) (by omega) (by omega) (by omega) (by omega) (fun _ h0 => ((hX_1 ()) h0).h1.1)) (wm 9 151 rfl rfl) (wm 9 153 rfl rfl) (wm 0 150 rfl rfl) rfl rfl (by decide) rfl (wm 1 18 rfl rfl) (wm 9 154 rfl rfl) (by decide) hR ⟨sfr (F := F) (a := 6) (by decide), slo (L := Lo) (m := 1) (a := 140) (by decide)⟩ (n := 0) rfl rfl (Nat.le_of_ble_eq_true rfl) hl.1 dX12_sum_1 (fun μ3 ρ d0 H locs hp G => ?_)
  obtain ⟨F_4, hp_5, hp_6, hp_7, hp_8, hp_9, hp_10, hp_11, hp_12, hp_13, hp_14, hp_15⟩ := hp
  have hpl_16 := hp_6.pl
  have hw_17 := wr_r (μ := μ3)
  have hxt_18 : mEXT μ μ3 := (mEXT.rf (μ := μ)).tr hp_15
  have e_19 : μ3.1 111 31 = μ.1 111 31 := (hp_5 31 (by decide))
  have hX_20 : ∀ _ : Unit, bd μ3 = 0 → mPX μ μ3 tt 1 1 (11 * (9 - nn μ) - 1) [] := fun _ h0 => (((hX_1 ()) (by have e9 : bd μ = bd μ := rfl; have e8 : bd μ3 = bd μ3 := rfl; omega)).app (hp_14 () h0) (by omega)).ee (by omega)
  refine lv_aload_n hx hb dX12_sum_4 rfl (lv_at hl 0 rfl) ?_
  have e_21 : μ3.1 111 14 = tt := ((hp_5 14 (by decide)).trans htt.symm)
  have e_22 : μ3.1 111 31 = μ.1 111 31 := (hp_5 31 (by decide))
  have e_23 : μ3.1 111 31 = μ.1 111 31 := (hp_5 31 (by decide))
  refine xc_vV G (b := 111) (rest := []) (As := []) (c_X12_sums ω l μ3 F Lo Fu Lu kf μ (11 * (9 - nn μ) - 1) tt (by omega) hF hLo hFu hLu hE hU hp_6 (by omega) (by omega) (by omega) (by omega) (by omega) (by omega) (fun _ h0 => (mPX.ex ((hX_20 ()) h0)).e (by omega)) (by omega)) (wm 9 227 rfl rfl) (wm 9 229 rfl rfl) (wm 0 169 rfl rfl) rfl rfl (by decide) rfl (wm 1 18 rfl rfl) (wm 9 230 rfl rfl) (by decide) hR ⟨sfr (F := F) (a := 7) (by decide), slo (L := Lo) (m := 3) (a := 160) (by decide)⟩ (n := 0) rfl rfl (Nat.le_of_ble_eq_true rfl) hl.1 dX12_sum_5 (fun μ24 ρ d0 H locs hp G => ?_)
  obtain ⟨F_25, hp_26, hp_27, hp_28, hp_29, hp_30, hp_31, hp_32, hp_33, hp_34, hp_35, hp_36⟩ := hp
  have hpl_37 := hp_27.pl
  have hw_38 := wr_r (μ := μ24)
  have hxt_39 : mEXT μ μ24 := hxt_18.tr hp_36
  have hX_40 : ∀ _ : Unit, bd μ24 = 0 → mPX μ μ24 tt 1 1 (11 * (9 - nn μ) - 1) [] := fun _ h0 => mPX.of (hp_35 () h0)
  exact xr_v G hret hlk dX12_sum_8 ⟨(FrM.tr (FrM.tr FrM.rf F_4 (by decide)) F_25 (by decide)), (fun j hj => ((hp_26 j (fun h9 => hj ((by decide : ∀ x ∈ ([6, 8, 9, 10, 11, 12, 13, 15, 16, 17, 18, 22, 29, 39] : List Int), x ∈ ([6, 8, 9, 10, 11, 12, 13, 15, 16, 17, 18, 22, 29, 39] : List Int)) j h9))).trans (hp_5 j (fun h9 => hj ((by decide : ∀ x ∈ ([6, 8, 9, 10, 11, 12, 13, 15, 16, 17, 18, 22, 29, 39] : List Int), x ∈ ([6, 8, 9, 10, 11, 12, 13, 15, 16, 17, 18, 22, 29, 39] : List Int)) j h9))))), hp_27, (by omega), (by omega), (by omega), (by omega), (by omega), (by omega), (fun j hj => ((hp_34 j (by omega)).trans (hp_13 j (by omega)))), (fun _ h0 => (mPX.ex ((hX_40 ()) h0)).e (by omega)), hxt_39⟩

set_option maxHeartbeats 4000000 in
set_option maxRecDepth 100000 in
theorem c_X12_compares (ω : Om) (l : Launch) (μ : M3) (F : Nat) (Lo : Nat) (Fu : Nat) (Lu : Nat) (kf : Int) (μo : M3) (HH : Int) (tt : Int) (htt : tt = μ.1 111 14) (hF : 60 ≤ F) (hLo : 2000 ≤ Lo) (hFu : Fu ≤ F) (hLu : Lu ≤ Lo) (hE : ∀ (μ : M3) (tt : Int) (htt : tt = μ.1 111 14) (hPM : PM μ) (hnn : 0 ≤ nn μ ∧ nn μ ≤ 9 ∧ 9 * wr μ ≤ nn μ) (hn8 : nn μ ≤ 8 + wr μ) (hcd : 0 ≤ μ.1 111 22 ∧ μ.1 111 22 ≤ 2 * μ.1 111 9 + 200 + 40 * wr μ) (hW : 0 ≤ μ.1 111 39 ∧ μ.1 111 39 ≤ μ.1 111 22) (hsl : 0 ≤ μ.1 111 31 ∧ μ.1 111 31 ≤ 300) (hfu : 0 ≤ (kf - 1) ∧ 9 ≤ nn μ + (kf - 1)) (hH0 : ∀ _ : Unit, bd μ = 0 → mH0 μ), CtV ω l yX12_expr cX12_expr 1 (F + 0) (Lo + 0) [.ref (oP ω 111)] μ (fun (μ' : M3) => (FrM [111, 113, 115, 116, 117, 123, 126] μ μ') ∧ (∀ j, j ∉ ([6, 8, 9, 10, 11, 12, 13, 15, 16, 17, 18, 22, 29, 39] : List Int) → μ'.1 111 j = μ.1 111 j) ∧ (PM μ') ∧ (μ.1 111 22 ≤ μ'.1 111 22 ∧ μ'.1 111 22 ≤ μ.1 111 22 + 2 * (μ'.1 111 9 - μ.1 111 9) + (- 1 + 3 * wr μ' - 2 * wr μ)) ∧ (μ.1 111 9 ≤ μ'.1 111 9) ∧ (μ.1 111 29 ≤ μ'.1 111 29) ∧ (wr μ ≤ wr μ' ∧ bd μ ≤ bd μ') ∧ (nn μ ≤ nn μ' ∧ nn μ' ≤ nn μ + 9 * wr μ' ∧ nn μ' ≤ 9 ∧ 9 * wr μ' ≤ nn μ') ∧ (μ'.1 111 39 = μ.1 111 39) ∧ (∀ j, j < μ.1 111 39 → μ'.1 126 j = μ.1 126 j) ∧ (∀ _ : Unit, bd μ' = 0 → mEX μ μ' tt 1 0 (11 * (9 - nn μ))) ∧ (mEXT μ μ'))) (hU : ∀ (μ : M3) (tt : Int) (htt : tt = μ.1 111 14) (hPM : PM μ) (hnn : 0 ≤ nn μ ∧ nn μ ≤ 9 ∧ 9 * wr μ ≤ nn μ) (hn8 : nn μ ≤ 8 + wr μ) (hcd : 0 ≤ μ.1 111 22 ∧ μ.1 111 22 ≤ 2 * μ.1 111 9 + 200 + 40 * wr μ) (hW : 0 ≤ μ.1 111 39 ∧ μ.1 111 39 ≤ μ.1 111 22) (hsl : 0 ≤ μ.1 111 31 ∧ μ.1 111 31 ≤ 300) (hfu : 0 ≤ (kf - 1) ∧ 9 ≤ nn μ + (kf - 1)) (hH0 : ∀ _ : Unit, bd μ = 0 → mH0 μ), CtV ω l yX12_unary cX12_unary 6 (Fu + 0) (Lu + 0) [.ref (oP ω 111)] μ (fun (μ' : M3) => (FrM [111, 113, 115, 116, 117, 123, 126] μ μ') ∧ (∀ j, j ∉ ([6, 8, 9, 10, 11, 12, 13, 15, 16, 17, 18, 22, 29, 39] : List Int) → μ'.1 111 j = μ.1 111 j) ∧ (PM μ') ∧ (μ.1 111 22 ≤ μ'.1 111 22 ∧ μ'.1 111 22 ≤ μ.1 111 22 + 2 * (μ'.1 111 9 - μ.1 111 9) + (- 1 + 3 * wr μ' - 2 * wr μ)) ∧ (μ.1 111 9 ≤ μ'.1 111 9) ∧ (μ.1 111 29 ≤ μ'.1 111 29) ∧ (wr μ ≤ wr μ' ∧ bd μ ≤ bd μ') ∧ (nn μ ≤ nn μ' ∧ nn μ' ≤ nn μ + 9 * wr μ' ∧ nn μ' ≤ 9 ∧ 9 * wr μ' ≤ nn μ') ∧ (μ'.1 111 39 = μ.1 111 39) ∧ (∀ j, j < μ.1 111 39 → μ'.1 126 j = μ.1 126 j) ∧ (∀ _ : Unit, bd μ' = 0 → mEX μ μ' tt 1 0 (11 * (9 - nn μ) - 3)) ∧ (mEXT μ μ'))) (hPM : PM μ) (hnn : 0 ≤ nn μ ∧ nn μ ≤ 9 ∧ 9 * wr μ ≤ nn μ) (hn8 : nn μ ≤ 8 + wr μ) (hcd : 0 ≤ μ.1 111 22 ∧ μ.1 111 22 ≤ 2 * μ.1 111 9 + 200 + 40 * wr μ) (hW : 0 ≤ μ.1 111 39 ∧ μ.1 111 39 ≤ μ.1 111 22) (hsl : 0 ≤ μ.1 111 31 ∧ μ.1 111 31 ≤ 300) (hfu : 0 ≤ kf ∧ 9 ≤ nn μ + kf) (hEX : ∀ _ : Unit, bd μ = 0 → mEX μo μ tt 1 0 HH) (hHH : 11 * (9 - nn μ) - 1 + 1 ≤ HH) : CtV ω l yX12_compares cX12_compares 3 (F + 9) (Lo + 202) [.ref (oP ω 111)] μ (fun (μ' : M3) => (FrM [111, 113, 115, 116, 117, 123, 126] μ μ') ∧ (∀ j, j ∉ ([6, 8, 9, 10, 11, 12, 13, 15, 16, 17, 18, 22, 29, 39] : List Int) → μ'.1 111 j = μ.1 111 j) ∧ (PM μ') ∧ (μ.1 111 22 ≤ μ'.1 111 22 ∧ μ'.1 111 22 ≤ μ.1 111 22 + 2 * (μ'.1 111 9 - μ.1 111 9) + (0 + 3 * wr μ' - 3 * wr μ)) ∧ (μ.1 111 9 ≤ μ'.1 111 9) ∧ (μ.1 111 29 ≤ μ'.1 111 29) ∧ (wr μ ≤ wr μ' ∧ bd μ ≤ bd μ') ∧ (nn μ ≤ nn μ' ∧ nn μ' ≤ nn μ + 9 * wr μ' ∧ nn μ' ≤ 9 ∧ 9 * wr μ' ≤ nn μ') ∧ (μ'.1 111 39 = μ.1 111 39) ∧ (∀ j, j < μ.1 111 39 → μ'.1 126 j = μ.1 126 j) ∧ (∀ _ : Unit, bd μ' = 0 → mEX μo μ' tt 1 0 HH) ∧ (mEXT μ μ')) := by
  refine CtV.go (by decide) (Nat.le_of_ble_eq_true rfl) (fun ρ p e s m below meth c R ls G hR hret hlk hl => ?_)
  have hx := G.1.1
  have hb := G.1.2.1
  have hl : lv_has ls 3 [(0, .ref (oP ω 111))] := hl
  generalize s.drawn = d0 at G ⊢
  have hw_0 := wr_r (μ := μ)
  have hpp_ := hPM.1.2.1
  have hpn_ := hPM.2.1
  have hpt_ := hPM.1.2.2.2.1
  have hpw_ := hPM.1.2.2.2.2.1
  have hpa_ := hPM.1.1
  have hX_1 : ∀ _ : Unit, bd μ = 0 → mPX μo μ tt 1 1 HH [] := fun _ h0 => mPX.of (hEX () h0)
  refine lv_aload_n hx hb dX12_compares_0 rfl (lv_at hl 0 rfl) ?_
  refine xc_iV G (b := 111) (rest := []) (As := []) (c_X12_isWrong ω l μ  ) (wm 9 4 rfl rfl) (wm 9 6 rfl rfl) (wm 0 120 rfl rfl) rfl rfl (by decide) rfl (wm 1 18 rfl rfl) (wm 9 7 rfl rfl) (by decide) hR ⟨nfr hF (by decide), nlo hLo (by decide)⟩ (n := 0) rfl rfl (Nat.le_of_ble_eq_true rfl) hl.1 dX12_compares_1 (fun r_3 μ2 ρ d0 H locs hr_r_3 hp G => ?_)
  have hr_r_3 : -2147483648 ≤ r_3 ∧ r_3 ≤ 2147483647 := hr_r_3
  obtain ⟨hsm_4, hp_5⟩ := hp
  have hsm_4 := Eq.symm hsm_4
  subst hsm_4
  refine xb_if_ne (tgt := 25) hx hb (by unfold ir; omega) dX12_compares_4 (by decide) (fun c_4 => ?_) (fun c_4 => ?_)
  · exact xr_v G hret hlk dX12_compares_25 ⟨FrM.rf, (fun j hj => rfl), hPM, (by omega), (by omega), (by omega), (by omega), (by omega), (by omega), (fun j hj => rfl), (fun _ h0 => (mPX.ex ((hX_1 ()) h0)).e (by omega)), (mEXT.rf (μ := μ))⟩
  · refine lv_aload_n hx hb dX12_compares_7 rfl (lv_at hl 0 rfl) ?_
    refine xa_geti G fd_X12 (a := 111) (x := μ.1 111 8) 8 rfl (by decide) rfl (wm 7 157 rfl rfl) ⟨rfl, rfl, rfl⟩ dX12_compares_8 rfl rfl ?_
    have hr_6 : -2147483648 ≤ μ.1 111 8 ∧ μ.1 111 8 ≤ 2147483647 := by have h9 := G.hr (a := 111) (k := 8) rfl; exact h9
    refine lv_iconst (v := iv 3) hx hb dX12_compares_11 rfl ?_
    refine xb_icmp_ne (tgt := 25) hx hb (by unfold ir; omega) (by unfold ir; omega) dX12_compares_12 (by decide) (fun c_12 => ?_) (fun c_12 => ?_)
    · exact xr_v G hret hlk dX12_compares_25 ⟨FrM.rf, (fun j hj => rfl), hPM, (by omega), (by omega), (by omega), (by omega), (by omega), (by omega), (fun j hj => rfl), (fun _ h0 => (mPX.ex ((hX_1 ()) h0)).e (by omega)), (mEXT.rf (μ := μ))⟩
    · refine lv_aload_n hx hb dX12_compares_15 rfl (lv_at hl 0 rfl) ?_
      refine xa_geti G fd_X12 (a := 111) (x := μ.1 111 13) 13 rfl (by decide) rfl (wm 7 162 rfl rfl) ⟨rfl, rfl, rfl⟩ dX12_compares_16 rfl rfl ?_
      have hr_7 : -2147483648 ≤ μ.1 111 13 ∧ μ.1 111 13 ≤ 2147483647 := by have h9 := G.hr (a := 111) (k := 13) rfl; exact h9
      refine xc_iS G (rest := []) (As := [.int (iv (μ.1 111 13))]) (c_X12_isCompare ω l μ (μ.1 111 13) (by unfold ir; omega)) (wm 9 235 rfl rfl) (wm 9 236 rfl rfl) (wm 1 18 rfl rfl) (wm 9 237 rfl rfl) (by decide) hR ⟨nfr hF (by decide), nlo hLo (by decide)⟩ (n := 1) rfl rfl (Nat.le_of_ble_eq_true rfl) hl.1 dX12_compares_19 (fun r_9 μ8 ρ d0 H locs hr_r_9 hp G => ?_)
      have hr_r_9 : -2147483648 ≤ r_9 ∧ r_9 ≤ 2147483647 := hr_r_9
      obtain ⟨hsm_10, hp_11, hp_12, hp_13⟩ := hp
      have hsm_10 := Eq.symm hsm_10
      subst hsm_10
      refine xb_if_ne (tgt := 26) hx hb (by unfold ir; omega) dX12_compares_22 (by decide) (fun c_22 => ?_) (fun c_22 => ?_)
      · refine lv_aload_n hx hb dX12_compares_26 rfl (lv_at hl 0 rfl) ?_
        refine xa_geti G fd_X12 (a := 111) (x := μ.1 111 13) 13 rfl (by decide) rfl (wm 7 162 rfl rfl) ⟨rfl, rfl, rfl⟩ dX12_compares_27 rfl rfl ?_
        refine lv_istore_n (lv' := [(1, .int (iv (μ.1 111 13))), (0, .ref (oP ω 111))]) hx hb dX12_compares_30 rfl hl (by decide) rfl (fun ls hl => ?_)
        refine lv_aload_n hx hb dX12_compares_31 rfl (lv_at hl 1 rfl) ?_
        refine lv_iconst (v := iv 0) hx hb dX12_compares_32 rfl ?_
        have e_14 : μ.1 111 14 = tt := htt.symm
        refine xc_iV G (b := 111) (rest := []) (As := [.int (iv 0)]) (c_X12_skips ω l μ 0 tt (by unfold ir; omega) (by omega) (by omega)) (wm 9 159 rfl rfl) (wm 9 161 rfl rfl) (wm 0 152 rfl rfl) rfl rfl (by decide) rfl (wm 1 18 rfl rfl) (wm 9 162 rfl rfl) (by decide) hR ⟨nfr hF (by decide), nlo hLo (by decide)⟩ (n := 1) rfl rfl (Nat.le_of_ble_eq_true rfl) hl.1 dX12_compares_33 (fun r_16 μ15 ρ d0 H locs hr_r_16 hp G => ?_)
        have hr_r_16 : -2147483648 ≤ r_16 ∧ r_16 ≤ 2147483647 := hr_r_16
        obtain ⟨F_17, hp_18, hp_19, hp_20⟩ := hp
        have hqr_r_16 : (r_16 = -1) ∨ (μ.1 111 22 ≤ r_16 ∧ r_16 < μ15.1 111 22) := by rcases hp_19 with ⟨q1, q2, q3, q4⟩ | ⟨q1, q2, q3⟩; (right; have := q2.2.1; omega); (left; exact q2)
        have hxt_21 : mEXT μ μ15 := (mEXT.rf (μ := μ)).tr hp_19.ext
        have e_22 : μ15.1 111 31 = μ.1 111 31 := (hp_18 31 (by decide))
        have e_23 : wr μ15 = wr μ := (wr_cg (hp_18 15 (by decide)))
        have e_24 : bd μ15 = bd μ := (bd_cg (hp_18 15 (by decide)) (hp_18 16 (by decide)) (hp_18 17 (by decide)))
        have e_25 : nn μ15 = nn μ := (nn_cg (hp_18 15 (by decide)) (hp_18 18 (by decide)))
        replace hp_19 := fun _ : Unit => hp_19
        have e_27 : μ15.1 111 29 = μ.1 111 29 := (hp_18 29 (by decide))
        have hX_26 : ∀ _ : Unit, bd μ15 = 0 → mPX μo μ15 tt 1 1 HH (lsk r_16 ++ []) := fun _ h0 => mPX.sk ((hX_1 ()) (by have e9 : bd μ = bd μ := rfl; have e8 : bd μ15 = bd μ := (bd_cg (hp_18 15 (by decide)) (hp_18 16 (by decide)) (hp_18 17 (by decide))); omega)) (hp_19 ()) (by omega) (by omega) (by decide)
        refine lv_istore_n (lv' := [(2, .int (iv r_16)), (1, .int (iv (μ.1 111 13))), (0, .ref (oP ω 111))]) hx hb dX12_compares_36 rfl hl (by decide) rfl (fun ls hl => ?_)
        refine lv_aload_n hx hb dX12_compares_37 rfl (lv_at hl 2 rfl) ?_
        have hPM_28 : PM μ15 := hPM.cg (hp_18 4 (by decide)) (hp_18 6 (by decide)) (hp_18 7 (by decide)) (hp_18 8 (by decide)) (hp_18 9 (by decide)) (hp_18 11 (by decide)) (hp_18 12 (by decide)) ((((hp_18 14 (by decide)).trans htt.symm)).trans (htt.symm).symm) (hp_18 15 (by decide)) (hp_18 29 (by decide)) (fun j => (F_17.1 123 (by decide) j))
        have e_29 : wr μ15 = wr μ := (wr_cg (hp_18 15 (by decide)))
        have e_30 : nn μ15 = nn μ := (nn_cg (hp_18 15 (by decide)) (hp_18 18 (by decide)))
        have e_31 : μ15.1 111 8 = μ.1 111 8 := (hp_18 8 (by decide))
        have e_32 : wr μ15 = wr μ := (wr_cg (hp_18 15 (by decide)))
        have e_33 : μ15.1 111 9 = μ.1 111 9 := (hp_18 9 (by decide))
        have e_34 : wr μ15 = wr μ := (wr_cg (hp_18 15 (by decide)))
        have e_35 : wr μ15 = wr μ := (wr_cg (hp_18 15 (by decide)))
        have e_36 : bd μ15 = bd μ := (bd_cg (hp_18 15 (by decide)) (hp_18 16 (by decide)) (hp_18 17 (by decide)))
        have e_37 : nn μ15 = nn μ := (nn_cg (hp_18 15 (by decide)) (hp_18 18 (by decide)))
        refine xc_vV G (b := 111) (rest := []) (As := []) (c_X12_next ω l μ15  hPM_28 (by omega) (by omega)) (wm 9 0 rfl rfl) (wm 9 2 rfl rfl) (wm 0 119 rfl rfl) rfl rfl (by decide) rfl (wm 1 18 rfl rfl) (wm 9 3 rfl rfl) (by decide) hR ⟨nfr hF (by decide), nlo hLo (by decide)⟩ (n := 0) rfl rfl (Nat.le_of_ble_eq_true rfl) hl.1 dX12_compares_38 (fun μ38 ρ d0 H locs hp G => ?_)
        obtain ⟨F_39, hp_40, hp_41, hp_42, hp_43, hp_44⟩ := hp
        have hpl_45 := hp_41.pl
        have hw_46 := wr_r (μ := μ15)
        have hw_47 := wr_r (μ := μ38)
        have e_48 : μ38.1 111 31 = μ.1 111 31 := ((hp_40 31 (by decide)).trans (hp_18 31 (by decide)))
        refine lv_aload_n hx hb dX12_compares_41 rfl (lv_at hl 2 rfl) ?_
        have e_49 : μ38.1 111 29 = μ.1 111 29 := ((hp_40 29 (by decide)).trans (hp_18 29 (by decide)))
        have e_51 : μ38.1 111 29 = μ.1 111 29 := ((hp_40 29 (by decide)).trans (hp_18 29 (by decide)))
        have hX_50 : ∀ _ : Unit, bd μ38 = 0 → mPX μo μ38 tt 1 1 HH (lsk r_16 ++ []) := fun _ h0 => (hX_26 () (by have e9 : bd μ15 = bd μ := (bd_cg (hp_18 15 (by decide)) (hp_18 16 (by decide)) (hp_18 17 (by decide))); have e8 : bd μ38 = bd μ38 := rfl; omega)).qm (q0m.fr (K := [111]) (FrM.tr FrM.rf F_39 (by decide)) (by decide) (by decide) (by decide) (hp_40 22 (by decide)) (nS.le (by omega) (Int.le_of_eq (((((hp_40 31 (by decide)).trans (hp_18 31 (by decide)))).trans ((hp_18 31 (by decide))).symm)).symm)))
        have e_52 : μ38.1 111 29 = μ.1 111 29 := ((hp_40 29 (by decide)).trans (hp_18 29 (by decide)))
        have e_53 : μ38.1 111 29 = μ.1 111 29 := ((hp_40 29 (by decide)).trans (hp_18 29 (by decide)))
        have hxt_54 : mEXT μ μ38 := hxt_21.tr (q0m.fr (K := [111]) (FrM.tr FrM.rf F_39 (by decide)) (by decide) (by decide) (by decide) (hp_40 22 (by decide)) (nS.le (by omega) (Int.le_of_eq (((((hp_40 31 (by decide)).trans (hp_18 31 (by decide)))).trans ((hp_18 31 (by decide))).symm)).symm))).1
        have e_55 : μ38.1 111 14 = tt := ((hp_40 14 (by decide)).trans ((hp_18 14 (by decide)).trans htt.symm))
        have e_56 : μ38.1 111 22 = μ15.1 111 22 := (hp_40 22 (by decide))
        have e_57 : μ38.1 111 22 = μ15.1 111 22 := (hp_40 22 (by decide))
        have e_58 : μ38.1 111 39 = μ.1 111 39 := ((hp_40 39 (by decide)).trans (hp_18 39 (by decide)))
        have e_59 : μ38.1 111 39 = μ.1 111 39 := ((hp_40 39 (by decide)).trans (hp_18 39 (by decide)))
        have e_60 : μ38.1 111 22 = μ15.1 111 22 := (hp_40 22 (by decide))
        have e_61 : μ38.1 111 31 = μ.1 111 31 := ((hp_40 31 (by decide)).trans (hp_18 31 (by decide)))
        have e_62 : μ38.1 111 31 = μ.1 111 31 := ((hp_40 31 (by decide)).trans (hp_18 31 (by decide)))
        have e_63 : μ38.1 111 22 = μ15.1 111 22 := (hp_40 22 (by decide))
        have e_64 : μ38.1 111 22 = μ15.1 111 22 := (hp_40 22 (by decide))
        have e_65 : μ38.1 111 29 = μ.1 111 29 := ((hp_40 29 (by decide)).trans (hp_18 29 (by decide)))
        have e_66 : μ38.1 111 39 = μ.1 111 39 := ((hp_40 39 (by decide)).trans (hp_18 39 (by decide)))
        refine xc_vV G (b := 111) (rest := []) (As := []) (c_X12_sum ω l μ38 F Lo Fu Lu kf tt (by omega) hF hLo hFu hLu hE hU hp_41 (by omega) (by omega) (by omega) (by omega) (by omega) (by omega) (fun _ h0 => ((hX_50 ()) h0).h1.1)) (wm 9 147 rfl rfl) (wm 9 149 rfl rfl) (wm 0 149 rfl rfl) rfl rfl (by decide) rfl (wm 1 18 rfl rfl) (wm 9 150 rfl rfl) (by decide) hR ⟨sfr (F := F) (a := 8) (by decide), slo (L := Lo) (m := 1) (a := 182) (by decide)⟩ (n := 0) rfl rfl (Nat.le_of_ble_eq_true rfl) hl.1 dX12_compares_42 (fun μ67 ρ d0 H locs hp G => ?_)
        obtain ⟨F_68, hp_69, hp_70, hp_71, hp_72, hp_73, hp_74, hp_75, hp_76, hp_77, hp_78, hp_79⟩ := hp
        have hpl_80 := hp_70.pl
        have hw_81 := wr_r (μ := μ67)
        have hxt_82 : mEXT μ μ67 := hxt_54.tr hp_79
        have e_83 : μ67.1 111 31 = μ.1 111 31 := ((hp_69 31 (by decide)).trans ((hp_40 31 (by decide)).trans (hp_18 31 (by decide))))
        have hX_84 : ∀ _ : Unit, bd μ67 = 0 → mPX μo μ67 tt 2 1 HH (lsk r_16 ++ []) := fun _ h0 => (((hX_50 ()) (by have e9 : bd μ38 = bd μ38 := rfl; have e8 : bd μ67 = bd μ67 := rfl; omega)).app (hp_78 () h0) (by omega)).ee (by omega)
        refine lv_aload_n hx hb dX12_compares_45 rfl (lv_at hl 2 rfl) ?_
        refine lv_iload_n hx hb dX12_compares_46 rfl (lv_at hl 1 rfl) ?_
        refine lv_iload_n hx hb dX12_compares_47 rfl (lv_at hl 0 rfl) ?_
        have e_85 : μ67.1 111 14 = tt := ((hp_69 14 (by decide)).trans ((hp_40 14 (by decide)).trans ((hp_18 14 (by decide)).trans htt.symm)))
        refine xc_vV G (b := 111) (rest := []) (As := [.int (iv (μ.1 111 13)), .int (iv r_16)]) (c_X12_two ω l μ67 (μ.1 111 13) r_16 μo (HH) tt (by unfold ir; omega) (by unfold ir; omega) (by omega) (by omega) (hp_12 (by omega)) (by omega) (fun _ => (hX_84 ()))) (wm 9 223 rfl rfl) (wm 9 225 rfl rfl) (wm 0 168 rfl rfl) rfl rfl (by decide) rfl (wm 1 18 rfl rfl) (wm 9 226 rfl rfl) (by decide) hR ⟨nfr hF (by decide), nlo hLo (by decide)⟩ (n := 2) rfl rfl (Nat.le_of_ble_eq_true rfl) hl.1 dX12_compares_48 (fun μ86 ρ d0 H locs hp G => ?_)
        obtain ⟨F_87, hp_88, hp_89, hp_90, hp_91, hp_92⟩ := hp
        have hw_93 := wr_r (μ := μ86)
        have hxt_94 : mEXT μ μ86 := hp_92 _ hxt_82 (by omega)
        have e_95 : bd μ86 = bd μ67 := (bd_cg (hp_88 15 (by decide)) (hp_88 16 (by decide)) (hp_88 17 (by decide)))
        have e_97 : μ86.1 111 29 = μ67.1 111 29 := (hp_88 29 (by decide))
        have hX_96 : ∀ _ : Unit, bd μ86 = 0 → mPX μo μ86 tt 1 1 HH [] := fun _ h0 => mPX.of (hp_91 () h0)
        have e_98 : μ86.1 111 9 = μ67.1 111 9 := (hp_88 9 (by decide))
        have e_99 : μ86.1 111 29 = μ67.1 111 29 := (hp_88 29 (by decide))
        have e_100 : μ86.1 111 39 = μ67.1 111 39 := (hp_88 39 (by decide))
        have e_101 : wr μ86 = wr μ67 := (wr_cg (hp_88 15 (by decide)))
        have e_102 : bd μ86 = bd μ67 := (bd_cg (hp_88 15 (by decide)) (hp_88 16 (by decide)) (hp_88 17 (by decide)))
        have e_103 : nn μ86 = nn μ67 := (nn_cg (hp_88 15 (by decide)) (hp_88 18 (by decide)))
        have hPM_104 : PM μ86 := hp_70.cg ((((hp_88 4 (by decide)).trans ((hp_69 4 (by decide)).trans ((hp_40 4 (by decide)).trans (hp_18 4 (by decide)))))).trans (((hp_69 4 (by decide)).trans ((hp_40 4 (by decide)).trans (hp_18 4 (by decide))))).symm) (hp_88 6 (by decide)) ((((hp_88 7 (by decide)).trans ((hp_69 7 (by decide)).trans ((hp_40 7 (by decide)).trans (hp_18 7 (by decide)))))).trans (((hp_69 7 (by decide)).trans ((hp_40 7 (by decide)).trans (hp_18 7 (by decide))))).symm) (hp_88 8 (by decide)) (hp_88 9 (by decide)) (hp_88 11 (by decide)) (hp_88 12 (by decide)) ((((hp_88 14 (by decide)).trans ((hp_69 14 (by decide)).trans ((hp_40 14 (by decide)).trans ((hp_18 14 (by decide)).trans htt.symm))))).trans (((hp_69 14 (by decide)).trans ((hp_40 14 (by decide)).trans ((hp_18 14 (by decide)).trans htt.symm)))).symm) (hp_88 15 (by decide)) (hp_88 29 (by decide)) (fun j => (F_87.1 123 (by decide) j))
        have e_105 : μ86.1 111 9 = μ67.1 111 9 := (hp_88 9 (by decide))
        have e_106 : wr μ86 = wr μ67 := (wr_cg (hp_88 15 (by decide)))
        have e_107 : μ86.1 111 9 = μ67.1 111 9 := (hp_88 9 (by decide))
        have e_108 : μ86.1 111 29 = μ67.1 111 29 := (hp_88 29 (by decide))
        have e_109 : wr μ86 = wr μ67 := (wr_cg (hp_88 15 (by decide)))
        have e_110 : bd μ86 = bd μ67 := (bd_cg (hp_88 15 (by decide)) (hp_88 16 (by decide)) (hp_88 17 (by decide)))
        have e_111 : wr μ86 = wr μ67 := (wr_cg (hp_88 15 (by decide)))
        have e_112 : nn μ86 = nn μ67 := (nn_cg (hp_88 15 (by decide)) (hp_88 18 (by decide)))
        have e_113 : μ86.1 111 39 = μ67.1 111 39 := (hp_88 39 (by decide))
        exact xr_v G hret hlk dX12_compares_51 ⟨(FrM.tr (FrM.tr (FrM.tr (FrM.tr FrM.rf F_17 (by decide)) F_39 (by decide)) F_68 (by decide)) F_87 (by decide)), (fun j hj => ((hp_88 j (fun h9 => hj ((by decide : ∀ x ∈ ([22] : List Int), x ∈ ([6, 8, 9, 10, 11, 12, 13, 15, 16, 17, 18, 22, 29, 39] : List Int)) j h9))).trans ((hp_69 j (fun h9 => hj ((by decide : ∀ x ∈ ([6, 8, 9, 10, 11, 12, 13, 15, 16, 17, 18, 22, 29, 39] : List Int), x ∈ ([6, 8, 9, 10, 11, 12, 13, 15, 16, 17, 18, 22, 29, 39] : List Int)) j h9))).trans ((hp_40 j (fun h9 => hj ((by decide : ∀ x ∈ ([6, 8, 9, 10, 11, 12, 13, 15] : List Int), x ∈ ([6, 8, 9, 10, 11, 12, 13, 15, 16, 17, 18, 22, 29, 39] : List Int)) j h9))).trans (hp_18 j (fun h9 => hj ((by decide : ∀ x ∈ ([22] : List Int), x ∈ ([6, 8, 9, 10, 11, 12, 13, 15, 16, 17, 18, 22, 29, 39] : List Int)) j h9))))))), hPM_104, (by omega), (by omega), (by omega), (by omega), (by omega), (by omega), (fun j hj => ((F_87.1 126 (by decide) j).trans ((hp_77 j (by omega)).trans ((F_39.1 126 (by decide) j).trans (F_17.1 126 (by decide) j))))), (fun _ h0 => (mPX.ex ((hX_96 ()) h0)).e (by omega)), hxt_94⟩
      · exact xr_v G hret hlk dX12_compares_25 ⟨FrM.rf, (fun j hj => rfl), hPM, (by omega), (by omega), (by omega), (by omega), (by omega), (by omega), (fun j hj => rfl), (fun _ h0 => (mPX.ex ((hX_1 ()) h0)).e (by omega)), (mEXT.rf (μ := μ))⟩

set_option maxHeartbeats 4000000 in
set_option maxRecDepth 100000 in
theorem c_X12_question (ω : Om) (l : Launch) (μ : M3) (F : Nat) (Lo : Nat) (Fu : Nat) (Lu : Nat) (kf : Int) (tt : Int) (htt : tt = μ.1 111 14) (hF : 60 ≤ F) (hLo : 2000 ≤ Lo) (hFu : Fu ≤ F) (hLu : Lu ≤ Lo) (hE : ∀ (μ : M3) (tt : Int) (htt : tt = μ.1 111 14) (hPM : PM μ) (hnn : 0 ≤ nn μ ∧ nn μ ≤ 9 ∧ 9 * wr μ ≤ nn μ) (hn8 : nn μ ≤ 8 + wr μ) (hcd : 0 ≤ μ.1 111 22 ∧ μ.1 111 22 ≤ 2 * μ.1 111 9 + 200 + 40 * wr μ) (hW : 0 ≤ μ.1 111 39 ∧ μ.1 111 39 ≤ μ.1 111 22) (hsl : 0 ≤ μ.1 111 31 ∧ μ.1 111 31 ≤ 300) (hfu : 0 ≤ (kf - 1) ∧ 9 ≤ nn μ + (kf - 1)) (hH0 : ∀ _ : Unit, bd μ = 0 → mH0 μ), CtV ω l yX12_expr cX12_expr 1 (F + 0) (Lo + 0) [.ref (oP ω 111)] μ (fun (μ' : M3) => (FrM [111, 113, 115, 116, 117, 123, 126] μ μ') ∧ (∀ j, j ∉ ([6, 8, 9, 10, 11, 12, 13, 15, 16, 17, 18, 22, 29, 39] : List Int) → μ'.1 111 j = μ.1 111 j) ∧ (PM μ') ∧ (μ.1 111 22 ≤ μ'.1 111 22 ∧ μ'.1 111 22 ≤ μ.1 111 22 + 2 * (μ'.1 111 9 - μ.1 111 9) + (- 1 + 3 * wr μ' - 2 * wr μ)) ∧ (μ.1 111 9 ≤ μ'.1 111 9) ∧ (μ.1 111 29 ≤ μ'.1 111 29) ∧ (wr μ ≤ wr μ' ∧ bd μ ≤ bd μ') ∧ (nn μ ≤ nn μ' ∧ nn μ' ≤ nn μ + 9 * wr μ' ∧ nn μ' ≤ 9 ∧ 9 * wr μ' ≤ nn μ') ∧ (μ'.1 111 39 = μ.1 111 39) ∧ (∀ j, j < μ.1 111 39 → μ'.1 126 j = μ.1 126 j) ∧ (∀ _ : Unit, bd μ' = 0 → mEX μ μ' tt 1 0 (11 * (9 - nn μ))) ∧ (mEXT μ μ'))) (hU : ∀ (μ : M3) (tt : Int) (htt : tt = μ.1 111 14) (hPM : PM μ) (hnn : 0 ≤ nn μ ∧ nn μ ≤ 9 ∧ 9 * wr μ ≤ nn μ) (hn8 : nn μ ≤ 8 + wr μ) (hcd : 0 ≤ μ.1 111 22 ∧ μ.1 111 22 ≤ 2 * μ.1 111 9 + 200 + 40 * wr μ) (hW : 0 ≤ μ.1 111 39 ∧ μ.1 111 39 ≤ μ.1 111 22) (hsl : 0 ≤ μ.1 111 31 ∧ μ.1 111 31 ≤ 300) (hfu : 0 ≤ (kf - 1) ∧ 9 ≤ nn μ + (kf - 1)) (hH0 : ∀ _ : Unit, bd μ = 0 → mH0 μ), CtV ω l yX12_unary cX12_unary 6 (Fu + 0) (Lu + 0) [.ref (oP ω 111)] μ (fun (μ' : M3) => (FrM [111, 113, 115, 116, 117, 123, 126] μ μ') ∧ (∀ j, j ∉ ([6, 8, 9, 10, 11, 12, 13, 15, 16, 17, 18, 22, 29, 39] : List Int) → μ'.1 111 j = μ.1 111 j) ∧ (PM μ') ∧ (μ.1 111 22 ≤ μ'.1 111 22 ∧ μ'.1 111 22 ≤ μ.1 111 22 + 2 * (μ'.1 111 9 - μ.1 111 9) + (- 1 + 3 * wr μ' - 2 * wr μ)) ∧ (μ.1 111 9 ≤ μ'.1 111 9) ∧ (μ.1 111 29 ≤ μ'.1 111 29) ∧ (wr μ ≤ wr μ' ∧ bd μ ≤ bd μ') ∧ (nn μ ≤ nn μ' ∧ nn μ' ≤ nn μ + 9 * wr μ' ∧ nn μ' ≤ 9 ∧ 9 * wr μ' ≤ nn μ') ∧ (μ'.1 111 39 = μ.1 111 39) ∧ (∀ j, j < μ.1 111 39 → μ'.1 126 j = μ.1 126 j) ∧ (∀ _ : Unit, bd μ' = 0 → mEX μ μ' tt 1 0 (11 * (9 - nn μ) - 3)) ∧ (mEXT μ μ'))) (hPM : PM μ) (hnn : 0 ≤ nn μ ∧ nn μ ≤ 9 ∧ 9 * wr μ ≤ nn μ) (hn8 : nn μ ≤ 8 + wr μ) (hcd : 0 ≤ μ.1 111 22 ∧ μ.1 111 22 ≤ 2 * μ.1 111 9 + 200 + 40 * wr μ) (hW : 0 ≤ μ.1 111 39 ∧ μ.1 111 39 ≤ μ.1 111 22) (hsl : 0 ≤ μ.1 111 31 ∧ μ.1 111 31 ≤ 300) (hfu : 0 ≤ kf ∧ 9 ≤ nn μ + kf) (hH0 : ∀ _ : Unit, bd μ = 0 → mH0 μ) : CtV ω l yX12_question cX12_question 1 (F + 10) (Lo + 224) [.ref (oP ω 111)] μ (fun (μ' : M3) => (FrM [111, 113, 115, 116, 117, 123, 126] μ μ') ∧ (∀ j, j ∉ ([6, 8, 9, 10, 11, 12, 13, 15, 16, 17, 18, 22, 29, 39] : List Int) → μ'.1 111 j = μ.1 111 j) ∧ (PM μ') ∧ (μ.1 111 22 ≤ μ'.1 111 22 ∧ μ'.1 111 22 ≤ μ.1 111 22 + 2 * (μ'.1 111 9 - μ.1 111 9) + (- 1 + 3 * wr μ' - 2 * wr μ)) ∧ (μ.1 111 9 ≤ μ'.1 111 9) ∧ (μ.1 111 29 ≤ μ'.1 111 29) ∧ (wr μ ≤ wr μ' ∧ bd μ ≤ bd μ') ∧ (nn μ ≤ nn μ' ∧ nn μ' ≤ nn μ + 9 * wr μ' ∧ nn μ' ≤ 9 ∧ 9 * wr μ' ≤ nn μ') ∧ (μ'.1 111 39 = μ.1 111 39) ∧ (∀ j, j < μ.1 111 39 → μ'.1 126 j = μ.1 126 j) ∧ (∀ _ : Unit, bd μ' = 0 → mEX μ μ' tt 1 0 (11 * (9 - nn μ))) ∧ (mEXT μ μ')) := by
  refine CtV.go (by decide) (Nat.le_of_ble_eq_true rfl) (fun ρ p e s m below meth c R ls G hR hret hlk hl => ?_)
  have hx := G.1.1
  have hb := G.1.2.1
  have hl : lv_has ls 1 [(0, .ref (oP ω 111))] := hl
  generalize s.drawn = d0 at G ⊢
  have hw_0 := wr_r (μ := μ)
  have hpp_ := hPM.1.2.1
  have hpn_ := hPM.2.1
  have hpt_ := hPM.1.2.2.2.1
  have hpw_ := hPM.1.2.2.2.2.1
  have hpa_ := hPM.1.1
  have hX_1 : ∀ _ : Unit, bd μ = 0 → mPX μ μ tt 0 1 (11 * (9 - nn μ)) [] := fun _ h0 => mPX.nil (hH0 () h0) (by omega)
  refine lv_aload_n hx hb dX12_question_0 rfl (lv_at hl 0 rfl) ?_
  have e_2 : μ.1 111 14 = tt := htt.symm
  refine xc_vV G (b := 111) (rest := []) (As := []) (c_X12_sum ω l μ F Lo Fu Lu kf tt (by omega) hF hLo hFu hLu hE hU hPM (by omega) (by omega) (by omega) (by omega) (by omega) (by omega) (fun _ h0 => ((hX_1 ()) h0).h1.1)) (wm 9 147 rfl rfl) (wm 9 149 rfl rfl) (wm 0 149 rfl rfl) rfl rfl (by decide) rfl (wm 1 18 rfl rfl) (wm 9 150 rfl rfl) (by decide) hR ⟨sfr (F := F) (a := 8) (by decide), slo (L := Lo) (m := 1) (a := 182) (by decide)⟩ (n := 0) rfl rfl (Nat.le_of_ble_eq_true rfl) hl.1 dX12_question_1 (fun μ3 ρ d0 H locs hp G => ?_)
  obtain ⟨F_4, hp_5, hp_6, hp_7, hp_8, hp_9, hp_10, hp_11, hp_12, hp_13, hp_14, hp_15⟩ := hp
  have hpl_16 := hp_6.pl
  have hw_17 := wr_r (μ := μ3)
  have hxt_18 : mEXT μ μ3 := (mEXT.rf (μ := μ)).tr hp_15
  have e_19 : μ3.1 111 31 = μ.1 111 31 := (hp_5 31 (by decide))
  have hX_20 : ∀ _ : Unit, bd μ3 = 0 → mPX μ μ3 tt 1 1 (11 * (9 - nn μ)) [] := fun _ h0 => (((hX_1 ()) (by have e9 : bd μ = bd μ := rfl; have e8 : bd μ3 = bd μ3 := rfl; omega)).app (hp_14 () h0) (by omega)).ee (by omega)
  refine lv_aload_n hx hb dX12_question_4 rfl (lv_at hl 0 rfl) ?_
  have e_21 : μ3.1 111 14 = tt := ((hp_5 14 (by decide)).trans htt.symm)
  have e_22 : μ3.1 111 31 = μ.1 111 31 := (hp_5 31 (by decide))
  have e_23 : μ3.1 111 31 = μ.1 111 31 := (hp_5 31 (by decide))
  refine xc_vV G (b := 111) (rest := []) (As := []) (c_X12_compares ω l μ3 F Lo Fu Lu kf μ (11 * (9 - nn μ)) tt (by omega) hF hLo hFu hLu hE hU hp_6 (by omega) (by omega) (by omega) (by omega) (by omega) (by omega) (fun _ h0 => (mPX.ex ((hX_20 ()) h0)).e (by omega)) (by omega)) (wm 9 231 rfl rfl) (wm 9 233 rfl rfl) (wm 0 170 rfl rfl) rfl rfl (by decide) rfl (wm 1 18 rfl rfl) (wm 9 234 rfl rfl) (by decide) hR ⟨sfr (F := F) (a := 9) (by decide), slo (L := Lo) (m := 3) (a := 202) (by decide)⟩ (n := 0) rfl rfl (Nat.le_of_ble_eq_true rfl) hl.1 dX12_question_5 (fun μ24 ρ d0 H locs hp G => ?_)
  obtain ⟨F_25, hp_26, hp_27, hp_28, hp_29, hp_30, hp_31, hp_32, hp_33, hp_34, hp_35, hp_36⟩ := hp
  have hpl_37 := hp_27.pl
  have hw_38 := wr_r (μ := μ24)
  have hxt_39 : mEXT μ μ24 := hxt_18.tr hp_36
  have hX_40 : ∀ _ : Unit, bd μ24 = 0 → mPX μ μ24 tt 1 1 (11 * (9 - nn μ)) [] := fun _ h0 => mPX.of (hp_35 () h0)
  exact xr_v G hret hlk dX12_question_8 ⟨(FrM.tr (FrM.tr FrM.rf F_4 (by decide)) F_25 (by decide)), (fun j hj => ((hp_26 j (fun h9 => hj ((by decide : ∀ x ∈ ([6, 8, 9, 10, 11, 12, 13, 15, 16, 17, 18, 22, 29, 39] : List Int), x ∈ ([6, 8, 9, 10, 11, 12, 13, 15, 16, 17, 18, 22, 29, 39] : List Int)) j h9))).trans (hp_5 j (fun h9 => hj ((by decide : ∀ x ∈ ([6, 8, 9, 10, 11, 12, 13, 15, 16, 17, 18, 22, 29, 39] : List Int), x ∈ ([6, 8, 9, 10, 11, 12, 13, 15, 16, 17, 18, 22, 29, 39] : List Int)) j h9))))), hp_27, (by omega), (by omega), (by omega), (by omega), (by omega), (by omega), (fun j hj => ((hp_34 j (by omega)).trans (hp_13 j (by omega)))), (fun _ h0 => (mPX.ex ((hX_40 ()) h0)).e (by omega)), hxt_39⟩

set_option maxHeartbeats 4000000 in
set_option maxRecDepth 100000 in
theorem c_X12_elses (ω : Om) (l : Launch) (μ : M3) (F : Nat) (Lo : Nat) (Fu : Nat) (Lu : Nat) (kf : Int) (μo : M3) (HH : Int) (tt : Int) (htt : tt = μ.1 111 14) (hF : 60 ≤ F) (hLo : 2000 ≤ Lo) (hFu : Fu ≤ F) (hLu : Lu ≤ Lo) (hE : ∀ (μ : M3) (tt : Int) (htt : tt = μ.1 111 14) (hPM : PM μ) (hnn : 0 ≤ nn μ ∧ nn μ ≤ 9 ∧ 9 * wr μ ≤ nn μ) (hn8 : nn μ ≤ 8 + wr μ) (hcd : 0 ≤ μ.1 111 22 ∧ μ.1 111 22 ≤ 2 * μ.1 111 9 + 200 + 40 * wr μ) (hW : 0 ≤ μ.1 111 39 ∧ μ.1 111 39 ≤ μ.1 111 22) (hsl : 0 ≤ μ.1 111 31 ∧ μ.1 111 31 ≤ 300) (hfu : 0 ≤ (kf - 1) ∧ 9 ≤ nn μ + (kf - 1)) (hH0 : ∀ _ : Unit, bd μ = 0 → mH0 μ), CtV ω l yX12_expr cX12_expr 1 (F + 0) (Lo + 0) [.ref (oP ω 111)] μ (fun (μ' : M3) => (FrM [111, 113, 115, 116, 117, 123, 126] μ μ') ∧ (∀ j, j ∉ ([6, 8, 9, 10, 11, 12, 13, 15, 16, 17, 18, 22, 29, 39] : List Int) → μ'.1 111 j = μ.1 111 j) ∧ (PM μ') ∧ (μ.1 111 22 ≤ μ'.1 111 22 ∧ μ'.1 111 22 ≤ μ.1 111 22 + 2 * (μ'.1 111 9 - μ.1 111 9) + (- 1 + 3 * wr μ' - 2 * wr μ)) ∧ (μ.1 111 9 ≤ μ'.1 111 9) ∧ (μ.1 111 29 ≤ μ'.1 111 29) ∧ (wr μ ≤ wr μ' ∧ bd μ ≤ bd μ') ∧ (nn μ ≤ nn μ' ∧ nn μ' ≤ nn μ + 9 * wr μ' ∧ nn μ' ≤ 9 ∧ 9 * wr μ' ≤ nn μ') ∧ (μ'.1 111 39 = μ.1 111 39) ∧ (∀ j, j < μ.1 111 39 → μ'.1 126 j = μ.1 126 j) ∧ (∀ _ : Unit, bd μ' = 0 → mEX μ μ' tt 1 0 (11 * (9 - nn μ))) ∧ (mEXT μ μ'))) (hU : ∀ (μ : M3) (tt : Int) (htt : tt = μ.1 111 14) (hPM : PM μ) (hnn : 0 ≤ nn μ ∧ nn μ ≤ 9 ∧ 9 * wr μ ≤ nn μ) (hn8 : nn μ ≤ 8 + wr μ) (hcd : 0 ≤ μ.1 111 22 ∧ μ.1 111 22 ≤ 2 * μ.1 111 9 + 200 + 40 * wr μ) (hW : 0 ≤ μ.1 111 39 ∧ μ.1 111 39 ≤ μ.1 111 22) (hsl : 0 ≤ μ.1 111 31 ∧ μ.1 111 31 ≤ 300) (hfu : 0 ≤ (kf - 1) ∧ 9 ≤ nn μ + (kf - 1)) (hH0 : ∀ _ : Unit, bd μ = 0 → mH0 μ), CtV ω l yX12_unary cX12_unary 6 (Fu + 0) (Lu + 0) [.ref (oP ω 111)] μ (fun (μ' : M3) => (FrM [111, 113, 115, 116, 117, 123, 126] μ μ') ∧ (∀ j, j ∉ ([6, 8, 9, 10, 11, 12, 13, 15, 16, 17, 18, 22, 29, 39] : List Int) → μ'.1 111 j = μ.1 111 j) ∧ (PM μ') ∧ (μ.1 111 22 ≤ μ'.1 111 22 ∧ μ'.1 111 22 ≤ μ.1 111 22 + 2 * (μ'.1 111 9 - μ.1 111 9) + (- 1 + 3 * wr μ' - 2 * wr μ)) ∧ (μ.1 111 9 ≤ μ'.1 111 9) ∧ (μ.1 111 29 ≤ μ'.1 111 29) ∧ (wr μ ≤ wr μ' ∧ bd μ ≤ bd μ') ∧ (nn μ ≤ nn μ' ∧ nn μ' ≤ nn μ + 9 * wr μ' ∧ nn μ' ≤ 9 ∧ 9 * wr μ' ≤ nn μ') ∧ (μ'.1 111 39 = μ.1 111 39) ∧ (∀ j, j < μ.1 111 39 → μ'.1 126 j = μ.1 126 j) ∧ (∀ _ : Unit, bd μ' = 0 → mEX μ μ' tt 1 0 (11 * (9 - nn μ) - 3)) ∧ (mEXT μ μ'))) (hPM : PM μ) (hnn : 0 ≤ nn μ ∧ nn μ ≤ 9 ∧ 9 * wr μ ≤ nn μ) (hn8 : nn μ ≤ 8 + wr μ) (hcd : 0 ≤ μ.1 111 22 ∧ μ.1 111 22 ≤ 2 * μ.1 111 9 + 200 + 40 * wr μ) (hW : 0 ≤ μ.1 111 39 ∧ μ.1 111 39 ≤ μ.1 111 22) (hsl : 0 ≤ μ.1 111 31 ∧ μ.1 111 31 ≤ 300) (hfu : 0 ≤ kf ∧ 9 ≤ nn μ + kf) (hEX : ∀ _ : Unit, bd μ = 0 → mEX μo μ tt 1 0 HH) (hHH : 11 * (9 - nn μ) - 1 + 1 ≤ HH) : CtV ω l yX12_elses cX12_elses 2 (F + 1) (Lo + 20) [.ref (oP ω 111)] μ (fun (μ' : M3) => (FrM [111, 113, 115, 116, 117, 123, 126] μ μ') ∧ (∀ j, j ∉ ([6, 8, 9, 10, 11, 12, 13, 15, 16, 17, 18, 22, 29, 39] : List Int) → μ'.1 111 j = μ.1 111 j) ∧ (PM μ') ∧ (μ.1 111 22 ≤ μ'.1 111 22 ∧ μ'.1 111 22 ≤ μ.1 111 22 + 2 * (μ'.1 111 9 - μ.1 111 9) + (0 + 3 * wr μ' - 3 * wr μ)) ∧ (μ.1 111 9 ≤ μ'.1 111 9) ∧ (μ.1 111 29 ≤ μ'.1 111 29) ∧ (wr μ ≤ wr μ' ∧ bd μ ≤ bd μ') ∧ (nn μ ≤ nn μ' ∧ nn μ' ≤ nn μ + 9 * wr μ' ∧ nn μ' ≤ 9 ∧ 9 * wr μ' ≤ nn μ') ∧ (μ'.1 111 39 = μ.1 111 39) ∧ (∀ j, j < μ.1 111 39 → μ'.1 126 j = μ.1 126 j) ∧ (∀ _ : Unit, bd μ' = 0 → mEX μo μ' tt 1 0 HH) ∧ (mEXT μ μ')) := by
  refine CtV.go (by decide) (Nat.le_of_ble_eq_true rfl) (fun ρ p e s m below meth c R ls G hR hret hlk hl => ?_)
  have hx := G.1.1
  have hb := G.1.2.1
  have hl : lv_has ls 2 [(0, .ref (oP ω 111))] := hl
  generalize s.drawn = d0 at G ⊢
  have hw_0 := wr_r (μ := μ)
  have hpp_ := hPM.1.2.1
  have hpn_ := hPM.2.1
  have hpt_ := hPM.1.2.2.2.1
  have hpw_ := hPM.1.2.2.2.2.1
  have hpa_ := hPM.1.1
  have hX_1 : ∀ _ : Unit, bd μ = 0 → mPX μo μ tt 1 1 HH [] := fun _ h0 => mPX.of (hEX () h0)
  refine lv_aload_n hx hb dX12_elses_0 rfl (lv_at hl 0 rfl) ?_
  refine xa_geti G fd_X12 (a := 111) (x := tt) 14 rfl (by decide) rfl (wm 7 163 rfl rfl) ⟨rfl, rfl, rfl⟩ dX12_elses_1 rfl htt.symm ?_
  have hr_2 : -2147483648 ≤ tt ∧ tt ≤ 2147483647 := by have h9 := G.hr (a := 111) (k := 14) rfl; rw [show μ.1 111 14 = tt from htt.symm] at h9; exact h9
  refine lv_iconst (v := iv 2) hx hb dX12_elses_4 rfl ?_
  refine xb_icmp_ne (tgt := 16) hx hb (by unfold ir; omega) (by unfold ir; omega) dX12_elses_5 (by decide) (fun c_5 => ?_) (fun c_5 => ?_)
  · exact xr_v G hret hlk dX12_elses_16 ⟨FrM.rf, (fun j hj => rfl), hPM, (by omega), (by omega), (by omega), (by omega), (by omega), (by omega), (fun j hj => rfl), (fun _ h0 => (mPX.ex ((hX_1 ()) h0)).e (by omega)), (mEXT.rf (μ := μ))⟩
  · refine lv_aload_n hx hb dX12_elses_8 rfl (lv_at hl 0 rfl) ?_
    refine lv_iconst (v := iv 5) hx hb dX12_elses_9 rfl ?_
    refine xc_iV G (b := 111) (rest := []) (As := [.int (iv 5)]) (c_X12_isWord ω l μ 5 (by unfold ir; omega)) (wm 9 62 rfl rfl) (wm 9 64 rfl rfl) (wm 0 128 rfl rfl) rfl rfl (by decide) rfl (wm 1 18 rfl rfl) (wm 9 65 rfl rfl) (by decide) hR ⟨nfr hF (by decide), nlo hLo (by decide)⟩ (n := 1) rfl rfl (Nat.le_of_ble_eq_true rfl) hl.1 dX12_elses_10 (fun r_4 μ3 ρ d0 H locs hr_r_4 hp G => ?_)
    have hr_r_4 : -2147483648 ≤ r_4 ∧ r_4 ≤ 2147483647 := hr_r_4
    obtain ⟨hsm_5, hp_6⟩ := hp
    have hsm_5 := Eq.symm hsm_5
    subst hsm_5
    refine xb_if_ne (tgt := 17) hx hb (by unfold ir; omega) dX12_elses_13 (by decide) (fun c_13 => ?_) (fun c_13 => ?_)
    · refine lv_aload_n hx hb dX12_elses_17 rfl (lv_at hl 0 rfl) ?_
      refine xc_vV G (b := 111) (rest := []) (As := []) (c_X12_opens ω l μ  hPM (by omega) (by omega) (by omega)) (wm 9 94 rfl rfl) (wm 9 96 rfl rfl) (wm 0 136 rfl rfl) rfl rfl (by decide) rfl (wm 1 18 rfl rfl) (wm 9 97 rfl rfl) (by decide) hR ⟨nfr hF (by decide), nlo hLo (by decide)⟩ (n := 0) rfl rfl (Nat.le_of_ble_eq_true rfl) hl.1 dX12_elses_18 (fun μ7 ρ d0 H locs hp G => ?_)
      obtain ⟨F_8, hp_9, hp_10, hp_11, hp_12, hp_13, hp_14⟩ := hp
      have hpl_15 := hp_10.pl
      have hw_16 := wr_r (μ := μ7)
      have e_17 : μ7.1 111 31 = μ.1 111 31 := (hp_9 31 (by decide))
      refine lv_aload_n hx hb dX12_elses_21 rfl (lv_at hl 0 rfl) ?_
      refine lv_bipush (v := iv 34) hx hb dX12_elses_22 rfl ?_
      refine lv_lconst (v := jv 0) hx hb dX12_elses_24 rfl ?_
      refine lv_iconst (v := iv 0) hx hb dX12_elses_25 rfl ?_
      have e_18 : μ7.1 111 29 = μ.1 111 29 := (hp_9 29 (by decide))
      have e_20 : μ7.1 111 29 = μ.1 111 29 := (hp_9 29 (by decide))
      have hX_19 : ∀ _ : Unit, bd μ7 = 0 → mPX μo μ7 tt 1 1 HH [] := fun _ h0 => (hX_1 () (by have e9 : bd μ = bd μ := rfl; have e8 : bd μ7 = bd μ7 := rfl; omega)).qm (q0m.fr (K := [111]) (FrM.tr FrM.rf F_8 (by decide)) (by decide) (by decide) (by decide) (hp_9 22 (by decide)) (nS.le (by omega) (Int.le_of_eq ((hp_9 31 (by decide))).symm)))
      have e_21 : μ7.1 111 29 = μ.1 111 29 := (hp_9 29 (by decide))
      have e_22 : μ7.1 111 29 = μ.1 111 29 := (hp_9 29 (by decide))
      have hxt_23 : mEXT μ μ7 := (q0m.fr (K := [111]) (FrM.tr FrM.rf F_8 (by decide)) (by decide) (by decide) (by decide) (hp_9 22 (by decide)) (nS.le (by omega) (Int.le_of_eq ((hp_9 31 (by decide))).symm))).1
      have e_24 : μ7.1 111 22 = μ.1 111 22 := (hp_9 22 (by decide))
      have e_25 : μ7.1 111 22 = μ.1 111 22 := (hp_9 22 (by decide))
      have e_26 : μ7.1 111 22 = μ.1 111 22 := (hp_9 22 (by decide))
      have e_27 : μ7.1 111 22 = μ.1 111 22 := (hp_9 22 (by decide))
      refine xc_iV G (b := 111) (rest := []) (As := [.int (iv 34), .long (jv 0), .int (iv 0)]) (c_X12_emit ω l μ7 34 0 0 (by unfold ir; omega) (by unfold jr; omega) (by unfold ir; omega) (by omega)) (wm 9 126 rfl rfl) (wm 9 128 rfl rfl) (wm 0 144 rfl rfl) rfl rfl (by decide) rfl (wm 1 18 rfl rfl) (wm 9 129 rfl rfl) (by decide) hR ⟨nfr hF (by decide), nlo hLo (by decide)⟩ (n := 3) rfl rfl (Nat.le_of_ble_eq_true rfl) hl.1 dX12_elses_26 (fun r_29 μ28 ρ d0 H locs hr_r_29 hp G => ?_)
      have hr_r_29 : -2147483648 ≤ r_29 ∧ r_29 ≤ 2147483647 := hr_r_29
      obtain ⟨F_30, hp_31, hp_32, hp_33, hp_34⟩ := hp
      have hxt_35 : mEXT μ μ28 := hxt_23.tr hp_32.1
      refine lv_istore_n (lv' := [(1, .int (iv r_29)), (0, .ref (oP ω 111))]) hx hb dX12_elses_29 rfl hl (by decide) rfl (fun ls hl => ?_)
      refine lv_aload_n hx hb dX12_elses_30 rfl (lv_at hl 1 rfl) ?_
      have e_36 : μ28.1 111 29 = μ.1 111 29 := ((hp_31 29 (by decide)).trans (hp_9 29 (by decide)))
      have e_37 : μ28.1 111 31 = μ.1 111 31 := ((hp_31 31 (by decide)).trans (hp_9 31 (by decide)))
      have e_38 : wr μ28 = wr μ7 := (wr_cg (hp_31 15 (by decide)))
      have e_39 : bd μ28 = bd μ7 := (bd_cg (hp_31 15 (by decide)) (hp_31 16 (by decide)) (hp_31 17 (by decide)))
      have e_40 : nn μ28 = nn μ7 := (nn_cg (hp_31 15 (by decide)) (hp_31 18 (by decide)))
      have e_41 : μ28.1 111 29 = μ.1 111 29 := ((hp_31 29 (by decide)).trans (hp_9 29 (by decide)))
      have e_42 : μ28.1 111 14 = tt := ((hp_31 14 (by decide)).trans ((hp_9 14 (by decide)).trans htt.symm))
      have hPM_43 : PM μ28 := hp_10.cg ((((hp_31 4 (by decide)).trans (hp_9 4 (by decide)))).trans ((hp_9 4 (by decide))).symm) (hp_31 6 (by decide)) ((((hp_31 7 (by decide)).trans (hp_9 7 (by decide)))).trans ((hp_9 7 (by decide))).symm) (hp_31 8 (by decide)) (hp_31 9 (by decide)) (hp_31 11 (by decide)) (hp_31 12 (by decide)) ((((hp_31 14 (by decide)).trans ((hp_9 14 (by decide)).trans htt.symm))).trans (((hp_9 14 (by decide)).trans htt.symm)).symm) (hp_31 15 (by decide)) ((((hp_31 29 (by decide)).trans (hp_9 29 (by decide)))).trans ((hp_9 29 (by decide))).symm) (fun j => (F_30.1 123 (by decide) j))
      have e_44 : wr μ28 = wr μ7 := (wr_cg (hp_31 15 (by decide)))
      have e_45 : nn μ28 = nn μ7 := (nn_cg (hp_31 15 (by decide)) (hp_31 18 (by decide)))
      have e_46 : wr μ28 = wr μ7 := (wr_cg (hp_31 15 (by decide)))
      have e_47 : nn μ28 = nn μ7 := (nn_cg (hp_31 15 (by decide)) (hp_31 18 (by decide)))
      have e_48 : μ28.1 111 9 = μ7.1 111 9 := (hp_31 9 (by decide))
      have e_49 : wr μ28 = wr μ7 := (wr_cg (hp_31 15 (by decide)))
      have e_50 : μ28.1 111 39 = μ.1 111 39 := ((hp_31 39 (by decide)).trans (hp_9 39 (by decide)))
      have e_51 : μ28.1 111 39 = μ.1 111 39 := ((hp_31 39 (by decide)).trans (hp_9 39 (by decide)))
      have e_52 : μ28.1 111 31 = μ.1 111 31 := ((hp_31 31 (by decide)).trans (hp_9 31 (by decide)))
      have e_53 : μ28.1 111 31 = μ.1 111 31 := ((hp_31 31 (by decide)).trans (hp_9 31 (by decide)))
      have e_54 : nn μ28 = nn μ7 := (nn_cg (hp_31 15 (by decide)) (hp_31 18 (by decide)))
      have e_55 : μ28.1 111 9 = μ7.1 111 9 := (hp_31 9 (by decide))
      have e_56 : wr μ28 = wr μ7 := (wr_cg (hp_31 15 (by decide)))
      have e_57 : μ28.1 111 9 = μ7.1 111 9 := (hp_31 9 (by decide))
      have e_58 : μ28.1 111 29 = μ.1 111 29 := ((hp_31 29 (by decide)).trans (hp_9 29 (by decide)))
      have e_59 : wr μ28 = wr μ7 := (wr_cg (hp_31 15 (by decide)))
      have e_60 : bd μ28 = bd μ7 := (bd_cg (hp_31 15 (by decide)) (hp_31 16 (by decide)) (hp_31 17 (by decide)))
      have e_61 : nn μ28 = nn μ7 := (nn_cg (hp_31 15 (by decide)) (hp_31 18 (by decide)))
      have e_62 : μ28.1 111 39 = μ.1 111 39 := ((hp_31 39 (by decide)).trans (hp_9 39 (by decide)))
      refine xc_vV G (b := 111) (rest := []) (As := []) (((fun (_ : Om) (_ : Launch) => hE)) ω l μ28 tt (by omega) hPM_43 (by omega) (by omega) (by omega) (by omega) (by omega) (by omega) (fun _ h0 => as_h0 (mPX.ex ((hX_19 ()) (by have e9 : bd μ7 = bd μ7 := rfl; have e8 : bd μ28 = bd μ7 := (bd_cg (hp_31 15 (by decide)) (hp_31 16 (by decide)) (hp_31 17 (by decide))); omega))) hp_32)) (wm 9 139 rfl rfl) (wm 9 141 rfl rfl) (wm 0 147 rfl rfl) rfl rfl (by decide) rfl (wm 1 18 rfl rfl) (wm 9 142 rfl rfl) (by decide) hR ⟨sfr (F := F) (a := 0) (by decide), slo (L := Lo) (m := 1) (a := 0) (by decide)⟩ (n := 0) rfl rfl (Nat.le_of_ble_eq_true rfl) hl.1 dX12_elses_31 (fun μ63 ρ d0 H locs hp G => ?_)
      obtain ⟨F_64, hp_65, hp_66, hp_67, hp_68, hp_69, hp_70, hp_71, hp_72, hp_73, hp_74, hp_75⟩ := hp
      have hpl_76 := hp_66.pl
      have hw_77 := wr_r (μ := μ63)
      have hw_78 := wr_r (μ := μ28)
      have hxt_79 : mEXT μ μ63 := hxt_35.tr hp_75
      refine lv_aload_n hx hb dX12_elses_34 rfl (lv_at hl 1 rfl) ?_
      refine lv_iload_n hx hb dX12_elses_35 rfl (lv_at hl 0 rfl) ?_
      refine xc_vV G (b := 111) (rest := []) (As := [.int (iv r_29)]) (c_X12_lands ω l μ63 r_29 (by unfold ir; omega) (by omega) (by omega)) (wm 9 167 rfl rfl) (wm 9 169 rfl rfl) (wm 0 154 rfl rfl) rfl rfl (by decide) rfl (wm 1 18 rfl rfl) (wm 9 170 rfl rfl) (by decide) hR ⟨nfr hF (by decide), nlo hLo (by decide)⟩ (n := 1) rfl rfl (Nat.le_of_ble_eq_true rfl) hl.1 dX12_elses_36 (fun μ80 ρ d0 H locs hp G => ?_)
      obtain ⟨F_81, hp_82⟩ := hp
      have hxt_83 : mEXT μ μ80 := hxt_79.mf hp_82 (by omega)
      have e_84 : wr μ80 = wr μ63 := (wr_cg (F_81.1 111 (by decide) 15))
      have e_85 : bd μ80 = bd μ63 := (bd_cg (F_81.1 111 (by decide) 15) (F_81.1 111 (by decide) 16) (F_81.1 111 (by decide) 17))
      have e_86 : nn μ80 = nn μ63 := (nn_cg (F_81.1 111 (by decide) 15) (F_81.1 111 (by decide) 18))
      have e_88 : μ80.1 111 29 = μ63.1 111 29 := (F_81.1 111 (by decide) 29)
      have hX_87 : ∀ _ : Unit, bd μ80 = 0 → mPX μo μ80 tt 1 1 HH [] := fun _ h0 => mPX.of (as_elsr (mPX.ex ((hX_19 ()) (by have e9 : bd μ7 = bd μ7 := rfl; have e8 : bd μ80 = bd μ63 := (bd_cg (F_81.1 111 (by decide) 15) (F_81.1 111 (by decide) 16) (F_81.1 111 (by decide) 17)); omega))) (by omega) hp_32 ((hp_74 () (by have e9 : bd μ63 = bd μ63 := rfl; have e8 : bd μ80 = bd μ63 := (bd_cg (F_81.1 111 (by decide) 15) (F_81.1 111 (by decide) 16) (F_81.1 111 (by decide) 17)); omega)).mn (Int.le_refl _) (by omega)) (by omega) hp_82)
      have hnn_89 : (wr μ80 = 0 ∧ nn μ80 = μ80.1 111 18) ∨ (wr μ80 = 1 ∧ nn μ80 = 9) := nn_is
      have e_90 : μ80.1 111 18 = μ63.1 111 18 := (F_81.1 111 (by decide) 18)
      refine lv_aload_n hx hb dX12_elses_39 rfl (lv_at hl 1 rfl) ?_
      refine lv_dup hx hb dX12_elses_40 rfl ?_
      refine xa_geti G fd_X12 (a := 111) (x := μ63.1 111 18) 18 rfl (by decide) rfl (wm 7 167 rfl rfl) ⟨rfl, rfl, rfl⟩ dX12_elses_41 rfl (F_81.1 111 (by decide) 18) ?_
      have hr_91 : -2147483648 ≤ μ63.1 111 18 ∧ μ63.1 111 18 ≤ 2147483647 := by have h9 := G.hr (a := 111) (k := 18) rfl; rw [show μ80.1 111 18 = μ63.1 111 18 from (F_81.1 111 (by decide) 18)] at h9; exact h9
      refine lv_iconst (v := iv 1) hx hb dX12_elses_44 rfl ?_
      refine xb_isub hx hb dX12_elses_45 ?_
      refine xb_topi (fun y_92 hr_y_92 he_y_92 => ?_)
      have hr_y_92 : -2147483648 ≤ y_92 ∧ y_92 ≤ 2147483647 := hr_y_92
      have hy9_ : ir ((μ63.1 111 18) - 1) → y_92 = (μ63.1 111 18) - 1 := fun h9 => (iv_eq hr_y_92 h9).mp he_y_92
      unfold ir at hy9_
      refine xa_puti G fd_X12 (a := 111) (x := y_92) 18 (kz := 18) rfl rfl (by decide) rfl (by unfold ir; omega) (wm 7 167 rfl rfl) ⟨rfl, rfl, rfl, rfl⟩ rfl dX12_elses_46 rfl (fun H locs G => ?_)
      have e_93 : (sv μ80 111 18 y_92).1 111 22 = μ63.1 111 22 := ((sv_n _ (by decide)).trans (F_81.1 111 (by decide) 22))
      have e_94 : (sv μ80 111 18 y_92).1 111 9 = μ63.1 111 9 := ((sv_n _ (by decide)).trans (F_81.1 111 (by decide) 9))
      have e_95 : (sv μ80 111 18 y_92).1 111 29 = μ63.1 111 29 := ((sv_n _ (by decide)).trans (F_81.1 111 (by decide) 29))
      have e_96 : (sv μ80 111 18 y_92).1 111 39 = μ63.1 111 39 := ((sv_n _ (by decide)).trans (F_81.1 111 (by decide) 39))
      have e_97 : wr (sv μ80 111 18 y_92) = wr μ63 := ((wr_cg (sv_n _ (by decide))).trans (wr_cg (F_81.1 111 (by decide) 15)))
      have e_98 : bd (sv μ80 111 18 y_92) = bd μ63 := ((bd_cg (sv_n _ (by decide)) (sv_n _ (by decide)) (sv_n _ (by decide))).trans (bd_cg (F_81.1 111 (by decide) 15) (F_81.1 111 (by decide) 16) (F_81.1 111 (by decide) 17)))
      have e_99 : (sv μ80 111 18 y_92).1 111 29 = μ63.1 111 29 := ((sv_n _ (by decide)).trans (F_81.1 111 (by decide) 29))
      have e_100 : wr (sv μ80 111 18 y_92) = wr μ63 := ((wr_cg (sv_n _ (by decide))).trans (wr_cg (F_81.1 111 (by decide) 15)))
      have e_101 : bd (sv μ80 111 18 y_92) = bd μ63 := ((bd_cg (sv_n _ (by decide)) (sv_n _ (by decide)) (sv_n _ (by decide))).trans (bd_cg (F_81.1 111 (by decide) 15) (F_81.1 111 (by decide) 16) (F_81.1 111 (by decide) 17)))
      have e_103 : (sv μ80 111 18 y_92).1 111 29 = μ63.1 111 29 := ((sv_n _ (by decide)).trans (F_81.1 111 (by decide) 29))
      have hX_102 : ∀ _ : Unit, bd (sv μ80 111 18 y_92) = 0 → mPX μo (sv μ80 111 18 y_92) tt 1 1 HH [] := fun _ h0 => (hX_87 () (by have e9 : bd μ80 = bd μ63 := (bd_cg (F_81.1 111 (by decide) 15) (F_81.1 111 (by decide) 16) (F_81.1 111 (by decide) 17)); have e8 : bd (sv μ80 111 18 y_92) = bd μ63 := ((bd_cg (sv_n _ (by decide)) (sv_n _ (by decide)) (sv_n _ (by decide))).trans (bd_cg (F_81.1 111 (by decide) 15) (F_81.1 111 (by decide) 16) (F_81.1 111 (by decide) 17))); omega)).qm (q0m.fr (K := [111]) (FrM.put FrM.rf (by decide)) (by decide) (by decide) (by decide) ((((sv_n _ (by decide)).trans (F_81.1 111 (by decide) 22))).trans ((F_81.1 111 (by decide) 22)).symm) (nS.le (by omega) (Int.le_of_eq (((((sv_n _ (by decide)).trans ((F_81.1 111 (by decide) 31).trans ((hp_65 31 (by decide)).trans ((hp_31 31 (by decide)).trans (hp_9 31 (by decide))))))).trans (((F_81.1 111 (by decide) 31).trans ((hp_65 31 (by decide)).trans ((hp_31 31 (by decide)).trans (hp_9 31 (by decide)))))).symm)).symm)))
      have e_104 : wr (sv μ80 111 18 y_92) = wr μ63 := ((wr_cg (sv_n _ (by decide))).trans (wr_cg (F_81.1 111 (by decide) 15)))
      have e_105 : bd (sv μ80 111 18 y_92) = bd μ63 := ((bd_cg (sv_n _ (by decide)) (sv_n _ (by decide)) (sv_n _ (by decide))).trans (bd_cg (F_81.1 111 (by decide) 15) (F_81.1 111 (by decide) 16) (F_81.1 111 (by decide) 17)))
      have hnn_106 : (wr (sv μ80 111 18 y_92) = 0 ∧ nn (sv μ80 111 18 y_92) = (sv μ80 111 18 y_92).1 111 18) ∨ (wr (sv μ80 111 18 y_92) = 1 ∧ nn (sv μ80 111 18 y_92) = 9) := nn_is
      have e_107 : (sv μ80 111 18 y_92).1 111 18 = y_92 := (sv_s _ _ _ _)
      have e_108 : (sv μ80 111 18 y_92).1 111 18 = y_92 := (sv_s _ _ _ _)
      have hPM_109 : PM (sv μ80 111 18 y_92) := hp_66.cg ((((sv_n _ (by decide)).trans ((F_81.1 111 (by decide) 4).trans ((hp_65 4 (by decide)).trans ((hp_31 4 (by decide)).trans (hp_9 4 (by decide))))))).trans (((hp_65 4 (by decide)).trans ((hp_31 4 (by decide)).trans (hp_9 4 (by decide))))).symm) ((sv_n _ (by decide)).trans (F_81.1 111 (by decide) 6)) ((((sv_n _ (by decide)).trans ((F_81.1 111 (by decide) 7).trans ((hp_65 7 (by decide)).trans ((hp_31 7 (by decide)).trans (hp_9 7 (by decide))))))).trans (((hp_65 7 (by decide)).trans ((hp_31 7 (by decide)).trans (hp_9 7 (by decide))))).symm) ((sv_n _ (by decide)).trans (F_81.1 111 (by decide) 8)) ((sv_n _ (by decide)).trans (F_81.1 111 (by decide) 9)) ((sv_n _ (by decide)).trans (F_81.1 111 (by decide) 11)) ((sv_n _ (by decide)).trans (F_81.1 111 (by decide) 12)) ((((sv_n _ (by decide)).trans ((F_81.1 111 (by decide) 14).trans ((hp_65 14 (by decide)).trans ((hp_31 14 (by decide)).trans ((hp_9 14 (by decide)).trans htt.symm)))))).trans (((hp_65 14 (by decide)).trans ((hp_31 14 (by decide)).trans ((hp_9 14 (by decide)).trans htt.symm)))).symm) ((sv_n _ (by decide)).trans (F_81.1 111 (by decide) 15)) ((sv_n _ (by decide)).trans (F_81.1 111 (by decide) 29)) (fun j => ((sv_n _ (by omega)).trans (F_81.1 123 (by decide) j)))
      have e_110 : (sv μ80 111 18 y_92).1 111 29 = μ63.1 111 29 := ((sv_n _ (by decide)).trans (F_81.1 111 (by decide) 29))
      have hxt_111 : mEXT μ (sv μ80 111 18 y_92) := hxt_83.tr (q0m.fr (K := [111]) (FrM.put FrM.rf (by decide)) (by decide) (by decide) (by decide) ((((sv_n _ (by decide)).trans (F_81.1 111 (by decide) 22))).trans ((F_81.1 111 (by decide) 22)).symm) (nS.le (by omega) (Int.le_of_eq (((((sv_n _ (by decide)).trans ((F_81.1 111 (by decide) 31).trans ((hp_65 31 (by decide)).trans ((hp_31 31 (by decide)).trans (hp_9 31 (by decide))))))).trans (((F_81.1 111 (by decide) 31).trans ((hp_65 31 (by decide)).trans ((hp_31 31 (by decide)).trans (hp_9 31 (by decide)))))).symm)).symm))).1
      have e_112 : (sv μ80 111 18 y_92).1 111 22 = μ63.1 111 22 := ((sv_n _ (by decide)).trans (F_81.1 111 (by decide) 22))
      have e_113 : (sv μ80 111 18 y_92).1 111 22 = μ63.1 111 22 := ((sv_n _ (by decide)).trans (F_81.1 111 (by decide) 22))
      have e_114 : (sv μ80 111 18 y_92).1 111 9 = μ63.1 111 9 := ((sv_n _ (by decide)).trans (F_81.1 111 (by decide) 9))
      have e_115 : wr (sv μ80 111 18 y_92) = wr μ63 := ((wr_cg (sv_n _ (by decide))).trans (wr_cg (F_81.1 111 (by decide) 15)))
      have e_116 : (sv μ80 111 18 y_92).1 111 9 = μ63.1 111 9 := ((sv_n _ (by decide)).trans (F_81.1 111 (by decide) 9))
      have e_117 : (sv μ80 111 18 y_92).1 111 29 = μ63.1 111 29 := ((sv_n _ (by decide)).trans (F_81.1 111 (by decide) 29))
      have e_118 : wr (sv μ80 111 18 y_92) = wr μ63 := ((wr_cg (sv_n _ (by decide))).trans (wr_cg (F_81.1 111 (by decide) 15)))
      have e_119 : bd (sv μ80 111 18 y_92) = bd μ63 := ((bd_cg (sv_n _ (by decide)) (sv_n _ (by decide)) (sv_n _ (by decide))).trans (bd_cg (F_81.1 111 (by decide) 15) (F_81.1 111 (by decide) 16) (F_81.1 111 (by decide) 17)))
      have e_120 : wr (sv μ80 111 18 y_92) = wr μ63 := ((wr_cg (sv_n _ (by decide))).trans (wr_cg (F_81.1 111 (by decide) 15)))
      have e_121 : (sv μ80 111 18 y_92).1 111 39 = μ63.1 111 39 := ((sv_n _ (by decide)).trans (F_81.1 111 (by decide) 39))
      exact xr_v G hret hlk dX12_elses_49 ⟨(FrM.put (FrM.tr (FrM.tr (FrM.tr (FrM.tr FrM.rf F_8 (by decide)) F_30 (by decide)) F_64 (by decide)) F_81 (by decide)) (by decide)), (fun j hj => ((sv_n _ (fun h9 => hj (by rw [h9.2]; decide))).trans ((F_81.1 111 (by decide) j).trans ((hp_65 j (fun h9 => hj ((by decide : ∀ x ∈ ([6, 8, 9, 10, 11, 12, 13, 15, 16, 17, 18, 22, 29, 39] : List Int), x ∈ ([6, 8, 9, 10, 11, 12, 13, 15, 16, 17, 18, 22, 29, 39] : List Int)) j h9))).trans ((hp_31 j (fun h9 => hj ((by decide : ∀ x ∈ ([22] : List Int), x ∈ ([6, 8, 9, 10, 11, 12, 13, 15, 16, 17, 18, 22, 29, 39] : List Int)) j h9))).trans (hp_9 j (fun h9 => hj ((by decide : ∀ x ∈ ([6, 8, 9, 10, 11, 12, 13, 15, 18] : List Int), x ∈ ([6, 8, 9, 10, 11, 12, 13, 15, 16, 17, 18, 22, 29, 39] : List Int)) j h9)))))))), hPM_109, (by omega), (by omega), (by omega), (by omega), (by omega), (by omega), (fun j hj => ((sv_n _ (fun h9 => absurd h9.1 (by decide))).trans ((F_81.1 126 (by decide) j).trans ((hp_73 j (by omega)).trans ((F_30.1 126 (by decide) j).trans (F_8.1 126 (by decide) j)))))), (fun _ h0 => (mPX.ex ((hX_102 ()) h0)).e (by omega)), hxt_111⟩
    · exact xr_v G hret hlk dX12_elses_16 ⟨FrM.rf, (fun j hj => rfl), hPM, (by omega), (by omega), (by omega), (by omega), (by omega), (by omega), (fun j hj => rfl), (fun _ h0 => (mPX.ex ((hX_1 ()) h0)).e (by omega)), (mEXT.rf (μ := μ))⟩

set_option maxHeartbeats 4000000 in
set_option maxRecDepth 100000 in
theorem c_X12_expr (ω : Om) (l : Launch) (μ : M3) (F : Nat) (Lo : Nat) (Fu : Nat) (Lu : Nat) (kf : Int) (tt : Int) (htt : tt = μ.1 111 14) (hF : 60 ≤ F) (hLo : 2000 ≤ Lo) (hFu : Fu ≤ F) (hLu : Lu ≤ Lo) (hE : ∀ (μ : M3) (tt : Int) (htt : tt = μ.1 111 14) (hPM : PM μ) (hnn : 0 ≤ nn μ ∧ nn μ ≤ 9 ∧ 9 * wr μ ≤ nn μ) (hn8 : nn μ ≤ 8 + wr μ) (hcd : 0 ≤ μ.1 111 22 ∧ μ.1 111 22 ≤ 2 * μ.1 111 9 + 200 + 40 * wr μ) (hW : 0 ≤ μ.1 111 39 ∧ μ.1 111 39 ≤ μ.1 111 22) (hsl : 0 ≤ μ.1 111 31 ∧ μ.1 111 31 ≤ 300) (hfu : 0 ≤ (kf - 1) ∧ 9 ≤ nn μ + (kf - 1)) (hH0 : ∀ _ : Unit, bd μ = 0 → mH0 μ), CtV ω l yX12_expr cX12_expr 1 (F + 0) (Lo + 0) [.ref (oP ω 111)] μ (fun (μ' : M3) => (FrM [111, 113, 115, 116, 117, 123, 126] μ μ') ∧ (∀ j, j ∉ ([6, 8, 9, 10, 11, 12, 13, 15, 16, 17, 18, 22, 29, 39] : List Int) → μ'.1 111 j = μ.1 111 j) ∧ (PM μ') ∧ (μ.1 111 22 ≤ μ'.1 111 22 ∧ μ'.1 111 22 ≤ μ.1 111 22 + 2 * (μ'.1 111 9 - μ.1 111 9) + (- 1 + 3 * wr μ' - 2 * wr μ)) ∧ (μ.1 111 9 ≤ μ'.1 111 9) ∧ (μ.1 111 29 ≤ μ'.1 111 29) ∧ (wr μ ≤ wr μ' ∧ bd μ ≤ bd μ') ∧ (nn μ ≤ nn μ' ∧ nn μ' ≤ nn μ + 9 * wr μ' ∧ nn μ' ≤ 9 ∧ 9 * wr μ' ≤ nn μ') ∧ (μ'.1 111 39 = μ.1 111 39) ∧ (∀ j, j < μ.1 111 39 → μ'.1 126 j = μ.1 126 j) ∧ (∀ _ : Unit, bd μ' = 0 → mEX μ μ' tt 1 0 (11 * (9 - nn μ))) ∧ (mEXT μ μ'))) (hU : ∀ (μ : M3) (tt : Int) (htt : tt = μ.1 111 14) (hPM : PM μ) (hnn : 0 ≤ nn μ ∧ nn μ ≤ 9 ∧ 9 * wr μ ≤ nn μ) (hn8 : nn μ ≤ 8 + wr μ) (hcd : 0 ≤ μ.1 111 22 ∧ μ.1 111 22 ≤ 2 * μ.1 111 9 + 200 + 40 * wr μ) (hW : 0 ≤ μ.1 111 39 ∧ μ.1 111 39 ≤ μ.1 111 22) (hsl : 0 ≤ μ.1 111 31 ∧ μ.1 111 31 ≤ 300) (hfu : 0 ≤ (kf - 1) ∧ 9 ≤ nn μ + (kf - 1)) (hH0 : ∀ _ : Unit, bd μ = 0 → mH0 μ), CtV ω l yX12_unary cX12_unary 6 (Fu + 0) (Lu + 0) [.ref (oP ω 111)] μ (fun (μ' : M3) => (FrM [111, 113, 115, 116, 117, 123, 126] μ μ') ∧ (∀ j, j ∉ ([6, 8, 9, 10, 11, 12, 13, 15, 16, 17, 18, 22, 29, 39] : List Int) → μ'.1 111 j = μ.1 111 j) ∧ (PM μ') ∧ (μ.1 111 22 ≤ μ'.1 111 22 ∧ μ'.1 111 22 ≤ μ.1 111 22 + 2 * (μ'.1 111 9 - μ.1 111 9) + (- 1 + 3 * wr μ' - 2 * wr μ)) ∧ (μ.1 111 9 ≤ μ'.1 111 9) ∧ (μ.1 111 29 ≤ μ'.1 111 29) ∧ (wr μ ≤ wr μ' ∧ bd μ ≤ bd μ') ∧ (nn μ ≤ nn μ' ∧ nn μ' ≤ nn μ + 9 * wr μ' ∧ nn μ' ≤ 9 ∧ 9 * wr μ' ≤ nn μ') ∧ (μ'.1 111 39 = μ.1 111 39) ∧ (∀ j, j < μ.1 111 39 → μ'.1 126 j = μ.1 126 j) ∧ (∀ _ : Unit, bd μ' = 0 → mEX μ μ' tt 1 0 (11 * (9 - nn μ) - 3)) ∧ (mEXT μ μ'))) (hPM : PM μ) (hnn : 0 ≤ nn μ ∧ nn μ ≤ 9 ∧ 9 * wr μ ≤ nn μ) (hn8 : nn μ ≤ 8 + wr μ) (hcd : 0 ≤ μ.1 111 22 ∧ μ.1 111 22 ≤ 2 * μ.1 111 9 + 200 + 40 * wr μ) (hW : 0 ≤ μ.1 111 39 ∧ μ.1 111 39 ≤ μ.1 111 22) (hsl : 0 ≤ μ.1 111 31 ∧ μ.1 111 31 ≤ 300) (hfu : 0 ≤ kf ∧ 9 ≤ nn μ + kf) (hH0 : ∀ _ : Unit, bd μ = 0 → mH0 μ) : CtV ω l yX12_expr cX12_expr 1 (F + 11) (Lo + 244) [.ref (oP ω 111)] μ (fun (μ' : M3) => (FrM [111, 113, 115, 116, 117, 123, 126] μ μ') ∧ (∀ j, j ∉ ([6, 8, 9, 10, 11, 12, 13, 15, 16, 17, 18, 22, 29, 39] : List Int) → μ'.1 111 j = μ.1 111 j) ∧ (PM μ') ∧ (μ.1 111 22 ≤ μ'.1 111 22 ∧ μ'.1 111 22 ≤ μ.1 111 22 + 2 * (μ'.1 111 9 - μ.1 111 9) + (- 1 + 3 * wr μ' - 2 * wr μ)) ∧ (μ.1 111 9 ≤ μ'.1 111 9) ∧ (μ.1 111 29 ≤ μ'.1 111 29) ∧ (wr μ ≤ wr μ' ∧ bd μ ≤ bd μ') ∧ (nn μ ≤ nn μ' ∧ nn μ' ≤ nn μ + 9 * wr μ' ∧ nn μ' ≤ 9 ∧ 9 * wr μ' ≤ nn μ') ∧ (μ'.1 111 39 = μ.1 111 39) ∧ (∀ j, j < μ.1 111 39 → μ'.1 126 j = μ.1 126 j) ∧ (∀ _ : Unit, bd μ' = 0 → mEX μ μ' tt 1 0 (11 * (9 - nn μ))) ∧ (mEXT μ μ')) := by
  refine CtV.go (by decide) (Nat.le_of_ble_eq_true rfl) (fun ρ p e s m below meth c R ls G hR hret hlk hl => ?_)
  have hx := G.1.1
  have hb := G.1.2.1
  have hl : lv_has ls 1 [(0, .ref (oP ω 111))] := hl
  generalize s.drawn = d0 at G ⊢
  have hw_0 := wr_r (μ := μ)
  have hpp_ := hPM.1.2.1
  have hpn_ := hPM.2.1
  have hpt_ := hPM.1.2.2.2.1
  have hpw_ := hPM.1.2.2.2.2.1
  have hpa_ := hPM.1.1
  have hX_1 : ∀ _ : Unit, bd μ = 0 → mPX μ μ tt 0 1 (11 * (9 - nn μ)) [] := fun _ h0 => mPX.nil (hH0 () h0) (by omega)
  refine lv_aload_n hx hb dX12_expr_0 rfl (lv_at hl 0 rfl) ?_
  have e_2 : μ.1 111 14 = tt := htt.symm
  refine xc_vV G (b := 111) (rest := []) (As := []) (c_X12_question ω l μ F Lo Fu Lu kf tt (by omega) hF hLo hFu hLu hE hU hPM (by omega) (by omega) (by omega) (by omega) (by omega) (by omega) (fun _ h0 => ((hX_1 ()) h0).h1.1)) (wm 9 143 rfl rfl) (wm 9 145 rfl rfl) (wm 0 148 rfl rfl) rfl rfl (by decide) rfl (wm 1 18 rfl rfl) (wm 9 146 rfl rfl) (by decide) hR ⟨sfr (F := F) (a := 10) (by decide), slo (L := Lo) (m := 1) (a := 224) (by decide)⟩ (n := 0) rfl rfl (Nat.le_of_ble_eq_true rfl) hl.1 dX12_expr_1 (fun μ3 ρ d0 H locs hp G => ?_)
  obtain ⟨F_4, hp_5, hp_6, hp_7, hp_8, hp_9, hp_10, hp_11, hp_12, hp_13, hp_14, hp_15⟩ := hp
  have hpl_16 := hp_6.pl
  have hw_17 := wr_r (μ := μ3)
  have hxt_18 : mEXT μ μ3 := (mEXT.rf (μ := μ)).tr hp_15
  have e_19 : μ3.1 111 31 = μ.1 111 31 := (hp_5 31 (by decide))
  have hX_20 : ∀ _ : Unit, bd μ3 = 0 → mPX μ μ3 tt 1 1 (11 * (9 - nn μ)) [] := fun _ h0 => (((hX_1 ()) (by have e9 : bd μ = bd μ := rfl; have e8 : bd μ3 = bd μ3 := rfl; omega)).app (hp_14 () h0) (by omega)).ee (by omega)
  refine lv_aload_n hx hb dX12_expr_4 rfl (lv_at hl 0 rfl) ?_
  have e_21 : μ3.1 111 14 = tt := ((hp_5 14 (by decide)).trans htt.symm)
  have e_22 : μ3.1 111 31 = μ.1 111 31 := (hp_5 31 (by decide))
  have e_23 : μ3.1 111 31 = μ.1 111 31 := (hp_5 31 (by decide))
  refine xc_vV G (b := 111) (rest := []) (As := []) (c_X12_elses ω l μ3 F Lo Fu Lu kf μ (11 * (9 - nn μ)) tt (by omega) hF hLo hFu hLu hE hU hp_6 (by omega) (by omega) (by omega) (by omega) (by omega) (by omega) (fun _ h0 => (mPX.ex ((hX_20 ()) h0)).e (by omega)) (by omega)) (wm 9 238 rfl rfl) (wm 10 0 rfl rfl) (wm 0 171 rfl rfl) rfl rfl (by decide) rfl (wm 1 18 rfl rfl) (wm 10 1 rfl rfl) (by decide) hR ⟨sfr (F := F) (a := 1) (by decide), slo (L := Lo) (m := 2) (a := 20) (by decide)⟩ (n := 0) rfl rfl (Nat.le_of_ble_eq_true rfl) hl.1 dX12_expr_5 (fun μ24 ρ d0 H locs hp G => ?_)
  obtain ⟨F_25, hp_26, hp_27, hp_28, hp_29, hp_30, hp_31, hp_32, hp_33, hp_34, hp_35, hp_36⟩ := hp
  have hpl_37 := hp_27.pl
  have hw_38 := wr_r (μ := μ24)
  have hxt_39 : mEXT μ μ24 := hxt_18.tr hp_36
  have hX_40 : ∀ _ : Unit, bd μ24 = 0 → mPX μ μ24 tt 1 1 (11 * (9 - nn μ)) [] := fun _ h0 => mPX.of (hp_35 () h0)
  exact xr_v G hret hlk dX12_expr_8 ⟨(FrM.tr (FrM.tr FrM.rf F_4 (by decide)) F_25 (by decide)), (fun j hj => ((hp_26 j (fun h9 => hj ((by decide : ∀ x ∈ ([6, 8, 9, 10, 11, 12, 13, 15, 16, 17, 18, 22, 29, 39] : List Int), x ∈ ([6, 8, 9, 10, 11, 12, 13, 15, 16, 17, 18, 22, 29, 39] : List Int)) j h9))).trans (hp_5 j (fun h9 => hj ((by decide : ∀ x ∈ ([6, 8, 9, 10, 11, 12, 13, 15, 16, 17, 18, 22, 29, 39] : List Int), x ∈ ([6, 8, 9, 10, 11, 12, 13, 15, 16, 17, 18, 22, 29, 39] : List Int)) j h9))))), hp_27, (by omega), (by omega), (by omega), (by omega), (by omega), (by omega), (fun j hj => ((hp_34 j (by omega)).trans (hp_13 j (by omega)))), (fun _ h0 => (mPX.ex ((hX_40 ()) h0)).e (by omega)), hxt_39⟩
/-! the reference's expressions at every depth -/
def mLvE (ω : Om) (l : Launch) (kf : Int) (F Lo : Nat) : Prop := ∀ (μ : M3) (tt : Int) (htt : tt = μ.1 111 14) (hPM : PM μ) (hnn : 0 ≤ nn μ ∧ nn μ ≤ 9 ∧ 9 * wr μ ≤ nn μ) (hn8 : nn μ ≤ 8 + wr μ) (hcd : 0 ≤ μ.1 111 22 ∧ μ.1 111 22 ≤ 2 * μ.1 111 9 + 200 + 40 * wr μ) (hW : 0 ≤ μ.1 111 39 ∧ μ.1 111 39 ≤ μ.1 111 22) (hsl : 0 ≤ μ.1 111 31 ∧ μ.1 111 31 ≤ 300) (hfu : 0 ≤ kf ∧ 9 ≤ nn μ + kf) (hH0 : ∀ _ : Unit, bd μ = 0 → mH0 μ), CtV ω l yX12_expr cX12_expr 1 (F + 0) (Lo + 0) [.ref (oP ω 111)] μ (fun (μ' : M3) => (FrM [111, 113, 115, 116, 117, 123, 126] μ μ') ∧ (∀ j, j ∉ ([6, 8, 9, 10, 11, 12, 13, 15, 16, 17, 18, 22, 29, 39] : List Int) → μ'.1 111 j = μ.1 111 j) ∧ (PM μ') ∧ (μ.1 111 22 ≤ μ'.1 111 22 ∧ μ'.1 111 22 ≤ μ.1 111 22 + 2 * (μ'.1 111 9 - μ.1 111 9) + (- 1 + 3 * wr μ' - 2 * wr μ)) ∧ (μ.1 111 9 ≤ μ'.1 111 9) ∧ (μ.1 111 29 ≤ μ'.1 111 29) ∧ (wr μ ≤ wr μ' ∧ bd μ ≤ bd μ') ∧ (nn μ ≤ nn μ' ∧ nn μ' ≤ nn μ + 9 * wr μ' ∧ nn μ' ≤ 9 ∧ 9 * wr μ' ≤ nn μ') ∧ (μ'.1 111 39 = μ.1 111 39) ∧ (∀ j, j < μ.1 111 39 → μ'.1 126 j = μ.1 126 j) ∧ (∀ _ : Unit, bd μ' = 0 → mEX μ μ' tt 1 0 (11 * (9 - nn μ))) ∧ (mEXT μ μ'))
def mLvU (ω : Om) (l : Launch) (kf : Int) (Fu Lu : Nat) : Prop := ∀ (μ : M3) (tt : Int) (htt : tt = μ.1 111 14) (hPM : PM μ) (hnn : 0 ≤ nn μ ∧ nn μ ≤ 9 ∧ 9 * wr μ ≤ nn μ) (hn8 : nn μ ≤ 8 + wr μ) (hcd : 0 ≤ μ.1 111 22 ∧ μ.1 111 22 ≤ 2 * μ.1 111 9 + 200 + 40 * wr μ) (hW : 0 ≤ μ.1 111 39 ∧ μ.1 111 39 ≤ μ.1 111 22) (hsl : 0 ≤ μ.1 111 31 ∧ μ.1 111 31 ≤ 300) (hfu : 0 ≤ kf ∧ 9 ≤ nn μ + kf) (hH0 : ∀ _ : Unit, bd μ = 0 → mH0 μ), CtV ω l yX12_unary cX12_unary 6 (Fu + 0) (Lu + 0) [.ref (oP ω 111)] μ (fun (μ' : M3) => (FrM [111, 113, 115, 116, 117, 123, 126] μ μ') ∧ (∀ j, j ∉ ([6, 8, 9, 10, 11, 12, 13, 15, 16, 17, 18, 22, 29, 39] : List Int) → μ'.1 111 j = μ.1 111 j) ∧ (PM μ') ∧ (μ.1 111 22 ≤ μ'.1 111 22 ∧ μ'.1 111 22 ≤ μ.1 111 22 + 2 * (μ'.1 111 9 - μ.1 111 9) + (- 1 + 3 * wr μ' - 2 * wr μ)) ∧ (μ.1 111 9 ≤ μ'.1 111 9) ∧ (μ.1 111 29 ≤ μ'.1 111 29) ∧ (wr μ ≤ wr μ' ∧ bd μ ≤ bd μ') ∧ (nn μ ≤ nn μ' ∧ nn μ' ≤ nn μ + 9 * wr μ' ∧ nn μ' ≤ 9 ∧ 9 * wr μ' ≤ nn μ') ∧ (μ'.1 111 39 = μ.1 111 39) ∧ (∀ j, j < μ.1 111 39 → μ'.1 126 j = μ.1 126 j) ∧ (∀ _ : Unit, bd μ' = 0 → mEX μ μ' tt 1 0 (11 * (9 - nn μ) - 3)) ∧ (mEXT μ μ'))
theorem mlv_step (ω : Om) (l : Launch) {kf : Int} {F Lo Fu Lu : Nat} (hF : 60 ≤ F) (hLo : 2000 ≤ Lo) (hFu : Fu ≤ F) (hLu : Lu ≤ Lo) (hE : mLvE ω l (kf - 1) F Lo) (hU : mLvU ω l (kf - 1) Fu Lu) : mLvE ω l kf (F + 11) (Lo + 244) ∧ mLvU ω l kf (F + 4) (Lo + 93) := by
  refine ⟨fun μ tt htt hPM hnn hn8 hcd hW hsl hfu hH0 => ?_, fun μ tt htt hPM hnn hn8 hcd hW hsl hfu hH0 => ?_⟩
  · exact c_X12_expr ω l μ F Lo Fu Lu kf tt htt hF hLo hFu hLu hE hU hPM hnn hn8 hcd hW hsl hfu hH0
  · exact c_X12_unary ω l μ F Lo Fu Lu kf tt htt hF hLo hFu hLu hE hU hPM hnn hn8 hcd hW hsl hfu hH0
theorem mlv_0 (ω : Om) (l : Launch) (F Lo Fu Lu : Nat) : mLvE ω l (-1) F Lo ∧ mLvU ω l (-1) Fu Lu := by
  refine ⟨fun μ tt htt hPM hnn hn8 hcd hW hsl hfu hH0 => ?_, fun μ tt htt hPM hnn hn8 hcd hW hsl hfu hH0 => ?_⟩
  · exact absurd hfu.1 (by decide)
  · exact absurd hfu.1 (by decide)
theorem mlv_all (ω : Om) (l : Launch) : ∀ n : Nat, mLvE ω l ((n : Int) - 1) (60 + 11 * n) (2000 + 244 * n) ∧ ∃ Fu Lu, Fu ≤ 60 + 11 * n ∧ Lu ≤ 2000 + 244 * n ∧ mLvU ω l ((n : Int) - 1) Fu Lu
  | 0 => ⟨(mlv_0 ω l _ _ 0 0).1, 0, 0, Nat.zero_le _, Nat.zero_le _, (mlv_0 ω l 0 0 _ _).2⟩
  | n + 1 => by
    obtain ⟨h1, Fu, Lu, h2, h3, h4⟩ := mlv_all ω l n
    have e0 : ((n + 1 : Nat) : Int) - 1 = n := by omega
    have s := mlv_step ω l (kf := n) (by omega) (by omega) h2 h3 h1 h4
    rw [e0]
    refine ⟨?_, 60 + 11 * n + 4, 2000 + 244 * n + 93, by omega, by omega, s.2⟩
    have e1 : 60 + 11 * (n + 1) = 60 + 11 * n + 11 := by omega
    have e2 : 2000 + 244 * (n + 1) = 2000 + 244 * n + 244 := by omega
    rw [e1, e2]
    exact s.1
theorem mlv_9 (ω : Om) (l : Launch) : mLvE ω l 9 170 4440 := (mlv_all ω l 10).1
theorem c_X12_expr_a (ω : Om) (l : Launch) (μ : M3) (tt : Int) (htt : tt = μ.1 111 14) (hPM : PM μ) (hnn : 0 ≤ nn μ ∧ nn μ ≤ 9 ∧ 9 * wr μ ≤ nn μ) (hn8 : nn μ ≤ 8 + wr μ) (hcd : 0 ≤ μ.1 111 22 ∧ μ.1 111 22 ≤ 2 * μ.1 111 9 + 200 + 40 * wr μ) (hW : 0 ≤ μ.1 111 39 ∧ μ.1 111 39 ≤ μ.1 111 22) (hsl : 0 ≤ μ.1 111 31 ∧ μ.1 111 31 ≤ 300) (hH0 : ∀ _ : Unit, bd μ = 0 → mH0 μ) : CtV ω l yX12_expr cX12_expr 1 170 4440 [.ref (oP ω 111)] μ (fun (μ' : M3) => (FrM [111, 113, 115, 116, 117, 123, 126] μ μ') ∧ (∀ j, j ∉ ([6, 8, 9, 10, 11, 12, 13, 15, 16, 17, 18, 22, 29, 39] : List Int) → μ'.1 111 j = μ.1 111 j) ∧ (PM μ') ∧ (μ.1 111 22 ≤ μ'.1 111 22 ∧ μ'.1 111 22 ≤ μ.1 111 22 + 2 * (μ'.1 111 9 - μ.1 111 9) + (- 1 + 3 * wr μ' - 2 * wr μ)) ∧ (μ.1 111 9 ≤ μ'.1 111 9) ∧ (μ.1 111 29 ≤ μ'.1 111 29) ∧ (wr μ ≤ wr μ' ∧ bd μ ≤ bd μ') ∧ (nn μ ≤ nn μ' ∧ nn μ' ≤ nn μ + 9 * wr μ' ∧ nn μ' ≤ 9 ∧ 9 * wr μ' ≤ nn μ') ∧ (μ'.1 111 39 = μ.1 111 39) ∧ (∀ j, j < μ.1 111 39 → μ'.1 126 j = μ.1 126 j) ∧ (∀ _ : Unit, bd μ' = 0 → mEX μ μ' tt 1 0 (11 * (9 - nn μ))) ∧ (mEXT μ μ')) := by
  have h := mlv_9 ω l
  unfold mLvE at h
  exact h μ tt htt hPM hnn hn8 hcd hW hsl (by omega) hH0
