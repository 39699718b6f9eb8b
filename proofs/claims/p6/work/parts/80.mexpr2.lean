abbrev cX12_elses : ByteArray := prog_14_method_59_code
def yX12_elses : MethodName := ⟨RX12, "elses", "()V"⟩
abbrev cX12_question : ByteArray := prog_14_method_61_code
def yX12_question : MethodName := ⟨RX12, "question", "()V"⟩
abbrev cX12_compares : ByteArray := prog_14_method_62_code
def yX12_compares : MethodName := ⟨RX12, "compares", "()V"⟩
abbrev cX12_sum : ByteArray := prog_14_method_64_code
def yX12_sum : MethodName := ⟨RX12, "sum", "()V"⟩
abbrev cX12_sums : ByteArray := prog_14_method_65_code
def yX12_sums : MethodName := ⟨RX12, "sums", "()V"⟩
abbrev cX12_product : ByteArray := prog_14_method_66_code
def yX12_product : MethodName := ⟨RX12, "product", "()V"⟩
abbrev cX12_products : ByteArray := prog_14_method_67_code
def yX12_products : MethodName := ⟨RX12, "products", "()V"⟩
theorem dX12_expr_0 : decode cX12_expr 0 = .ok (.aload_n 0, 1) := by decide +kernel
theorem dX12_expr_1 : decode cX12_expr 1 = .ok (.invokevirtual 453, 3) := by decide +kernel
theorem dX12_expr_4 : decode cX12_expr 4 = .ok (.aload_n 0, 1) := by decide +kernel
theorem dX12_expr_5 : decode cX12_expr 5 = .ok (.invokevirtual 456, 3) := by decide +kernel
theorem dX12_expr_8 : decode cX12_expr 8 = .ok (.return_, 1) := by decide +kernel
theorem dX12_elses_0 : decode cX12_elses 0 = .ok (.aload_n 0, 1) := by decide +kernel
theorem dX12_elses_1 : decode cX12_elses 1 = .ok (.getfield 266, 3) := by decide +kernel
theorem dX12_elses_4 : decode cX12_elses 4 = .ok (.iconst 2, 1) := by decide +kernel
theorem dX12_elses_5 : decode cX12_elses 5 = .ok (.if_icmp .ne 11, 3) := by decide +kernel
theorem dX12_elses_8 : decode cX12_elses 8 = .ok (.aload_n 0, 1) := by decide +kernel
theorem dX12_elses_9 : decode cX12_elses 9 = .ok (.iconst 5, 1) := by decide +kernel
theorem dX12_elses_10 : decode cX12_elses 10 = .ok (.invokevirtual 298, 3) := by decide +kernel
theorem dX12_elses_13 : decode cX12_elses 13 = .ok (.ifCond .ne 4, 3) := by decide +kernel
theorem dX12_elses_16 : decode cX12_elses 16 = .ok (.return_, 1) := by decide +kernel
theorem dX12_elses_17 : decode cX12_elses 17 = .ok (.aload_n 0, 1) := by decide +kernel
theorem dX12_elses_18 : decode cX12_elses 18 = .ok (.invokevirtual 310, 3) := by decide +kernel
theorem dX12_elses_21 : decode cX12_elses 21 = .ok (.aload_n 0, 1) := by decide +kernel
theorem dX12_elses_22 : decode cX12_elses 22 = .ok (.bipush 34, 2) := by decide +kernel
theorem dX12_elses_24 : decode cX12_elses 24 = .ok (.lconst 0, 1) := by decide +kernel
theorem dX12_elses_25 : decode cX12_elses 25 = .ok (.iconst 0, 1) := by decide +kernel
theorem dX12_elses_26 : decode cX12_elses 26 = .ok (.invokevirtual 374, 3) := by decide +kernel
theorem dX12_elses_29 : decode cX12_elses 29 = .ok (.istore_n 1, 1) := by decide +kernel
theorem dX12_elses_30 : decode cX12_elses 30 = .ok (.aload_n 0, 1) := by decide +kernel
theorem dX12_elses_31 : decode cX12_elses 31 = .ok (.invokevirtual 402, 3) := by decide +kernel
theorem dX12_elses_34 : decode cX12_elses 34 = .ok (.aload_n 0, 1) := by decide +kernel
theorem dX12_elses_35 : decode cX12_elses 35 = .ok (.iload_n 1, 1) := by decide +kernel
theorem dX12_elses_36 : decode cX12_elses 36 = .ok (.invokevirtual 421, 3) := by decide +kernel
theorem dX12_elses_39 : decode cX12_elses 39 = .ok (.aload_n 0, 1) := by decide +kernel
theorem dX12_elses_40 : decode cX12_elses 40 = .ok (.dup, 1) := by decide +kernel
theorem dX12_elses_41 : decode cX12_elses 41 = .ok (.getfield 307, 3) := by decide +kernel
theorem dX12_elses_44 : decode cX12_elses 44 = .ok (.iconst 1, 1) := by decide +kernel
theorem dX12_elses_45 : decode cX12_elses 45 = .ok (.isub, 1) := by decide +kernel
theorem dX12_elses_46 : decode cX12_elses 46 = .ok (.putfield 307, 3) := by decide +kernel
theorem dX12_elses_49 : decode cX12_elses 49 = .ok (.return_, 1) := by decide +kernel
theorem dX12_question_0 : decode cX12_question 0 = .ok (.aload_n 0, 1) := by decide +kernel
theorem dX12_question_1 : decode cX12_question 1 = .ok (.invokevirtual 459, 3) := by decide +kernel
theorem dX12_question_4 : decode cX12_question 4 = .ok (.aload_n 0, 1) := by decide +kernel
theorem dX12_question_5 : decode cX12_question 5 = .ok (.invokevirtual 462, 3) := by decide +kernel
theorem dX12_question_8 : decode cX12_question 8 = .ok (.return_, 1) := by decide +kernel
theorem dX12_compares_0 : decode cX12_compares 0 = .ok (.aload_n 0, 1) := by decide +kernel
theorem dX12_compares_1 : decode cX12_compares 1 = .ok (.invokevirtual 215, 3) := by decide +kernel
theorem dX12_compares_4 : decode cX12_compares 4 = .ok (.ifCond .ne 21, 3) := by decide +kernel
theorem dX12_compares_7 : decode cX12_compares 7 = .ok (.aload_n 0, 1) := by decide +kernel
theorem dX12_compares_8 : decode cX12_compares 8 = .ok (.getfield 225, 3) := by decide +kernel
theorem dX12_compares_11 : decode cX12_compares 11 = .ok (.iconst 3, 1) := by decide +kernel
theorem dX12_compares_12 : decode cX12_compares 12 = .ok (.if_icmp .ne 13, 3) := by decide +kernel
theorem dX12_compares_15 : decode cX12_compares 15 = .ok (.aload_n 0, 1) := by decide +kernel
theorem dX12_compares_16 : decode cX12_compares 16 = .ok (.getfield 289, 3) := by decide +kernel
theorem dX12_compares_19 : decode cX12_compares 19 = .ok (.invokestatic 465, 3) := by decide +kernel
theorem dX12_compares_22 : decode cX12_compares 22 = .ok (.ifCond .ne 4, 3) := by decide +kernel
theorem dX12_compares_25 : decode cX12_compares 25 = .ok (.return_, 1) := by decide +kernel
theorem dX12_compares_26 : decode cX12_compares 26 = .ok (.aload_n 0, 1) := by decide +kernel
theorem dX12_compares_27 : decode cX12_compares 27 = .ok (.getfield 289, 3) := by decide +kernel
theorem dX12_compares_30 : decode cX12_compares 30 = .ok (.istore_n 1, 1) := by decide +kernel
theorem dX12_compares_31 : decode cX12_compares 31 = .ok (.aload_n 0, 1) := by decide +kernel
theorem dX12_compares_32 : decode cX12_compares 32 = .ok (.iconst 0, 1) := by decide +kernel
theorem dX12_compares_33 : decode cX12_compares 33 = .ok (.invokevirtual 468, 3) := by decide +kernel
theorem dX12_compares_36 : decode cX12_compares 36 = .ok (.istore_n 2, 1) := by decide +kernel
theorem dX12_compares_37 : decode cX12_compares 37 = .ok (.aload_n 0, 1) := by decide +kernel
theorem dX12_compares_38 : decode cX12_compares 38 = .ok (.invokevirtual 295, 3) := by decide +kernel
theorem dX12_compares_41 : decode cX12_compares 41 = .ok (.aload_n 0, 1) := by decide +kernel
theorem dX12_compares_42 : decode cX12_compares 42 = .ok (.invokevirtual 459, 3) := by decide +kernel
theorem dX12_compares_45 : decode cX12_compares 45 = .ok (.aload_n 0, 1) := by decide +kernel
theorem dX12_compares_46 : decode cX12_compares 46 = .ok (.iload_n 1, 1) := by decide +kernel
theorem dX12_compares_47 : decode cX12_compares 47 = .ok (.iload_n 2, 1) := by decide +kernel
theorem dX12_compares_48 : decode cX12_compares 48 = .ok (.invokevirtual 471, 3) := by decide +kernel
theorem dX12_compares_51 : decode cX12_compares 51 = .ok (.return_, 1) := by decide +kernel
theorem dX12_sum_0 : decode cX12_sum 0 = .ok (.aload_n 0, 1) := by decide +kernel
theorem dX12_sum_1 : decode cX12_sum 1 = .ok (.invokevirtual 477, 3) := by decide +kernel
theorem dX12_sum_4 : decode cX12_sum 4 = .ok (.aload_n 0, 1) := by decide +kernel
theorem dX12_sum_5 : decode cX12_sum 5 = .ok (.invokevirtual 480, 3) := by decide +kernel
theorem dX12_sum_8 : decode cX12_sum 8 = .ok (.return_, 1) := by decide +kernel
theorem dX12_sums_0 : decode cX12_sums 0 = .ok (.aload_n 0, 1) := by decide +kernel
theorem dX12_sums_1 : decode cX12_sums 1 = .ok (.bipush 43, 2) := by decide +kernel
theorem dX12_sums_3 : decode cX12_sums 3 = .ok (.invokevirtual 292, 3) := by decide +kernel
theorem dX12_sums_6 : decode cX12_sums 6 = .ok (.ifCond .ne 12, 3) := by decide +kernel
theorem dX12_sums_9 : decode cX12_sums 9 = .ok (.aload_n 0, 1) := by decide +kernel
theorem dX12_sums_10 : decode cX12_sums 10 = .ok (.bipush 45, 2) := by decide +kernel
theorem dX12_sums_12 : decode cX12_sums 12 = .ok (.invokevirtual 292, 3) := by decide +kernel
theorem dX12_sums_15 : decode cX12_sums 15 = .ok (.ifCond .eq 31, 3) := by decide +kernel
theorem dX12_sums_18 : decode cX12_sums 18 = .ok (.aload_n 0, 1) := by decide +kernel
theorem dX12_sums_19 : decode cX12_sums 19 = .ok (.getfield 289, 3) := by decide +kernel
theorem dX12_sums_22 : decode cX12_sums 22 = .ok (.istore_n 1, 1) := by decide +kernel
theorem dX12_sums_23 : decode cX12_sums 23 = .ok (.aload_n 0, 1) := by decide +kernel
theorem dX12_sums_24 : decode cX12_sums 24 = .ok (.iconst 0, 1) := by decide +kernel
theorem dX12_sums_25 : decode cX12_sums 25 = .ok (.invokevirtual 468, 3) := by decide +kernel
theorem dX12_sums_28 : decode cX12_sums 28 = .ok (.istore_n 2, 1) := by decide +kernel
theorem dX12_sums_29 : decode cX12_sums 29 = .ok (.aload_n 0, 1) := by decide +kernel
theorem dX12_sums_30 : decode cX12_sums 30 = .ok (.invokevirtual 295, 3) := by decide +kernel
theorem dX12_sums_33 : decode cX12_sums 33 = .ok (.aload_n 0, 1) := by decide +kernel
theorem dX12_sums_34 : decode cX12_sums 34 = .ok (.invokevirtual 477, 3) := by decide +kernel
theorem dX12_sums_37 : decode cX12_sums 37 = .ok (.aload_n 0, 1) := by decide +kernel
theorem dX12_sums_38 : decode cX12_sums 38 = .ok (.iload_n 1, 1) := by decide +kernel
theorem dX12_sums_39 : decode cX12_sums 39 = .ok (.iload_n 2, 1) := by decide +kernel
theorem dX12_sums_40 : decode cX12_sums 40 = .ok (.invokevirtual 471, 3) := by decide +kernel
theorem dX12_sums_43 : decode cX12_sums 43 = .ok (.goto (-43), 3) := by decide +kernel
theorem dX12_sums_46 : decode cX12_sums 46 = .ok (.return_, 1) := by decide +kernel
theorem dX12_product_0 : decode cX12_product 0 = .ok (.aload_n 0, 1) := by decide +kernel
theorem dX12_product_1 : decode cX12_product 1 = .ok (.invokevirtual 483, 3) := by decide +kernel
theorem dX12_product_4 : decode cX12_product 4 = .ok (.aload_n 0, 1) := by decide +kernel
theorem dX12_product_5 : decode cX12_product 5 = .ok (.invokevirtual 486, 3) := by decide +kernel
theorem dX12_product_8 : decode cX12_product 8 = .ok (.return_, 1) := by decide +kernel
theorem dX12_products_0 : decode cX12_products 0 = .ok (.aload_n 0, 1) := by decide +kernel
theorem dX12_products_1 : decode cX12_products 1 = .ok (.bipush 42, 2) := by decide +kernel
theorem dX12_products_3 : decode cX12_products 3 = .ok (.invokevirtual 292, 3) := by decide +kernel
theorem dX12_products_6 : decode cX12_products 6 = .ok (.ifCond .ne 21, 3) := by decide +kernel
theorem dX12_products_9 : decode cX12_products 9 = .ok (.aload_n 0, 1) := by decide +kernel
theorem dX12_products_10 : decode cX12_products 10 = .ok (.bipush 47, 2) := by decide +kernel
theorem dX12_products_12 : decode cX12_products 12 = .ok (.invokevirtual 292, 3) := by decide +kernel
theorem dX12_products_15 : decode cX12_products 15 = .ok (.ifCond .ne 12, 3) := by decide +kernel
theorem dX12_products_18 : decode cX12_products 18 = .ok (.aload_n 0, 1) := by decide +kernel
theorem dX12_products_19 : decode cX12_products 19 = .ok (.bipush 37, 2) := by decide +kernel
theorem dX12_products_21 : decode cX12_products 21 = .ok (.invokevirtual 292, 3) := by decide +kernel
theorem dX12_products_24 : decode cX12_products 24 = .ok (.ifCond .eq 31, 3) := by decide +kernel
theorem dX12_products_27 : decode cX12_products 27 = .ok (.aload_n 0, 1) := by decide +kernel
theorem dX12_products_28 : decode cX12_products 28 = .ok (.getfield 289, 3) := by decide +kernel
theorem dX12_products_31 : decode cX12_products 31 = .ok (.istore_n 1, 1) := by decide +kernel
theorem dX12_products_32 : decode cX12_products 32 = .ok (.aload_n 0, 1) := by decide +kernel
theorem dX12_products_33 : decode cX12_products 33 = .ok (.iconst 0, 1) := by decide +kernel
theorem dX12_products_34 : decode cX12_products 34 = .ok (.invokevirtual 468, 3) := by decide +kernel
theorem dX12_products_37 : decode cX12_products 37 = .ok (.istore_n 2, 1) := by decide +kernel
theorem dX12_products_38 : decode cX12_products 38 = .ok (.aload_n 0, 1) := by decide +kernel
theorem dX12_products_39 : decode cX12_products 39 = .ok (.invokevirtual 295, 3) := by decide +kernel
theorem dX12_products_42 : decode cX12_products 42 = .ok (.aload_n 0, 1) := by decide +kernel
theorem dX12_products_43 : decode cX12_products 43 = .ok (.invokevirtual 483, 3) := by decide +kernel
theorem dX12_products_46 : decode cX12_products 46 = .ok (.aload_n 0, 1) := by decide +kernel
theorem dX12_products_47 : decode cX12_products 47 = .ok (.iload_n 1, 1) := by decide +kernel
theorem dX12_products_48 : decode cX12_products 48 = .ok (.iload_n 2, 1) := by decide +kernel
theorem dX12_products_49 : decode cX12_products 49 = .ok (.invokevirtual 471, 3) := by decide +kernel
theorem dX12_products_52 : decode cX12_products 52 = .ok (.goto (-52), 3) := by decide +kernel
theorem dX12_products_55 : decode cX12_products 55 = .ok (.return_, 1) := by decide +kernel
set_option maxHeartbeats 4000000 in
set_option maxRecDepth 100000 in
theorem c_X12_products (ω : Om) (l : Launch) (μ : M3) (F : Nat) (Lo : Nat) (Fu : Nat) (Lu : Nat) (kf : Int) (μo : M3) (HH : Int) (tt : Int) (htt : tt = μ.1 111 14) (hF : 60 ≤ F) (hLo : 2000 ≤ Lo) (hFu : Fu ≤ F) (hLu : Lu ≤ Lo) (hE : ∀ (μ : M3) (tt : Int) (htt : tt = μ.1 111 14) (hPM : PM μ) (hnn : 0 ≤ nn μ ∧ nn μ ≤ 9 ∧ 9 * wr μ ≤ nn μ) (hn8 : nn μ ≤ 8 + wr μ) (hcd : 0 ≤ μ.1 111 22 ∧ μ.1 111 22 ≤ 2 * μ.1 111 9 + 200 + 40 * wr μ) (hW : 0 ≤ μ.1 111 39 ∧ μ.1 111 39 ≤ μ.1 111 22) (hsl : 0 ≤ μ.1 111 31 ∧ μ.1 111 31 ≤ 300) (hfu : 0 ≤ (kf - 1) ∧ 9 ≤ nn μ + (kf - 1)) (hH0 : ∀ _ : Unit, bd μ = 0 → mH0 μ), CtV ω l yX12_expr cX12_expr 1 (F + 0) (Lo + 0) [.ref (oP ω 111)] μ (fun (μ' : M3) => (Fr [111, 113, 115, 116, 117, 123, 126] μ μ') ∧ (∀ j, j ∉ ([6, 8, 9, 10, 11, 12, 13, 15, 16, 17, 18, 22, 29, 39] : List Int) → μ'.1 111 j = μ.1 111 j) ∧ (PM μ') ∧ (μ.1 111 22 ≤ μ'.1 111 22 ∧ μ'.1 111 22 ≤ μ.1 111 22 + 2 * (μ'.1 111 9 - μ.1 111 9) + (- 1 + 3 * wr μ' - 2 * wr μ)) ∧ (μ.1 111 9 ≤ μ'.1 111 9) ∧ (μ.1 111 29 ≤ μ'.1 111 29) ∧ (wr μ ≤ wr μ' ∧ bd μ ≤ bd μ') ∧ (nn μ ≤ nn μ' ∧ nn μ' ≤ nn μ + 9 * wr μ' ∧ nn μ' ≤ 9 ∧ 9 * wr μ' ≤ nn μ') ∧ (μ'.1 111 39 = μ.1 111 39) ∧ (∀ j, j < μ.1 111 39 → μ'.1 126 j = μ.1 126 j) ∧ (∀ _ : Unit, bd μ' = 0 → mEX μ μ' tt 1 0 (11 * (9 - nn μ))) ∧ (mEXT μ μ'))) (hU : ∀ (μ : M3) (tt : Int) (htt : tt = μ.1 111 14) (hPM : PM μ) (hnn : 0 ≤ nn μ ∧ nn μ ≤ 9 ∧ 9 * wr μ ≤ nn μ) (hn8 : nn μ ≤ 8 + wr μ) (hcd : 0 ≤ μ.1 111 22 ∧ μ.1 111 22 ≤ 2 * μ.1 111 9 + 200 + 40 * wr μ) (hW : 0 ≤ μ.1 111 39 ∧ μ.1 111 39 ≤ μ.1 111 22) (hsl : 0 ≤ μ.1 111 31 ∧ μ.1 111 31 ≤ 300) (hfu : 0 ≤ (kf - 1) ∧ 9 ≤ nn μ + (kf - 1)) (hH0 : ∀ _ : Unit, bd μ = 0 → mH0 μ), CtV ω l yX12_unary cX12_unary 6 (Fu + 0) (Lu + 0) [.ref (oP ω 111)] μ (fun (μ' : M3) => (Fr [111, 113, 115, 116, 117, 123, 126] μ μ') ∧ (∀ j, j ∉ ([6, 8, 9, 10, 11, 12, 13, 15, 16, 17, 18, 22, 29, 39] : List Int) → μ'.1 111 j = μ.1 111 j) ∧ (PM μ') ∧ (μ.1 111 22 ≤ μ'.1 111 22 ∧ μ'.1 111 22 ≤ μ.1 111 22 + 2 * (μ'.1 111 9 - μ.1 111 9) + (- 1 + 3 * wr μ' - 2 * wr μ)) ∧ (μ.1 111 9 ≤ μ'.1 111 9) ∧ (μ.1 111 29 ≤ μ'.1 111 29) ∧ (wr μ ≤ wr μ' ∧ bd μ ≤ bd μ') ∧ (nn μ ≤ nn μ' ∧ nn μ' ≤ nn μ + 9 * wr μ' ∧ nn μ' ≤ 9 ∧ 9 * wr μ' ≤ nn μ') ∧ (μ'.1 111 39 = μ.1 111 39) ∧ (∀ j, j < μ.1 111 39 → μ'.1 126 j = μ.1 126 j) ∧ (∀ _ : Unit, bd μ' = 0 → mEX μ μ' tt 1 0 (11 * (9 - nn μ) - 3)) ∧ (mEXT μ μ'))) (hPM : PM μ) (hnn : 0 ≤ nn μ ∧ nn μ ≤ 9 ∧ 9 * wr μ ≤ nn μ) (hn8 : nn μ ≤ 8 + wr μ) (hcd : 0 ≤ μ.1 111 22 ∧ μ.1 111 22 ≤ 2 * μ.1 111 9 + 200 + 40 * wr μ) (hW : 0 ≤ μ.1 111 39 ∧ μ.1 111 39 ≤ μ.1 111 22) (hsl : 0 ≤ μ.1 111 31 ∧ μ.1 111 31 ≤ 300) (hfu : 0 ≤ kf ∧ 9 ≤ nn μ + kf) (hEX : ∀ _ : Unit, bd μ = 0 → mEX μo μ tt 1 0 HH) (hHH : 11 * (9 - nn μ) - 3 + 1 ≤ HH) : CtV ω l yX12_products cX12_products 3 (F + 5) (Lo + 118) [.ref (oP ω 111)] μ (fun (μ' : M3) => (Fr [111, 113, 115, 116, 117, 123, 126] μ μ') ∧ (∀ j, j ∉ ([6, 8, 9, 10, 11, 12, 13, 15, 16, 17, 18, 22, 29, 39] : List Int) → μ'.1 111 j = μ.1 111 j) ∧ (PM μ') ∧ (μ.1 111 22 ≤ μ'.1 111 22 ∧ μ'.1 111 22 ≤ μ.1 111 22 + 2 * (μ'.1 111 9 - μ.1 111 9) + (0 + 3 * wr μ' - 3 * wr μ)) ∧ (μ.1 111 9 ≤ μ'.1 111 9) ∧ (μ.1 111 29 ≤ μ'.1 111 29) ∧ (wr μ ≤ wr μ' ∧ bd μ ≤ bd μ') ∧ (nn μ ≤ nn μ' ∧ nn μ' ≤ nn μ + 9 * wr μ' ∧ nn μ' ≤ 9 ∧ 9 * wr μ' ≤ nn μ') ∧ (μ'.1 111 39 = μ.1 111 39) ∧ (∀ j, j < μ.1 111 39 → μ'.1 126 j = μ.1 126 j) ∧ (∀ _ : Unit, bd μ' = 0 → mEX μo μ' tt 1 0 HH) ∧ (mEXT μ μ')) := by
  refine CtV.go (by decide) (Nat.le_of_ble_eq_true rfl) (fun ρ p e s m below meth c R ls G hR hret hlk hl => ?_)
  have hx := G.1.1
  have hb := G.1.2.1
  have hl : lv_has ls 3 [(0, .ref (oP ω 111))] := hl
  generalize s.drawn = d0 at G ⊢
  have hw_0 := wr_r (μ := μ)
  have hpp_ := hPM.1.2.1
  have hpn_ := hPM.2.1
  have hpt_ := hPM.1.2.2.2.1
  have hpw_ := hPM.1.2.2.2.2.1
  have hpa_ := hPM.1.1
  have hX_1 : ∀ _ : Unit, bd μ = 0 → mPX μo μ tt 1 1 HH [] := fun _ h0 => mPX.of (hEX () h0)
  refine xl (fun n_9 μ' ls => (Fr [111, 113, 115, 116, 117, 123, 126] μ μ') ∧ (∀ j, j ∉ ([6, 8, 9, 10, 11, 12, 13, 15, 16, 17, 18, 22, 29, 39] : List Int) → μ'.1 111 j = μ.1 111 j) ∧ (PM μ') ∧ (μ.1 111 22 ≤ μ'.1 111 22 ∧ μ'.1 111 22 ≤ μ.1 111 22 + 2 * (μ'.1 111 9 - μ.1 111 9) + (0 + 3 * wr μ' - 3 * wr μ)) ∧ (μ.1 111 9 ≤ μ'.1 111 9) ∧ (μ.1 111 29 ≤ μ'.1 111 29) ∧ (wr μ ≤ wr μ' ∧ bd μ ≤ bd μ') ∧ (nn μ ≤ nn μ' ∧ nn μ' ≤ nn μ + 9 * wr μ' ∧ nn μ' ≤ 9 ∧ 9 * wr μ' ≤ nn μ') ∧ (μ'.1 111 39 = μ.1 111 39) ∧ (∀ j, j < μ.1 111 39 → μ'.1 126 j = μ.1 126 j) ∧ (∀ _ : Unit, bd μ' = 0 → mEX μo μ' tt 1 0 HH) ∧ (nn μ' ≤ 8 + wr μ') ∧ (mEXT μ μ') ∧ n_9 = Int.toNat (3001 - μ'.1 111 9) ∧ lv_has ls 3 [(0, .ref (oP ω 111))]) (fun n_9 ρ μL2 d0 H locs ls hI_l G ih => ?_) _ _ _ _ _ _ _ ⟨Fr.rf, (fun j hj => rfl), hPM, (by omega), (by omega), (by omega), (by omega), (by omega), (by omega), (fun j hj => rfl), (fun _ h0 => (mPX.ex ((hX_1 ()) h0)).e (by omega)), (by omega), (mEXT.rf (μ := μ)), rfl, lv_sub hl [0] rfl⟩ G
  obtain ⟨FL3, hi_5, hi_6, hi_7, hi_8, hi_9, hi_10, hi_11, hi_12, hi_13, hi_14, hi_15, hi_16, hn4, hl⟩ := hI_l
  have hw_17 := wr_r (μ := μL2)
  have hw_18 := wr_r (μ := μL2)
  have hpl_19 := hi_6.pl
  have hX_20 : ∀ _ : Unit, bd μL2 = 0 → mPX μo μL2 tt 1 1 HH [] := fun _ h0 => mPX.of (hi_14 () h0)
  refine lv_aload_n hx hb dX12_products_0 rfl (lv_at hl 0 rfl) ?_
  refine lv_bipush (v := iv 42) hx hb dX12_products_1 rfl ?_
  have hw_21 := wr_r (μ := μL2)
  refine xc_iV G (b := 111) (rest := []) (As := [.int (iv 42)]) (c_X12_isSign ω l μL2 42 (by unfold ir; omega)) (wm 9 90 rfl rfl) (wm 9 92 rfl rfl) (wm 0 135 rfl rfl) rfl rfl (by decide) rfl (wm 1 18 rfl rfl) (wm 9 93 rfl rfl) (by decide) hR ⟨nfr hF (by decide), nlo hLo (by decide)⟩ (n := 1) rfl rfl (Nat.le_of_ble_eq_true rfl) hl.1 dX12_products_3 (fun r_23 μ22 ρ d0 H locs hr_r_23 hp G => ?_)
  have hr_r_23 : -2147483648 ≤ r_23 ∧ r_23 ≤ 2147483647 := hr_r_23
  obtain ⟨hsm_24, hp_25⟩ := hp
  have hsm_24 := Eq.symm hsm_24
  subst hsm_24
  refine xb_if_ne (tgt := 27) hx hb (by unfold ir; omega) dX12_products_6 (by decide) (fun c_6 => ?_) (fun c_6 => ?_)
  · refine lv_aload_n hx hb dX12_products_27 rfl (lv_at hl 0 rfl) ?_
    refine xa_geti G fd_X12 (a := 111) (x := μL2.1 111 13) 13 rfl (by decide) rfl (wm 7 162 rfl rfl) ⟨rfl, rfl, rfl⟩ dX12_products_28 rfl rfl ?_
    have hr_26 : -2147483648 ≤ μL2.1 111 13 ∧ μL2.1 111 13 ≤ 2147483647 := by have h9 := G.hr (a := 111) (k := 13) rfl; exact h9
    refine lv_istore_n (lv' := [(1, .int (iv (μL2.1 111 13))), (0, .ref (oP ω 111))]) hx hb dX12_products_31 rfl hl (by decide) rfl (fun ls hl => ?_)
    refine lv_aload_n hx hb dX12_products_32 rfl (lv_at hl 1 rfl) ?_
    refine lv_iconst (v := iv 0) hx hb dX12_products_33 rfl ?_
    have e_27 : μL2.1 111 14 = tt := ((hi_5 14 (by decide)).trans htt.symm)
    refine xc_iV G (b := 111) (rest := []) (As := [.int (iv 0)]) (c_X12_skips ω l μL2 0 tt (by unfold ir; omega) (by omega) (by omega)) (wm 9 159 rfl rfl) (wm 9 161 rfl rfl) (wm 0 152 rfl rfl) rfl rfl (by decide) rfl (wm 1 18 rfl rfl) (wm 9 162 rfl rfl) (by decide) hR ⟨nfr hF (by decide), nlo hLo (by decide)⟩ (n := 1) rfl rfl (Nat.le_of_ble_eq_true rfl) hl.1 dX12_products_34 (fun r_29 μ28 ρ d0 H locs hr_r_29 hp G => ?_)
    have hr_r_29 : -2147483648 ≤ r_29 ∧ r_29 ≤ 2147483647 := hr_r_29
    obtain ⟨F_30, hp_31, hp_32, hp_33⟩ := hp
    have hqr_r_29 : (r_29 = -1) ∨ (μ.1 111 22 ≤ r_29 ∧ r_29 < μ28.1 111 22) := by rcases hp_32 with ⟨q1, q2, q3, q4⟩ | ⟨q1, q2, q3⟩; (right; have := q2.2.1; omega); (left; exact q2)
    have hxt_34 : mEXT μ μ28 := hi_16.tr hp_32.ext
    have e_35 : wr μ28 = wr μL2 := (wr_cg (hp_31 15 (by decide)))
    have e_36 : bd μ28 = bd μL2 := (bd_cg (hp_31 15 (by decide)) (hp_31 16 (by decide)))
    have e_37 : nn μ28 = nn μL2 := (nn_cg (hp_31 15 (by decide)) (hp_31 18 (by decide)))
    replace hp_32 := fun _ : Unit => hp_32
    have e_39 : μ28.1 111 29 = μL2.1 111 29 := (hp_31 29 (by decide))
    have hX_38 : ∀ _ : Unit, bd μ28 = 0 → mPX μo μ28 tt 1 1 HH (lsk r_29 ++ []) := fun _ h0 => mPX.sk ((hX_20 ()) (by have e9 : bd μL2 = bd μL2 := rfl; have e8 : bd μ28 = bd μL2 := (bd_cg (hp_31 15 (by decide)) (hp_31 16 (by decide))); omega)) (hp_32 ()) (by omega) (by omega) (by decide)
    refine lv_istore_n (lv' := [(2, .int (iv r_29)), (1, .int (iv (μL2.1 111 13))), (0, .ref (oP ω 111))]) hx hb dX12_products_37 rfl hl (by decide) rfl (fun ls hl => ?_)
    refine lv_aload_n hx hb dX12_products_38 rfl (lv_at hl 2 rfl) ?_
    have hPM_40 : PM μ28 := hi_6.cg ((((hp_31 4 (by decide)).trans (hi_5 4 (by decide)))).trans ((hi_5 4 (by decide))).symm) (hp_31 6 (by decide)) ((((hp_31 7 (by decide)).trans (hi_5 7 (by decide)))).trans ((hi_5 7 (by decide))).symm) (hp_31 8 (by decide)) (hp_31 9 (by decide)) (hp_31 11 (by decide)) (hp_31 12 (by decide)) ((((hp_31 14 (by decide)).trans ((hi_5 14 (by decide)).trans htt.symm))).trans (((hi_5 14 (by decide)).trans htt.symm)).symm) (hp_31 15 (by decide)) (hp_31 29 (by decide)) (fun j => (F_30.1 123 (by decide) j))
    have e_41 : wr μ28 = wr μL2 := (wr_cg (hp_31 15 (by decide)))
    have e_42 : nn μ28 = nn μL2 := (nn_cg (hp_31 15 (by decide)) (hp_31 18 (by decide)))
    have e_43 : μ28.1 111 8 = μL2.1 111 8 := (hp_31 8 (by decide))
    have e_44 : wr μ28 = wr μL2 := (wr_cg (hp_31 15 (by decide)))
    have e_45 : μ28.1 111 9 = μL2.1 111 9 := (hp_31 9 (by decide))
    have e_46 : wr μ28 = wr μL2 := (wr_cg (hp_31 15 (by decide)))
    have e_47 : wr μ28 = wr μL2 := (wr_cg (hp_31 15 (by decide)))
    have e_48 : bd μ28 = bd μL2 := (bd_cg (hp_31 15 (by decide)) (hp_31 16 (by decide)))
    have e_49 : nn μ28 = nn μL2 := (nn_cg (hp_31 15 (by decide)) (hp_31 18 (by decide)))
    refine xc_vV G (b := 111) (rest := []) (As := []) (c_X12_next ω l μ28  hPM_40 (by omega) (by omega)) (wm 9 0 rfl rfl) (wm 9 2 rfl rfl) (wm 0 119 rfl rfl) rfl rfl (by decide) rfl (wm 1 18 rfl rfl) (wm 9 3 rfl rfl) (by decide) hR ⟨nfr hF (by decide), nlo hLo (by decide)⟩ (n := 0) rfl rfl (Nat.le_of_ble_eq_true rfl) hl.1 dX12_products_39 (fun μ50 ρ d0 H locs hp G => ?_)
    obtain ⟨F_51, hp_52, hp_53, hp_54, hp_55, hp_56⟩ := hp
    have hpl_57 := hp_53.pl
    have hw_58 := wr_r (μ := μ28)
    have hw_59 := wr_r (μ := μ50)
    refine lv_aload_n hx hb dX12_products_42 rfl (lv_at hl 2 rfl) ?_
    have e_60 : μ50.1 111 29 = μL2.1 111 29 := ((hp_52 29 (by decide)).trans (hp_31 29 (by decide)))
    have e_62 : μ50.1 111 29 = μL2.1 111 29 := ((hp_52 29 (by decide)).trans (hp_31 29 (by decide)))
    have hX_61 : ∀ _ : Unit, bd μ50 = 0 → mPX μo μ50 tt 1 1 HH (lsk r_29 ++ []) := fun _ h0 => (hX_38 () (by have e9 : bd μ28 = bd μL2 := (bd_cg (hp_31 15 (by decide)) (hp_31 16 (by decide))); have e8 : bd μ50 = bd μ50 := rfl; omega)).qm (q0m.fr (K := [111]) (Fr.tr Fr.rf F_51 (by decide)) (by decide) (by decide) (by decide) (hp_52 22 (by decide)) (by omega))
    have e_63 : μ50.1 111 29 = μL2.1 111 29 := ((hp_52 29 (by decide)).trans (hp_31 29 (by decide)))
    have e_64 : μ50.1 111 29 = μL2.1 111 29 := ((hp_52 29 (by decide)).trans (hp_31 29 (by decide)))
    have hxt_65 : mEXT μ μ50 := hxt_34.tr (q0m.fr (K := [111]) (Fr.tr Fr.rf F_51 (by decide)) (by decide) (by decide) (by decide) (hp_52 22 (by decide)) (by omega)).1
    have e_66 : μ50.1 111 14 = tt := ((hp_52 14 (by decide)).trans ((hp_31 14 (by decide)).trans ((hi_5 14 (by decide)).trans htt.symm)))
    have e_67 : μ50.1 111 22 = μ28.1 111 22 := (hp_52 22 (by decide))
    have e_68 : μ50.1 111 22 = μ28.1 111 22 := (hp_52 22 (by decide))
    have e_69 : μ50.1 111 39 = μL2.1 111 39 := ((hp_52 39 (by decide)).trans (hp_31 39 (by decide)))
    have e_70 : μ50.1 111 39 = μL2.1 111 39 := ((hp_52 39 (by decide)).trans (hp_31 39 (by decide)))
    have e_71 : μ50.1 111 22 = μ28.1 111 22 := (hp_52 22 (by decide))
    have e_72 : μ50.1 111 31 = μ.1 111 31 := ((hp_52 31 (by decide)).trans ((hp_31 31 (by decide)).trans (hi_5 31 (by decide))))
    have e_73 : μ50.1 111 31 = μ.1 111 31 := ((hp_52 31 (by decide)).trans ((hp_31 31 (by decide)).trans (hi_5 31 (by decide))))
    have e_74 : μ50.1 111 22 = μ28.1 111 22 := (hp_52 22 (by decide))
    have e_75 : μ50.1 111 22 = μ28.1 111 22 := (hp_52 22 (by decide))
    have e_76 : μ50.1 111 29 = μL2.1 111 29 := ((hp_52 29 (by decide)).trans (hp_31 29 (by decide)))
    have e_77 : μ50.1 111 39 = μL2.1 111 39 := ((hp_52 39 (by decide)).trans (hp_31 39 (by decide)))
    refine xc_vV G (b := 111) (rest := []) (As := []) (c_X12_unary ω l μ50 F Lo Fu Lu kf tt (by omega) hF hLo hFu hLu hE hU hp_53 (by omega) (by omega) (by omega) (by omega) (by omega) (by omega) (fun _ h0 => ((hX_61 ()) h0).h1.1)) (wm 9 155 rfl rfl) (wm 9 157 rfl rfl) (wm 0 151 rfl rfl) rfl rfl (by decide) rfl (wm 1 18 rfl rfl) (wm 9 158 rfl rfl) (by decide) hR ⟨sfr (F := F) (a := 4) (by decide), slo (L := Lo) (m := 6) (a := 93) (by decide)⟩ (n := 0) rfl rfl (Nat.le_of_ble_eq_true rfl) hl.1 dX12_products_43 (fun μ78 ρ d0 H locs hp G => ?_)
    obtain ⟨F_79, hp_80, hp_81, hp_82, hp_83, hp_84, hp_85, hp_86, hp_87, hp_88, hp_89, hp_90⟩ := hp
    have hpl_91 := hp_81.pl
    have hw_92 := wr_r (μ := μ78)
    have hxt_93 : mEXT μ μ78 := hxt_65.tr hp_90
    have hX_94 : ∀ _ : Unit, bd μ78 = 0 → mPX μo μ78 tt 2 1 HH (lsk r_29 ++ []) := fun _ h0 => (((hX_61 ()) (by have e9 : bd μ50 = bd μ50 := rfl; have e8 : bd μ78 = bd μ78 := rfl; omega)).app (hp_89 () h0) (by omega)).ee (by omega)
    refine lv_aload_n hx hb dX12_products_46 rfl (lv_at hl 2 rfl) ?_
    refine lv_iload_n hx hb dX12_products_47 rfl (lv_at hl 1 rfl) ?_
    refine lv_iload_n hx hb dX12_products_48 rfl (lv_at hl 0 rfl) ?_
    have e_95 : μ78.1 111 14 = tt := ((hp_80 14 (by decide)).trans ((hp_52 14 (by decide)).trans ((hp_31 14 (by decide)).trans ((hi_5 14 (by decide)).trans htt.symm))))
    refine xc_vV G (b := 111) (rest := []) (As := [.int (iv (μL2.1 111 13)), .int (iv r_29)]) (c_X12_two ω l μ78 (μL2.1 111 13) r_29 μo (HH) tt (by unfold ir; omega) (by unfold ir; omega) (by omega) (by omega) (by omega) (fun _ => (hX_94 ()))) (wm 9 223 rfl rfl) (wm 9 225 rfl rfl) (wm 0 168 rfl rfl) rfl rfl (by decide) rfl (wm 1 18 rfl rfl) (wm 9 226 rfl rfl) (by decide) hR ⟨nfr hF (by decide), nlo hLo (by decide)⟩ (n := 2) rfl rfl (Nat.le_of_ble_eq_true rfl) hl.1 dX12_products_49 (fun μ96 ρ d0 H locs hp G => ?_)
    obtain ⟨F_97, hp_98, hp_99, hp_100, hp_101, hp_102⟩ := hp
    have hw_103 := wr_r (μ := μ96)
    have hxt_104 : mEXT μ μ96 := hp_102 _ hxt_93 (by omega)
    have e_105 : bd μ96 = bd μ78 := (bd_cg (hp_98 15 (by decide)) (hp_98 16 (by decide)))
    have e_107 : μ96.1 111 29 = μ78.1 111 29 := (hp_98 29 (by decide))
    have hX_106 : ∀ _ : Unit, bd μ96 = 0 → mPX μo μ96 tt 1 1 HH [] := fun _ h0 => mPX.of (hp_101 () h0)
    refine lv_goto (tgt := 0) hx hb dX12_products_52 (by decide) ?_
    have hPM_108 : PM μ96 := hp_81.cg ((((hp_98 4 (by decide)).trans ((hp_80 4 (by decide)).trans ((hp_52 4 (by decide)).trans ((hp_31 4 (by decide)).trans (hi_5 4 (by decide))))))).trans (((hp_80 4 (by decide)).trans ((hp_52 4 (by decide)).trans ((hp_31 4 (by decide)).trans (hi_5 4 (by decide)))))).symm) (hp_98 6 (by decide)) ((((hp_98 7 (by decide)).trans ((hp_80 7 (by decide)).trans ((hp_52 7 (by decide)).trans ((hp_31 7 (by decide)).trans (hi_5 7 (by decide))))))).trans (((hp_80 7 (by decide)).trans ((hp_52 7 (by decide)).trans ((hp_31 7 (by decide)).trans (hi_5 7 (by decide)))))).symm) (hp_98 8 (by decide)) (hp_98 9 (by decide)) (hp_98 11 (by decide)) (hp_98 12 (by decide)) ((((hp_98 14 (by decide)).trans ((hp_80 14 (by decide)).trans ((hp_52 14 (by decide)).trans ((hp_31 14 (by decide)).trans ((hi_5 14 (by decide)).trans htt.symm)))))).trans (((hp_80 14 (by decide)).trans ((hp_52 14 (by decide)).trans ((hp_31 14 (by decide)).trans ((hi_5 14 (by decide)).trans htt.symm))))).symm) (hp_98 15 (by decide)) (hp_98 29 (by decide)) (fun j => (F_97.1 123 (by decide) j))
    have e_109 : μ96.1 111 9 = μ78.1 111 9 := (hp_98 9 (by decide))
    have e_110 : wr μ96 = wr μ78 := (wr_cg (hp_98 15 (by decide)))
    have e_111 : μ96.1 111 9 = μ78.1 111 9 := (hp_98 9 (by decide))
    have e_112 : μ96.1 111 29 = μ78.1 111 29 := (hp_98 29 (by decide))
    have e_113 : wr μ96 = wr μ78 := (wr_cg (hp_98 15 (by decide)))
    have e_114 : bd μ96 = bd μ78 := (bd_cg (hp_98 15 (by decide)) (hp_98 16 (by decide)))
    have e_115 : wr μ96 = wr μ78 := (wr_cg (hp_98 15 (by decide)))
    have e_116 : nn μ96 = nn μ78 := (nn_cg (hp_98 15 (by decide)) (hp_98 18 (by decide)))
    have e_117 : μ96.1 111 39 = μ78.1 111 39 := (hp_98 39 (by decide))
    have e_118 : wr μ96 = wr μ78 := (wr_cg (hp_98 15 (by decide)))
    have e_119 : nn μ96 = nn μ78 := (nn_cg (hp_98 15 (by decide)) (hp_98 18 (by decide)))
    exact ih _ _ _ _ _ _ _ (by omega) ⟨(Fr.tr (Fr.tr (Fr.tr (Fr.tr FL3 F_30 (by decide)) F_51 (by decide)) F_79 (by decide)) F_97 (by decide)), (fun j hj => ((hp_98 j (fun h9 => hj ((by decide : ∀ x ∈ ([22] : List Int), x ∈ ([6, 8, 9, 10, 11, 12, 13, 15, 16, 17, 18, 22, 29, 39] : List Int)) j h9))).trans ((hp_80 j (fun h9 => hj ((by decide : ∀ x ∈ ([6, 8, 9, 10, 11, 12, 13, 15, 16, 17, 18, 22, 29, 39] : List Int), x ∈ ([6, 8, 9, 10, 11, 12, 13, 15, 16, 17, 18, 22, 29, 39] : List Int)) j h9))).trans ((hp_52 j (fun h9 => hj ((by decide : ∀ x ∈ ([6, 8, 9, 10, 11, 12, 13, 15] : List Int), x ∈ ([6, 8, 9, 10, 11, 12, 13, 15, 16, 17, 18, 22, 29, 39] : List Int)) j h9))).trans ((hp_31 j (fun h9 => hj ((by decide : ∀ x ∈ ([22] : List Int), x ∈ ([6, 8, 9, 10, 11, 12, 13, 15, 16, 17, 18, 22, 29, 39] : List Int)) j h9))).trans (hi_5 j (fun h9 => hj ((by decide : ∀ x ∈ ([6, 8, 9, 10, 11, 12, 13, 15, 16, 17, 18, 22, 29, 39] : List Int), x ∈ ([6, 8, 9, 10, 11, 12, 13, 15, 16, 17, 18, 22, 29, 39] : List Int)) j h9)))))))), hPM_108, (by omega), (by omega), (by omega), (by omega), (by omega), (by omega), (fun j hj => ((F_97.1 126 (by decide) j).trans ((hp_88 j (by omega)).trans ((F_51.1 126 (by decide) j).trans ((F_30.1 126 (by decide) j).trans (hi_13 j (by omega))))))), (fun _ h0 => (mPX.ex ((hX_106 ()) h0)).e (by omega)), (by omega), hxt_104, rfl, lv_sub hl [2] rfl⟩ G
  · refine lv_aload_n hx hb dX12_products_9 rfl (lv_at hl 0 rfl) ?_
    refine lv_bipush (v := iv 47) hx hb dX12_products_10 rfl ?_
    refine xc_iV G (b := 111) (rest := []) (As := [.int (iv 47)]) (c_X12_isSign ω l μL2 47 (by unfold ir; omega)) (wm 9 90 rfl rfl) (wm 9 92 rfl rfl) (wm 0 135 rfl rfl) rfl rfl (by decide) rfl (wm 1 18 rfl rfl) (wm 9 93 rfl rfl) (by decide) hR ⟨nfr hF (by decide), nlo hLo (by decide)⟩ (n := 1) rfl rfl (Nat.le_of_ble_eq_true rfl) hl.1 dX12_products_12 (fun r_121 μ120 ρ d0 H locs hr_r_121 hp G => ?_)
    have hr_r_121 : -2147483648 ≤ r_121 ∧ r_121 ≤ 2147483647 := hr_r_121
    obtain ⟨hsm_122, hp_123⟩ := hp
    have hsm_122 := Eq.symm hsm_122
    subst hsm_122
    refine xb_if_ne (tgt := 27) hx hb (by unfold ir; omega) dX12_products_15 (by decide) (fun c_15 => ?_) (fun c_15 => ?_)
    · refine lv_aload_n hx hb dX12_products_27 rfl (lv_at hl 0 rfl) ?_
      refine xa_geti G fd_X12 (a := 111) (x := μL2.1 111 13) 13 rfl (by decide) rfl (wm 7 162 rfl rfl) ⟨rfl, rfl, rfl⟩ dX12_products_28 rfl rfl ?_
      have hr_124 : -2147483648 ≤ μL2.1 111 13 ∧ μL2.1 111 13 ≤ 2147483647 := by have h9 := G.hr (a := 111) (k := 13) rfl; exact h9
      refine lv_istore_n (lv' := [(1, .int (iv (μL2.1 111 13))), (0, .ref (oP ω 111))]) hx hb dX12_products_31 rfl hl (by decide) rfl (fun ls hl => ?_)
      refine lv_aload_n hx hb dX12_products_32 rfl (lv_at hl 1 rfl) ?_
      refine lv_iconst (v := iv 0) hx hb dX12_products_33 rfl ?_
      have e_125 : μL2.1 111 14 = tt := ((hi_5 14 (by decide)).trans htt.symm)
      refine xc_iV G (b := 111) (rest := []) (As := [.int (iv 0)]) (c_X12_skips ω l μL2 0 tt (by unfold ir; omega) (by omega) (by omega)) (wm 9 159 rfl rfl) (wm 9 161 rfl rfl) (wm 0 152 rfl rfl) rfl rfl (by decide) rfl (wm 1 18 rfl rfl) (wm 9 162 rfl rfl) (by decide) hR ⟨nfr hF (by decide), nlo hLo (by decide)⟩ (n := 1) rfl rfl (Nat.le_of_ble_eq_true rfl) hl.1 dX12_products_34 (fun r_127 μ126 ρ d0 H locs hr_r_127 hp G => ?_)
      have hr_r_127 : -2147483648 ≤ r_127 ∧ r_127 ≤ 2147483647 := hr_r_127
      obtain ⟨F_128, hp_129, hp_130, hp_131⟩ := hp
      have hqr_r_127 : (r_127 = -1) ∨ (μ.1 111 22 ≤ r_127 ∧ r_127 < μ126.1 111 22) := by rcases hp_130 with ⟨q1, q2, q3, q4⟩ | ⟨q1, q2, q3⟩; (right; have := q2.2.1; omega); (left; exact q2)
      have hxt_132 : mEXT μ μ126 := hi_16.tr hp_130.ext
      have e_133 : wr μ126 = wr μL2 := (wr_cg (hp_129 15 (by decide)))
      have e_134 : bd μ126 = bd μL2 := (bd_cg (hp_129 15 (by decide)) (hp_129 16 (by decide)))
      have e_135 : nn μ126 = nn μL2 := (nn_cg (hp_129 15 (by decide)) (hp_129 18 (by decide)))
      replace hp_130 := fun _ : Unit => hp_130
      have e_137 : μ126.1 111 29 = μL2.1 111 29 := (hp_129 29 (by decide))
      have hX_136 : ∀ _ : Unit, bd μ126 = 0 → mPX μo μ126 tt 1 1 HH (lsk r_127 ++ []) := fun _ h0 => mPX.sk ((hX_20 ()) (by have e9 : bd μL2 = bd μL2 := rfl; have e8 : bd μ126 = bd μL2 := (bd_cg (hp_129 15 (by decide)) (hp_129 16 (by decide))); omega)) (hp_130 ()) (by omega) (by omega) (by decide)
      refine lv_istore_n (lv' := [(2, .int (iv r_127)), (1, .int (iv (μL2.1 111 13))), (0, .ref (oP ω 111))]) hx hb dX12_products_37 rfl hl (by decide) rfl (fun ls hl => ?_)
      refine lv_aload_n hx hb dX12_products_38 rfl (lv_at hl 2 rfl) ?_
      have hPM_138 : PM μ126 := hi_6.cg ((((hp_129 4 (by decide)).trans (hi_5 4 (by decide)))).trans ((hi_5 4 (by decide))).symm) (hp_129 6 (by decide)) ((((hp_129 7 (by decide)).trans (hi_5 7 (by decide)))).trans ((hi_5 7 (by decide))).symm) (hp_129 8 (by decide)) (hp_129 9 (by decide)) (hp_129 11 (by decide)) (hp_129 12 (by decide)) ((((hp_129 14 (by decide)).trans ((hi_5 14 (by decide)).trans htt.symm))).trans (((hi_5 14 (by decide)).trans htt.symm)).symm) (hp_129 15 (by decide)) (hp_129 29 (by decide)) (fun j => (F_128.1 123 (by decide) j))
      have e_139 : wr μ126 = wr μL2 := (wr_cg (hp_129 15 (by decide)))
      have e_140 : nn μ126 = nn μL2 := (nn_cg (hp_129 15 (by decide)) (hp_129 18 (by decide)))
      have e_141 : μ126.1 111 8 = μL2.1 111 8 := (hp_129 8 (by decide))
      have e_142 : wr μ126 = wr μL2 := (wr_cg (hp_129 15 (by decide)))
      have e_143 : μ126.1 111 9 = μL2.1 111 9 := (hp_129 9 (by decide))
      have e_144 : wr μ126 = wr μL2 := (wr_cg (hp_129 15 (by decide)))
      have e_145 : wr μ126 = wr μL2 := (wr_cg (hp_129 15 (by decide)))
      have e_146 : bd μ126 = bd μL2 := (bd_cg (hp_129 15 (by decide)) (hp_129 16 (by decide)))
      have e_147 : nn μ126 = nn μL2 := (nn_cg (hp_129 15 (by decide)) (hp_129 18 (by decide)))
      refine xc_vV G (b := 111) (rest := []) (As := []) (c_X12_next ω l μ126  hPM_138 (by omega) (by omega)) (wm 9 0 rfl rfl) (wm 9 2 rfl rfl) (wm 0 119 rfl rfl) rfl rfl (by decide) rfl (wm 1 18 rfl rfl) (wm 9 3 rfl rfl) (by decide) hR ⟨nfr hF (by decide), nlo hLo (by decide)⟩ (n := 0) rfl rfl (Nat.le_of_ble_eq_true rfl) hl.1 dX12_products_39 (fun μ148 ρ d0 H locs hp G => ?_)
      obtain ⟨F_149, hp_150, hp_151, hp_152, hp_153, hp_154⟩ := hp
      have hpl_155 := hp_151.pl
      have hw_156 := wr_r (μ := μ126)
      have hw_157 := wr_r (μ := μ148)
      refine lv_aload_n hx hb dX12_products_42 rfl (lv_at hl 2 rfl) ?_
      have e_158 : μ148.1 111 29 = μL2.1 111 29 := ((hp_150 29 (by decide)).trans (hp_129 29 (by decide)))
      have e_160 : μ148.1 111 29 = μL2.1 111 29 := ((hp_150 29 (by decide)).trans (hp_129 29 (by decide)))
      have hX_159 : ∀ _ : Unit, bd μ148 = 0 → mPX μo μ148 tt 1 1 HH (lsk r_127 ++ []) := fun _ h0 => (hX_136 () (by have e9 : bd μ126 = bd μL2 := (bd_cg (hp_129 15 (by decide)) (hp_129 16 (by decide))); have e8 : bd μ148 = bd μ148 := rfl; omega)).qm (q0m.fr (K := [111]) (Fr.tr Fr.rf F_149 (by decide)) (by decide) (by decide) (by decide) (hp_150 22 (by decide)) (by omega))
      have e_161 : μ148.1 111 29 = μL2.1 111 29 := ((hp_150 29 (by decide)).trans (hp_129 29 (by decide)))
      have e_162 : μ148.1 111 29 = μL2.1 111 29 := ((hp_150 29 (by decide)).trans (hp_129 29 (by decide)))
      have hxt_163 : mEXT μ μ148 := hxt_132.tr (q0m.fr (K := [111]) (Fr.tr Fr.rf F_149 (by decide)) (by decide) (by decide) (by decide) (hp_150 22 (by decide)) (by omega)).1
      have e_164 : μ148.1 111 14 = tt := ((hp_150 14 (by decide)).trans ((hp_129 14 (by decide)).trans ((hi_5 14 (by decide)).trans htt.symm)))
      have e_165 : μ148.1 111 22 = μ126.1 111 22 := (hp_150 22 (by decide))
      have e_166 : μ148.1 111 22 = μ126.1 111 22 := (hp_150 22 (by decide))
      have e_167 : μ148.1 111 39 = μL2.1 111 39 := ((hp_150 39 (by decide)).trans (hp_129 39 (by decide)))
      have e_168 : μ148.1 111 39 = μL2.1 111 39 := ((hp_150 39 (by decide)).trans (hp_129 39 (by decide)))
      have e_169 : μ148.1 111 22 = μ126.1 111 22 := (hp_150 22 (by decide))
      have e_170 : μ148.1 111 31 = μ.1 111 31 := ((hp_150 31 (by decide)).trans ((hp_129 31 (by decide)).trans (hi_5 31 (by decide))))
      have e_171 : μ148.1 111 31 = μ.1 111 31 := ((hp_150 31 (by decide)).trans ((hp_129 31 (by decide)).trans (hi_5 31 (by decide))))
      have e_172 : μ148.1 111 22 = μ126.1 111 22 := (hp_150 22 (by decide))
      have e_173 : μ148.1 111 22 = μ126.1 111 22 := (hp_150 22 (by decide))
      have e_174 : μ148.1 111 29 = μL2.1 111 29 := ((hp_150 29 (by decide)).trans (hp_129 29 (by decide)))
      have e_175 : μ148.1 111 39 = μL2.1 111 39 := ((hp_150 39 (by decide)).trans (hp_129 39 (by decide)))
      refine xc_vV G (b := 111) (rest := []) (As := []) (c_X12_unary ω l μ148 F Lo Fu Lu kf tt (by omega) hF hLo hFu hLu hE hU hp_151 (by omega) (by omega) (by omega) (by omega) (by omega) (by omega) (fun _ h0 => ((hX_159 ()) h0).h1.1)) (wm 9 155 rfl rfl) (wm 9 157 rfl rfl) (wm 0 151 rfl rfl) rfl rfl (by decide) rfl (wm 1 18 rfl rfl) (wm 9 158 rfl rfl) (by decide) hR ⟨sfr (F := F) (a := 4) (by decide), slo (L := Lo) (m := 6) (a := 93) (by decide)⟩ (n := 0) rfl rfl (Nat.le_of_ble_eq_true rfl) hl.1 dX12_products_43 (fun μ176 ρ d0 H locs hp G => ?_)
      obtain ⟨F_177, hp_178, hp_179, hp_180, hp_181, hp_182, hp_183, hp_184, hp_185, hp_186, hp_187, hp_188⟩ := hp
      have hpl_189 := hp_179.pl
      have hw_190 := wr_r (μ := μ176)
      have hxt_191 : mEXT μ μ176 := hxt_163.tr hp_188
      have hX_192 : ∀ _ : Unit, bd μ176 = 0 → mPX μo μ176 tt 2 1 HH (lsk r_127 ++ []) := fun _ h0 => (((hX_159 ()) (by have e9 : bd μ148 = bd μ148 := rfl; have e8 : bd μ176 = bd μ176 := rfl; omega)).app (hp_187 () h0) (by omega)).ee (by omega)
      refine lv_aload_n hx hb dX12_products_46 rfl (lv_at hl 2 rfl) ?_
      refine lv_iload_n hx hb dX12_products_47 rfl (lv_at hl 1 rfl) ?_
      refine lv_iload_n hx hb dX12_products_48 rfl (lv_at hl 0 rfl) ?_
      have e_193 : μ176.1 111 14 = tt := ((hp_178 14 (by decide)).trans ((hp_150 14 (by decide)).trans ((hp_129 14 (by decide)).trans ((hi_5 14 (by decide)).trans htt.symm))))
      refine xc_vV G (b := 111) (rest := []) (As := [.int (iv (μL2.1 111 13)), .int (iv r_127)]) (c_X12_two ω l μ176 (μL2.1 111 13) r_127 μo (HH) tt (by unfold ir; omega) (by unfold ir; omega) (by omega) (by omega) (by omega) (fun _ => (hX_192 ()))) (wm 9 223 rfl rfl) (wm 9 225 rfl rfl) (wm 0 168 rfl rfl) rfl rfl (by decide) rfl (wm 1 18 rfl rfl) (wm 9 226 rfl rfl) (by decide) hR ⟨nfr hF (by decide), nlo hLo (by decide)⟩ (n := 2) rfl rfl (Nat.le_of_ble_eq_true rfl) hl.1 dX12_products_49 (fun μ194 ρ d0 H locs hp G => ?_)
      obtain ⟨F_195, hp_196, hp_197, hp_198, hp_199, hp_200⟩ := hp
      have hw_201 := wr_r (μ := μ194)
      have hxt_202 : mEXT μ μ194 := hp_200 _ hxt_191 (by omega)
      have e_203 : bd μ194 = bd μ176 := (bd_cg (hp_196 15 (by decide)) (hp_196 16 (by decide)))
      have e_205 : μ194.1 111 29 = μ176.1 111 29 := (hp_196 29 (by decide))
      have hX_204 : ∀ _ : Unit, bd μ194 = 0 → mPX μo μ194 tt 1 1 HH [] := fun _ h0 => mPX.of (hp_199 () h0)
      refine lv_goto (tgt := 0) hx hb dX12_products_52 (by decide) ?_
      have hPM_206 : PM μ194 := hp_179.cg ((((hp_196 4 (by decide)).trans ((hp_178 4 (by decide)).trans ((hp_150 4 (by decide)).trans ((hp_129 4 (by decide)).trans (hi_5 4 (by decide))))))).trans (((hp_178 4 (by decide)).trans ((hp_150 4 (by decide)).trans ((hp_129 4 (by decide)).trans (hi_5 4 (by decide)))))).symm) (hp_196 6 (by decide)) ((((hp_196 7 (by decide)).trans ((hp_178 7 (by decide)).trans ((hp_150 7 (by decide)).trans ((hp_129 7 (by decide)).trans (hi_5 7 (by decide))))))).trans (((hp_178 7 (by decide)).trans ((hp_150 7 (by decide)).trans ((hp_129 7 (by decide)).trans (hi_5 7 (by decide)))))).symm) (hp_196 8 (by decide)) (hp_196 9 (by decide)) (hp_196 11 (by decide)) (hp_196 12 (by decide)) ((((hp_196 14 (by decide)).trans ((hp_178 14 (by decide)).trans ((hp_150 14 (by decide)).trans ((hp_129 14 (by decide)).trans ((hi_5 14 (by decide)).trans htt.symm)))))).trans (((hp_178 14 (by decide)).trans ((hp_150 14 (by decide)).trans ((hp_129 14 (by decide)).trans ((hi_5 14 (by decide)).trans htt.symm))))).symm) (hp_196 15 (by decide)) (hp_196 29 (by decide)) (fun j => (F_195.1 123 (by decide) j))
      have e_207 : μ194.1 111 9 = μ176.1 111 9 := (hp_196 9 (by decide))
      have e_208 : wr μ194 = wr μ176 := (wr_cg (hp_196 15 (by decide)))
      have e_209 : μ194.1 111 9 = μ176.1 111 9 := (hp_196 9 (by decide))
      have e_210 : μ194.1 111 29 = μ176.1 111 29 := (hp_196 29 (by decide))
      have e_211 : wr μ194 = wr μ176 := (wr_cg (hp_196 15 (by decide)))
      have e_212 : bd μ194 = bd μ176 := (bd_cg (hp_196 15 (by decide)) (hp_196 16 (by decide)))
      have e_213 : wr μ194 = wr μ176 := (wr_cg (hp_196 15 (by decide)))
      have e_214 : nn μ194 = nn μ176 := (nn_cg (hp_196 15 (by decide)) (hp_196 18 (by decide)))
      have e_215 : μ194.1 111 39 = μ176.1 111 39 := (hp_196 39 (by decide))
      have e_216 : wr μ194 = wr μ176 := (wr_cg (hp_196 15 (by decide)))
      have e_217 : nn μ194 = nn μ176 := (nn_cg (hp_196 15 (by decide)) (hp_196 18 (by decide)))
      exact ih _ _ _ _ _ _ _ (by omega) ⟨(Fr.tr (Fr.tr (Fr.tr (Fr.tr FL3 F_128 (by decide)) F_149 (by decide)) F_177 (by decide)) F_195 (by decide)), (fun j hj => ((hp_196 j (fun h9 => hj ((by decide : ∀ x ∈ ([22] : List Int), x ∈ ([6, 8, 9, 10, 11, 12, 13, 15, 16, 17, 18, 22, 29, 39] : List Int)) j h9))).trans ((hp_178 j (fun h9 => hj ((by decide : ∀ x ∈ ([6, 8, 9, 10, 11, 12, 13, 15, 16, 17, 18, 22, 29, 39] : List Int), x ∈ ([6, 8, 9, 10, 11, 12, 13, 15, 16, 17, 18, 22, 29, 39] : List Int)) j h9))).trans ((hp_150 j (fun h9 => hj ((by decide : ∀ x ∈ ([6, 8, 9, 10, 11, 12, 13, 15] : List Int), x ∈ ([6, 8, 9, 10, 11, 12, 13, 15, 16, 17, 18, 22, 29, 39] : List Int)) j h9))).trans ((hp_129 j (fun h9 => hj ((by decide : ∀ x ∈ ([22] : List Int), x ∈ ([6, 8, 9, 10, 11, 12, 13, 15, 16, 17, 18, 22, 29, 39] : List Int)) j h9))).trans (hi_5 j (fun h9 => hj ((by decide : ∀ x ∈ ([6, 8, 9, 10, 11, 12, 13, 15, 16, 17, 18, 22, 29, 39] : List Int), x ∈ ([6, 8, 9, 10, 11, 12, 13, 15, 16, 17, 18, 22, 29, 39] : List Int)) j h9)))))))), hPM_206, (by omega), (by omega), (by omega), (by omega), (by omega), (by omega), (fun j hj => ((F_195.1 126 (by decide) j).trans ((hp_186 j (by omega)).trans ((F_149.1 126 (by decide) j).trans ((F_128.1 126 (by decide) j).trans (hi_13 j (by omega))))))), (fun _ h0 => (mPX.ex ((hX_204 ()) h0)).e (by omega)), (by omega), hxt_202, rfl, lv_sub hl [2] rfl⟩ G
    · refine lv_aload_n hx hb dX12_products_18 rfl (lv_at hl 0 rfl) ?_
      refine lv_bipush (v := iv 37) hx hb dX12_products_19 rfl ?_
      refine xc_iV G (b := 111) (rest := []) (As := [.int (iv 37)]) (c_X12_isSign ω l μL2 37 (by unfold ir; omega)) (wm 9 90 rfl rfl) (wm 9 92 rfl rfl) (wm 0 135 rfl rfl) rfl rfl (by decide) rfl (wm 1 18 rfl rfl) (wm 9 93 rfl rfl) (by decide) hR ⟨nfr hF (by decide), nlo hLo (by decide)⟩ (n := 1) rfl rfl (Nat.le_of_ble_eq_true rfl) hl.1 dX12_products_21 (fun r_219 μ218 ρ d0 H locs hr_r_219 hp G => ?_)
      have hr_r_219 : -2147483648 ≤ r_219 ∧ r_219 ≤ 2147483647 := hr_r_219
      obtain ⟨hsm_220, hp_221⟩ := hp
      have hsm_220 := Eq.symm hsm_220
      subst hsm_220
      refine xb_if_eq (tgt := 55) hx hb (by unfold ir; omega) dX12_products_24 (by decide) (fun c_24 => ?_) (fun c_24 => ?_)
      · exact xr_v G hret hlk dX12_products_55 ⟨(Fr.tr Fr.rf FL3 (by decide)), (fun j hj => (hi_5 j (fun h9 => hj ((by decide : ∀ x ∈ ([6, 8, 9, 10, 11, 12, 13, 15, 16, 17, 18, 22, 29, 39] : List Int), x ∈ ([6, 8, 9, 10, 11, 12, 13, 15, 16, 17, 18, 22, 29, 39] : List Int)) j h9)))), hi_6, (by omega), (by omega), (by omega), (by omega), (by omega), (by omega), (fun j hj => (hi_13 j (by omega))), (fun _ h0 => (mPX.ex ((hX_20 ()) h0)).e (by omega)), hi_16⟩
      · refine lv_aload_n hx hb dX12_products_27 rfl (lv_at hl 0 rfl) ?_
        refine xa_geti G fd_X12 (a := 111) (x := μL2.1 111 13) 13 rfl (by decide) rfl (wm 7 162 rfl rfl) ⟨rfl, rfl, rfl⟩ dX12_products_28 rfl rfl ?_
        have hr_222 : -2147483648 ≤ μL2.1 111 13 ∧ μL2.1 111 13 ≤ 2147483647 := by have h9 := G.hr (a := 111) (k := 13) rfl; exact h9
        refine lv_istore_n (lv' := [(1, .int (iv (μL2.1 111 13))), (0, .ref (oP ω 111))]) hx hb dX12_products_31 rfl hl (by decide) rfl (fun ls hl => ?_)
        refine lv_aload_n hx hb dX12_products_32 rfl (lv_at hl 1 rfl) ?_
        refine lv_iconst (v := iv 0) hx hb dX12_products_33 rfl ?_
        have e_223 : μL2.1 111 14 = tt := ((hi_5 14 (by decide)).trans htt.symm)
        refine xc_iV G (b := 111) (rest := []) (As := [.int (iv 0)]) (c_X12_skips ω l μL2 0 tt (by unfold ir; omega) (by omega) (by omega)) (wm 9 159 rfl rfl) (wm 9 161 rfl rfl) (wm 0 152 rfl rfl) rfl rfl (by decide) rfl (wm 1 18 rfl rfl) (wm 9 162 rfl rfl) (by decide) hR ⟨nfr hF (by decide), nlo hLo (by decide)⟩ (n := 1) rfl rfl (Nat.le_of_ble_eq_true rfl) hl.1 dX12_products_34 (fun r_225 μ224 ρ d0 H locs hr_r_225 hp G => ?_)
        have hr_r_225 : -2147483648 ≤ r_225 ∧ r_225 ≤ 2147483647 := hr_r_225
        obtain ⟨F_226, hp_227, hp_228, hp_229⟩ := hp
        have hqr_r_225 : (r_225 = -1) ∨ (μ.1 111 22 ≤ r_225 ∧ r_225 < μ224.1 111 22) := by rcases hp_228 with ⟨q1, q2, q3, q4⟩ | ⟨q1, q2, q3⟩; (right; have := q2.2.1; omega); (left; exact q2)
        have hxt_230 : mEXT μ μ224 := hi_16.tr hp_228.ext
        have e_231 : wr μ224 = wr μL2 := (wr_cg (hp_227 15 (by decide)))
        have e_232 : bd μ224 = bd μL2 := (bd_cg (hp_227 15 (by decide)) (hp_227 16 (by decide)))
        have e_233 : nn μ224 = nn μL2 := (nn_cg (hp_227 15 (by decide)) (hp_227 18 (by decide)))
        replace hp_228 := fun _ : Unit => hp_228
        have e_235 : μ224.1 111 29 = μL2.1 111 29 := (hp_227 29 (by decide))
        have hX_234 : ∀ _ : Unit, bd μ224 = 0 → mPX μo μ224 tt 1 1 HH (lsk r_225 ++ []) := fun _ h0 => mPX.sk ((hX_20 ()) (by have e9 : bd μL2 = bd μL2 := rfl; have e8 : bd μ224 = bd μL2 := (bd_cg (hp_227 15 (by decide)) (hp_227 16 (by decide))); omega)) (hp_228 ()) (by omega) (by omega) (by decide)
        refine lv_istore_n (lv' := [(2, .int (iv r_225)), (1, .int (iv (μL2.1 111 13))), (0, .ref (oP ω 111))]) hx hb dX12_products_37 rfl hl (by decide) rfl (fun ls hl => ?_)
        refine lv_aload_n hx hb dX12_products_38 rfl (lv_at hl 2 rfl) ?_
        have hPM_236 : PM μ224 := hi_6.cg ((((hp_227 4 (by decide)).trans (hi_5 4 (by decide)))).trans ((hi_5 4 (by decide))).symm) (hp_227 6 (by decide)) ((((hp_227 7 (by decide)).trans (hi_5 7 (by decide)))).trans ((hi_5 7 (by decide))).symm) (hp_227 8 (by decide)) (hp_227 9 (by decide)) (hp_227 11 (by decide)) (hp_227 12 (by decide)) ((((hp_227 14 (by decide)).trans ((hi_5 14 (by decide)).trans htt.symm))).trans (((hi_5 14 (by decide)).trans htt.symm)).symm) (hp_227 15 (by decide)) (hp_227 29 (by decide)) (fun j => (F_226.1 123 (by decide) j))
        have e_237 : wr μ224 = wr μL2 := (wr_cg (hp_227 15 (by decide)))
        have e_238 : nn μ224 = nn μL2 := (nn_cg (hp_227 15 (by decide)) (hp_227 18 (by decide)))
        have e_239 : μ224.1 111 8 = μL2.1 111 8 := (hp_227 8 (by decide))
        have e_240 : wr μ224 = wr μL2 := (wr_cg (hp_227 15 (by decide)))
        have e_241 : μ224.1 111 9 = μL2.1 111 9 := (hp_227 9 (by decide))
        have e_242 : wr μ224 = wr μL2 := (wr_cg (hp_227 15 (by decide)))
        have e_243 : wr μ224 = wr μL2 := (wr_cg (hp_227 15 (by decide)))
        have e_244 : bd μ224 = bd μL2 := (bd_cg (hp_227 15 (by decide)) (hp_227 16 (by decide)))
        have e_245 : nn μ224 = nn μL2 := (nn_cg (hp_227 15 (by decide)) (hp_227 18 (by decide)))
        refine xc_vV G (b := 111) (rest := []) (As := []) (c_X12_next ω l μ224  hPM_236 (by omega) (by omega)) (wm 9 0 rfl rfl) (wm 9 2 rfl rfl) (wm 0 119 rfl rfl) rfl rfl (by decide) rfl (wm 1 18 rfl rfl) (wm 9 3 rfl rfl) (by decide) hR ⟨nfr hF (by decide), nlo hLo (by decide)⟩ (n := 0) rfl rfl (Nat.le_of_ble_eq_true rfl) hl.1 dX12_products_39 (fun μ246 ρ d0 H locs hp G => ?_)
        obtain ⟨F_247, hp_248, hp_249, hp_250, hp_251, hp_252⟩ := hp
        have hpl_253 := hp_249.pl
        have hw_254 := wr_r (μ := μ224)
        have hw_255 := wr_r (μ := μ246)
        refine lv_aload_n hx hb dX12_products_42 rfl (lv_at hl 2 rfl) ?_
        have e_256 : μ246.1 111 29 = μL2.1 111 29 := ((hp_248 29 (by decide)).trans (hp_227 29 (by decide)))
        have e_258 : μ246.1 111 29 = μL2.1 111 29 := ((hp_248 29 (by decide)).trans (hp_227 29 (by decide)))
        have hX_257 : ∀ _ : Unit, bd μ246 = 0 → mPX μo μ246 tt 1 1 HH (lsk r_225 ++ []) := fun _ h0 => (hX_234 () (by have e9 : bd μ224 = bd μL2 := (bd_cg (hp_227 15 (by decide)) (hp_227 16 (by decide))); have e8 : bd μ246 = bd μ246 := rfl; omega)).qm (q0m.fr (K := [111]) (Fr.tr Fr.rf F_247 (by decide)) (by decide) (by decide) (by decide) (hp_248 22 (by decide)) (by omega))
        have e_259 : μ246.1 111 29 = μL2.1 111 29 := ((hp_248 29 (by decide)).trans (hp_227 29 (by decide)))
        have e_260 : μ246.1 111 29 = μL2.1 111 29 := ((hp_248 29 (by decide)).trans (hp_227 29 (by decide)))
        have hxt_261 : mEXT μ μ246 := hxt_230.tr (q0m.fr (K := [111]) (Fr.tr Fr.rf F_247 (by decide)) (by decide) (by decide) (by decide) (hp_248 22 (by decide)) (by omega)).1
        have e_262 : μ246.1 111 14 = tt := ((hp_248 14 (by decide)).trans ((hp_227 14 (by decide)).trans ((hi_5 14 (by decide)).trans htt.symm)))
        have e_263 : μ246.1 111 22 = μ224.1 111 22 := (hp_248 22 (by decide))
        have e_264 : μ246.1 111 22 = μ224.1 111 22 := (hp_248 22 (by decide))
        have e_265 : μ246.1 111 39 = μL2.1 111 39 := ((hp_248 39 (by decide)).trans (hp_227 39 (by decide)))
        have e_266 : μ246.1 111 39 = μL2.1 111 39 := ((hp_248 39 (by decide)).trans (hp_227 39 (by decide)))
        have e_267 : μ246.1 111 22 = μ224.1 111 22 := (hp_248 22 (by decide))
        have e_268 : μ246.1 111 31 = μ.1 111 31 := ((hp_248 31 (by decide)).trans ((hp_227 31 (by decide)).trans (hi_5 31 (by decide))))
        have e_269 : μ246.1 111 31 = μ.1 111 31 := ((hp_248 31 (by decide)).trans ((hp_227 31 (by decide)).trans (hi_5 31 (by decide))))
        have e_270 : μ246.1 111 22 = μ224.1 111 22 := (hp_248 22 (by decide))
        have e_271 : μ246.1 111 22 = μ224.1 111 22 := (hp_248 22 (by decide))
        have e_272 : μ246.1 111 29 = μL2.1 111 29 := ((hp_248 29 (by decide)).trans (hp_227 29 (by decide)))
        have e_273 : μ246.1 111 39 = μL2.1 111 39 := ((hp_248 39 (by decide)).trans (hp_227 39 (by decide)))
        refine xc_vV G (b := 111) (rest := []) (As := []) (c_X12_unary ω l μ246 F Lo Fu Lu kf tt (by omega) hF hLo hFu hLu hE hU hp_249 (by omega) (by omega) (by omega) (by omega) (by omega) (by omega) (fun _ h0 => ((hX_257 ()) h0).h1.1)) (wm 9 155 rfl rfl) (wm 9 157 rfl rfl) (wm 0 151 rfl rfl) rfl rfl (by decide) rfl (wm 1 18 rfl rfl) (wm 9 158 rfl rfl) (by decide) hR ⟨sfr (F := F) (a := 4) (by decide), slo (L := Lo) (m := 6) (a := 93) (by decide)⟩ (n := 0) rfl rfl (Nat.le_of_ble_eq_true rfl) hl.1 dX12_products_43 (fun μ274 ρ d0 H locs hp G => ?_)
        obtain ⟨F_275, hp_276, hp_277, hp_278, hp_279, hp_280, hp_281, hp_282, hp_283, hp_284, hp_285, hp_286⟩ := hp
        have hpl_287 := hp_277.pl
        have hw_288 := wr_r (μ := μ274)
        have hxt_289 : mEXT μ μ274 := hxt_261.tr hp_286
        have hX_290 : ∀ _ : Unit, bd μ274 = 0 → mPX μo μ274 tt 2 1 HH (lsk r_225 ++ []) := fun _ h0 => (((hX_257 ()) (by have e9 : bd μ246 = bd μ246 := rfl; have e8 : bd μ274 = bd μ274 := rfl; omega)).app (hp_285 () h0) (by omega)).ee (by omega)
        refine lv_aload_n hx hb dX12_products_46 rfl (lv_at hl 2 rfl) ?_
        refine lv_iload_n hx hb dX12_products_47 rfl (lv_at hl 1 rfl) ?_
        refine lv_iload_n hx hb dX12_products_48 rfl (lv_at hl 0 rfl) ?_
        have e_291 : μ274.1 111 14 = tt := ((hp_276 14 (by decide)).trans ((hp_248 14 (by decide)).trans ((hp_227 14 (by decide)).trans ((hi_5 14 (by decide)).trans htt.symm))))
        refine xc_vV G (b := 111) (rest := []) (As := [.int (iv (μL2.1 111 13)), .int (iv r_225)]) (c_X12_two ω l μ274 (μL2.1 111 13) r_225 μo (HH) tt (by unfold ir; omega) (by unfold ir; omega) (by omega) (by omega) (by omega) (fun _ => (hX_290 ()))) (wm 9 223 rfl rfl) (wm 9 225 rfl rfl) (wm 0 168 rfl rfl) rfl rfl (by decide) rfl (wm 1 18 rfl rfl) (wm 9 226 rfl rfl) (by decide) hR ⟨nfr hF (by decide), nlo hLo (by decide)⟩ (n := 2) rfl rfl (Nat.le_of_ble_eq_true rfl) hl.1 dX12_products_49 (fun μ292 ρ d0 H locs hp G => ?_)
        obtain ⟨F_293, hp_294, hp_295, hp_296, hp_297, hp_298⟩ := hp
        have hw_299 := wr_r (μ := μ292)
        have hxt_300 : mEXT μ μ292 := hp_298 _ hxt_289 (by omega)
        have e_301 : bd μ292 = bd μ274 := (bd_cg (hp_294 15 (by decide)) (hp_294 16 (by decide)))
        have e_303 : μ292.1 111 29 = μ274.1 111 29 := (hp_294 29 (by decide))
        have hX_302 : ∀ _ : Unit, bd μ292 = 0 → mPX μo μ292 tt 1 1 HH [] := fun _ h0 => mPX.of (hp_297 () h0)
        refine lv_goto (tgt := 0) hx hb dX12_products_52 (by decide) ?_
        have hPM_304 : PM μ292 := hp_277.cg ((((hp_294 4 (by decide)).trans ((hp_276 4 (by decide)).trans ((hp_248 4 (by decide)).trans ((hp_227 4 (by decide)).trans (hi_5 4 (by decide))))))).trans (((hp_276 4 (by decide)).trans ((hp_248 4 (by decide)).trans ((hp_227 4 (by decide)).trans (hi_5 4 (by decide)))))).symm) (hp_294 6 (by decide)) ((((hp_294 7 (by decide)).trans ((hp_276 7 (by decide)).trans ((hp_248 7 (by decide)).trans ((hp_227 7 (by decide)).trans (hi_5 7 (by decide))))))).trans (((hp_276 7 (by decide)).trans ((hp_248 7 (by decide)).trans ((hp_227 7 (by decide)).trans (hi_5 7 (by decide)))))).symm) (hp_294 8 (by decide)) (hp_294 9 (by decide)) (hp_294 11 (by decide)) (hp_294 12 (by decide)) ((((hp_294 14 (by decide)).trans ((hp_276 14 (by decide)).trans ((hp_248 14 (by decide)).trans ((hp_227 14 (by decide)).trans ((hi_5 14 (by decide)).trans htt.symm)))))).trans (((hp_276 14 (by decide)).trans ((hp_248 14 (by decide)).trans ((hp_227 14 (by decide)).trans ((hi_5 14 (by decide)).trans htt.symm))))).symm) (hp_294 15 (by decide)) (hp_294 29 (by decide)) (fun j => (F_293.1 123 (by decide) j))
        have e_305 : μ292.1 111 9 = μ274.1 111 9 := (hp_294 9 (by decide))
        have e_306 : wr μ292 = wr μ274 := (wr_cg (hp_294 15 (by decide)))
        have e_307 : μ292.1 111 9 = μ274.1 111 9 := (hp_294 9 (by decide))
        have e_308 : μ292.1 111 29 = μ274.1 111 29 := (hp_294 29 (by decide))
        have e_309 : wr μ292 = wr μ274 := (wr_cg (hp_294 15 (by decide)))
        have e_310 : bd μ292 = bd μ274 := (bd_cg (hp_294 15 (by decide)) (hp_294 16 (by decide)))
        have e_311 : wr μ292 = wr μ274 := (wr_cg (hp_294 15 (by decide)))
        have e_312 : nn μ292 = nn μ274 := (nn_cg (hp_294 15 (by decide)) (hp_294 18 (by decide)))
        have e_313 : μ292.1 111 39 = μ274.1 111 39 := (hp_294 39 (by decide))
        have e_314 : wr μ292 = wr μ274 := (wr_cg (hp_294 15 (by decide)))
        have e_315 : nn μ292 = nn μ274 := (nn_cg (hp_294 15 (by decide)) (hp_294 18 (by decide)))
        exact ih _ _ _ _ _ _ _ (by omega) ⟨(Fr.tr (Fr.tr (Fr.tr (Fr.tr FL3 F_226 (by decide)) F_247 (by decide)) F_275 (by decide)) F_293 (by decide)), (fun j hj => ((hp_294 j (fun h9 => hj ((by decide : ∀ x ∈ ([22] : List Int), x ∈ ([6, 8, 9, 10, 11, 12, 13, 15, 16, 17, 18, 22, 29, 39] : List Int)) j h9))).trans ((hp_276 j (fun h9 => hj ((by decide : ∀ x ∈ ([6, 8, 9, 10, 11, 12, 13, 15, 16, 17, 18, 22, 29, 39] : List Int), x ∈ ([6, 8, 9, 10, 11, 12, 13, 15, 16, 17, 18, 22, 29, 39] : List Int)) j h9))).trans ((hp_248 j (fun h9 => hj ((by decide : ∀ x ∈ ([6, 8, 9, 10, 11, 12, 13, 15] : List Int), x ∈ ([6, 8, 9, 10, 11, 12, 13, 15, 16, 17, 18, 22, 29, 39] : List Int)) j h9))).trans ((hp_227 j (fun h9 => hj ((by decide : ∀ x ∈ ([22] : List Int), x ∈ ([6, 8, 9, 10, 11, 12, 13, 15, 16, 17, 18, 22, 29, 39] : List Int)) j h9))).trans (hi_5 j (fun h9 => hj ((by decide : ∀ x ∈ ([6, 8, 9, 10, 11, 12, 13, 15, 16, 17, 18, 22, 29, 39] : List Int), x ∈ ([6, 8, 9, 10, 11, 12, 13, 15, 16, 17, 18, 22, 29, 39] : List Int)) j h9)))))))), hPM_304, (by omega), (by omega), (by omega), (by omega), (by omega), (by omega), (fun j hj => ((F_293.1 126 (by decide) j).trans ((hp_284 j (by omega)).trans ((F_247.1 126 (by decide) j).trans ((F_226.1 126 (by decide) j).trans (hi_13 j (by omega))))))), (fun _ h0 => (mPX.ex ((hX_302 ()) h0)).e (by omega)), (by omega), hxt_300, rfl, lv_sub hl [2] rfl⟩ G

set_option maxHeartbeats 4000000 in
set_option maxRecDepth 100000 in
theorem c_X12_product (ω : Om) (l : Launch) (μ : M3) (F : Nat) (Lo : Nat) (Fu : Nat) (Lu : Nat) (kf : Int) (tt : Int) (htt : tt = μ.1 111 14) (hF : 60 ≤ F) (hLo : 2000 ≤ Lo) (hFu : Fu ≤ F) (hLu : Lu ≤ Lo) (hE : ∀ (μ : M3) (tt : Int) (htt : tt = μ.1 111 14) (hPM : PM μ) (hnn : 0 ≤ nn μ ∧ nn μ ≤ 9 ∧ 9 * wr μ ≤ nn μ) (hn8 : nn μ ≤ 8 + wr μ) (hcd : 0 ≤ μ.1 111 22 ∧ μ.1 111 22 ≤ 2 * μ.1 111 9 + 200 + 40 * wr μ) (hW : 0 ≤ μ.1 111 39 ∧ μ.1 111 39 ≤ μ.1 111 22) (hsl : 0 ≤ μ.1 111 31 ∧ μ.1 111 31 ≤ 300) (hfu : 0 ≤ (kf - 1) ∧ 9 ≤ nn μ + (kf - 1)) (hH0 : ∀ _ : Unit, bd μ = 0 → mH0 μ), CtV ω l yX12_expr cX12_expr 1 (F + 0) (Lo + 0) [.ref (oP ω 111)] μ (fun (μ' : M3) => (Fr [111, 113, 115, 116, 117, 123, 126] μ μ') ∧ (∀ j, j ∉ ([6, 8, 9, 10, 11, 12, 13, 15, 16, 17, 18, 22, 29, 39] : List Int) → μ'.1 111 j = μ.1 111 j) ∧ (PM μ') ∧ (μ.1 111 22 ≤ μ'.1 111 22 ∧ μ'.1 111 22 ≤ μ.1 111 22 + 2 * (μ'.1 111 9 - μ.1 111 9) + (- 1 + 3 * wr μ' - 2 * wr μ)) ∧ (μ.1 111 9 ≤ μ'.1 111 9) ∧ (μ.1 111 29 ≤ μ'.1 111 29) ∧ (wr μ ≤ wr μ' ∧ bd μ ≤ bd μ') ∧ (nn μ ≤ nn μ' ∧ nn μ' ≤ nn μ + 9 * wr μ' ∧ nn μ' ≤ 9 ∧ 9 * wr μ' ≤ nn μ') ∧ (μ'.1 111 39 = μ.1 111 39) ∧ (∀ j, j < μ.1 111 39 → μ'.1 126 j = μ.1 126 j) ∧ (∀ _ : Unit, bd μ' = 0 → mEX μ μ' tt 1 0 (11 * (9 - nn μ))) ∧ (mEXT μ μ'))) (hU : ∀ (μ : M3) (tt : Int) (htt : tt = μ.1 111 14) (hPM : PM μ) (hnn : 0 ≤ nn μ ∧ nn μ ≤ 9 ∧ 9 * wr μ ≤ nn μ) (hn8 : nn μ ≤ 8 + wr μ) (hcd : 0 ≤ μ.1 111 22 ∧ μ.1 111 22 ≤ 2 * μ.1 111 9 + 200 + 40 * wr μ) (hW : 0 ≤ μ.1 111 39 ∧ μ.1 111 39 ≤ μ.1 111 22) (hsl : 0 ≤ μ.1 111 31 ∧ μ.1 111 31 ≤ 300) (hfu : 0 ≤ (kf - 1) ∧ 9 ≤ nn μ + (kf - 1)) (hH0 : ∀ _ : Unit, bd μ = 0 → mH0 μ), CtV ω l yX12_unary cX12_unary 6 (Fu + 0) (Lu + 0) [.ref (oP ω 111)] μ (fun (μ' : M3) => (Fr [111, 113, 115, 116, 117, 123, 126] μ μ') ∧ (∀ j, j ∉ ([6, 8, 9, 10, 11, 12, 13, 15, 16, 17, 18, 22, 29, 39] : List Int) → μ'.1 111 j = μ.1 111 j) ∧ (PM μ') ∧ (μ.1 111 22 ≤ μ'.1 111 22 ∧ μ'.1 111 22 ≤ μ.1 111 22 + 2 * (μ'.1 111 9 - μ.1 111 9) + (- 1 + 3 * wr μ' - 2 * wr μ)) ∧ (μ.1 111 9 ≤ μ'.1 111 9) ∧ (μ.1 111 29 ≤ μ'.1 111 29) ∧ (wr μ ≤ wr μ' ∧ bd μ ≤ bd μ') ∧ (nn μ ≤ nn μ' ∧ nn μ' ≤ nn μ + 9 * wr μ' ∧ nn μ' ≤ 9 ∧ 9 * wr μ' ≤ nn μ') ∧ (μ'.1 111 39 = μ.1 111 39) ∧ (∀ j, j < μ.1 111 39 → μ'.1 126 j = μ.1 126 j) ∧ (∀ _ : Unit, bd μ' = 0 → mEX μ μ' tt 1 0 (11 * (9 - nn μ) - 3)) ∧ (mEXT μ μ'))) (hPM : PM μ) (hnn : 0 ≤ nn μ ∧ nn μ ≤ 9 ∧ 9 * wr μ ≤ nn μ) (hn8 : nn μ ≤ 8 + wr μ) (hcd : 0 ≤ μ.1 111 22 ∧ μ.1 111 22 ≤ 2 * μ.1 111 9 + 200 + 40 * wr μ) (hW : 0 ≤ μ.1 111 39 ∧ μ.1 111 39 ≤ μ.1 111 22) (hsl : 0 ≤ μ.1 111 31 ∧ μ.1 111 31 ≤ 300) (hfu : 0 ≤ kf ∧ 9 ≤ nn μ + kf) (hH0 : ∀ _ : Unit, bd μ = 0 → mH0 μ) : CtV ω l yX12_product cX12_product 1 (F + 6) (Lo + 140) [.ref (oP ω 111)] μ (fun (μ' : M3) => (Fr [111, 113, 115, 116, 117, 123, 126] μ μ') ∧ (∀ j, j ∉ ([6, 8, 9, 10, 11, 12, 13, 15, 16, 17, 18, 22, 29, 39] : List Int) → μ'.1 111 j = μ.1 111 j) ∧ (PM μ') ∧ (μ.1 111 22 ≤ μ'.1 111 22 ∧ μ'.1 111 22 ≤ μ.1 111 22 + 2 * (μ'.1 111 9 - μ.1 111 9) + (- 1 + 3 * wr μ' - 2 * wr μ)) ∧ (μ.1 111 9 ≤ μ'.1 111 9) ∧ (μ.1 111 29 ≤ μ'.1 111 29) ∧ (wr μ ≤ wr μ' ∧ bd μ ≤ bd μ') ∧ (nn μ ≤ nn μ' ∧ nn μ' ≤ nn μ + 9 * wr μ' ∧ nn μ' ≤ 9 ∧ 9 * wr μ' ≤ nn μ') ∧ (μ'.1 111 39 = μ.1 111 39) ∧ (∀ j, j < μ.1 111 39 → μ'.1 126 j = μ.1 126 j) ∧ (∀ _ : Unit, bd μ' = 0 → mEX μ μ' tt 1 0 (11 * (9 - nn μ) - 2)) ∧ (mEXT μ μ')) := by
  refine CtV.go (by decide) (Nat.le_of_ble_eq_true rfl) (fun ρ p e s m below meth c R ls G hR hret hlk hl => ?_)
  have hx := G.1.1
  have hb := G.1.2.1
  have hl : lv_has ls 1 [(0, .ref (oP ω 111))] := hl
  generalize s.drawn = d0 at G ⊢
  have hw_0 := wr_r (μ := μ)
  have hpp_ := hPM.1.2.1
  have hpn_ := hPM.2.1
  have hpt_ := hPM.1.2.2.2.1
  have hpw_ := hPM.1.2.2.2.2.1
  have hpa_ := hPM.1.1
  have hX_1 : ∀ _ : Unit, bd μ = 0 → mPX μ μ tt 0 1 (11 * (9 - nn μ) - 2) [] := fun _ h0 => mPX.nil (hH0 () h0) (by omega)
  refine lv_aload_n hx hb dX12_product_0 rfl (lv_at hl 0 rfl) ?_
  have e_2 : μ.1 111 14 = tt := htt.symm
  refine xc_vV G (b := 111) (rest := []) (As := []) (c_X12_unary ω l μ F Lo Fu Lu kf tt (by omega) hF hLo hFu hLu hE hU hPM (by omega) (by omega) (by omega) (by omega) (by omega) (by omega) (fun _ h0 => ((hX_1 ()) h0).h1.1)) (wm 9 155 rfl rfl) (wm 9 157 rfl rfl) (wm 0 151 rfl rfl) rfl rfl (by decide) rfl (wm 1 18 rfl rfl) (wm 9 158 rfl rfl) (by decide) hR ⟨sfr (F := F) (a := 4) (by decide), slo (L := Lo) (m := 6) (a := 93) (by decide)⟩ (n := 0) rfl rfl (Nat.le_of_ble_eq_true rfl) hl.1 dX12_product_1 (fun μ3 ρ d0 H locs hp G => ?_)
  obtain ⟨F_4, hp_5, hp_6, hp_7, hp_8, hp_9, hp_10, hp_11, hp_12, hp_13, hp_14, hp_15⟩ := hp
  have hpl_16 := hp_6.pl
  have hw_17 := wr_r (μ := μ3)
  have hxt_18 : mEXT μ μ3 := (mEXT.rf (μ := μ)).tr hp_15
  have hX_19 : ∀ _ : Unit, bd μ3 = 0 → mPX μ μ3 tt 1 1 (11 * (9 - nn μ) - 2) [] := fun _ h0 => (((hX_1 ()) (by have e9 : bd μ = bd μ := rfl; have e8 : bd μ3 = bd μ3 := rfl; omega)).app (hp_14 () h0) (by omega)).ee (by omega)
  refine lv_aload_n hx hb dX12_product_4 rfl (lv_at hl 0 rfl) ?_
  have e_20 : μ3.1 111 14 = tt := ((hp_5 14 (by decide)).trans htt.symm)
  have e_21 : μ3.1 111 31 = μ.1 111 31 := (hp_5 31 (by decide))
  have e_22 : μ3.1 111 31 = μ.1 111 31 := (hp_5 31 (by decide))
  refine xc_vV G (b := 111) (rest := []) (As := []) (c_X12_products ω l μ3 F Lo Fu Lu kf μ (11 * (9 - nn μ) - 2) tt (by omega) hF hLo hFu hLu hE hU hp_6 (by omega) (by omega) (by omega) (by omega) (by omega) (by omega) (fun _ h0 => (mPX.ex ((hX_19 ()) h0)).e (by omega)) (by omega)) (wm 9 219 rfl rfl) (wm 9 221 rfl rfl) (wm 0 167 rfl rfl) rfl rfl (by decide) rfl (wm 1 18 rfl rfl) (wm 9 222 rfl rfl) (by decide) hR ⟨sfr (F := F) (a := 5) (by decide), slo (L := Lo) (m := 3) (a := 118) (by decide)⟩ (n := 0) rfl rfl (Nat.le_of_ble_eq_true rfl) hl.1 dX12_product_5 (fun μ23 ρ d0 H locs hp G => ?_)
  obtain ⟨F_24, hp_25, hp_26, hp_27, hp_28, hp_29, hp_30, hp_31, hp_32, hp_33, hp_34, hp_35⟩ := hp
  have hpl_36 := hp_26.pl
  have hw_37 := wr_r (μ := μ23)
  have hxt_38 : mEXT μ μ23 := hxt_18.tr hp_35
  have hX_39 : ∀ _ : Unit, bd μ23 = 0 → mPX μ μ23 tt 1 1 (11 * (9 - nn μ) - 2) [] := fun _ h0 => mPX.of (hp_34 () h0)
  exact xr_v G hret hlk dX12_product_8 ⟨(Fr.tr (Fr.tr Fr.rf F_4 (by decide)) F_24 (by decide)), (fun j hj => ((hp_25 j (fun h9 => hj ((by decide : ∀ x ∈ ([6, 8, 9, 10, 11, 12, 13, 15, 16, 17, 18, 22, 29, 39] : List Int), x ∈ ([6, 8, 9, 10, 11, 12, 13, 15, 16, 17, 18, 22, 29, 39] : List Int)) j h9))).trans (hp_5 j (fun h9 => hj ((by decide : ∀ x ∈ ([6, 8, 9, 10, 11, 12, 13, 15, 16, 17, 18, 22, 29, 39] : List Int), x ∈ ([6, 8, 9, 10, 11, 12, 13, 15, 16, 17, 18, 22, 29, 39] : List Int)) j h9))))), hp_26, (by omega), (by omega), (by omega), (by omega), (by omega), (by omega), (fun j hj => ((hp_33 j (by omega)).trans (hp_13 j (by omega)))), (fun _ h0 => (mPX.ex ((hX_39 ()) h0)).e (by omega)), hxt_38⟩

set_option maxHeartbeats 4000000 in
set_option maxRecDepth 100000 in
theorem c_X12_sums (ω : Om) (l : Launch) (μ : M3) (F : Nat) (Lo : Nat) (Fu : Nat) (Lu : Nat) (kf : Int) (μo : M3) (HH : Int) (tt : Int) (htt : tt = μ.1 111 14) (hF : 60 ≤ F) (hLo : 2000 ≤ Lo) (hFu : Fu ≤ F) (hLu : Lu ≤ Lo) (hE : ∀ (μ : M3) (tt : Int) (htt : tt = μ.1 111 14) (hPM : PM μ) (hnn : 0 ≤ nn μ ∧ nn μ ≤ 9 ∧ 9 * wr μ ≤ nn μ) (hn8 : nn μ ≤ 8 + wr μ) (hcd : 0 ≤ μ.1 111 22 ∧ μ.1 111 22 ≤ 2 * μ.1 111 9 + 200 + 40 * wr μ) (hW : 0 ≤ μ.1 111 39 ∧ μ.1 111 39 ≤ μ.1 111 22) (hsl : 0 ≤ μ.1 111 31 ∧ μ.1 111 31 ≤ 300) (hfu : 0 ≤ (kf - 1) ∧ 9 ≤ nn μ + (kf - 1)) (hH0 : ∀ _ : Unit, bd μ = 0 → mH0 μ), CtV ω l yX12_expr cX12_expr 1 (F + 0) (Lo + 0) [.ref (oP ω 111)] μ (fun (μ' : M3) => (Fr [111, 113, 115, 116, 117, 123, 126] μ μ') ∧ (∀ j, j ∉ ([6, 8, 9, 10, 11, 12, 13, 15, 16, 17, 18, 22, 29, 39] : List Int) → μ'.1 111 j = μ.1 111 j) ∧ (PM μ') ∧ (μ.1 111 22 ≤ μ'.1 111 22 ∧ μ'.1 111 22 ≤ μ.1 111 22 + 2 * (μ'.1 111 9 - μ.1 111 9) + (- 1 + 3 * wr μ' - 2 * wr μ)) ∧ (μ.1 111 9 ≤ μ'.1 111 9) ∧ (μ.1 111 29 ≤ μ'.1 111 29) ∧ (wr μ ≤ wr μ' ∧ bd μ ≤ bd μ') ∧ (nn μ ≤ nn μ' ∧ nn μ' ≤ nn μ + 9 * wr μ' ∧ nn μ' ≤ 9 ∧ 9 * wr μ' ≤ nn μ') ∧ (μ'.1 111 39 = μ.1 111 39) ∧ (∀ j, j < μ.1 111 39 → μ'.1 126 j = μ.1 126 j) ∧ (∀ _ : Unit, bd μ' = 0 → mEX μ μ' tt 1 0 (11 * (9 - nn μ))) ∧ (mEXT μ μ'))) (hU : ∀ (μ : M3) (tt : Int) (htt : tt = μ.1 111 14) (hPM : PM μ) (hnn : 0 ≤ nn μ ∧ nn μ ≤ 9 ∧ 9 * wr μ ≤ nn μ) (hn8 : nn μ ≤ 8 + wr μ) (hcd : 0 ≤ μ.1 111 22 ∧ μ.1 111 22 ≤ 2 * μ.1 111 9 + 200 + 40 * wr μ) (hW : 0 ≤ μ.1 111 39 ∧ μ.1 111 39 ≤ μ.1 111 22) (hsl : 0 ≤ μ.1 111 31 ∧ μ.1 111 31 ≤ 300) (hfu : 0 ≤ (kf - 1) ∧ 9 ≤ nn μ + (kf - 1)) (hH0 : ∀ _ : Unit, bd μ = 0 → mH0 μ), CtV ω l yX12_unary cX12_unary 6 (Fu + 0) (Lu + 0) [.ref (oP ω 111)] μ (fun (μ' : M3) => (Fr [111, 113, 115, 116, 117, 123, 126] μ μ') ∧ (∀ j, j ∉ ([6, 8, 9, 10, 11, 12, 13, 15, 16, 17, 18, 22, 29, 39] : List Int) → μ'.1 111 j = μ.1 111 j) ∧ (PM μ') ∧ (μ.1 111 22 ≤ μ'.1 111 22 ∧ μ'.1 111 22 ≤ μ.1 111 22 + 2 * (μ'.1 111 9 - μ.1 111 9) + (- 1 + 3 * wr μ' - 2 * wr μ)) ∧ (μ.1 111 9 ≤ μ'.1 111 9) ∧ (μ.1 111 29 ≤ μ'.1 111 29) ∧ (wr μ ≤ wr μ' ∧ bd μ ≤ bd μ') ∧ (nn μ ≤ nn μ' ∧ nn μ' ≤ nn μ + 9 * wr μ' ∧ nn μ' ≤ 9 ∧ 9 * wr μ' ≤ nn μ') ∧ (μ'.1 111 39 = μ.1 111 39) ∧ (∀ j, j < μ.1 111 39 → μ'.1 126 j = μ.1 126 j) ∧ (∀ _ : Unit, bd μ' = 0 → mEX μ μ' tt 1 0 (11 * (9 - nn μ) - 3)) ∧ (mEXT μ μ'))) (hPM : PM μ) (hnn : 0 ≤ nn μ ∧ nn μ ≤ 9 ∧ 9 * wr μ ≤ nn μ) (hn8 : nn μ ≤ 8 + wr μ) (hcd : 0 ≤ μ.1 111 22 ∧ μ.1 111 22 ≤ 2 * μ.1 111 9 + 200 + 40 * wr μ) (hW : 0 ≤ μ.1 111 39 ∧ μ.1 111 39 ≤ μ.1 111 22) (hsl : 0 ≤ μ.1 111 31 ∧ μ.1 111 31 ≤ 300) (hfu : 0 ≤ kf ∧ 9 ≤ nn μ + kf) (hEX : ∀ _ : Unit, bd μ = 0 → mEX μo μ tt 1 0 HH) (hHH : 11 * (9 - nn μ) - 2 + 1 ≤ HH) : CtV ω l yX12_sums cX12_sums 3 (F + 7) (Lo + 160) [.ref (oP ω 111)] μ (fun (μ' : M3) => (Fr [111, 113, 115, 116, 117, 123, 126] μ μ') ∧ (∀ j, j ∉ ([6, 8, 9, 10, 11, 12, 13, 15, 16, 17, 18, 22, 29, 39] : List Int) → μ'.1 111 j = μ.1 111 j) ∧ (PM μ') ∧ (μ.1 111 22 ≤ μ'.1 111 22 ∧ μ'.1 111 22 ≤ μ.1 111 22 + 2 * (μ'.1 111 9 - μ.1 111 9) + (0 + 3 * wr μ' - 3 * wr μ)) ∧ (μ.1 111 9 ≤ μ'.1 111 9) ∧ (μ.1 111 29 ≤ μ'.1 111 29) ∧ (wr μ ≤ wr μ' ∧ bd μ ≤ bd μ') ∧ (nn μ ≤ nn μ' ∧ nn μ' ≤ nn μ + 9 * wr μ' ∧ nn μ' ≤ 9 ∧ 9 * wr μ' ≤ nn μ') ∧ (μ'.1 111 39 = μ.1 111 39) ∧ (∀ j, j < μ.1 111 39 → μ'.1 126 j = μ.1 126 j) ∧ (∀ _ : Unit, bd μ' = 0 → mEX μo μ' tt 1 0 HH) ∧ (mEXT μ μ')) := by
  refine CtV.go (by decide) (Nat.le_of_ble_eq_true rfl) (fun ρ p e s m below meth c R ls G hR hret hlk hl => ?_)
  have hx := G.1.1
  have hb := G.1.2.1
  have hl : lv_has ls 3 [(0, .ref (oP ω 111))] := hl
  generalize s.drawn = d0 at G ⊢
  have hw_0 := wr_r (μ := μ)
  have hpp_ := hPM.1.2.1
  have hpn_ := hPM.2.1
  have hpt_ := hPM.1.2.2.2.1
  have hpw_ := hPM.1.2.2.2.2.1
  have hpa_ := hPM.1.1
  have hX_1 : ∀ _ : Unit, bd μ = 0 → mPX μo μ tt 1 1 HH [] := fun _ h0 => mPX.of (hEX () h0)
  refine xl (fun n_9 μ' ls => (Fr [111, 113, 115, 116, 117, 123, 126] μ μ') ∧ (∀ j, j ∉ ([6, 8, 9, 10, 11, 12, 13, 15, 16, 17, 18, 22, 29, 39] : List Int) → μ'.1 111 j = μ.1 111 j) ∧ (PM μ') ∧ (μ.1 111 22 ≤ μ'.1 111 22 ∧ μ'.1 111 22 ≤ μ.1 111 22 + 2 * (μ'.1 111 9 - μ.1 111 9) + (0 + 3 * wr μ' - 3 * wr μ)) ∧ (μ.1 111 9 ≤ μ'.1 111 9) ∧ (μ.1 111 29 ≤ μ'.1 111 29) ∧ (wr μ ≤ wr μ' ∧ bd μ ≤ bd μ') ∧ (nn μ ≤ nn μ' ∧ nn μ' ≤ nn μ + 9 * wr μ' ∧ nn μ' ≤ 9 ∧ 9 * wr μ' ≤ nn μ') ∧ (μ'.1 111 39 = μ.1 111 39) ∧ (∀ j, j < μ.1 111 39 → μ'.1 126 j = μ.1 126 j) ∧ (∀ _ : Unit, bd μ' = 0 → mEX μo μ' tt 1 0 HH) ∧ (nn μ' ≤ 8 + wr μ') ∧ (mEXT μ μ') ∧ n_9 = Int.toNat (3001 - μ'.1 111 9) ∧ lv_has ls 3 [(0, .ref (oP ω 111))]) (fun n_9 ρ μL2 d0 H locs ls hI_l G ih => ?_) _ _ _ _ _ _ _ ⟨Fr.rf, (fun j hj => rfl), hPM, (by omega), (by omega), (by omega), (by omega), (by omega), (by omega), (fun j hj => rfl), (fun _ h0 => (mPX.ex ((hX_1 ()) h0)).e (by omega)), (by omega), (mEXT.rf (μ := μ)), rfl, lv_sub hl [0] rfl⟩ G
  obtain ⟨FL3, hi_5, hi_6, hi_7, hi_8, hi_9, hi_10, hi_11, hi_12, hi_13, hi_14, hi_15, hi_16, hn4, hl⟩ := hI_l
  have hw_17 := wr_r (μ := μL2)
  have hw_18 := wr_r (μ := μL2)
  have hpl_19 := hi_6.pl
  have hX_20 : ∀ _ : Unit, bd μL2 = 0 → mPX μo μL2 tt 1 1 HH [] := fun _ h0 => mPX.of (hi_14 () h0)
  refine lv_aload_n hx hb dX12_sums_0 rfl (lv_at hl 0 rfl) ?_
  refine lv_bipush (v := iv 43) hx hb dX12_sums_1 rfl ?_
  have hw_21 := wr_r (μ := μL2)
  refine xc_iV G (b := 111) (rest := []) (As := [.int (iv 43)]) (c_X12_isSign ω l μL2 43 (by unfold ir; omega)) (wm 9 90 rfl rfl) (wm 9 92 rfl rfl) (wm 0 135 rfl rfl) rfl rfl (by decide) rfl (wm 1 18 rfl rfl) (wm 9 93 rfl rfl) (by decide) hR ⟨nfr hF (by decide), nlo hLo (by decide)⟩ (n := 1) rfl rfl (Nat.le_of_ble_eq_true rfl) hl.1 dX12_sums_3 (fun r_23 μ22 ρ d0 H locs hr_r_23 hp G => ?_)
  have hr_r_23 : -2147483648 ≤ r_23 ∧ r_23 ≤ 2147483647 := hr_r_23
  obtain ⟨hsm_24, hp_25⟩ := hp
  have hsm_24 := Eq.symm hsm_24
  subst hsm_24
  refine xb_if_ne (tgt := 18) hx hb (by unfold ir; omega) dX12_sums_6 (by decide) (fun c_6 => ?_) (fun c_6 => ?_)
  · refine lv_aload_n hx hb dX12_sums_18 rfl (lv_at hl 0 rfl) ?_
    refine xa_geti G fd_X12 (a := 111) (x := μL2.1 111 13) 13 rfl (by decide) rfl (wm 7 162 rfl rfl) ⟨rfl, rfl, rfl⟩ dX12_sums_19 rfl rfl ?_
    have hr_26 : -2147483648 ≤ μL2.1 111 13 ∧ μL2.1 111 13 ≤ 2147483647 := by have h9 := G.hr (a := 111) (k := 13) rfl; exact h9
    refine lv_istore_n (lv' := [(1, .int (iv (μL2.1 111 13))), (0, .ref (oP ω 111))]) hx hb dX12_sums_22 rfl hl (by decide) rfl (fun ls hl => ?_)
    refine lv_aload_n hx hb dX12_sums_23 rfl (lv_at hl 1 rfl) ?_
    refine lv_iconst (v := iv 0) hx hb dX12_sums_24 rfl ?_
    have e_27 : μL2.1 111 14 = tt := ((hi_5 14 (by decide)).trans htt.symm)
    refine xc_iV G (b := 111) (rest := []) (As := [.int (iv 0)]) (c_X12_skips ω l μL2 0 tt (by unfold ir; omega) (by omega) (by omega)) (wm 9 159 rfl rfl) (wm 9 161 rfl rfl) (wm 0 152 rfl rfl) rfl rfl (by decide) rfl (wm 1 18 rfl rfl) (wm 9 162 rfl rfl) (by decide) hR ⟨nfr hF (by decide), nlo hLo (by decide)⟩ (n := 1) rfl rfl (Nat.le_of_ble_eq_true rfl) hl.1 dX12_sums_25 (fun r_29 μ28 ρ d0 H locs hr_r_29 hp G => ?_)
    have hr_r_29 : -2147483648 ≤ r_29 ∧ r_29 ≤ 2147483647 := hr_r_29
    obtain ⟨F_30, hp_31, hp_32, hp_33⟩ := hp
    have hqr_r_29 : (r_29 = -1) ∨ (μ.1 111 22 ≤ r_29 ∧ r_29 < μ28.1 111 22) := by rcases hp_32 with ⟨q1, q2, q3, q4⟩ | ⟨q1, q2, q3⟩; (right; have := q2.2.1; omega); (left; exact q2)
    have hxt_34 : mEXT μ μ28 := hi_16.tr hp_32.ext
    have e_35 : wr μ28 = wr μL2 := (wr_cg (hp_31 15 (by decide)))
    have e_36 : bd μ28 = bd μL2 := (bd_cg (hp_31 15 (by decide)) (hp_31 16 (by decide)))
    have e_37 : nn μ28 = nn μL2 := (nn_cg (hp_31 15 (by decide)) (hp_31 18 (by decide)))
    replace hp_32 := fun _ : Unit => hp_32
    have e_39 : μ28.1 111 29 = μL2.1 111 29 := (hp_31 29 (by decide))
    have hX_38 : ∀ _ : Unit, bd μ28 = 0 → mPX μo μ28 tt 1 1 HH (lsk r_29 ++ []) := fun _ h0 => mPX.sk ((hX_20 ()) (by have e9 : bd μL2 = bd μL2 := rfl; have e8 : bd μ28 = bd μL2 := (bd_cg (hp_31 15 (by decide)) (hp_31 16 (by decide))); omega)) (hp_32 ()) (by omega) (by omega) (by decide)
    refine lv_istore_n (lv' := [(2, .int (iv r_29)), (1, .int (iv (μL2.1 111 13))), (0, .ref (oP ω 111))]) hx hb dX12_sums_28 rfl hl (by decide) rfl (fun ls hl => ?_)
    refine lv_aload_n hx hb dX12_sums_29 rfl (lv_at hl 2 rfl) ?_
    have hPM_40 : PM μ28 := hi_6.cg ((((hp_31 4 (by decide)).trans (hi_5 4 (by decide)))).trans ((hi_5 4 (by decide))).symm) (hp_31 6 (by decide)) ((((hp_31 7 (by decide)).trans (hi_5 7 (by decide)))).trans ((hi_5 7 (by decide))).symm) (hp_31 8 (by decide)) (hp_31 9 (by decide)) (hp_31 11 (by decide)) (hp_31 12 (by decide)) ((((hp_31 14 (by decide)).trans ((hi_5 14 (by decide)).trans htt.symm))).trans (((hi_5 14 (by decide)).trans htt.symm)).symm) (hp_31 15 (by decide)) (hp_31 29 (by decide)) (fun j => (F_30.1 123 (by decide) j))
    have e_41 : wr μ28 = wr μL2 := (wr_cg (hp_31 15 (by decide)))
    have e_42 : nn μ28 = nn μL2 := (nn_cg (hp_31 15 (by decide)) (hp_31 18 (by decide)))
    have e_43 : μ28.1 111 8 = μL2.1 111 8 := (hp_31 8 (by decide))
    have e_44 : wr μ28 = wr μL2 := (wr_cg (hp_31 15 (by decide)))
    have e_45 : μ28.1 111 9 = μL2.1 111 9 := (hp_31 9 (by decide))
    have e_46 : wr μ28 = wr μL2 := (wr_cg (hp_31 15 (by decide)))
    have e_47 : wr μ28 = wr μL2 := (wr_cg (hp_31 15 (by decide)))
    have e_48 : bd μ28 = bd μL2 := (bd_cg (hp_31 15 (by decide)) (hp_31 16 (by decide)))
    have e_49 : nn μ28 = nn μL2 := (nn_cg (hp_31 15 (by decide)) (hp_31 18 (by decide)))
    refine xc_vV G (b := 111) (rest := []) (As := []) (c_X12_next ω l μ28  hPM_40 (by omega) (by omega)) (wm 9 0 rfl rfl) (wm 9 2 rfl rfl) (wm 0 119 rfl rfl) rfl rfl (by decide) rfl (wm 1 18 rfl rfl) (wm 9 3 rfl rfl) (by decide) hR ⟨nfr hF (by decide), nlo hLo (by decide)⟩ (n := 0) rfl rfl (Nat.le_of_ble_eq_true rfl) hl.1 dX12_sums_30 (fun μ50 ρ d0 H locs hp G => ?_)
    obtain ⟨F_51, hp_52, hp_53, hp_54, hp_55, hp_56⟩ := hp
    have hpl_57 := hp_53.pl
    have hw_58 := wr_r (μ := μ28)
    have hw_59 := wr_r (μ := μ50)
    refine lv_aload_n hx hb dX12_sums_33 rfl (lv_at hl 2 rfl) ?_
    have e_60 : μ50.1 111 29 = μL2.1 111 29 := ((hp_52 29 (by decide)).trans (hp_31 29 (by decide)))
    have e_62 : μ50.1 111 29 = μL2.1 111 29 := ((hp_52 29 (by decide)).trans (hp_31 29 (by decide)))
    have hX_61 : ∀ _ : Unit, bd μ50 = 0 → mPX μo μ50 tt 1 1 HH (lsk r_29 ++ []) := fun _ h0 => (hX_38 () (by have e9 : bd μ28 = bd μL2 := (bd_cg (hp_31 15 (by decide)) (hp_31 16 (by decide))); have e8 : bd μ50 = bd μ50 := rfl; omega)).qm (q0m.fr (K := [111]) (Fr.tr Fr.rf F_51 (by decide)) (by decide) (by decide) (by decide) (hp_52 22 (by decide)) (by omega))
    have e_63 : μ50.1 111 29 = μL2.1 111 29 := ((hp_52 29 (by decide)).trans (hp_31 29 (by decide)))
    have e_64 : μ50.1 111 29 = μL2.1 111 29 := ((hp_52 29 (by decide)).trans (hp_31 29 (by decide)))
    have hxt_65 : mEXT μ μ50 := hxt_34.tr (q0m.fr (K := [111]) (Fr.tr Fr.rf F_51 (by decide)) (by decide) (by decide) (by decide) (hp_52 22 (by decide)) (by omega)).1
    have e_66 : μ50.1 111 14 = tt := ((hp_52 14 (by decide)).trans ((hp_31 14 (by decide)).trans ((hi_5 14 (by decide)).trans htt.symm)))
    have e_67 : μ50.1 111 22 = μ28.1 111 22 := (hp_52 22 (by decide))
    have e_68 : μ50.1 111 22 = μ28.1 111 22 := (hp_52 22 (by decide))
    have e_69 : μ50.1 111 39 = μL2.1 111 39 := ((hp_52 39 (by decide)).trans (hp_31 39 (by decide)))
    have e_70 : μ50.1 111 39 = μL2.1 111 39 := ((hp_52 39 (by decide)).trans (hp_31 39 (by decide)))
    have e_71 : μ50.1 111 22 = μ28.1 111 22 := (hp_52 22 (by decide))
    have e_72 : μ50.1 111 31 = μ.1 111 31 := ((hp_52 31 (by decide)).trans ((hp_31 31 (by decide)).trans (hi_5 31 (by decide))))
    have e_73 : μ50.1 111 31 = μ.1 111 31 := ((hp_52 31 (by decide)).trans ((hp_31 31 (by decide)).trans (hi_5 31 (by decide))))
    have e_74 : μ50.1 111 22 = μ28.1 111 22 := (hp_52 22 (by decide))
    have e_75 : μ50.1 111 22 = μ28.1 111 22 := (hp_52 22 (by decide))
    have e_76 : μ50.1 111 29 = μL2.1 111 29 := ((hp_52 29 (by decide)).trans (hp_31 29 (by decide)))
    have e_77 : μ50.1 111 39 = μL2.1 111 39 := ((hp_52 39 (by decide)).trans (hp_31 39 (by decide)))
    refine xc_vV G (b := 111) (rest := []) (As := []) (c_X12_product ω l μ50 F Lo Fu Lu kf tt (by omega) hF hLo hFu hLu hE hU hp_53 (by omega) (by omega) (by omega) (by omega) (by omega) (by omega) (fun _ h0 => ((hX_61 ()) h0).h1.1)) (wm 9 151 rfl rfl) (wm 9 153 rfl rfl) (wm 0 150 rfl rfl) rfl rfl (by decide) rfl (wm 1 18 rfl rfl) (wm 9 154 rfl rfl) (by decide) hR ⟨sfr (F := F) (a := 6) (by decide), slo (L := Lo) (m := 1) (a := 140) (by decide)⟩ (n := 0) rfl rfl (Nat.le_of_ble_eq_true rfl) hl.1 dX12_sums_34 (fun μ78 ρ d0 H locs hp G => ?_)
    obtain ⟨F_79, hp_80, hp_81, hp_82, hp_83, hp_84, hp_85, hp_86, hp_87, hp_88, hp_89, hp_90⟩ := hp
    have hpl_91 := hp_81.pl
    have hw_92 := wr_r (μ := μ78)
    have hxt_93 : mEXT μ μ78 := hxt_65.tr hp_90
    have hX_94 : ∀ _ : Unit, bd μ78 = 0 → mPX μo μ78 tt 2 1 HH (lsk r_29 ++ []) := fun _ h0 => (((hX_61 ()) (by have e9 : bd μ50 = bd μ50 := rfl; have e8 : bd μ78 = bd μ78 := rfl; omega)).app (hp_89 () h0) (by omega)).ee (by omega)
    refine lv_aload_n hx hb dX12_sums_37 rfl (lv_at hl 2 rfl) ?_
    refine lv_iload_n hx hb dX12_sums_38 rfl (lv_at hl 1 rfl) ?_
    refine lv_iload_n hx hb dX12_sums_39 rfl (lv_at hl 0 rfl) ?_
    have e_95 : μ78.1 111 14 = tt := ((hp_80 14 (by decide)).trans ((hp_52 14 (by decide)).trans ((hp_31 14 (by decide)).trans ((hi_5 14 (by decide)).trans htt.symm))))
    refine xc_vV G (b := 111) (rest := []) (As := [.int (iv (μL2.1 111 13)), .int (iv r_29)]) (c_X12_two ω l μ78 (μL2.1 111 13) r_29 μo (HH) tt (by unfold ir; omega) (by unfold ir; omega) (by omega) (by omega) (by omega) (fun _ => (hX_94 ()))) (wm 9 223 rfl rfl) (wm 9 225 rfl rfl) (wm 0 168 rfl rfl) rfl rfl (by decide) rfl (wm 1 18 rfl rfl) (wm 9 226 rfl rfl) (by decide) hR ⟨nfr hF (by decide), nlo hLo (by decide)⟩ (n := 2) rfl rfl (Nat.le_of_ble_eq_true rfl) hl.1 dX12_sums_40 (fun μ96 ρ d0 H locs hp G => ?_)
    obtain ⟨F_97, hp_98, hp_99, hp_100, hp_101, hp_102⟩ := hp
    have hw_103 := wr_r (μ := μ96)
    have hxt_104 : mEXT μ μ96 := hp_102 _ hxt_93 (by omega)
    have e_105 : bd μ96 = bd μ78 := (bd_cg (hp_98 15 (by decide)) (hp_98 16 (by decide)))
    have e_107 : μ96.1 111 29 = μ78.1 111 29 := (hp_98 29 (by decide))
    have hX_106 : ∀ _ : Unit, bd μ96 = 0 → mPX μo μ96 tt 1 1 HH [] := fun _ h0 => mPX.of (hp_101 () h0)
    refine lv_goto (tgt := 0) hx hb dX12_sums_43 (by decide) ?_
    have hPM_108 : PM μ96 := hp_81.cg ((((hp_98 4 (by decide)).trans ((hp_80 4 (by decide)).trans ((hp_52 4 (by decide)).trans ((hp_31 4 (by decide)).trans (hi_5 4 (by decide))))))).trans (((hp_80 4 (by decide)).trans ((hp_52 4 (by decide)).trans ((hp_31 4 (by decide)).trans (hi_5 4 (by decide)))))).symm) (hp_98 6 (by decide)) ((((hp_98 7 (by decide)).trans ((hp_80 7 (by decide)).trans ((hp_52 7 (by decide)).trans ((hp_31 7 (by decide)).trans (hi_5 7 (by decide))))))).trans (((hp_80 7 (by decide)).trans ((hp_52 7 (by decide)).trans ((hp_31 7 (by decide)).trans (hi_5 7 (by decide)))))).symm) (hp_98 8 (by decide)) (hp_98 9 (by decide)) (hp_98 11 (by decide)) (hp_98 12 (by decide)) ((((hp_98 14 (by decide)).trans ((hp_80 14 (by decide)).trans ((hp_52 14 (by decide)).trans ((hp_31 14 (by decide)).trans ((hi_5 14 (by decide)).trans htt.symm)))))).trans (((hp_80 14 (by decide)).trans ((hp_52 14 (by decide)).trans ((hp_31 14 (by decide)).trans ((hi_5 14 (by decide)).trans htt.symm))))).symm) (hp_98 15 (by decide)) (hp_98 29 (by decide)) (fun j => (F_97.1 123 (by decide) j))
    have e_109 : μ96.1 111 9 = μ78.1 111 9 := (hp_98 9 (by decide))
    have e_110 : wr μ96 = wr μ78 := (wr_cg (hp_98 15 (by decide)))
    have e_111 : μ96.1 111 9 = μ78.1 111 9 := (hp_98 9 (by decide))
    have e_112 : μ96.1 111 29 = μ78.1 111 29 := (hp_98 29 (by decide))
    have e_113 : wr μ96 = wr μ78 := (wr_cg (hp_98 15 (by decide)))
    have e_114 : bd μ96 = bd μ78 := (bd_cg (hp_98 15 (by decide)) (hp_98 16 (by decide)))
    have e_115 : wr μ96 = wr μ78 := (wr_cg (hp_98 15 (by decide)))
    have e_116 : nn μ96 = nn μ78 := (nn_cg (hp_98 15 (by decide)) (hp_98 18 (by decide)))
    have e_117 : μ96.1 111 39 = μ78.1 111 39 := (hp_98 39 (by decide))
    have e_118 : wr μ96 = wr μ78 := (wr_cg (hp_98 15 (by decide)))
    have e_119 : nn μ96 = nn μ78 := (nn_cg (hp_98 15 (by decide)) (hp_98 18 (by decide)))
    exact ih _ _ _ _ _ _ _ (by omega) ⟨(Fr.tr (Fr.tr (Fr.tr (Fr.tr FL3 F_30 (by decide)) F_51 (by decide)) F_79 (by decide)) F_97 (by decide)), (fun j hj => ((hp_98 j (fun h9 => hj ((by decide : ∀ x ∈ ([22] : List Int), x ∈ ([6, 8, 9, 10, 11, 12, 13, 15, 16, 17, 18, 22, 29, 39] : List Int)) j h9))).trans ((hp_80 j (fun h9 => hj ((by decide : ∀ x ∈ ([6, 8, 9, 10, 11, 12, 13, 15, 16, 17, 18, 22, 29, 39] : List Int), x ∈ ([6, 8, 9, 10, 11, 12, 13, 15, 16, 17, 18, 22, 29, 39] : List Int)) j h9))).trans ((hp_52 j (fun h9 => hj ((by decide : ∀ x ∈ ([6, 8, 9, 10, 11, 12, 13, 15] : List Int), x ∈ ([6, 8, 9, 10, 11, 12, 13, 15, 16, 17, 18, 22, 29, 39] : List Int)) j h9))).trans ((hp_31 j (fun h9 => hj ((by decide : ∀ x ∈ ([22] : List Int), x ∈ ([6, 8, 9, 10, 11, 12, 13, 15, 16, 17, 18, 22, 29, 39] : List Int)) j h9))).trans (hi_5 j (fun h9 => hj ((by decide : ∀ x ∈ ([6, 8, 9, 10, 11, 12, 13, 15, 16, 17, 18, 22, 29, 39] : List Int), x ∈ ([6, 8, 9, 10, 11, 12, 13, 15, 16, 17, 18, 22, 29, 39] : List Int)) j h9)))))))), hPM_108, (by omega), (by omega), (by omega), (by omega), (by omega), (by omega), (fun j hj => ((F_97.1 126 (by decide) j).trans ((hp_88 j (by omega)).trans ((F_51.1 126 (by decide) j).trans ((F_30.1 126 (by decide) j).trans (hi_13 j (by omega))))))), (fun _ h0 => (mPX.ex ((hX_106 ()) h0)).e (by omega)), (by omega), hxt_104, rfl, lv_sub hl [2] rfl⟩ G
  · refine lv_aload_n hx hb dX12_sums_9 rfl (lv_at hl 0 rfl) ?_
    refine lv_bipush (v := iv 45) hx hb dX12_sums_10 rfl ?_
    refine xc_iV G (b := 111) (rest := []) (As := [.int (iv 45)]) (c_X12_isSign ω l μL2 45 (by unfold ir; omega)) (wm 9 90 rfl rfl) (wm 9 92 rfl rfl) (wm 0 135 rfl rfl) rfl rfl (by decide) rfl (wm 1 18 rfl rfl) (wm 9 93 rfl rfl) (by decide) hR ⟨nfr hF (by decide), nlo hLo (by decide)⟩ (n := 1) rfl rfl (Nat.le_of_ble_eq_true rfl) hl.1 dX12_sums_12 (fun r_121 μ120 ρ d0 H locs hr_r_121 hp G => ?_)
    have hr_r_121 : -2147483648 ≤ r_121 ∧ r_121 ≤ 2147483647 := hr_r_121
    obtain ⟨hsm_122, hp_123⟩ := hp
    have hsm_122 := Eq.symm hsm_122
    subst hsm_122
    refine xb_if_eq (tgt := 46) hx hb (by unfold ir; omega) dX12_sums_15 (by decide) (fun c_15 => ?_) (fun c_15 => ?_)
    · exact xr_v G hret hlk dX12_sums_46 ⟨(Fr.tr Fr.rf FL3 (by decide)), (fun j hj => (hi_5 j (fun h9 => hj ((by decide : ∀ x ∈ ([6, 8, 9, 10, 11, 12, 13, 15, 16, 17, 18, 22, 29, 39] : List Int), x ∈ ([6, 8, 9, 10, 11, 12, 13, 15, 16, 17, 18, 22, 29, 39] : List Int)) j h9)))), hi_6, (by omega), (by omega), (by omega), (by omega), (by omega), (by omega), (fun j hj => (hi_13 j (by omega))), (fun _ h0 => (mPX.ex ((hX_20 ()) h0)).e (by omega)), hi_16⟩
    · refine lv_aload_n hx hb dX12_sums_18 rfl (lv_at hl 0 rfl) ?_
      refine xa_geti G fd_X12 (a := 111) (x := μL2.1 111 13) 13 rfl (by decide) rfl (wm 7 162 rfl rfl) ⟨rfl, rfl, rfl⟩ dX12_sums_19 rfl rfl ?_
      have hr_124 : -2147483648 ≤ μL2.1 111 13 ∧ μL2.1 111 13 ≤ 2147483647 := by have h9 := G.hr (a := 111) (k := 13) rfl; exact h9
      refine lv_istore_n (lv' := [(1, .int (iv (μL2.1 111 13))), (0, .ref (oP ω 111))]) hx hb dX12_sums_22 rfl hl (by decide) rfl (fun ls hl => ?_)
      refine lv_aload_n hx hb dX12_sums_23 rfl (lv_at hl 1 rfl) ?_
      refine lv_iconst (v := iv 0) hx hb dX12_sums_24 rfl ?_
      have e_125 : μL2.1 111 14 = tt := ((hi_5 14 (by decide)).trans htt.symm)
      refine xc_iV G (b := 111) (rest := []) (As := [.int (iv 0)]) (c_X12_skips ω l μL2 0 tt (by unfold ir; omega) (by omega) (by omega)) (wm 9 159 rfl rfl) (wm 9 161 rfl rfl) (wm 0 152 rfl rfl) rfl rfl (by decide) rfl (wm 1 18 rfl rfl) (wm 9 162 rfl rfl) (by decide) hR ⟨nfr hF (by decide), nlo hLo (by decide)⟩ (n := 1) rfl rfl (Nat.le_of_ble_eq_true rfl) hl.1 dX12_sums_25 (fun r_127 μ126 ρ d0 H locs hr_r_127 hp G => ?_)
      have hr_r_127 : -2147483648 ≤ r_127 ∧ r_127 ≤ 2147483647 := hr_r_127
      obtain ⟨F_128, hp_129, hp_130, hp_131⟩ := hp
      have hqr_r_127 : (r_127 = -1) ∨ (μ.1 111 22 ≤ r_127 ∧ r_127 < μ126.1 111 22) := by rcases hp_130 with ⟨q1, q2, q3, q4⟩ | ⟨q1, q2, q3⟩; (right; have := q2.2.1; omega); (left; exact q2)
      have hxt_132 : mEXT μ μ126 := hi_16.tr hp_130.ext
      have e_133 : wr μ126 = wr μL2 := (wr_cg (hp_129 15 (by decide)))
      have e_134 : bd μ126 = bd μL2 := (bd_cg (hp_129 15 (by decide)) (hp_129 16 (by decide)))
      have e_135 : nn μ126 = nn μL2 := (nn_cg (hp_129 15 (by decide)) (hp_129 18 (by decide)))
      replace hp_130 := fun _ : Unit => hp_130
      have e_137 : μ126.1 111 29 = μL2.1 111 29 := (hp_129 29 (by decide))
      have hX_136 : ∀ _ : Unit, bd μ126 = 0 → mPX μo μ126 tt 1 1 HH (lsk r_127 ++ []) := fun _ h0 => mPX.sk ((hX_20 ()) (by have e9 : bd μL2 = bd μL2 := rfl; have e8 : bd μ126 = bd μL2 := (bd_cg (hp_129 15 (by decide)) (hp_129 16 (by decide))); omega)) (hp_130 ()) (by omega) (by omega) (by decide)
      refine lv_istore_n (lv' := [(2, .int (iv r_127)), (1, .int (iv (μL2.1 111 13))), (0, .ref (oP ω 111))]) hx hb dX12_sums_28 rfl hl (by decide) rfl (fun ls hl => ?_)
      refine lv_aload_n hx hb dX12_sums_29 rfl (lv_at hl 2 rfl) ?_
      have hPM_138 : PM μ126 := hi_6.cg ((((hp_129 4 (by decide)).trans (hi_5 4 (by decide)))).trans ((hi_5 4 (by decide))).symm) (hp_129 6 (by decide)) ((((hp_129 7 (by decide)).trans (hi_5 7 (by decide)))).trans ((hi_5 7 (by decide))).symm) (hp_129 8 (by decide)) (hp_129 9 (by decide)) (hp_129 11 (by decide)) (hp_129 12 (by decide)) ((((hp_129 14 (by decide)).trans ((hi_5 14 (by decide)).trans htt.symm))).trans (((hi_5 14 (by decide)).trans htt.symm)).symm) (hp_129 15 (by decide)) (hp_129 29 (by decide)) (fun j => (F_128.1 123 (by decide) j))
      have e_139 : wr μ126 = wr μL2 := (wr_cg (hp_129 15 (by decide)))
      have e_140 : nn μ126 = nn μL2 := (nn_cg (hp_129 15 (by decide)) (hp_129 18 (by decide)))
      have e_141 : μ126.1 111 8 = μL2.1 111 8 := (hp_129 8 (by decide))
      have e_142 : wr μ126 = wr μL2 := (wr_cg (hp_129 15 (by decide)))
      have e_143 : μ126.1 111 9 = μL2.1 111 9 := (hp_129 9 (by decide))
      have e_144 : wr μ126 = wr μL2 := (wr_cg (hp_129 15 (by decide)))
      have e_145 : wr μ126 = wr μL2 := (wr_cg (hp_129 15 (by decide)))
      have e_146 : bd μ126 = bd μL2 := (bd_cg (hp_129 15 (by decide)) (hp_129 16 (by decide)))
      have e_147 : nn μ126 = nn μL2 := (nn_cg (hp_129 15 (by decide)) (hp_129 18 (by decide)))
      refine xc_vV G (b := 111) (rest := []) (As := []) (c_X12_next ω l μ126  hPM_138 (by omega) (by omega)) (wm 9 0 rfl rfl) (wm 9 2 rfl rfl) (wm 0 119 rfl rfl) rfl rfl (by decide) rfl (wm 1 18 rfl rfl) (wm 9 3 rfl rfl) (by decide) hR ⟨nfr hF (by decide), nlo hLo (by decide)⟩ (n := 0) rfl rfl (Nat.le_of_ble_eq_true rfl) hl.1 dX12_sums_30 (fun μ148 ρ d0 H locs hp G => ?_)
      obtain ⟨F_149, hp_150, hp_151, hp_152, hp_153, hp_154⟩ := hp
      have hpl_155 := hp_151.pl
      have hw_156 := wr_r (μ := μ126)
      have hw_157 := wr_r (μ := μ148)
      refine lv_aload_n hx hb dX12_sums_33 rfl (lv_at hl 2 rfl) ?_
      have e_158 : μ148.1 111 29 = μL2.1 111 29 := ((hp_150 29 (by decide)).trans (hp_129 29 (by decide)))
      have e_160 : μ148.1 111 29 = μL2.1 111 29 := ((hp_150 29 (by decide)).trans (hp_129 29 (by decide)))
      have hX_159 : ∀ _ : Unit, bd μ148 = 0 → mPX μo μ148 tt 1 1 HH (lsk r_127 ++ []) := fun _ h0 => (hX_136 () (by have e9 : bd μ126 = bd μL2 := (bd_cg (hp_129 15 (by decide)) (hp_129 16 (by decide))); have e8 : bd μ148 = bd μ148 := rfl; omega)).qm (q0m.fr (K := [111]) (Fr.tr Fr.rf F_149 (by decide)) (by decide) (by decide) (by decide) (hp_150 22 (by decide)) (by omega))
      have e_161 : μ148.1 111 29 = μL2.1 111 29 := ((hp_150 29 (by decide)).trans (hp_129 29 (by decide)))
      have e_162 : μ148.1 111 29 = μL2.1 111 29 := ((hp_150 29 (by decide)).trans (hp_129 29 (by decide)))
      have hxt_163 : mEXT μ μ148 := hxt_132.tr (q0m.fr (K := [111]) (Fr.tr Fr.rf F_149 (by decide)) (by decide) (by decide) (by decide) (hp_150 22 (by decide)) (by omega)).1
      have e_164 : μ148.1 111 14 = tt := ((hp_150 14 (by decide)).trans ((hp_129 14 (by decide)).trans ((hi_5 14 (by decide)).trans htt.symm)))
      have e_165 : μ148.1 111 22 = μ126.1 111 22 := (hp_150 22 (by decide))
      have e_166 : μ148.1 111 22 = μ126.1 111 22 := (hp_150 22 (by decide))
      have e_167 : μ148.1 111 39 = μL2.1 111 39 := ((hp_150 39 (by decide)).trans (hp_129 39 (by decide)))
      have e_168 : μ148.1 111 39 = μL2.1 111 39 := ((hp_150 39 (by decide)).trans (hp_129 39 (by decide)))
      have e_169 : μ148.1 111 22 = μ126.1 111 22 := (hp_150 22 (by decide))
      have e_170 : μ148.1 111 31 = μ.1 111 31 := ((hp_150 31 (by decide)).trans ((hp_129 31 (by decide)).trans (hi_5 31 (by decide))))
      have e_171 : μ148.1 111 31 = μ.1 111 31 := ((hp_150 31 (by decide)).trans ((hp_129 31 (by decide)).trans (hi_5 31 (by decide))))
      have e_172 : μ148.1 111 22 = μ126.1 111 22 := (hp_150 22 (by decide))
      have e_173 : μ148.1 111 22 = μ126.1 111 22 := (hp_150 22 (by decide))
      have e_174 : μ148.1 111 29 = μL2.1 111 29 := ((hp_150 29 (by decide)).trans (hp_129 29 (by decide)))
      have e_175 : μ148.1 111 39 = μL2.1 111 39 := ((hp_150 39 (by decide)).trans (hp_129 39 (by decide)))
      refine xc_vV G (b := 111) (rest := []) (As := []) (c_X12_product ω l μ148 F Lo Fu Lu kf tt (by omega) hF hLo hFu hLu hE hU hp_151 (by omega) (by omega) (by omega) (by omega) (by omega) (by omega) (fun _ h0 => ((hX_159 ()) h0).h1.1)) (wm 9 151 rfl rfl) (wm 9 153 rfl rfl) (wm 0 150 rfl rfl) rfl rfl (by decide) rfl (wm 1 18 rfl rfl) (wm 9 154 rfl rfl) (by decide) hR ⟨sfr (F := F) (a := 6) (by decide), slo (L := Lo) (m := 1) (a := 140) (by decide)⟩ (n := 0) rfl rfl (Nat.le_of_ble_eq_true rfl) hl.1 dX12_sums_34 (fun μ176 ρ d0 H locs hp G => ?_)
      obtain ⟨F_177, hp_178, hp_179, hp_180, hp_181, hp_182, hp_183, hp_184, hp_185, hp_186, hp_187, hp_188⟩ := hp
      have hpl_189 := hp_179.pl
      have hw_190 := wr_r (μ := μ176)
      have hxt_191 : mEXT μ μ176 := hxt_163.tr hp_188
      have hX_192 : ∀ _ : Unit, bd μ176 = 0 → mPX μo μ176 tt 2 1 HH (lsk r_127 ++ []) := fun _ h0 => (((hX_159 ()) (by have e9 : bd μ148 = bd μ148 := rfl; have e8 : bd μ176 = bd μ176 := rfl; omega)).app (hp_187 () h0) (by omega)).ee (by omega)
      refine lv_aload_n hx hb dX12_sums_37 rfl (lv_at hl 2 rfl) ?_
      refine lv_iload_n hx hb dX12_sums_38 rfl (lv_at hl 1 rfl) ?_
      refine lv_iload_n hx hb dX12_sums_39 rfl (lv_at hl 0 rfl) ?_
      have e_193 : μ176.1 111 14 = tt := ((hp_178 14 (by decide)).trans ((hp_150 14 (by decide)).trans ((hp_129 14 (by decide)).trans ((hi_5 14 (by decide)).trans htt.symm))))
      refine xc_vV G (b := 111) (rest := []) (As := [.int (iv (μL2.1 111 13)), .int (iv r_127)]) (c_X12_two ω l μ176 (μL2.1 111 13) r_127 μo (HH) tt (by unfold ir; omega) (by unfold ir; omega) (by omega) (by omega) (by omega) (fun _ => (hX_192 ()))) (wm 9 223 rfl rfl) (wm 9 225 rfl rfl) (wm 0 168 rfl rfl) rfl rfl (by decide) rfl (wm 1 18 rfl rfl) (wm 9 226 rfl rfl) (by decide) hR ⟨nfr hF (by decide), nlo hLo (by decide)⟩ (n := 2) rfl rfl (Nat.le_of_ble_eq_true rfl) hl.1 dX12_sums_40 (fun μ194 ρ d0 H locs hp G => ?_)
      obtain ⟨F_195, hp_196, hp_197, hp_198, hp_199, hp_200⟩ := hp
      have hw_201 := wr_r (μ := μ194)
      have hxt_202 : mEXT μ μ194 := hp_200 _ hxt_191 (by omega)
      have e_203 : bd μ194 = bd μ176 := (bd_cg (hp_196 15 (by decide)) (hp_196 16 (by decide)))
      have e_205 : μ194.1 111 29 = μ176.1 111 29 := (hp_196 29 (by decide))
      have hX_204 : ∀ _ : Unit, bd μ194 = 0 → mPX μo μ194 tt 1 1 HH [] := fun _ h0 => mPX.of (hp_199 () h0)
      refine lv_goto (tgt := 0) hx hb dX12_sums_43 (by decide) ?_
      have hPM_206 : PM μ194 := hp_179.cg ((((hp_196 4 (by decide)).trans ((hp_178 4 (by decide)).trans ((hp_150 4 (by decide)).trans ((hp_129 4 (by decide)).trans (hi_5 4 (by decide))))))).trans (((hp_178 4 (by decide)).trans ((hp_150 4 (by decide)).trans ((hp_129 4 (by decide)).trans (hi_5 4 (by decide)))))).symm) (hp_196 6 (by decide)) ((((hp_196 7 (by decide)).trans ((hp_178 7 (by decide)).trans ((hp_150 7 (by decide)).trans ((hp_129 7 (by decide)).trans (hi_5 7 (by decide))))))).trans (((hp_178 7 (by decide)).trans ((hp_150 7 (by decide)).trans ((hp_129 7 (by decide)).trans (hi_5 7 (by decide)))))).symm) (hp_196 8 (by decide)) (hp_196 9 (by decide)) (hp_196 11 (by decide)) (hp_196 12 (by decide)) ((((hp_196 14 (by decide)).trans ((hp_178 14 (by decide)).trans ((hp_150 14 (by decide)).trans ((hp_129 14 (by decide)).trans ((hi_5 14 (by decide)).trans htt.symm)))))).trans (((hp_178 14 (by decide)).trans ((hp_150 14 (by decide)).trans ((hp_129 14 (by decide)).trans ((hi_5 14 (by decide)).trans htt.symm))))).symm) (hp_196 15 (by decide)) (hp_196 29 (by decide)) (fun j => (F_195.1 123 (by decide) j))
      have e_207 : μ194.1 111 9 = μ176.1 111 9 := (hp_196 9 (by decide))
      have e_208 : wr μ194 = wr μ176 := (wr_cg (hp_196 15 (by decide)))
      have e_209 : μ194.1 111 9 = μ176.1 111 9 := (hp_196 9 (by decide))
      have e_210 : μ194.1 111 29 = μ176.1 111 29 := (hp_196 29 (by decide))
      have e_211 : wr μ194 = wr μ176 := (wr_cg (hp_196 15 (by decide)))
      have e_212 : bd μ194 = bd μ176 := (bd_cg (hp_196 15 (by decide)) (hp_196 16 (by decide)))
      have e_213 : wr μ194 = wr μ176 := (wr_cg (hp_196 15 (by decide)))
      have e_214 : nn μ194 = nn μ176 := (nn_cg (hp_196 15 (by decide)) (hp_196 18 (by decide)))
      have e_215 : μ194.1 111 39 = μ176.1 111 39 := (hp_196 39 (by decide))
      have e_216 : wr μ194 = wr μ176 := (wr_cg (hp_196 15 (by decide)))
      have e_217 : nn μ194 = nn μ176 := (nn_cg (hp_196 15 (by decide)) (hp_196 18 (by decide)))
      exact ih _ _ _ _ _ _ _ (by omega) ⟨(Fr.tr (Fr.tr (Fr.tr (Fr.tr FL3 F_128 (by decide)) F_149 (by decide)) F_177 (by decide)) F_195 (by decide)), (fun j hj => ((hp_196 j (fun h9 => hj ((by decide : ∀ x ∈ ([22] : List Int), x ∈ ([6, 8, 9, 10, 11, 12, 13, 15, 16, 17, 18, 22, 29, 39] : List Int)) j h9))).trans ((hp_178 j (fun h9 => hj ((by decide : ∀ x ∈ ([6, 8, 9, 10, 11, 12, 13, 15, 16, 17, 18, 22, 29, 39] : List Int), x ∈ ([6, 8, 9, 10, 11, 12, 13, 15, 16, 17, 18, 22, 29, 39] : List Int)) j h9))).trans ((hp_150 j (fun h9 => hj ((by decide : ∀ x ∈ ([6, 8, 9, 10, 11, 12, 13, 15] : List Int), x ∈ ([6, 8, 9, 10, 11, 12, 13, 15, 16, 17, 18, 22, 29, 39] : List Int)) j h9))).trans ((hp_129 j (fun h9 => hj ((by decide : ∀ x ∈ ([22] : List Int), x ∈ ([6, 8, 9, 10, 11, 12, 13, 15, 16, 17, 18, 22, 29, 39] : List Int)) j h9))).trans (hi_5 j (fun h9 => hj ((by decide : ∀ x ∈ ([6, 8, 9, 10, 11, 12, 13, 15, 16, 17, 18, 22, 29, 39] : List Int), x ∈ ([6, 8, 9, 10, 11, 12, 13, 15, 16, 17, 18, 22, 29, 39] : List Int)) j h9)))))))), hPM_206, (by omega), (by omega), (by omega), (by omega), (by omega), (by omega), (fun j hj => ((F_195.1 126 (by decide) j).trans ((hp_186 j (by omega)).trans ((F_149.1 126 (by decide) j).trans ((F_128.1 126 (by decide) j).trans (hi_13 j (by omega))))))), (fun _ h0 => (mPX.ex ((hX_204 ()) h0)).e (by omega)), (by omega), hxt_202, rfl, lv_sub hl [2] rfl⟩ G

set_option maxHeartbeats 4000000 in
set_option maxRecDepth 100000 in
theorem c_X12_sum (ω : Om) (l : Launch) (μ : M3) (F : Nat) (Lo : Nat) (Fu : Nat) (Lu : Nat) (kf : Int) (tt : Int) (htt : tt = μ.1 111 14) (hF : 60 ≤ F) (hLo : 2000 ≤ Lo) (hFu : Fu ≤ F) (hLu : Lu ≤ Lo) (hE : ∀ (μ : M3) (tt : Int) (htt : tt = μ.1 111 14) (hPM : PM μ) (hnn : 0 ≤ nn μ ∧ nn μ ≤ 9 ∧ 9 * wr μ ≤ nn μ) (hn8 : nn μ ≤ 8 + wr μ) (hcd : 0 ≤ μ.1 111 22 ∧ μ.1 111 22 ≤ 2 * μ.1 111 9 + 200 + 40 * wr μ) (hW : 0 ≤ μ.1 111 39 ∧ μ.1 111 39 ≤ μ.1 111 22) (hsl : 0 ≤ μ.1 111 31 ∧ μ.1 111 31 ≤ 300) (hfu : 0 ≤ (kf - 1) ∧ 9 ≤ nn μ + (kf - 1)) (hH0 : ∀ _ : Unit, bd μ = 0 → mH0 μ), CtV ω l yX12_expr cX12_expr 1 (F + 0) (Lo + 0) [.ref (oP ω 111)] μ (fun (μ' : M3) => (Fr [111, 113, 115, 116, 117, 123, 126] μ μ') ∧ (∀ j, j ∉ ([6, 8, 9, 10, 11, 12, 13, 15, 16, 17, 18, 22, 29, 39] : List Int) → μ'.1 111 j = μ.1 111 j) ∧ (PM μ') ∧ (μ.1 111 22 ≤ μ'.1 111 22 ∧ μ'.1 111 22 ≤ μ.1 111 22 + 2 * (μ'.1 111 9 - μ.1 111 9) + (- 1 + 3 * wr μ' - 2 * wr μ)) ∧ (μ.1 111 9 ≤ μ'.1 111 9) ∧ (μ.1 111 29 ≤ μ'.1 111 29) ∧ (wr μ ≤ wr μ' ∧ bd μ ≤ bd μ') ∧ (nn μ ≤ nn μ' ∧ nn μ' ≤ nn μ + 9 * wr μ' ∧ nn μ' ≤ 9 ∧ 9 * wr μ' ≤ nn μ') ∧ (μ'.1 111 39 = μ.1 111 39) ∧ (∀ j, j < μ.1 111 39 → μ'.1 126 j = μ.1 126 j) ∧ (∀ _ : Unit, bd μ' = 0 → mEX μ μ' tt 1 0 (11 * (9 - nn μ))) ∧ (mEXT μ μ'))) (hU : ∀ (μ : M3) (tt : Int) (htt : tt = μ.1 111 14) (hPM : PM μ) (hnn : 0 ≤ nn μ ∧ nn μ ≤ 9 ∧ 9 * wr μ ≤ nn μ) (hn8 : nn μ ≤ 8 + wr μ) (hcd : 0 ≤ μ.1 111 22 ∧ μ.1 111 22 ≤ 2 * μ.1 111 9 + 200 + 40 * wr μ) (hW : 0 ≤ μ.1 111 39 ∧ μ.1 111 39 ≤ μ.1 111 22) (hsl : 0 ≤ μ.1 111 31 ∧ μ.1 111 31 ≤ 300) (hfu : 0 ≤ (kf - 1) ∧ 9 ≤ nn μ + (kf - 1)) (hH0 : ∀ _ : Unit, bd μ = 0 → mH0 μ), CtV ω l yX12_unary cX12_unary 6 (Fu + 0) (Lu + 0) [.ref (oP ω 111)] μ (fun (μ' : M3) => (Fr [111, 113, 115, 116, 117, 123, 126] μ μ') ∧ (∀ j, j ∉ ([6, 8, 9, 10, 11, 12, 13, 15, 16, 17, 18, 22, 29, 39] : List Int) → μ'.1 111 j = μ.1 111 j) ∧ (PM μ') ∧ (μ.1 111 22 ≤ μ'.1 111 22 ∧ μ'.1 111 22 ≤ μ.1 111 22 + 2 * (μ'.1 111 9 - μ.1 111 9) + (- 1 + 3 * wr μ' - 2 * wr μ)) ∧ (μ.1 111 9 ≤ μ'.1 111 9) ∧ (μ.1 111 29 ≤ μ'.1 111 29) ∧ (wr μ ≤ wr μ' ∧ bd μ ≤ bd μ') ∧ (nn μ ≤ nn μ' ∧ nn μ' ≤ nn μ + 9 * wr μ' ∧ nn μ' ≤ 9 ∧ 9 * wr μ' ≤ nn μ') ∧ (μ'.1 111 39 = μ.1 111 39) ∧ (∀ j, j < μ.1 111 39 → μ'.1 126 j = μ.1 126 j) ∧ (∀ _ : Unit, bd μ' = 0 → mEX μ μ' tt 1 0 (11 * (9 - nn μ) - 3)) ∧ (mEXT μ μ'))) (hPM : PM μ) (hnn : 0 ≤ nn μ ∧ nn μ ≤ 9 ∧ 9 * wr μ ≤ nn μ) (hn8 : nn μ ≤ 8 + wr μ) (hcd : 0 ≤ μ.1 111 22 ∧ μ.1 111 22 ≤ 2 * μ.1 111 9 + 200 + 40 * wr μ) (hW : 0 ≤ μ.1 111 39 ∧ μ.1 111 39 ≤ μ.1 111 22) (hsl : 0 ≤ μ.1 111 31 ∧ μ.1 111 31 ≤ 300) (hfu : 0 ≤ kf ∧ 9 ≤ nn μ + kf) (hH0 : ∀ _ : Unit, bd μ = 0 → mH0 μ) : CtV ω l yX12_sum cX12_sum 1 (F + 8) (Lo + 182) [.ref (oP ω 111)] μ (fun (μ' : M3) => (Fr [111, 113, 115, 116, 117, 123, 126] μ μ') ∧ (∀ j, j ∉ ([6, 8, 9, 10, 11, 12, 13, 15, 16, 17, 18, 22, 29, 39] : List Int) → μ'.1 111 j = μ.1 111 j) ∧ (PM μ') ∧ (μ.1 111 22 ≤ μ'.1 111 22 ∧ μ'.1 111 22 ≤ μ.1 111 22 + 2 * (μ'.1 111 9 - μ.1 111 9) + (- 1 + 3 * wr μ' - 2 * wr μ)) ∧ (μ.1 111 9 ≤ μ'.1 111 9) ∧ (μ.1 111 29 ≤ μ'.1 111 29) ∧ (wr μ ≤ wr μ' ∧ bd μ ≤ bd μ') ∧ (nn μ ≤ nn μ' ∧ nn μ' ≤ nn μ + 9 * wr μ' ∧ nn μ' ≤ 9 ∧ 9 * wr μ' ≤ nn μ') ∧ (μ'.1 111 39 = μ.1 111 39) ∧ (∀ j, j < μ.1 111 39 → μ'.1 126 j = μ.1 126 j) ∧ (∀ _ : Unit, bd μ' = 0 → mEX μ μ' tt 1 0 (11 * (9 - nn μ) - 1)) ∧ (mEXT μ μ')) := by
  refine CtV.go (by decide) (Nat.le_of_ble_eq_true rfl) (fun ρ p e s m below meth c R ls G hR hret hlk hl => ?_)
  have hx := G.1.1
  have hb := G.1.2.1
  have hl : lv_has ls 1 [(0, .ref (oP ω 111))] := hl
  generalize s.drawn = d0 at G ⊢
  have hw_0 := wr_r (μ := μ)
  have hpp_ := hPM.1.2.1
  have hpn_ := hPM.2.1
  have hpt_ := hPM.1.2.2.2.1
  have hpw_ := hPM.1.2.2.2.2.1
  have hpa_ := hPM.1.1
  have hX_1 : ∀ _ : Unit, bd μ = 0 → mPX μ μ tt 0 1 (11 * (9 - nn μ) - 1) [] := fun _ h0 => mPX.nil (hH0 () h0) (by omega)
  refine lv_aload_n hx hb dX12_sum_0 rfl (lv_at hl 0 rfl) ?_
  have e_2 : μ.1 111 14 = tt := htt.symm
  refine xc_vV G (b := 111) (rest := []) (As := []) (c_X12_product ω l μ F Lo Fu Lu kf tt (by omega) hF hLo hFu hLu hE hU hPM (by omega) (by omega) (by omega) (by omega) (by omega) (by omega) (fun _ h0 => ((hX_1 ()) h0).h1.1)) (wm 9 151 rfl rfl) (wm 9 153 rfl rfl) (wm 0 150 rfl rfl) rfl rfl (by decide) rfl (wm 1 18 rfl rfl) (wm 9 154 rfl rfl) (by decide) hR ⟨sfr (F := F) (a := 6) (by decide), slo (L := Lo) (m := 1) (a := 140) (by decide)⟩ (n := 0) rfl rfl (Nat.le_of_ble_eq_true rfl) hl.1 dX12_sum_1 (fun μ3 ρ d0 H locs hp G => ?_)
  obtain ⟨F_4, hp_5, hp_6, hp_7, hp_8, hp_9, hp_10, hp_11, hp_12, hp_13, hp_14, hp_15⟩ := hp
  have hpl_16 := hp_6.pl
  have hw_17 := wr_r (μ := μ3)
  have hxt_18 : mEXT μ μ3 := (mEXT.rf (μ := μ)).tr hp_15
  have hX_19 : ∀ _ : Unit, bd μ3 = 0 → mPX μ μ3 tt 1 1 (11 * (9 - nn μ) - 1) [] := fun _ h0 => (((hX_1 ()) (by have e9 : bd μ = bd μ := rfl; have e8 : bd μ3 = bd μ3 := rfl; omega)).app (hp_14 () h0) (by omega)).ee (by omega)
  refine lv_aload_n hx hb dX12_sum_4 rfl (lv_at hl 0 rfl) ?_
  have e_20 : μ3.1 111 14 = tt := ((hp_5 14 (by decide)).trans htt.symm)
  have e_21 : μ3.1 111 31 = μ.1 111 31 := (hp_5 31 (by decide))
  have e_22 : μ3.1 111 31 = μ.1 111 31 := (hp_5 31 (by decide))
  refine xc_vV G (b := 111) (rest := []) (As := []) (c_X12_sums ω l μ3 F Lo Fu Lu kf μ (11 * (9 - nn μ) - 1) tt (by omega) hF hLo hFu hLu hE hU hp_6 (by omega) (by omega) (by omega) (by omega) (by omega) (by omega) (fun _ h0 => (mPX.ex ((hX_19 ()) h0)).e (by omega)) (by omega)) (wm 9 227 rfl rfl) (wm 9 229 rfl rfl) (wm 0 169 rfl rfl) rfl rfl (by decide) rfl (wm 1 18 rfl rfl) (wm 9 230 rfl rfl) (by decide) hR ⟨sfr (F := F) (a := 7) (by decide), slo (L := Lo) (m := 3) (a := 160) (by decide)⟩ (n := 0) rfl rfl (Nat.le_of_ble_eq_true rfl) hl.1 dX12_sum_5 (fun μ23 ρ d0 H locs hp G => ?_)
  obtain ⟨F_24, hp_25, hp_26, hp_27, hp_28, hp_29, hp_30, hp_31, hp_32, hp_33, hp_34, hp_35⟩ := hp
  have hpl_36 := hp_26.pl
  have hw_37 := wr_r (μ := μ23)
  have hxt_38 : mEXT μ μ23 := hxt_18.tr hp_35
  have hX_39 : ∀ _ : Unit, bd μ23 = 0 → mPX μ μ23 tt 1 1 (11 * (9 - nn μ) - 1) [] := fun _ h0 => mPX.of (hp_34 () h0)
  exact xr_v G hret hlk dX12_sum_8 ⟨(Fr.tr (Fr.tr Fr.rf F_4 (by decide)) F_24 (by decide)), (fun j hj => ((hp_25 j (fun h9 => hj ((by decide : ∀ x ∈ ([6, 8, 9, 10, 11, 12, 13, 15, 16, 17, 18, 22, 29, 39] : List Int), x ∈ ([6, 8, 9, 10, 11, 12, 13, 15, 16, 17, 18, 22, 29, 39] : List Int)) j h9))).trans (hp_5 j (fun h9 => hj ((by decide : ∀ x ∈ ([6, 8, 9, 10, 11, 12, 13, 15, 16, 17, 18, 22, 29, 39] : List Int), x ∈ ([6, 8, 9, 10, 11, 12, 13, 15, 16, 17, 18, 22, 29, 39] : List Int)) j h9))))), hp_26, (by omega), (by omega), (by omega), (by omega), (by omega), (by omega), (fun j hj => ((hp_33 j (by omega)).trans (hp_13 j (by omega)))), (fun _ h0 => (mPX.ex ((hX_39 ()) h0)).e (by omega)), hxt_38⟩

set_option maxHeartbeats 4000000 in
set_option maxRecDepth 100000 in
theorem c_X12_compares (ω : Om) (l : Launch) (μ : M3) (F : Nat) (Lo : Nat) (Fu : Nat) (Lu : Nat) (kf : Int) (μo : M3) (HH : Int) (tt : Int) (htt : tt = μ.1 111 14) (hF : 60 ≤ F) (hLo : 2000 ≤ Lo) (hFu : Fu ≤ F) (hLu : Lu ≤ Lo) (hE : ∀ (μ : M3) (tt : Int) (htt : tt = μ.1 111 14) (hPM : PM μ) (hnn : 0 ≤ nn μ ∧ nn μ ≤ 9 ∧ 9 * wr μ ≤ nn μ) (hn8 : nn μ ≤ 8 + wr μ) (hcd : 0 ≤ μ.1 111 22 ∧ μ.1 111 22 ≤ 2 * μ.1 111 9 + 200 + 40 * wr μ) (hW : 0 ≤ μ.1 111 39 ∧ μ.1 111 39 ≤ μ.1 111 22) (hsl : 0 ≤ μ.1 111 31 ∧ μ.1 111 31 ≤ 300) (hfu : 0 ≤ (kf - 1) ∧ 9 ≤ nn μ + (kf - 1)) (hH0 : ∀ _ : Unit, bd μ = 0 → mH0 μ), CtV ω l yX12_expr cX12_expr 1 (F + 0) (Lo + 0) [.ref (oP ω 111)] μ (fun (μ' : M3) => (Fr [111, 113, 115, 116, 117, 123, 126] μ μ') ∧ (∀ j, j ∉ ([6, 8, 9, 10, 11, 12, 13, 15, 16, 17, 18, 22, 29, 39] : List Int) → μ'.1 111 j = μ.1 111 j) ∧ (PM μ') ∧ (μ.1 111 22 ≤ μ'.1 111 22 ∧ μ'.1 111 22 ≤ μ.1 111 22 + 2 * (μ'.1 111 9 - μ.1 111 9) + (- 1 + 3 * wr μ' - 2 * wr μ)) ∧ (μ.1 111 9 ≤ μ'.1 111 9) ∧ (μ.1 111 29 ≤ μ'.1 111 29) ∧ (wr μ ≤ wr μ' ∧ bd μ ≤ bd μ') ∧ (nn μ ≤ nn μ' ∧ nn μ' ≤ nn μ + 9 * wr μ' ∧ nn μ' ≤ 9 ∧ 9 * wr μ' ≤ nn μ') ∧ (μ'.1 111 39 = μ.1 111 39) ∧ (∀ j, j < μ.1 111 39 → μ'.1 126 j = μ.1 126 j) ∧ (∀ _ : Unit, bd μ' = 0 → mEX μ μ' tt 1 0 (11 * (9 - nn μ))) ∧ (mEXT μ μ'))) (hU : ∀ (μ : M3) (tt : Int) (htt : tt = μ.1 111 14) (hPM : PM μ) (hnn : 0 ≤ nn μ ∧ nn μ ≤ 9 ∧ 9 * wr μ ≤ nn μ) (hn8 : nn μ ≤ 8 + wr μ) (hcd : 0 ≤ μ.1 111 22 ∧ μ.1 111 22 ≤ 2 * μ.1 111 9 + 200 + 40 * wr μ) (hW : 0 ≤ μ.1 111 39 ∧ μ.1 111 39 ≤ μ.1 111 22) (hsl : 0 ≤ μ.1 111 31 ∧ μ.1 111 31 ≤ 300) (hfu : 0 ≤ (kf - 1) ∧ 9 ≤ nn μ + (kf - 1)) (hH0 : ∀ _ : Unit, bd μ = 0 → mH0 μ), CtV ω l yX12_unary cX12_unary 6 (Fu + 0) (Lu + 0) [.ref (oP ω 111)] μ (fun (μ' : M3) => (Fr [111, 113, 115, 116, 117, 123, 126] μ μ') ∧ (∀ j, j ∉ ([6, 8, 9, 10, 11, 12, 13, 15, 16, 17, 18, 22, 29, 39] : List Int) → μ'.1 111 j = μ.1 111 j) ∧ (PM μ') ∧ (μ.1 111 22 ≤ μ'.1 111 22 ∧ μ'.1 111 22 ≤ μ.1 111 22 + 2 * (μ'.1 111 9 - μ.1 111 9) + (- 1 + 3 * wr μ' - 2 * wr μ)) ∧ (μ.1 111 9 ≤ μ'.1 111 9) ∧ (μ.1 111 29 ≤ μ'.1 111 29) ∧ (wr μ ≤ wr μ' ∧ bd μ ≤ bd μ') ∧ (nn μ ≤ nn μ' ∧ nn μ' ≤ nn μ + 9 * wr μ' ∧ nn μ' ≤ 9 ∧ 9 * wr μ' ≤ nn μ') ∧ (μ'.1 111 39 = μ.1 111 39) ∧ (∀ j, j < μ.1 111 39 → μ'.1 126 j = μ.1 126 j) ∧ (∀ _ : Unit, bd μ' = 0 → mEX μ μ' tt 1 0 (11 * (9 - nn μ) - 3)) ∧ (mEXT μ μ'))) (hPM : PM μ) (hnn : 0 ≤ nn μ ∧ nn μ ≤ 9 ∧ 9 * wr μ ≤ nn μ) (hn8 : nn μ ≤ 8 + wr μ) (hcd : 0 ≤ μ.1 111 22 ∧ μ.1 111 22 ≤ 2 * μ.1 111 9 + 200 + 40 * wr μ) (hW : 0 ≤ μ.1 111 39 ∧ μ.1 111 39 ≤ μ.1 111 22) (hsl : 0 ≤ μ.1 111 31 ∧ μ.1 111 31 ≤ 300) (hfu : 0 ≤ kf ∧ 9 ≤ nn μ + kf) (hEX : ∀ _ : Unit, bd μ = 0 → mEX μo μ tt 1 0 HH) (hHH : 11 * (9 - nn μ) - 1 + 1 ≤ HH) : CtV ω l yX12_compares cX12_compares 3 (F + 9) (Lo + 202) [.ref (oP ω 111)] μ (fun (μ' : M3) => (Fr [111, 113, 115, 116, 117, 123, 126] μ μ') ∧ (∀ j, j ∉ ([6, 8, 9, 10, 11, 12, 13, 15, 16, 17, 18, 22, 29, 39] : List Int) → μ'.1 111 j = μ.1 111 j) ∧ (PM μ') ∧ (μ.1 111 22 ≤ μ'.1 111 22 ∧ μ'.1 111 22 ≤ μ.1 111 22 + 2 * (μ'.1 111 9 - μ.1 111 9) + (0 + 3 * wr μ' - 3 * wr μ)) ∧ (μ.1 111 9 ≤ μ'.1 111 9) ∧ (μ.1 111 29 ≤ μ'.1 111 29) ∧ (wr μ ≤ wr μ' ∧ bd μ ≤ bd μ') ∧ (nn μ ≤ nn μ' ∧ nn μ' ≤ nn μ + 9 * wr μ' ∧ nn μ' ≤ 9 ∧ 9 * wr μ' ≤ nn μ') ∧ (μ'.1 111 39 = μ.1 111 39) ∧ (∀ j, j < μ.1 111 39 → μ'.1 126 j = μ.1 126 j) ∧ (∀ _ : Unit, bd μ' = 0 → mEX μo μ' tt 1 0 HH) ∧ (mEXT μ μ')) := by
  refine CtV.go (by decide) (Nat.le_of_ble_eq_true rfl) (fun ρ p e s m below meth c R ls G hR hret hlk hl => ?_)
  have hx := G.1.1
  have hb := G.1.2.1
  have hl : lv_has ls 3 [(0, .ref (oP ω 111))] := hl
  generalize s.drawn = d0 at G ⊢
  have hw_0 := wr_r (μ := μ)
  have hpp_ := hPM.1.2.1
  have hpn_ := hPM.2.1
  have hpt_ := hPM.1.2.2.2.1
  have hpw_ := hPM.1.2.2.2.2.1
  have hpa_ := hPM.1.1
  have hX_1 : ∀ _ : Unit, bd μ = 0 → mPX μo μ tt 1 1 HH [] := fun _ h0 => mPX.of (hEX () h0)
  refine lv_aload_n hx hb dX12_compares_0 rfl (lv_at hl 0 rfl) ?_
  refine xc_iV G (b := 111) (rest := []) (As := []) (c_X12_isWrong ω l μ  ) (wm 9 4 rfl rfl) (wm 9 6 rfl rfl) (wm 0 120 rfl rfl) rfl rfl (by decide) rfl (wm 1 18 rfl rfl) (wm 9 7 rfl rfl) (by decide) hR ⟨nfr hF (by decide), nlo hLo (by decide)⟩ (n := 0) rfl rfl (Nat.le_of_ble_eq_true rfl) hl.1 dX12_compares_1 (fun r_3 μ2 ρ d0 H locs hr_r_3 hp G => ?_)
  have hr_r_3 : -2147483648 ≤ r_3 ∧ r_3 ≤ 2147483647 := hr_r_3
  obtain ⟨hsm_4, hp_5⟩ := hp
  have hsm_4 := Eq.symm hsm_4
  subst hsm_4
  refine xb_if_ne (tgt := 25) hx hb (by unfold ir; omega) dX12_compares_4 (by decide) (fun c_4 => ?_) (fun c_4 => ?_)
  · exact xr_v G hret hlk dX12_compares_25 ⟨Fr.rf, (fun j hj => rfl), hPM, (by omega), (by omega), (by omega), (by omega), (by omega), (by omega), (fun j hj => rfl), (fun _ h0 => (mPX.ex ((hX_1 ()) h0)).e (by omega)), (mEXT.rf (μ := μ))⟩
  · refine lv_aload_n hx hb dX12_compares_7 rfl (lv_at hl 0 rfl) ?_
    refine xa_geti G fd_X12 (a := 111) (x := μ.1 111 8) 8 rfl (by decide) rfl (wm 7 157 rfl rfl) ⟨rfl, rfl, rfl⟩ dX12_compares_8 rfl rfl ?_
    have hr_6 : -2147483648 ≤ μ.1 111 8 ∧ μ.1 111 8 ≤ 2147483647 := by have h9 := G.hr (a := 111) (k := 8) rfl; exact h9
    refine lv_iconst (v := iv 3) hx hb dX12_compares_11 rfl ?_
    refine xb_icmp_ne (tgt := 25) hx hb (by unfold ir; omega) (by unfold ir; omega) dX12_compares_12 (by decide) (fun c_12 => ?_) (fun c_12 => ?_)
    · exact xr_v G hret hlk dX12_compares_25 ⟨Fr.rf, (fun j hj => rfl), hPM, (by omega), (by omega), (by omega), (by omega), (by omega), (by omega), (fun j hj => rfl), (fun _ h0 => (mPX.ex ((hX_1 ()) h0)).e (by omega)), (mEXT.rf (μ := μ))⟩
    · refine lv_aload_n hx hb dX12_compares_15 rfl (lv_at hl 0 rfl) ?_
      refine xa_geti G fd_X12 (a := 111) (x := μ.1 111 13) 13 rfl (by decide) rfl (wm 7 162 rfl rfl) ⟨rfl, rfl, rfl⟩ dX12_compares_16 rfl rfl ?_
      have hr_7 : -2147483648 ≤ μ.1 111 13 ∧ μ.1 111 13 ≤ 2147483647 := by have h9 := G.hr (a := 111) (k := 13) rfl; exact h9
      refine xc_iS G (rest := []) (As := [.int (iv (μ.1 111 13))]) (c_X12_isCompare ω l μ (μ.1 111 13) (by unfold ir; omega)) (wm 9 235 rfl rfl) (wm 9 236 rfl rfl) (wm 1 18 rfl rfl) (wm 9 237 rfl rfl) (by decide) hR ⟨nfr hF (by decide), nlo hLo (by decide)⟩ (n := 1) rfl rfl (Nat.le_of_ble_eq_true rfl) hl.1 dX12_compares_19 (fun r_9 μ8 ρ d0 H locs hr_r_9 hp G => ?_)
      have hr_r_9 : -2147483648 ≤ r_9 ∧ r_9 ≤ 2147483647 := hr_r_9
      obtain ⟨hsm_10, hp_11⟩ := hp
      have hsm_10 := Eq.symm hsm_10
      subst hsm_10
      refine xb_if_ne (tgt := 26) hx hb (by unfold ir; omega) dX12_compares_22 (by decide) (fun c_22 => ?_) (fun c_22 => ?_)
      · refine lv_aload_n hx hb dX12_compares_26 rfl (lv_at hl 0 rfl) ?_
        refine xa_geti G fd_X12 (a := 111) (x := μ.1 111 13) 13 rfl (by decide) rfl (wm 7 162 rfl rfl) ⟨rfl, rfl, rfl⟩ dX12_compares_27 rfl rfl ?_
        refine lv_istore_n (lv' := [(1, .int (iv (μ.1 111 13))), (0, .ref (oP ω 111))]) hx hb dX12_compares_30 rfl hl (by decide) rfl (fun ls hl => ?_)
        refine lv_aload_n hx hb dX12_compares_31 rfl (lv_at hl 1 rfl) ?_
        refine lv_iconst (v := iv 0) hx hb dX12_compares_32 rfl ?_
        have e_12 : μ.1 111 14 = tt := htt.symm
        refine xc_iV G (b := 111) (rest := []) (As := [.int (iv 0)]) (c_X12_skips ω l μ 0 tt (by unfold ir; omega) (by omega) (by omega)) (wm 9 159 rfl rfl) (wm 9 161 rfl rfl) (wm 0 152 rfl rfl) rfl rfl (by decide) rfl (wm 1 18 rfl rfl) (wm 9 162 rfl rfl) (by decide) hR ⟨nfr hF (by decide), nlo hLo (by decide)⟩ (n := 1) rfl rfl (Nat.le_of_ble_eq_true rfl) hl.1 dX12_compares_33 (fun r_14 μ13 ρ d0 H locs hr_r_14 hp G => ?_)
        have hr_r_14 : -2147483648 ≤ r_14 ∧ r_14 ≤ 2147483647 := hr_r_14
        obtain ⟨F_15, hp_16, hp_17, hp_18⟩ := hp
        have hqr_r_14 : (r_14 = -1) ∨ (μ.1 111 22 ≤ r_14 ∧ r_14 < μ13.1 111 22) := by rcases hp_17 with ⟨q1, q2, q3, q4⟩ | ⟨q1, q2, q3⟩; (right; have := q2.2.1; omega); (left; exact q2)
        have hxt_19 : mEXT μ μ13 := (mEXT.rf (μ := μ)).tr hp_17.ext
        have e_20 : wr μ13 = wr μ := (wr_cg (hp_16 15 (by decide)))
        have e_21 : bd μ13 = bd μ := (bd_cg (hp_16 15 (by decide)) (hp_16 16 (by decide)))
        have e_22 : nn μ13 = nn μ := (nn_cg (hp_16 15 (by decide)) (hp_16 18 (by decide)))
        replace hp_17 := fun _ : Unit => hp_17
        have e_24 : μ13.1 111 29 = μ.1 111 29 := (hp_16 29 (by decide))
        have hX_23 : ∀ _ : Unit, bd μ13 = 0 → mPX μo μ13 tt 1 1 HH (lsk r_14 ++ []) := fun _ h0 => mPX.sk ((hX_1 ()) (by have e9 : bd μ = bd μ := rfl; have e8 : bd μ13 = bd μ := (bd_cg (hp_16 15 (by decide)) (hp_16 16 (by decide))); omega)) (hp_17 ()) (by omega) (by omega) (by decide)
        refine lv_istore_n (lv' := [(2, .int (iv r_14)), (1, .int (iv (μ.1 111 13))), (0, .ref (oP ω 111))]) hx hb dX12_compares_36 rfl hl (by decide) rfl (fun ls hl => ?_)
        refine lv_aload_n hx hb dX12_compares_37 rfl (lv_at hl 2 rfl) ?_
        have hPM_25 : PM μ13 := hPM.cg (hp_16 4 (by decide)) (hp_16 6 (by decide)) (hp_16 7 (by decide)) (hp_16 8 (by decide)) (hp_16 9 (by decide)) (hp_16 11 (by decide)) (hp_16 12 (by decide)) ((((hp_16 14 (by decide)).trans htt.symm)).trans (htt.symm).symm) (hp_16 15 (by decide)) (hp_16 29 (by decide)) (fun j => (F_15.1 123 (by decide) j))
        have e_26 : wr μ13 = wr μ := (wr_cg (hp_16 15 (by decide)))
        have e_27 : nn μ13 = nn μ := (nn_cg (hp_16 15 (by decide)) (hp_16 18 (by decide)))
        have e_28 : μ13.1 111 8 = μ.1 111 8 := (hp_16 8 (by decide))
        have e_29 : wr μ13 = wr μ := (wr_cg (hp_16 15 (by decide)))
        have e_30 : μ13.1 111 9 = μ.1 111 9 := (hp_16 9 (by decide))
        have e_31 : wr μ13 = wr μ := (wr_cg (hp_16 15 (by decide)))
        have e_32 : wr μ13 = wr μ := (wr_cg (hp_16 15 (by decide)))
        have e_33 : bd μ13 = bd μ := (bd_cg (hp_16 15 (by decide)) (hp_16 16 (by decide)))
        have e_34 : nn μ13 = nn μ := (nn_cg (hp_16 15 (by decide)) (hp_16 18 (by decide)))
        refine xc_vV G (b := 111) (rest := []) (As := []) (c_X12_next ω l μ13  hPM_25 (by omega) (by omega)) (wm 9 0 rfl rfl) (wm 9 2 rfl rfl) (wm 0 119 rfl rfl) rfl rfl (by decide) rfl (wm 1 18 rfl rfl) (wm 9 3 rfl rfl) (by decide) hR ⟨nfr hF (by decide), nlo hLo (by decide)⟩ (n := 0) rfl rfl (Nat.le_of_ble_eq_true rfl) hl.1 dX12_compares_38 (fun μ35 ρ d0 H locs hp G => ?_)
        obtain ⟨F_36, hp_37, hp_38, hp_39, hp_40, hp_41⟩ := hp
        have hpl_42 := hp_38.pl
        have hw_43 := wr_r (μ := μ13)
        have hw_44 := wr_r (μ := μ35)
        refine lv_aload_n hx hb dX12_compares_41 rfl (lv_at hl 2 rfl) ?_
        have e_45 : μ35.1 111 29 = μ.1 111 29 := ((hp_37 29 (by decide)).trans (hp_16 29 (by decide)))
        have e_47 : μ35.1 111 29 = μ.1 111 29 := ((hp_37 29 (by decide)).trans (hp_16 29 (by decide)))
        have hX_46 : ∀ _ : Unit, bd μ35 = 0 → mPX μo μ35 tt 1 1 HH (lsk r_14 ++ []) := fun _ h0 => (hX_23 () (by have e9 : bd μ13 = bd μ := (bd_cg (hp_16 15 (by decide)) (hp_16 16 (by decide))); have e8 : bd μ35 = bd μ35 := rfl; omega)).qm (q0m.fr (K := [111]) (Fr.tr Fr.rf F_36 (by decide)) (by decide) (by decide) (by decide) (hp_37 22 (by decide)) (by omega))
        have e_48 : μ35.1 111 29 = μ.1 111 29 := ((hp_37 29 (by decide)).trans (hp_16 29 (by decide)))
        have e_49 : μ35.1 111 29 = μ.1 111 29 := ((hp_37 29 (by decide)).trans (hp_16 29 (by decide)))
        have hxt_50 : mEXT μ μ35 := hxt_19.tr (q0m.fr (K := [111]) (Fr.tr Fr.rf F_36 (by decide)) (by decide) (by decide) (by decide) (hp_37 22 (by decide)) (by omega)).1
        have e_51 : μ35.1 111 14 = tt := ((hp_37 14 (by decide)).trans ((hp_16 14 (by decide)).trans htt.symm))
        have e_52 : μ35.1 111 22 = μ13.1 111 22 := (hp_37 22 (by decide))
        have e_53 : μ35.1 111 22 = μ13.1 111 22 := (hp_37 22 (by decide))
        have e_54 : μ35.1 111 39 = μ.1 111 39 := ((hp_37 39 (by decide)).trans (hp_16 39 (by decide)))
        have e_55 : μ35.1 111 39 = μ.1 111 39 := ((hp_37 39 (by decide)).trans (hp_16 39 (by decide)))
        have e_56 : μ35.1 111 22 = μ13.1 111 22 := (hp_37 22 (by decide))
        have e_57 : μ35.1 111 31 = μ.1 111 31 := ((hp_37 31 (by decide)).trans (hp_16 31 (by decide)))
        have e_58 : μ35.1 111 31 = μ.1 111 31 := ((hp_37 31 (by decide)).trans (hp_16 31 (by decide)))
        have e_59 : μ35.1 111 22 = μ13.1 111 22 := (hp_37 22 (by decide))
        have e_60 : μ35.1 111 22 = μ13.1 111 22 := (hp_37 22 (by decide))
        have e_61 : μ35.1 111 29 = μ.1 111 29 := ((hp_37 29 (by decide)).trans (hp_16 29 (by decide)))
        have e_62 : μ35.1 111 39 = μ.1 111 39 := ((hp_37 39 (by decide)).trans (hp_16 39 (by decide)))
        refine xc_vV G (b := 111) (rest := []) (As := []) (c_X12_sum ω l μ35 F Lo Fu Lu kf tt (by omega) hF hLo hFu hLu hE hU hp_38 (by omega) (by omega) (by omega) (by omega) (by omega) (by omega) (fun _ h0 => ((hX_46 ()) h0).h1.1)) (wm 9 147 rfl rfl) (wm 9 149 rfl rfl) (wm 0 149 rfl rfl) rfl rfl (by decide) rfl (wm 1 18 rfl rfl) (wm 9 150 rfl rfl) (by decide) hR ⟨sfr (F := F) (a := 8) (by decide), slo (L := Lo) (m := 1) (a := 182) (by decide)⟩ (n := 0) rfl rfl (Nat.le_of_ble_eq_true rfl) hl.1 dX12_compares_42 (fun μ63 ρ d0 H locs hp G => ?_)
        obtain ⟨F_64, hp_65, hp_66, hp_67, hp_68, hp_69, hp_70, hp_71, hp_72, hp_73, hp_74, hp_75⟩ := hp
        have hpl_76 := hp_66.pl
        have hw_77 := wr_r (μ := μ63)
        have hxt_78 : mEXT μ μ63 := hxt_50.tr hp_75
        have hX_79 : ∀ _ : Unit, bd μ63 = 0 → mPX μo μ63 tt 2 1 HH (lsk r_14 ++ []) := fun _ h0 => (((hX_46 ()) (by have e9 : bd μ35 = bd μ35 := rfl; have e8 : bd μ63 = bd μ63 := rfl; omega)).app (hp_74 () h0) (by omega)).ee (by omega)
        refine lv_aload_n hx hb dX12_compares_45 rfl (lv_at hl 2 rfl) ?_
        refine lv_iload_n hx hb dX12_compares_46 rfl (lv_at hl 1 rfl) ?_
        refine lv_iload_n hx hb dX12_compares_47 rfl (lv_at hl 0 rfl) ?_
        have e_80 : μ63.1 111 14 = tt := ((hp_65 14 (by decide)).trans ((hp_37 14 (by decide)).trans ((hp_16 14 (by decide)).trans htt.symm)))
        refine xc_vV G (b := 111) (rest := []) (As := [.int (iv (μ.1 111 13)), .int (iv r_14)]) (c_X12_two ω l μ63 (μ.1 111 13) r_14 μo (HH) tt (by unfold ir; omega) (by unfold ir; omega) (by omega) (by omega) (by omega) (fun _ => (hX_79 ()))) (wm 9 223 rfl rfl) (wm 9 225 rfl rfl) (wm 0 168 rfl rfl) rfl rfl (by decide) rfl (wm 1 18 rfl rfl) (wm 9 226 rfl rfl) (by decide) hR ⟨nfr hF (by decide), nlo hLo (by decide)⟩ (n := 2) rfl rfl (Nat.le_of_ble_eq_true rfl) hl.1 dX12_compares_48 (fun μ81 ρ d0 H locs hp G => ?_)
        obtain ⟨F_82, hp_83, hp_84, hp_85, hp_86, hp_87⟩ := hp
        have hw_88 := wr_r (μ := μ81)
        have hxt_89 : mEXT μ μ81 := hp_87 _ hxt_78 (by omega)
        have e_90 : bd μ81 = bd μ63 := (bd_cg (hp_83 15 (by decide)) (hp_83 16 (by decide)))
        have e_92 : μ81.1 111 29 = μ63.1 111 29 := (hp_83 29 (by decide))
        have hX_91 : ∀ _ : Unit, bd μ81 = 0 → mPX μo μ81 tt 1 1 HH [] := fun _ h0 => mPX.of (hp_86 () h0)
        have e_93 : μ81.1 111 9 = μ63.1 111 9 := (hp_83 9 (by decide))
        have e_94 : μ81.1 111 29 = μ63.1 111 29 := (hp_83 29 (by decide))
        have e_95 : μ81.1 111 39 = μ63.1 111 39 := (hp_83 39 (by decide))
        have e_96 : wr μ81 = wr μ63 := (wr_cg (hp_83 15 (by decide)))
        have e_97 : bd μ81 = bd μ63 := (bd_cg (hp_83 15 (by decide)) (hp_83 16 (by decide)))
        have e_98 : nn μ81 = nn μ63 := (nn_cg (hp_83 15 (by decide)) (hp_83 18 (by decide)))
        have hPM_99 : PM μ81 := hp_66.cg ((((hp_83 4 (by decide)).trans ((hp_65 4 (by decide)).trans ((hp_37 4 (by decide)).trans (hp_16 4 (by decide)))))).trans (((hp_65 4 (by decide)).trans ((hp_37 4 (by decide)).trans (hp_16 4 (by decide))))).symm) (hp_83 6 (by decide)) ((((hp_83 7 (by decide)).trans ((hp_65 7 (by decide)).trans ((hp_37 7 (by decide)).trans (hp_16 7 (by decide)))))).trans (((hp_65 7 (by decide)).trans ((hp_37 7 (by decide)).trans (hp_16 7 (by decide))))).symm) (hp_83 8 (by decide)) (hp_83 9 (by decide)) (hp_83 11 (by decide)) (hp_83 12 (by decide)) ((((hp_83 14 (by decide)).trans ((hp_65 14 (by decide)).trans ((hp_37 14 (by decide)).trans ((hp_16 14 (by decide)).trans htt.symm))))).trans (((hp_65 14 (by decide)).trans ((hp_37 14 (by decide)).trans ((hp_16 14 (by decide)).trans htt.symm)))).symm) (hp_83 15 (by decide)) (hp_83 29 (by decide)) (fun j => (F_82.1 123 (by decide) j))
        have e_100 : μ81.1 111 9 = μ63.1 111 9 := (hp_83 9 (by decide))
        have e_101 : wr μ81 = wr μ63 := (wr_cg (hp_83 15 (by decide)))
        have e_102 : μ81.1 111 9 = μ63.1 111 9 := (hp_83 9 (by decide))
        have e_103 : μ81.1 111 29 = μ63.1 111 29 := (hp_83 29 (by decide))
        have e_104 : wr μ81 = wr μ63 := (wr_cg (hp_83 15 (by decide)))
        have e_105 : bd μ81 = bd μ63 := (bd_cg (hp_83 15 (by decide)) (hp_83 16 (by decide)))
        have e_106 : wr μ81 = wr μ63 := (wr_cg (hp_83 15 (by decide)))
        have e_107 : nn μ81 = nn μ63 := (nn_cg (hp_83 15 (by decide)) (hp_83 18 (by decide)))
        have e_108 : μ81.1 111 39 = μ63.1 111 39 := (hp_83 39 (by decide))
        exact xr_v G hret hlk dX12_compares_51 ⟨(Fr.tr (Fr.tr (Fr.tr (Fr.tr Fr.rf F_15 (by decide)) F_36 (by decide)) F_64 (by decide)) F_82 (by decide)), (fun j hj => ((hp_83 j (fun h9 => hj ((by decide : ∀ x ∈ ([22] : List Int), x ∈ ([6, 8, 9, 10, 11, 12, 13, 15, 16, 17, 18, 22, 29, 39] : List Int)) j h9))).trans ((hp_65 j (fun h9 => hj ((by decide : ∀ x ∈ ([6, 8, 9, 10, 11, 12, 13, 15, 16, 17, 18, 22, 29, 39] : List Int), x ∈ ([6, 8, 9, 10, 11, 12, 13, 15, 16, 17, 18, 22, 29, 39] : List Int)) j h9))).trans ((hp_37 j (fun h9 => hj ((by decide : ∀ x ∈ ([6, 8, 9, 10, 11, 12, 13, 15] : List Int), x ∈ ([6, 8, 9, 10, 11, 12, 13, 15, 16, 17, 18, 22, 29, 39] : List Int)) j h9))).trans (hp_16 j (fun h9 => hj ((by decide : ∀ x ∈ ([22] : List Int), x ∈ ([6, 8, 9, 10, 11, 12, 13, 15, 16, 17, 18, 22, 29, 39] : List Int)) j h9))))))), hPM_99, (by omega), (by omega), (by omega), (by omega), (by omega), (by omega), (fun j hj => ((F_82.1 126 (by decide) j).trans ((hp_73 j (by omega)).trans ((F_36.1 126 (by decide) j).trans (F_15.1 126 (by decide) j))))), (fun _ h0 => (mPX.ex ((hX_91 ()) h0)).e (by omega)), hxt_89⟩
      · exact xr_v G hret hlk dX12_compares_25 ⟨Fr.rf, (fun j hj => rfl), hPM, (by omega), (by omega), (by omega), (by omega), (by omega), (by omega), (fun j hj => rfl), (fun _ h0 => (mPX.ex ((hX_1 ()) h0)).e (by omega)), (mEXT.rf (μ := μ))⟩

set_option maxHeartbeats 4000000 in
set_option maxRecDepth 100000 in
theorem c_X12_question (ω : Om) (l : Launch) (μ : M3) (F : Nat) (Lo : Nat) (Fu : Nat) (Lu : Nat) (kf : Int) (tt : Int) (htt : tt = μ.1 111 14) (hF : 60 ≤ F) (hLo : 2000 ≤ Lo) (hFu : Fu ≤ F) (hLu : Lu ≤ Lo) (hE : ∀ (μ : M3) (tt : Int) (htt : tt = μ.1 111 14) (hPM : PM μ) (hnn : 0 ≤ nn μ ∧ nn μ ≤ 9 ∧ 9 * wr μ ≤ nn μ) (hn8 : nn μ ≤ 8 + wr μ) (hcd : 0 ≤ μ.1 111 22 ∧ μ.1 111 22 ≤ 2 * μ.1 111 9 + 200 + 40 * wr μ) (hW : 0 ≤ μ.1 111 39 ∧ μ.1 111 39 ≤ μ.1 111 22) (hsl : 0 ≤ μ.1 111 31 ∧ μ.1 111 31 ≤ 300) (hfu : 0 ≤ (kf - 1) ∧ 9 ≤ nn μ + (kf - 1)) (hH0 : ∀ _ : Unit, bd μ = 0 → mH0 μ), CtV ω l yX12_expr cX12_expr 1 (F + 0) (Lo + 0) [.ref (oP ω 111)] μ (fun (μ' : M3) => (Fr [111, 113, 115, 116, 117, 123, 126] μ μ') ∧ (∀ j, j ∉ ([6, 8, 9, 10, 11, 12, 13, 15, 16, 17, 18, 22, 29, 39] : List Int) → μ'.1 111 j = μ.1 111 j) ∧ (PM μ') ∧ (μ.1 111 22 ≤ μ'.1 111 22 ∧ μ'.1 111 22 ≤ μ.1 111 22 + 2 * (μ'.1 111 9 - μ.1 111 9) + (- 1 + 3 * wr μ' - 2 * wr μ)) ∧ (μ.1 111 9 ≤ μ'.1 111 9) ∧ (μ.1 111 29 ≤ μ'.1 111 29) ∧ (wr μ ≤ wr μ' ∧ bd μ ≤ bd μ') ∧ (nn μ ≤ nn μ' ∧ nn μ' ≤ nn μ + 9 * wr μ' ∧ nn μ' ≤ 9 ∧ 9 * wr μ' ≤ nn μ') ∧ (μ'.1 111 39 = μ.1 111 39) ∧ (∀ j, j < μ.1 111 39 → μ'.1 126 j = μ.1 126 j) ∧ (∀ _ : Unit, bd μ' = 0 → mEX μ μ' tt 1 0 (11 * (9 - nn μ))) ∧ (mEXT μ μ'))) (hU : ∀ (μ : M3) (tt : Int) (htt : tt = μ.1 111 14) (hPM : PM μ) (hnn : 0 ≤ nn μ ∧ nn μ ≤ 9 ∧ 9 * wr μ ≤ nn μ) (hn8 : nn μ ≤ 8 + wr μ) (hcd : 0 ≤ μ.1 111 22 ∧ μ.1 111 22 ≤ 2 * μ.1 111 9 + 200 + 40 * wr μ) (hW : 0 ≤ μ.1 111 39 ∧ μ.1 111 39 ≤ μ.1 111 22) (hsl : 0 ≤ μ.1 111 31 ∧ μ.1 111 31 ≤ 300) (hfu : 0 ≤ (kf - 1) ∧ 9 ≤ nn μ + (kf - 1)) (hH0 : ∀ _ : Unit, bd μ = 0 → mH0 μ), CtV ω l yX12_unary cX12_unary 6 (Fu + 0) (Lu + 0) [.ref (oP ω 111)] μ (fun (μ' : M3) => (Fr [111, 113, 115, 116, 117, 123, 126] μ μ') ∧ (∀ j, j ∉ ([6, 8, 9, 10, 11, 12, 13, 15, 16, 17, 18, 22, 29, 39] : List Int) → μ'.1 111 j = μ.1 111 j) ∧ (PM μ') ∧ (μ.1 111 22 ≤ μ'.1 111 22 ∧ μ'.1 111 22 ≤ μ.1 111 22 + 2 * (μ'.1 111 9 - μ.1 111 9) + (- 1 + 3 * wr μ' - 2 * wr μ)) ∧ (μ.1 111 9 ≤ μ'.1 111 9) ∧ (μ.1 111 29 ≤ μ'.1 111 29) ∧ (wr μ ≤ wr μ' ∧ bd μ ≤ bd μ') ∧ (nn μ ≤ nn μ' ∧ nn μ' ≤ nn μ + 9 * wr μ' ∧ nn μ' ≤ 9 ∧ 9 * wr μ' ≤ nn μ') ∧ (μ'.1 111 39 = μ.1 111 39) ∧ (∀ j, j < μ.1 111 39 → μ'.1 126 j = μ.1 126 j) ∧ (∀ _ : Unit, bd μ' = 0 → mEX μ μ' tt 1 0 (11 * (9 - nn μ) - 3)) ∧ (mEXT μ μ'))) (hPM : PM μ) (hnn : 0 ≤ nn μ ∧ nn μ ≤ 9 ∧ 9 * wr μ ≤ nn μ) (hn8 : nn μ ≤ 8 + wr μ) (hcd : 0 ≤ μ.1 111 22 ∧ μ.1 111 22 ≤ 2 * μ.1 111 9 + 200 + 40 * wr μ) (hW : 0 ≤ μ.1 111 39 ∧ μ.1 111 39 ≤ μ.1 111 22) (hsl : 0 ≤ μ.1 111 31 ∧ μ.1 111 31 ≤ 300) (hfu : 0 ≤ kf ∧ 9 ≤ nn μ + kf) (hH0 : ∀ _ : Unit, bd μ = 0 → mH0 μ) : CtV ω l yX12_question cX12_question 1 (F + 10) (Lo + 224) [.ref (oP ω 111)] μ (fun (μ' : M3) => (Fr [111, 113, 115, 116, 117, 123, 126] μ μ') ∧ (∀ j, j ∉ ([6, 8, 9, 10, 11, 12, 13, 15, 16, 17, 18, 22, 29, 39] : List Int) → μ'.1 111 j = μ.1 111 j) ∧ (PM μ') ∧ (μ.1 111 22 ≤ μ'.1 111 22 ∧ μ'.1 111 22 ≤ μ.1 111 22 + 2 * (μ'.1 111 9 - μ.1 111 9) + (- 1 + 3 * wr μ' - 2 * wr μ)) ∧ (μ.1 111 9 ≤ μ'.1 111 9) ∧ (μ.1 111 29 ≤ μ'.1 111 29) ∧ (wr μ ≤ wr μ' ∧ bd μ ≤ bd μ') ∧ (nn μ ≤ nn μ' ∧ nn μ' ≤ nn μ + 9 * wr μ' ∧ nn μ' ≤ 9 ∧ 9 * wr μ' ≤ nn μ') ∧ (μ'.1 111 39 = μ.1 111 39) ∧ (∀ j, j < μ.1 111 39 → μ'.1 126 j = μ.1 126 j) ∧ (∀ _ : Unit, bd μ' = 0 → mEX μ μ' tt 1 0 (11 * (9 - nn μ))) ∧ (mEXT μ μ')) := by
  refine CtV.go (by decide) (Nat.le_of_ble_eq_true rfl) (fun ρ p e s m below meth c R ls G hR hret hlk hl => ?_)
  have hx := G.1.1
  have hb := G.1.2.1
  have hl : lv_has ls 1 [(0, .ref (oP ω 111))] := hl
  generalize s.drawn = d0 at G ⊢
  have hw_0 := wr_r (μ := μ)
  have hpp_ := hPM.1.2.1
  have hpn_ := hPM.2.1
  have hpt_ := hPM.1.2.2.2.1
  have hpw_ := hPM.1.2.2.2.2.1
  have hpa_ := hPM.1.1
  have hX_1 : ∀ _ : Unit, bd μ = 0 → mPX μ μ tt 0 1 (11 * (9 - nn μ)) [] := fun _ h0 => mPX.nil (hH0 () h0) (by omega)
  refine lv_aload_n hx hb dX12_question_0 rfl (lv_at hl 0 rfl) ?_
  have e_2 : μ.1 111 14 = tt := htt.symm
  refine xc_vV G (b := 111) (rest := []) (As := []) (c_X12_sum ω l μ F Lo Fu Lu kf tt (by omega) hF hLo hFu hLu hE hU hPM (by omega) (by omega) (by omega) (by omega) (by omega) (by omega) (fun _ h0 => ((hX_1 ()) h0).h1.1)) (wm 9 147 rfl rfl) (wm 9 149 rfl rfl) (wm 0 149 rfl rfl) rfl rfl (by decide) rfl (wm 1 18 rfl rfl) (wm 9 150 rfl rfl) (by decide) hR ⟨sfr (F := F) (a := 8) (by decide), slo (L := Lo) (m := 1) (a := 182) (by decide)⟩ (n := 0) rfl rfl (Nat.le_of_ble_eq_true rfl) hl.1 dX12_question_1 (fun μ3 ρ d0 H locs hp G => ?_)
  obtain ⟨F_4, hp_5, hp_6, hp_7, hp_8, hp_9, hp_10, hp_11, hp_12, hp_13, hp_14, hp_15⟩ := hp
  have hpl_16 := hp_6.pl
  have hw_17 := wr_r (μ := μ3)
  have hxt_18 : mEXT μ μ3 := (mEXT.rf (μ := μ)).tr hp_15
  have hX_19 : ∀ _ : Unit, bd μ3 = 0 → mPX μ μ3 tt 1 1 (11 * (9 - nn μ)) [] := fun _ h0 => (((hX_1 ()) (by have e9 : bd μ = bd μ := rfl; have e8 : bd μ3 = bd μ3 := rfl; omega)).app (hp_14 () h0) (by omega)).ee (by omega)
  refine lv_aload_n hx hb dX12_question_4 rfl (lv_at hl 0 rfl) ?_
  have e_20 : μ3.1 111 14 = tt := ((hp_5 14 (by decide)).trans htt.symm)
  have e_21 : μ3.1 111 31 = μ.1 111 31 := (hp_5 31 (by decide))
  have e_22 : μ3.1 111 31 = μ.1 111 31 := (hp_5 31 (by decide))
  refine xc_vV G (b := 111) (rest := []) (As := []) (c_X12_compares ω l μ3 F Lo Fu Lu kf μ (11 * (9 - nn μ)) tt (by omega) hF hLo hFu hLu hE hU hp_6 (by omega) (by omega) (by omega) (by omega) (by omega) (by omega) (fun _ h0 => (mPX.ex ((hX_19 ()) h0)).e (by omega)) (by omega)) (wm 9 231 rfl rfl) (wm 9 233 rfl rfl) (wm 0 170 rfl rfl) rfl rfl (by decide) rfl (wm 1 18 rfl rfl) (wm 9 234 rfl rfl) (by decide) hR ⟨sfr (F := F) (a := 9) (by decide), slo (L := Lo) (m := 3) (a := 202) (by decide)⟩ (n := 0) rfl rfl (Nat.le_of_ble_eq_true rfl) hl.1 dX12_question_5 (fun μ23 ρ d0 H locs hp G => ?_)
  obtain ⟨F_24, hp_25, hp_26, hp_27, hp_28, hp_29, hp_30, hp_31, hp_32, hp_33, hp_34, hp_35⟩ := hp
  have hpl_36 := hp_26.pl
  have hw_37 := wr_r (μ := μ23)
  have hxt_38 : mEXT μ μ23 := hxt_18.tr hp_35
  have hX_39 : ∀ _ : Unit, bd μ23 = 0 → mPX μ μ23 tt 1 1 (11 * (9 - nn μ)) [] := fun _ h0 => mPX.of (hp_34 () h0)
  exact xr_v G hret hlk dX12_question_8 ⟨(Fr.tr (Fr.tr Fr.rf F_4 (by decide)) F_24 (by decide)), (fun j hj => ((hp_25 j (fun h9 => hj ((by decide : ∀ x ∈ ([6, 8, 9, 10, 11, 12, 13, 15, 16, 17, 18, 22, 29, 39] : List Int), x ∈ ([6, 8, 9, 10, 11, 12, 13, 15, 16, 17, 18, 22, 29, 39] : List Int)) j h9))).trans (hp_5 j (fun h9 => hj ((by decide : ∀ x ∈ ([6, 8, 9, 10, 11, 12, 13, 15, 16, 17, 18, 22, 29, 39] : List Int), x ∈ ([6, 8, 9, 10, 11, 12, 13, 15, 16, 17, 18, 22, 29, 39] : List Int)) j h9))))), hp_26, (by omega), (by omega), (by omega), (by omega), (by omega), (by omega), (fun j hj => ((hp_33 j (by omega)).trans (hp_13 j (by omega)))), (fun _ h0 => (mPX.ex ((hX_39 ()) h0)).e (by omega)), hxt_38⟩

set_option maxHeartbeats 4000000 in
set_option maxRecDepth 100000 in
theorem c_X12_elses (ω : Om) (l : Launch) (μ : M3) (F : Nat) (Lo : Nat) (Fu : Nat) (Lu : Nat) (kf : Int) (μo : M3) (HH : Int) (tt : Int) (htt : tt = μ.1 111 14) (hF : 60 ≤ F) (hLo : 2000 ≤ Lo) (hFu : Fu ≤ F) (hLu : Lu ≤ Lo) (hE : ∀ (μ : M3) (tt : Int) (htt : tt = μ.1 111 14) (hPM : PM μ) (hnn : 0 ≤ nn μ ∧ nn μ ≤ 9 ∧ 9 * wr μ ≤ nn μ) (hn8 : nn μ ≤ 8 + wr μ) (hcd : 0 ≤ μ.1 111 22 ∧ μ.1 111 22 ≤ 2 * μ.1 111 9 + 200 + 40 * wr μ) (hW : 0 ≤ μ.1 111 39 ∧ μ.1 111 39 ≤ μ.1 111 22) (hsl : 0 ≤ μ.1 111 31 ∧ μ.1 111 31 ≤ 300) (hfu : 0 ≤ (kf - 1) ∧ 9 ≤ nn μ + (kf - 1)) (hH0 : ∀ _ : Unit, bd μ = 0 → mH0 μ), CtV ω l yX12_expr cX12_expr 1 (F + 0) (Lo + 0) [.ref (oP ω 111)] μ (fun (μ' : M3) => (Fr [111, 113, 115, 116, 117, 123, 126] μ μ') ∧ (∀ j, j ∉ ([6, 8, 9, 10, 11, 12, 13, 15, 16, 17, 18, 22, 29, 39] : List Int) → μ'.1 111 j = μ.1 111 j) ∧ (PM μ') ∧ (μ.1 111 22 ≤ μ'.1 111 22 ∧ μ'.1 111 22 ≤ μ.1 111 22 + 2 * (μ'.1 111 9 - μ.1 111 9) + (- 1 + 3 * wr μ' - 2 * wr μ)) ∧ (μ.1 111 9 ≤ μ'.1 111 9) ∧ (μ.1 111 29 ≤ μ'.1 111 29) ∧ (wr μ ≤ wr μ' ∧ bd μ ≤ bd μ') ∧ (nn μ ≤ nn μ' ∧ nn μ' ≤ nn μ + 9 * wr μ' ∧ nn μ' ≤ 9 ∧ 9 * wr μ' ≤ nn μ') ∧ (μ'.1 111 39 = μ.1 111 39) ∧ (∀ j, j < μ.1 111 39 → μ'.1 126 j = μ.1 126 j) ∧ (∀ _ : Unit, bd μ' = 0 → mEX μ μ' tt 1 0 (11 * (9 - nn μ))) ∧ (mEXT μ μ'))) (hU : ∀ (μ : M3) (tt : Int) (htt : tt = μ.1 111 14) (hPM : PM μ) (hnn : 0 ≤ nn μ ∧ nn μ ≤ 9 ∧ 9 * wr μ ≤ nn μ) (hn8 : nn μ ≤ 8 + wr μ) (hcd : 0 ≤ μ.1 111 22 ∧ μ.1 111 22 ≤ 2 * μ.1 111 9 + 200 + 40 * wr μ) (hW : 0 ≤ μ.1 111 39 ∧ μ.1 111 39 ≤ μ.1 111 22) (hsl : 0 ≤ μ.1 111 31 ∧ μ.1 111 31 ≤ 300) (hfu : 0 ≤ (kf - 1) ∧ 9 ≤ nn μ + (kf - 1)) (hH0 : ∀ _ : Unit, bd μ = 0 → mH0 μ), CtV ω l yX12_unary cX12_unary 6 (Fu + 0) (Lu + 0) [.ref (oP ω 111)] μ (fun (μ' : M3) => (Fr [111, 113, 115, 116, 117, 123, 126] μ μ') ∧ (∀ j, j ∉ ([6, 8, 9, 10, 11, 12, 13, 15, 16, 17, 18, 22, 29, 39] : List Int) → μ'.1 111 j = μ.1 111 j) ∧ (PM μ') ∧ (μ.1 111 22 ≤ μ'.1 111 22 ∧ μ'.1 111 22 ≤ μ.1 111 22 + 2 * (μ'.1 111 9 - μ.1 111 9) + (- 1 + 3 * wr μ' - 2 * wr μ)) ∧ (μ.1 111 9 ≤ μ'.1 111 9) ∧ (μ.1 111 29 ≤ μ'.1 111 29) ∧ (wr μ ≤ wr μ' ∧ bd μ ≤ bd μ') ∧ (nn μ ≤ nn μ' ∧ nn μ' ≤ nn μ + 9 * wr μ' ∧ nn μ' ≤ 9 ∧ 9 * wr μ' ≤ nn μ') ∧ (μ'.1 111 39 = μ.1 111 39) ∧ (∀ j, j < μ.1 111 39 → μ'.1 126 j = μ.1 126 j) ∧ (∀ _ : Unit, bd μ' = 0 → mEX μ μ' tt 1 0 (11 * (9 - nn μ) - 3)) ∧ (mEXT μ μ'))) (hPM : PM μ) (hnn : 0 ≤ nn μ ∧ nn μ ≤ 9 ∧ 9 * wr μ ≤ nn μ) (hn8 : nn μ ≤ 8 + wr μ) (hcd : 0 ≤ μ.1 111 22 ∧ μ.1 111 22 ≤ 2 * μ.1 111 9 + 200 + 40 * wr μ) (hW : 0 ≤ μ.1 111 39 ∧ μ.1 111 39 ≤ μ.1 111 22) (hsl : 0 ≤ μ.1 111 31 ∧ μ.1 111 31 ≤ 300) (hfu : 0 ≤ kf ∧ 9 ≤ nn μ + kf) (hEX : ∀ _ : Unit, bd μ = 0 → mEX μo μ tt 1 0 HH) (hHH : 11 * (9 - nn μ) - 1 + 1 ≤ HH) : CtV ω l yX12_elses cX12_elses 2 (F + 1) (Lo + 20) [.ref (oP ω 111)] μ (fun (μ' : M3) => (Fr [111, 113, 115, 116, 117, 123, 126] μ μ') ∧ (∀ j, j ∉ ([6, 8, 9, 10, 11, 12, 13, 15, 16, 17, 18, 22, 29, 39] : List Int) → μ'.1 111 j = μ.1 111 j) ∧ (PM μ') ∧ (μ.1 111 22 ≤ μ'.1 111 22 ∧ μ'.1 111 22 ≤ μ.1 111 22 + 2 * (μ'.1 111 9 - μ.1 111 9) + (0 + 3 * wr μ' - 3 * wr μ)) ∧ (μ.1 111 9 ≤ μ'.1 111 9) ∧ (μ.1 111 29 ≤ μ'.1 111 29) ∧ (wr μ ≤ wr μ' ∧ bd μ ≤ bd μ') ∧ (nn μ ≤ nn μ' ∧ nn μ' ≤ nn μ + 9 * wr μ' ∧ nn μ' ≤ 9 ∧ 9 * wr μ' ≤ nn μ') ∧ (μ'.1 111 39 = μ.1 111 39) ∧ (∀ j, j < μ.1 111 39 → μ'.1 126 j = μ.1 126 j) ∧ (∀ _ : Unit, bd μ' = 0 → mEX μo μ' tt 1 0 HH) ∧ (mEXT μ μ')) := by
  refine CtV.go (by decide) (Nat.le_of_ble_eq_true rfl) (fun ρ p e s m below meth c R ls G hR hret hlk hl => ?_)
  have hx := G.1.1
  have hb := G.1.2.1
  have hl : lv_has ls 2 [(0, .ref (oP ω 111))] := hl
  generalize s.drawn = d0 at G ⊢
  have hw_0 := wr_r (μ := μ)
  have hpp_ := hPM.1.2.1
  have hpn_ := hPM.2.1
  have hpt_ := hPM.1.2.2.2.1
  have hpw_ := hPM.1.2.2.2.2.1
  have hpa_ := hPM.1.1
  have hX_1 : ∀ _ : Unit, bd μ = 0 → mPX μo μ tt 1 1 HH [] := fun _ h0 => mPX.of (hEX () h0)
  refine lv_aload_n hx hb dX12_elses_0 rfl (lv_at hl 0 rfl) ?_
  refine xa_geti G fd_X12 (a := 111) (x := tt) 14 rfl (by decide) rfl (wm 7 163 rfl rfl) ⟨rfl, rfl, rfl⟩ dX12_elses_1 rfl htt.symm ?_
  have hr_2 : -2147483648 ≤ tt ∧ tt ≤ 2147483647 := by have h9 := G.hr (a := 111) (k := 14) rfl; rw [show μ.1 111 14 = tt from htt.symm] at h9; exact h9
  refine lv_iconst (v := iv 2) hx hb dX12_elses_4 rfl ?_
  refine xb_icmp_ne (tgt := 16) hx hb (by unfold ir; omega) (by unfold ir; omega) dX12_elses_5 (by decide) (fun c_5 => ?_) (fun c_5 => ?_)
  · exact xr_v G hret hlk dX12_elses_16 ⟨Fr.rf, (fun j hj => rfl), hPM, (by omega), (by omega), (by omega), (by omega), (by omega), (by omega), (fun j hj => rfl), (fun _ h0 => (mPX.ex ((hX_1 ()) h0)).e (by omega)), (mEXT.rf (μ := μ))⟩
  · refine lv_aload_n hx hb dX12_elses_8 rfl (lv_at hl 0 rfl) ?_
    refine lv_iconst (v := iv 5) hx hb dX12_elses_9 rfl ?_
    refine xc_iV G (b := 111) (rest := []) (As := [.int (iv 5)]) (c_X12_isWord ω l μ 5 (by unfold ir; omega)) (wm 9 62 rfl rfl) (wm 9 64 rfl rfl) (wm 0 128 rfl rfl) rfl rfl (by decide) rfl (wm 1 18 rfl rfl) (wm 9 65 rfl rfl) (by decide) hR ⟨nfr hF (by decide), nlo hLo (by decide)⟩ (n := 1) rfl rfl (Nat.le_of_ble_eq_true rfl) hl.1 dX12_elses_10 (fun r_4 μ3 ρ d0 H locs hr_r_4 hp G => ?_)
    have hr_r_4 : -2147483648 ≤ r_4 ∧ r_4 ≤ 2147483647 := hr_r_4
    obtain ⟨hsm_5, hp_6⟩ := hp
    have hsm_5 := Eq.symm hsm_5
    subst hsm_5
    refine xb_if_ne (tgt := 17) hx hb (by unfold ir; omega) dX12_elses_13 (by decide) (fun c_13 => ?_) (fun c_13 => ?_)
    · refine lv_aload_n hx hb dX12_elses_17 rfl (lv_at hl 0 rfl) ?_
      refine xc_vV G (b := 111) (rest := []) (As := []) (c_X12_opens ω l μ  hPM (by omega) (by omega) (by omega)) (wm 9 94 rfl rfl) (wm 9 96 rfl rfl) (wm 0 136 rfl rfl) rfl rfl (by decide) rfl (wm 1 18 rfl rfl) (wm 9 97 rfl rfl) (by decide) hR ⟨nfr hF (by decide), nlo hLo (by decide)⟩ (n := 0) rfl rfl (Nat.le_of_ble_eq_true rfl) hl.1 dX12_elses_18 (fun μ7 ρ d0 H locs hp G => ?_)
      obtain ⟨F_8, hp_9, hp_10, hp_11, hp_12, hp_13, hp_14⟩ := hp
      have hpl_15 := hp_10.pl
      have hw_16 := wr_r (μ := μ7)
      refine lv_aload_n hx hb dX12_elses_21 rfl (lv_at hl 0 rfl) ?_
      refine lv_bipush (v := iv 34) hx hb dX12_elses_22 rfl ?_
      refine lv_lconst (v := jv 0) hx hb dX12_elses_24 rfl ?_
      refine lv_iconst (v := iv 0) hx hb dX12_elses_25 rfl ?_
      have e_17 : μ7.1 111 29 = μ.1 111 29 := (hp_9 29 (by decide))
      have e_19 : μ7.1 111 29 = μ.1 111 29 := (hp_9 29 (by decide))
      have hX_18 : ∀ _ : Unit, bd μ7 = 0 → mPX μo μ7 tt 1 1 HH [] := fun _ h0 => (hX_1 () (by have e9 : bd μ = bd μ := rfl; have e8 : bd μ7 = bd μ7 := rfl; omega)).qm (q0m.fr (K := [111]) (Fr.tr Fr.rf F_8 (by decide)) (by decide) (by decide) (by decide) (hp_9 22 (by decide)) (by omega))
      have e_20 : μ7.1 111 29 = μ.1 111 29 := (hp_9 29 (by decide))
      have e_21 : μ7.1 111 29 = μ.1 111 29 := (hp_9 29 (by decide))
      have hxt_22 : mEXT μ μ7 := (q0m.fr (K := [111]) (Fr.tr Fr.rf F_8 (by decide)) (by decide) (by decide) (by decide) (hp_9 22 (by decide)) (by omega)).1
      have e_23 : μ7.1 111 22 = μ.1 111 22 := (hp_9 22 (by decide))
      have e_24 : μ7.1 111 22 = μ.1 111 22 := (hp_9 22 (by decide))
      have e_25 : μ7.1 111 22 = μ.1 111 22 := (hp_9 22 (by decide))
      have e_26 : μ7.1 111 22 = μ.1 111 22 := (hp_9 22 (by decide))
      refine xc_iV G (b := 111) (rest := []) (As := [.int (iv 34), .long (jv 0), .int (iv 0)]) (c_X12_emit ω l μ7 34 0 0 (by unfold ir; omega) (by unfold jr; omega) (by unfold ir; omega) (by omega)) (wm 9 126 rfl rfl) (wm 9 128 rfl rfl) (wm 0 144 rfl rfl) rfl rfl (by decide) rfl (wm 1 18 rfl rfl) (wm 9 129 rfl rfl) (by decide) hR ⟨nfr hF (by decide), nlo hLo (by decide)⟩ (n := 3) rfl rfl (Nat.le_of_ble_eq_true rfl) hl.1 dX12_elses_26 (fun r_28 μ27 ρ d0 H locs hr_r_28 hp G => ?_)
      have hr_r_28 : -2147483648 ≤ r_28 ∧ r_28 ≤ 2147483647 := hr_r_28
      obtain ⟨F_29, hp_30, hp_31, hp_32, hp_33⟩ := hp
      have hxt_34 : mEXT μ μ27 := hxt_22.tr hp_31.1
      refine lv_istore_n (lv' := [(1, .int (iv r_28)), (0, .ref (oP ω 111))]) hx hb dX12_elses_29 rfl hl (by decide) rfl (fun ls hl => ?_)
      refine lv_aload_n hx hb dX12_elses_30 rfl (lv_at hl 1 rfl) ?_
      have e_35 : μ27.1 111 29 = μ.1 111 29 := ((hp_30 29 (by decide)).trans (hp_9 29 (by decide)))
      have e_36 : μ27.1 111 31 = μ.1 111 31 := ((hp_30 31 (by decide)).trans (hp_9 31 (by decide)))
      have e_37 : wr μ27 = wr μ7 := (wr_cg (hp_30 15 (by decide)))
      have e_38 : bd μ27 = bd μ7 := (bd_cg (hp_30 15 (by decide)) (hp_30 16 (by decide)))
      have e_39 : nn μ27 = nn μ7 := (nn_cg (hp_30 15 (by decide)) (hp_30 18 (by decide)))
      have e_40 : μ27.1 111 29 = μ.1 111 29 := ((hp_30 29 (by decide)).trans (hp_9 29 (by decide)))
      have e_41 : μ27.1 111 14 = tt := ((hp_30 14 (by decide)).trans ((hp_9 14 (by decide)).trans htt.symm))
      have hPM_42 : PM μ27 := hp_10.cg ((((hp_30 4 (by decide)).trans (hp_9 4 (by decide)))).trans ((hp_9 4 (by decide))).symm) (hp_30 6 (by decide)) ((((hp_30 7 (by decide)).trans (hp_9 7 (by decide)))).trans ((hp_9 7 (by decide))).symm) (hp_30 8 (by decide)) (hp_30 9 (by decide)) (hp_30 11 (by decide)) (hp_30 12 (by decide)) ((((hp_30 14 (by decide)).trans ((hp_9 14 (by decide)).trans htt.symm))).trans (((hp_9 14 (by decide)).trans htt.symm)).symm) (hp_30 15 (by decide)) ((((hp_30 29 (by decide)).trans (hp_9 29 (by decide)))).trans ((hp_9 29 (by decide))).symm) (fun j => (F_29.1 123 (by decide) j))
      have e_43 : wr μ27 = wr μ7 := (wr_cg (hp_30 15 (by decide)))
      have e_44 : nn μ27 = nn μ7 := (nn_cg (hp_30 15 (by decide)) (hp_30 18 (by decide)))
      have e_45 : wr μ27 = wr μ7 := (wr_cg (hp_30 15 (by decide)))
      have e_46 : nn μ27 = nn μ7 := (nn_cg (hp_30 15 (by decide)) (hp_30 18 (by decide)))
      have e_47 : μ27.1 111 9 = μ7.1 111 9 := (hp_30 9 (by decide))
      have e_48 : wr μ27 = wr μ7 := (wr_cg (hp_30 15 (by decide)))
      have e_49 : μ27.1 111 39 = μ.1 111 39 := ((hp_30 39 (by decide)).trans (hp_9 39 (by decide)))
      have e_50 : μ27.1 111 39 = μ.1 111 39 := ((hp_30 39 (by decide)).trans (hp_9 39 (by decide)))
      have e_51 : μ27.1 111 31 = μ.1 111 31 := ((hp_30 31 (by decide)).trans (hp_9 31 (by decide)))
      have e_52 : μ27.1 111 31 = μ.1 111 31 := ((hp_30 31 (by decide)).trans (hp_9 31 (by decide)))
      have e_53 : nn μ27 = nn μ7 := (nn_cg (hp_30 15 (by decide)) (hp_30 18 (by decide)))
      have e_54 : μ27.1 111 9 = μ7.1 111 9 := (hp_30 9 (by decide))
      have e_55 : wr μ27 = wr μ7 := (wr_cg (hp_30 15 (by decide)))
      have e_56 : μ27.1 111 9 = μ7.1 111 9 := (hp_30 9 (by decide))
      have e_57 : μ27.1 111 29 = μ.1 111 29 := ((hp_30 29 (by decide)).trans (hp_9 29 (by decide)))
      have e_58 : wr μ27 = wr μ7 := (wr_cg (hp_30 15 (by decide)))
      have e_59 : bd μ27 = bd μ7 := (bd_cg (hp_30 15 (by decide)) (hp_30 16 (by decide)))
      have e_60 : nn μ27 = nn μ7 := (nn_cg (hp_30 15 (by decide)) (hp_30 18 (by decide)))
      have e_61 : μ27.1 111 39 = μ.1 111 39 := ((hp_30 39 (by decide)).trans (hp_9 39 (by decide)))
      refine xc_vV G (b := 111) (rest := []) (As := []) (((fun (_ : Om) (_ : Launch) => hE)) ω l μ27 tt (by omega) hPM_42 (by omega) (by omega) (by omega) (by omega) (by omega) (by omega) (fun _ h0 => as_h0 (mPX.ex ((hX_18 ()) (by have e9 : bd μ7 = bd μ7 := rfl; have e8 : bd μ27 = bd μ7 := (bd_cg (hp_30 15 (by decide)) (hp_30 16 (by decide))); omega))) hp_31)) (wm 9 139 rfl rfl) (wm 9 141 rfl rfl) (wm 0 147 rfl rfl) rfl rfl (by decide) rfl (wm 1 18 rfl rfl) (wm 9 142 rfl rfl) (by decide) hR ⟨sfr (F := F) (a := 0) (by decide), slo (L := Lo) (m := 1) (a := 0) (by decide)⟩ (n := 0) rfl rfl (Nat.le_of_ble_eq_true rfl) hl.1 dX12_elses_31 (fun μ62 ρ d0 H locs hp G => ?_)
      obtain ⟨F_63, hp_64, hp_65, hp_66, hp_67, hp_68, hp_69, hp_70, hp_71, hp_72, hp_73, hp_74⟩ := hp
      have hpl_75 := hp_65.pl
      have hw_76 := wr_r (μ := μ62)
      have hw_77 := wr_r (μ := μ27)
      have hxt_78 : mEXT μ μ62 := hxt_34.tr hp_74
      refine lv_aload_n hx hb dX12_elses_34 rfl (lv_at hl 1 rfl) ?_
      refine lv_iload_n hx hb dX12_elses_35 rfl (lv_at hl 0 rfl) ?_
      refine xc_vV G (b := 111) (rest := []) (As := [.int (iv r_28)]) (c_X12_lands ω l μ62 r_28 (by unfold ir; omega) (by omega) (by omega)) (wm 9 167 rfl rfl) (wm 9 169 rfl rfl) (wm 0 154 rfl rfl) rfl rfl (by decide) rfl (wm 1 18 rfl rfl) (wm 9 170 rfl rfl) (by decide) hR ⟨nfr hF (by decide), nlo hLo (by decide)⟩ (n := 1) rfl rfl (Nat.le_of_ble_eq_true rfl) hl.1 dX12_elses_36 (fun μ79 ρ d0 H locs hp G => ?_)
      obtain ⟨F_80, hp_81⟩ := hp
      have hxt_82 : mEXT μ μ79 := hxt_78.mf hp_81 (by omega)
      have e_83 : wr μ79 = wr μ62 := (wr_cg (F_80.1 111 (by decide) 15))
      have e_84 : bd μ79 = bd μ62 := (bd_cg (F_80.1 111 (by decide) 15) (F_80.1 111 (by decide) 16))
      have e_85 : nn μ79 = nn μ62 := (nn_cg (F_80.1 111 (by decide) 15) (F_80.1 111 (by decide) 18))
      have e_87 : μ79.1 111 29 = μ62.1 111 29 := (F_80.1 111 (by decide) 29)
      have hX_86 : ∀ _ : Unit, bd μ79 = 0 → mPX μo μ79 tt 1 1 HH [] := fun _ h0 => mPX.of (as_elsr (mPX.ex ((hX_18 ()) (by have e9 : bd μ7 = bd μ7 := rfl; have e8 : bd μ79 = bd μ62 := (bd_cg (F_80.1 111 (by decide) 15) (F_80.1 111 (by decide) 16)); omega))) (by omega) hp_31 ((hp_73 () (by have e9 : bd μ62 = bd μ62 := rfl; have e8 : bd μ79 = bd μ62 := (bd_cg (F_80.1 111 (by decide) 15) (F_80.1 111 (by decide) 16)); omega)).mn (Int.le_refl _) (by omega)) (by omega) hp_81)
      have hnn_88 : (wr μ79 = 0 ∧ nn μ79 = μ79.1 111 18) ∨ (wr μ79 = 1 ∧ nn μ79 = 9) := nn_is
      have e_89 : μ79.1 111 18 = μ62.1 111 18 := (F_80.1 111 (by decide) 18)
      refine lv_aload_n hx hb dX12_elses_39 rfl (lv_at hl 1 rfl) ?_
      refine lv_dup hx hb dX12_elses_40 rfl ?_
      refine xa_geti G fd_X12 (a := 111) (x := μ62.1 111 18) 18 rfl (by decide) rfl (wm 7 167 rfl rfl) ⟨rfl, rfl, rfl⟩ dX12_elses_41 rfl (F_80.1 111 (by decide) 18) ?_
      have hr_90 : -2147483648 ≤ μ62.1 111 18 ∧ μ62.1 111 18 ≤ 2147483647 := by have h9 := G.hr (a := 111) (k := 18) rfl; rw [show μ79.1 111 18 = μ62.1 111 18 from (F_80.1 111 (by decide) 18)] at h9; exact h9
      refine lv_iconst (v := iv 1) hx hb dX12_elses_44 rfl ?_
      refine xb_isub hx hb dX12_elses_45 ?_
      refine xb_topi (fun y_91 hr_y_91 he_y_91 => ?_)
      have hr_y_91 : -2147483648 ≤ y_91 ∧ y_91 ≤ 2147483647 := hr_y_91
      have hy9_ : ir ((μ62.1 111 18) - 1) → y_91 = (μ62.1 111 18) - 1 := fun h9 => (iv_eq hr_y_91 h9).mp he_y_91
      unfold ir at hy9_
      refine xa_puti G fd_X12 (a := 111) (x := y_91) 18 (kz := 18) rfl rfl (by decide) rfl (by unfold ir; omega) (wm 7 167 rfl rfl) ⟨rfl, rfl, rfl, rfl⟩ rfl dX12_elses_46 rfl (fun H locs G => ?_)
      have e_92 : (sv μ79 111 18 y_91).1 111 22 = μ62.1 111 22 := ((sv_n _ (by decide)).trans (F_80.1 111 (by decide) 22))
      have e_93 : (sv μ79 111 18 y_91).1 111 9 = μ62.1 111 9 := ((sv_n _ (by decide)).trans (F_80.1 111 (by decide) 9))
      have e_94 : (sv μ79 111 18 y_91).1 111 29 = μ62.1 111 29 := ((sv_n _ (by decide)).trans (F_80.1 111 (by decide) 29))
      have e_95 : (sv μ79 111 18 y_91).1 111 39 = μ62.1 111 39 := ((sv_n _ (by decide)).trans (F_80.1 111 (by decide) 39))
      have e_96 : wr (sv μ79 111 18 y_91) = wr μ62 := ((wr_cg (sv_n _ (by decide))).trans (wr_cg (F_80.1 111 (by decide) 15)))
      have e_97 : bd (sv μ79 111 18 y_91) = bd μ62 := ((bd_cg (sv_n _ (by decide)) (sv_n _ (by decide))).trans (bd_cg (F_80.1 111 (by decide) 15) (F_80.1 111 (by decide) 16)))
      have e_98 : (sv μ79 111 18 y_91).1 111 29 = μ62.1 111 29 := ((sv_n _ (by decide)).trans (F_80.1 111 (by decide) 29))
      have e_99 : wr (sv μ79 111 18 y_91) = wr μ62 := ((wr_cg (sv_n _ (by decide))).trans (wr_cg (F_80.1 111 (by decide) 15)))
      have e_100 : bd (sv μ79 111 18 y_91) = bd μ62 := ((bd_cg (sv_n _ (by decide)) (sv_n _ (by decide))).trans (bd_cg (F_80.1 111 (by decide) 15) (F_80.1 111 (by decide) 16)))
      have e_102 : (sv μ79 111 18 y_91).1 111 29 = μ62.1 111 29 := ((sv_n _ (by decide)).trans (F_80.1 111 (by decide) 29))
      have hX_101 : ∀ _ : Unit, bd (sv μ79 111 18 y_91) = 0 → mPX μo (sv μ79 111 18 y_91) tt 1 1 HH [] := fun _ h0 => (hX_86 () (by have e9 : bd μ79 = bd μ62 := (bd_cg (F_80.1 111 (by decide) 15) (F_80.1 111 (by decide) 16)); have e8 : bd (sv μ79 111 18 y_91) = bd μ62 := ((bd_cg (sv_n _ (by decide)) (sv_n _ (by decide))).trans (bd_cg (F_80.1 111 (by decide) 15) (F_80.1 111 (by decide) 16))); omega)).qm (q0m.fr (K := [111]) (Fr.put Fr.rf (by decide)) (by decide) (by decide) (by decide) ((((sv_n _ (by decide)).trans (F_80.1 111 (by decide) 22))).trans ((F_80.1 111 (by decide) 22)).symm) (by omega))
      have e_103 : wr (sv μ79 111 18 y_91) = wr μ62 := ((wr_cg (sv_n _ (by decide))).trans (wr_cg (F_80.1 111 (by decide) 15)))
      have e_104 : bd (sv μ79 111 18 y_91) = bd μ62 := ((bd_cg (sv_n _ (by decide)) (sv_n _ (by decide))).trans (bd_cg (F_80.1 111 (by decide) 15) (F_80.1 111 (by decide) 16)))
      have hnn_105 : (wr (sv μ79 111 18 y_91) = 0 ∧ nn (sv μ79 111 18 y_91) = (sv μ79 111 18 y_91).1 111 18) ∨ (wr (sv μ79 111 18 y_91) = 1 ∧ nn (sv μ79 111 18 y_91) = 9) := nn_is
      have e_106 : (sv μ79 111 18 y_91).1 111 18 = y_91 := (sv_s _ _ _ _)
      have e_107 : (sv μ79 111 18 y_91).1 111 18 = y_91 := (sv_s _ _ _ _)
      have hPM_108 : PM (sv μ79 111 18 y_91) := hp_65.cg ((((sv_n _ (by decide)).trans ((F_80.1 111 (by decide) 4).trans ((hp_64 4 (by decide)).trans ((hp_30 4 (by decide)).trans (hp_9 4 (by decide))))))).trans (((hp_64 4 (by decide)).trans ((hp_30 4 (by decide)).trans (hp_9 4 (by decide))))).symm) ((sv_n _ (by decide)).trans (F_80.1 111 (by decide) 6)) ((((sv_n _ (by decide)).trans ((F_80.1 111 (by decide) 7).trans ((hp_64 7 (by decide)).trans ((hp_30 7 (by decide)).trans (hp_9 7 (by decide))))))).trans (((hp_64 7 (by decide)).trans ((hp_30 7 (by decide)).trans (hp_9 7 (by decide))))).symm) ((sv_n _ (by decide)).trans (F_80.1 111 (by decide) 8)) ((sv_n _ (by decide)).trans (F_80.1 111 (by decide) 9)) ((sv_n _ (by decide)).trans (F_80.1 111 (by decide) 11)) ((sv_n _ (by decide)).trans (F_80.1 111 (by decide) 12)) ((((sv_n _ (by decide)).trans ((F_80.1 111 (by decide) 14).trans ((hp_64 14 (by decide)).trans ((hp_30 14 (by decide)).trans ((hp_9 14 (by decide)).trans htt.symm)))))).trans (((hp_64 14 (by decide)).trans ((hp_30 14 (by decide)).trans ((hp_9 14 (by decide)).trans htt.symm)))).symm) ((sv_n _ (by decide)).trans (F_80.1 111 (by decide) 15)) ((sv_n _ (by decide)).trans (F_80.1 111 (by decide) 29)) (fun j => ((sv_n _ (by omega)).trans (F_80.1 123 (by decide) j)))
      have e_109 : (sv μ79 111 18 y_91).1 111 29 = μ62.1 111 29 := ((sv_n _ (by decide)).trans (F_80.1 111 (by decide) 29))
      have hxt_110 : mEXT μ (sv μ79 111 18 y_91) := hxt_82.tr (q0m.fr (K := [111]) (Fr.put Fr.rf (by decide)) (by decide) (by decide) (by decide) ((((sv_n _ (by decide)).trans (F_80.1 111 (by decide) 22))).trans ((F_80.1 111 (by decide) 22)).symm) (by omega)).1
      have e_111 : (sv μ79 111 18 y_91).1 111 22 = μ62.1 111 22 := ((sv_n _ (by decide)).trans (F_80.1 111 (by decide) 22))
      have e_112 : (sv μ79 111 18 y_91).1 111 22 = μ62.1 111 22 := ((sv_n _ (by decide)).trans (F_80.1 111 (by decide) 22))
      have e_113 : (sv μ79 111 18 y_91).1 111 9 = μ62.1 111 9 := ((sv_n _ (by decide)).trans (F_80.1 111 (by decide) 9))
      have e_114 : wr (sv μ79 111 18 y_91) = wr μ62 := ((wr_cg (sv_n _ (by decide))).trans (wr_cg (F_80.1 111 (by decide) 15)))
      have e_115 : (sv μ79 111 18 y_91).1 111 9 = μ62.1 111 9 := ((sv_n _ (by decide)).trans (F_80.1 111 (by decide) 9))
      have e_116 : (sv μ79 111 18 y_91).1 111 29 = μ62.1 111 29 := ((sv_n _ (by decide)).trans (F_80.1 111 (by decide) 29))
      have e_117 : wr (sv μ79 111 18 y_91) = wr μ62 := ((wr_cg (sv_n _ (by decide))).trans (wr_cg (F_80.1 111 (by decide) 15)))
      have e_118 : bd (sv μ79 111 18 y_91) = bd μ62 := ((bd_cg (sv_n _ (by decide)) (sv_n _ (by decide))).trans (bd_cg (F_80.1 111 (by decide) 15) (F_80.1 111 (by decide) 16)))
      have e_119 : wr (sv μ79 111 18 y_91) = wr μ62 := ((wr_cg (sv_n _ (by decide))).trans (wr_cg (F_80.1 111 (by decide) 15)))
      have e_120 : (sv μ79 111 18 y_91).1 111 39 = μ62.1 111 39 := ((sv_n _ (by decide)).trans (F_80.1 111 (by decide) 39))
      exact xr_v G hret hlk dX12_elses_49 ⟨(Fr.put (Fr.tr (Fr.tr (Fr.tr (Fr.tr Fr.rf F_8 (by decide)) F_29 (by decide)) F_63 (by decide)) F_80 (by decide)) (by decide)), (fun j hj => ((sv_n _ (fun h9 => hj (by rw [h9.2]; decide))).trans ((F_80.1 111 (by decide) j).trans ((hp_64 j (fun h9 => hj ((by decide : ∀ x ∈ ([6, 8, 9, 10, 11, 12, 13, 15, 16, 17, 18, 22, 29, 39] : List Int), x ∈ ([6, 8, 9, 10, 11, 12, 13, 15, 16, 17, 18, 22, 29, 39] : List Int)) j h9))).trans ((hp_30 j (fun h9 => hj ((by decide : ∀ x ∈ ([22] : List Int), x ∈ ([6, 8, 9, 10, 11, 12, 13, 15, 16, 17, 18, 22, 29, 39] : List Int)) j h9))).trans (hp_9 j (fun h9 => hj ((by decide : ∀ x ∈ ([6, 8, 9, 10, 11, 12, 13, 15, 18] : List Int), x ∈ ([6, 8, 9, 10, 11, 12, 13, 15, 16, 17, 18, 22, 29, 39] : List Int)) j h9)))))))), hPM_108, (by omega), (by omega), (by omega), (by omega), (by omega), (by omega), (fun j hj => ((sv_n _ (fun h9 => absurd h9.1 (by decide))).trans ((F_80.1 126 (by decide) j).trans ((hp_72 j (by omega)).trans ((F_29.1 126 (by decide) j).trans (F_8.1 126 (by decide) j)))))), (fun _ h0 => (mPX.ex ((hX_101 ()) h0)).e (by omega)), hxt_110⟩
    · exact xr_v G hret hlk dX12_elses_16 ⟨Fr.rf, (fun j hj => rfl), hPM, (by omega), (by omega), (by omega), (by omega), (by omega), (by omega), (fun j hj => rfl), (fun _ h0 => (mPX.ex ((hX_1 ()) h0)).e (by omega)), (mEXT.rf (μ := μ))⟩

set_option maxHeartbeats 4000000 in
set_option maxRecDepth 100000 in
theorem c_X12_expr (ω : Om) (l : Launch) (μ : M3) (F : Nat) (Lo : Nat) (Fu : Nat) (Lu : Nat) (kf : Int) (tt : Int) (htt : tt = μ.1 111 14) (hF : 60 ≤ F) (hLo : 2000 ≤ Lo) (hFu : Fu ≤ F) (hLu : Lu ≤ Lo) (hE : ∀ (μ : M3) (tt : Int) (htt : tt = μ.1 111 14) (hPM : PM μ) (hnn : 0 ≤ nn μ ∧ nn μ ≤ 9 ∧ 9 * wr μ ≤ nn μ) (hn8 : nn μ ≤ 8 + wr μ) (hcd : 0 ≤ μ.1 111 22 ∧ μ.1 111 22 ≤ 2 * μ.1 111 9 + 200 + 40 * wr μ) (hW : 0 ≤ μ.1 111 39 ∧ μ.1 111 39 ≤ μ.1 111 22) (hsl : 0 ≤ μ.1 111 31 ∧ μ.1 111 31 ≤ 300) (hfu : 0 ≤ (kf - 1) ∧ 9 ≤ nn μ + (kf - 1)) (hH0 : ∀ _ : Unit, bd μ = 0 → mH0 μ), CtV ω l yX12_expr cX12_expr 1 (F + 0) (Lo + 0) [.ref (oP ω 111)] μ (fun (μ' : M3) => (Fr [111, 113, 115, 116, 117, 123, 126] μ μ') ∧ (∀ j, j ∉ ([6, 8, 9, 10, 11, 12, 13, 15, 16, 17, 18, 22, 29, 39] : List Int) → μ'.1 111 j = μ.1 111 j) ∧ (PM μ') ∧ (μ.1 111 22 ≤ μ'.1 111 22 ∧ μ'.1 111 22 ≤ μ.1 111 22 + 2 * (μ'.1 111 9 - μ.1 111 9) + (- 1 + 3 * wr μ' - 2 * wr μ)) ∧ (μ.1 111 9 ≤ μ'.1 111 9) ∧ (μ.1 111 29 ≤ μ'.1 111 29) ∧ (wr μ ≤ wr μ' ∧ bd μ ≤ bd μ') ∧ (nn μ ≤ nn μ' ∧ nn μ' ≤ nn μ + 9 * wr μ' ∧ nn μ' ≤ 9 ∧ 9 * wr μ' ≤ nn μ') ∧ (μ'.1 111 39 = μ.1 111 39) ∧ (∀ j, j < μ.1 111 39 → μ'.1 126 j = μ.1 126 j) ∧ (∀ _ : Unit, bd μ' = 0 → mEX μ μ' tt 1 0 (11 * (9 - nn μ))) ∧ (mEXT μ μ'))) (hU : ∀ (μ : M3) (tt : Int) (htt : tt = μ.1 111 14) (hPM : PM μ) (hnn : 0 ≤ nn μ ∧ nn μ ≤ 9 ∧ 9 * wr μ ≤ nn μ) (hn8 : nn μ ≤ 8 + wr μ) (hcd : 0 ≤ μ.1 111 22 ∧ μ.1 111 22 ≤ 2 * μ.1 111 9 + 200 + 40 * wr μ) (hW : 0 ≤ μ.1 111 39 ∧ μ.1 111 39 ≤ μ.1 111 22) (hsl : 0 ≤ μ.1 111 31 ∧ μ.1 111 31 ≤ 300) (hfu : 0 ≤ (kf - 1) ∧ 9 ≤ nn μ + (kf - 1)) (hH0 : ∀ _ : Unit, bd μ = 0 → mH0 μ), CtV ω l yX12_unary cX12_unary 6 (Fu + 0) (Lu + 0) [.ref (oP ω 111)] μ (fun (μ' : M3) => (Fr [111, 113, 115, 116, 117, 123, 126] μ μ') ∧ (∀ j, j ∉ ([6, 8, 9, 10, 11, 12, 13, 15, 16, 17, 18, 22, 29, 39] : List Int) → μ'.1 111 j = μ.1 111 j) ∧ (PM μ') ∧ (μ.1 111 22 ≤ μ'.1 111 22 ∧ μ'.1 111 22 ≤ μ.1 111 22 + 2 * (μ'.1 111 9 - μ.1 111 9) + (- 1 + 3 * wr μ' - 2 * wr μ)) ∧ (μ.1 111 9 ≤ μ'.1 111 9) ∧ (μ.1 111 29 ≤ μ'.1 111 29) ∧ (wr μ ≤ wr μ' ∧ bd μ ≤ bd μ') ∧ (nn μ ≤ nn μ' ∧ nn μ' ≤ nn μ + 9 * wr μ' ∧ nn μ' ≤ 9 ∧ 9 * wr μ' ≤ nn μ') ∧ (μ'.1 111 39 = μ.1 111 39) ∧ (∀ j, j < μ.1 111 39 → μ'.1 126 j = μ.1 126 j) ∧ (∀ _ : Unit, bd μ' = 0 → mEX μ μ' tt 1 0 (11 * (9 - nn μ) - 3)) ∧ (mEXT μ μ'))) (hPM : PM μ) (hnn : 0 ≤ nn μ ∧ nn μ ≤ 9 ∧ 9 * wr μ ≤ nn μ) (hn8 : nn μ ≤ 8 + wr μ) (hcd : 0 ≤ μ.1 111 22 ∧ μ.1 111 22 ≤ 2 * μ.1 111 9 + 200 + 40 * wr μ) (hW : 0 ≤ μ.1 111 39 ∧ μ.1 111 39 ≤ μ.1 111 22) (hsl : 0 ≤ μ.1 111 31 ∧ μ.1 111 31 ≤ 300) (hfu : 0 ≤ kf ∧ 9 ≤ nn μ + kf) (hH0 : ∀ _ : Unit, bd μ = 0 → mH0 μ) : CtV ω l yX12_expr cX12_expr 1 (F + 11) (Lo + 244) [.ref (oP ω 111)] μ (fun (μ' : M3) => (Fr [111, 113, 115, 116, 117, 123, 126] μ μ') ∧ (∀ j, j ∉ ([6, 8, 9, 10, 11, 12, 13, 15, 16, 17, 18, 22, 29, 39] : List Int) → μ'.1 111 j = μ.1 111 j) ∧ (PM μ') ∧ (μ.1 111 22 ≤ μ'.1 111 22 ∧ μ'.1 111 22 ≤ μ.1 111 22 + 2 * (μ'.1 111 9 - μ.1 111 9) + (- 1 + 3 * wr μ' - 2 * wr μ)) ∧ (μ.1 111 9 ≤ μ'.1 111 9) ∧ (μ.1 111 29 ≤ μ'.1 111 29) ∧ (wr μ ≤ wr μ' ∧ bd μ ≤ bd μ') ∧ (nn μ ≤ nn μ' ∧ nn μ' ≤ nn μ + 9 * wr μ' ∧ nn μ' ≤ 9 ∧ 9 * wr μ' ≤ nn μ') ∧ (μ'.1 111 39 = μ.1 111 39) ∧ (∀ j, j < μ.1 111 39 → μ'.1 126 j = μ.1 126 j) ∧ (∀ _ : Unit, bd μ' = 0 → mEX μ μ' tt 1 0 (11 * (9 - nn μ))) ∧ (mEXT μ μ')) := by
  refine CtV.go (by decide) (Nat.le_of_ble_eq_true rfl) (fun ρ p e s m below meth c R ls G hR hret hlk hl => ?_)
  have hx := G.1.1
  have hb := G.1.2.1
  have hl : lv_has ls 1 [(0, .ref (oP ω 111))] := hl
  generalize s.drawn = d0 at G ⊢
  have hw_0 := wr_r (μ := μ)
  have hpp_ := hPM.1.2.1
  have hpn_ := hPM.2.1
  have hpt_ := hPM.1.2.2.2.1
  have hpw_ := hPM.1.2.2.2.2.1
  have hpa_ := hPM.1.1
  have hX_1 : ∀ _ : Unit, bd μ = 0 → mPX μ μ tt 0 1 (11 * (9 - nn μ)) [] := fun _ h0 => mPX.nil (hH0 () h0) (by omega)
  refine lv_aload_n hx hb dX12_expr_0 rfl (lv_at hl 0 rfl) ?_
  have e_2 : μ.1 111 14 = tt := htt.symm
  refine xc_vV G (b := 111) (rest := []) (As := []) (c_X12_question ω l μ F Lo Fu Lu kf tt (by omega) hF hLo hFu hLu hE hU hPM (by omega) (by omega) (by omega) (by omega) (by omega) (by omega) (fun _ h0 => ((hX_1 ()) h0).h1.1)) (wm 9 143 rfl rfl) (wm 9 145 rfl rfl) (wm 0 148 rfl rfl) rfl rfl (by decide) rfl (wm 1 18 rfl rfl) (wm 9 146 rfl rfl) (by decide) hR ⟨sfr (F := F) (a := 10) (by decide), slo (L := Lo) (m := 1) (a := 224) (by decide)⟩ (n := 0) rfl rfl (Nat.le_of_ble_eq_true rfl) hl.1 dX12_expr_1 (fun μ3 ρ d0 H locs hp G => ?_)
  obtain ⟨F_4, hp_5, hp_6, hp_7, hp_8, hp_9, hp_10, hp_11, hp_12, hp_13, hp_14, hp_15⟩ := hp
  have hpl_16 := hp_6.pl
  have hw_17 := wr_r (μ := μ3)
  have hxt_18 : mEXT μ μ3 := (mEXT.rf (μ := μ)).tr hp_15
  have hX_19 : ∀ _ : Unit, bd μ3 = 0 → mPX μ μ3 tt 1 1 (11 * (9 - nn μ)) [] := fun _ h0 => (((hX_1 ()) (by have e9 : bd μ = bd μ := rfl; have e8 : bd μ3 = bd μ3 := rfl; omega)).app (hp_14 () h0) (by omega)).ee (by omega)
  refine lv_aload_n hx hb dX12_expr_4 rfl (lv_at hl 0 rfl) ?_
  have e_20 : μ3.1 111 14 = tt := ((hp_5 14 (by decide)).trans htt.symm)
  have e_21 : μ3.1 111 31 = μ.1 111 31 := (hp_5 31 (by decide))
  have e_22 : μ3.1 111 31 = μ.1 111 31 := (hp_5 31 (by decide))
  refine xc_vV G (b := 111) (rest := []) (As := []) (c_X12_elses ω l μ3 F Lo Fu Lu kf μ (11 * (9 - nn μ)) tt (by omega) hF hLo hFu hLu hE hU hp_6 (by omega) (by omega) (by omega) (by omega) (by omega) (by omega) (fun _ h0 => (mPX.ex ((hX_19 ()) h0)).e (by omega)) (by omega)) (wm 9 238 rfl rfl) (wm 10 0 rfl rfl) (wm 0 171 rfl rfl) rfl rfl (by decide) rfl (wm 1 18 rfl rfl) (wm 10 1 rfl rfl) (by decide) hR ⟨sfr (F := F) (a := 1) (by decide), slo (L := Lo) (m := 2) (a := 20) (by decide)⟩ (n := 0) rfl rfl (Nat.le_of_ble_eq_true rfl) hl.1 dX12_expr_5 (fun μ23 ρ d0 H locs hp G => ?_)
  obtain ⟨F_24, hp_25, hp_26, hp_27, hp_28, hp_29, hp_30, hp_31, hp_32, hp_33, hp_34, hp_35⟩ := hp
  have hpl_36 := hp_26.pl
  have hw_37 := wr_r (μ := μ23)
  have hxt_38 : mEXT μ μ23 := hxt_18.tr hp_35
  have hX_39 : ∀ _ : Unit, bd μ23 = 0 → mPX μ μ23 tt 1 1 (11 * (9 - nn μ)) [] := fun _ h0 => mPX.of (hp_34 () h0)
  exact xr_v G hret hlk dX12_expr_8 ⟨(Fr.tr (Fr.tr Fr.rf F_4 (by decide)) F_24 (by decide)), (fun j hj => ((hp_25 j (fun h9 => hj ((by decide : ∀ x ∈ ([6, 8, 9, 10, 11, 12, 13, 15, 16, 17, 18, 22, 29, 39] : List Int), x ∈ ([6, 8, 9, 10, 11, 12, 13, 15, 16, 17, 18, 22, 29, 39] : List Int)) j h9))).trans (hp_5 j (fun h9 => hj ((by decide : ∀ x ∈ ([6, 8, 9, 10, 11, 12, 13, 15, 16, 17, 18, 22, 29, 39] : List Int), x ∈ ([6, 8, 9, 10, 11, 12, 13, 15, 16, 17, 18, 22, 29, 39] : List Int)) j h9))))), hp_26, (by omega), (by omega), (by omega), (by omega), (by omega), (by omega), (fun j hj => ((hp_33 j (by omega)).trans (hp_13 j (by omega)))), (fun _ h0 => (mPX.ex ((hX_39 ()) h0)).e (by omega)), hxt_38⟩
/-! the reference's expressions at every depth -/
def mLvE (ω : Om) (l : Launch) (kf : Int) (F Lo : Nat) : Prop := ∀ (μ : M3) (tt : Int) (htt : tt = μ.1 111 14) (hPM : PM μ) (hnn : 0 ≤ nn μ ∧ nn μ ≤ 9 ∧ 9 * wr μ ≤ nn μ) (hn8 : nn μ ≤ 8 + wr μ) (hcd : 0 ≤ μ.1 111 22 ∧ μ.1 111 22 ≤ 2 * μ.1 111 9 + 200 + 40 * wr μ) (hW : 0 ≤ μ.1 111 39 ∧ μ.1 111 39 ≤ μ.1 111 22) (hsl : 0 ≤ μ.1 111 31 ∧ μ.1 111 31 ≤ 300) (hfu : 0 ≤ kf ∧ 9 ≤ nn μ + kf) (hH0 : ∀ _ : Unit, bd μ = 0 → mH0 μ), CtV ω l yX12_expr cX12_expr 1 (F + 0) (Lo + 0) [.ref (oP ω 111)] μ (fun (μ' : M3) => (Fr [111, 113, 115, 116, 117, 123, 126] μ μ') ∧ (∀ j, j ∉ ([6, 8, 9, 10, 11, 12, 13, 15, 16, 17, 18, 22, 29, 39] : List Int) → μ'.1 111 j = μ.1 111 j) ∧ (PM μ') ∧ (μ.1 111 22 ≤ μ'.1 111 22 ∧ μ'.1 111 22 ≤ μ.1 111 22 + 2 * (μ'.1 111 9 - μ.1 111 9) + (- 1 + 3 * wr μ' - 2 * wr μ)) ∧ (μ.1 111 9 ≤ μ'.1 111 9) ∧ (μ.1 111 29 ≤ μ'.1 111 29) ∧ (wr μ ≤ wr μ' ∧ bd μ ≤ bd μ') ∧ (nn μ ≤ nn μ' ∧ nn μ' ≤ nn μ + 9 * wr μ' ∧ nn μ' ≤ 9 ∧ 9 * wr μ' ≤ nn μ') ∧ (μ'.1 111 39 = μ.1 111 39) ∧ (∀ j, j < μ.1 111 39 → μ'.1 126 j = μ.1 126 j) ∧ (∀ _ : Unit, bd μ' = 0 → mEX μ μ' tt 1 0 (11 * (9 - nn μ))) ∧ (mEXT μ μ'))
def mLvU (ω : Om) (l : Launch) (kf : Int) (Fu Lu : Nat) : Prop := ∀ (μ : M3) (tt : Int) (htt : tt = μ.1 111 14) (hPM : PM μ) (hnn : 0 ≤ nn μ ∧ nn μ ≤ 9 ∧ 9 * wr μ ≤ nn μ) (hn8 : nn μ ≤ 8 + wr μ) (hcd : 0 ≤ μ.1 111 22 ∧ μ.1 111 22 ≤ 2 * μ.1 111 9 + 200 + 40 * wr μ) (hW : 0 ≤ μ.1 111 39 ∧ μ.1 111 39 ≤ μ.1 111 22) (hsl : 0 ≤ μ.1 111 31 ∧ μ.1 111 31 ≤ 300) (hfu : 0 ≤ kf ∧ 9 ≤ nn μ + kf) (hH0 : ∀ _ : Unit, bd μ = 0 → mH0 μ), CtV ω l yX12_unary cX12_unary 6 (Fu + 0) (Lu + 0) [.ref (oP ω 111)] μ (fun (μ' : M3) => (Fr [111, 113, 115, 116, 117, 123, 126] μ μ') ∧ (∀ j, j ∉ ([6, 8, 9, 10, 11, 12, 13, 15, 16, 17, 18, 22, 29, 39] : List Int) → μ'.1 111 j = μ.1 111 j) ∧ (PM μ') ∧ (μ.1 111 22 ≤ μ'.1 111 22 ∧ μ'.1 111 22 ≤ μ.1 111 22 + 2 * (μ'.1 111 9 - μ.1 111 9) + (- 1 + 3 * wr μ' - 2 * wr μ)) ∧ (μ.1 111 9 ≤ μ'.1 111 9) ∧ (μ.1 111 29 ≤ μ'.1 111 29) ∧ (wr μ ≤ wr μ' ∧ bd μ ≤ bd μ') ∧ (nn μ ≤ nn μ' ∧ nn μ' ≤ nn μ + 9 * wr μ' ∧ nn μ' ≤ 9 ∧ 9 * wr μ' ≤ nn μ') ∧ (μ'.1 111 39 = μ.1 111 39) ∧ (∀ j, j < μ.1 111 39 → μ'.1 126 j = μ.1 126 j) ∧ (∀ _ : Unit, bd μ' = 0 → mEX μ μ' tt 1 0 (11 * (9 - nn μ) - 3)) ∧ (mEXT μ μ'))
theorem mlv_step (ω : Om) (l : Launch) {kf : Int} {F Lo Fu Lu : Nat} (hF : 60 ≤ F) (hLo : 2000 ≤ Lo) (hFu : Fu ≤ F) (hLu : Lu ≤ Lo) (hE : mLvE ω l (kf - 1) F Lo) (hU : mLvU ω l (kf - 1) Fu Lu) : mLvE ω l kf (F + 11) (Lo + 244) ∧ mLvU ω l kf (F + 4) (Lo + 93) := by
  refine ⟨fun μ tt htt hPM hnn hn8 hcd hW hsl hfu hH0 => ?_, fun μ tt htt hPM hnn hn8 hcd hW hsl hfu hH0 => ?_⟩
  · exact c_X12_expr ω l μ F Lo Fu Lu kf tt htt hF hLo hFu hLu hE hU hPM hnn hn8 hcd hW hsl hfu hH0
  · exact c_X12_unary ω l μ F Lo Fu Lu kf tt htt hF hLo hFu hLu hE hU hPM hnn hn8 hcd hW hsl hfu hH0
theorem mlv_0 (ω : Om) (l : Launch) (F Lo Fu Lu : Nat) : mLvE ω l (-1) F Lo ∧ mLvU ω l (-1) Fu Lu := by
  refine ⟨fun μ tt htt hPM hnn hn8 hcd hW hsl hfu hH0 => ?_, fun μ tt htt hPM hnn hn8 hcd hW hsl hfu hH0 => ?_⟩
  · exact absurd hfu.1 (by decide)
  · exact absurd hfu.1 (by decide)
theorem mlv_all (ω : Om) (l : Launch) : ∀ n : Nat, mLvE ω l ((n : Int) - 1) (60 + 11 * n) (2000 + 244 * n) ∧ ∃ Fu Lu, Fu ≤ 60 + 11 * n ∧ Lu ≤ 2000 + 244 * n ∧ mLvU ω l ((n : Int) - 1) Fu Lu
  | 0 => ⟨(mlv_0 ω l _ _ 0 0).1, 0, 0, Nat.zero_le _, Nat.zero_le _, (mlv_0 ω l 0 0 _ _).2⟩
  | n + 1 => by
    obtain ⟨h1, Fu, Lu, h2, h3, h4⟩ := mlv_all ω l n
    have e0 : ((n + 1 : Nat) : Int) - 1 = n := by omega
    have s := mlv_step ω l (kf := n) (by omega) (by omega) h2 h3 h1 h4
    rw [e0]
    refine ⟨?_, 60 + 11 * n + 4, 2000 + 244 * n + 93, by omega, by omega, s.2⟩
    have e1 : 60 + 11 * (n + 1) = 60 + 11 * n + 11 := by omega
    have e2 : 2000 + 244 * (n + 1) = 2000 + 244 * n + 244 := by omega
    rw [e1, e2]
    exact s.1
theorem mlv_9 (ω : Om) (l : Launch) : mLvE ω l 9 170 4440 := (mlv_all ω l 10).1
theorem c_X12_expr_a (ω : Om) (l : Launch) (μ : M3) (tt : Int) (htt : tt = μ.1 111 14) (hPM : PM μ) (hnn : 0 ≤ nn μ ∧ nn μ ≤ 9 ∧ 9 * wr μ ≤ nn μ) (hn8 : nn μ ≤ 8 + wr μ) (hcd : 0 ≤ μ.1 111 22 ∧ μ.1 111 22 ≤ 2 * μ.1 111 9 + 200 + 40 * wr μ) (hW : 0 ≤ μ.1 111 39 ∧ μ.1 111 39 ≤ μ.1 111 22) (hsl : 0 ≤ μ.1 111 31 ∧ μ.1 111 31 ≤ 300) (hH0 : ∀ _ : Unit, bd μ = 0 → mH0 μ) : CtV ω l yX12_expr cX12_expr 1 170 4440 [.ref (oP ω 111)] μ (fun (μ' : M3) => (Fr [111, 113, 115, 116, 117, 123, 126] μ μ') ∧ (∀ j, j ∉ ([6, 8, 9, 10, 11, 12, 13, 15, 16, 17, 18, 22, 29, 39] : List Int) → μ'.1 111 j = μ.1 111 j) ∧ (PM μ') ∧ (μ.1 111 22 ≤ μ'.1 111 22 ∧ μ'.1 111 22 ≤ μ.1 111 22 + 2 * (μ'.1 111 9 - μ.1 111 9) + (- 1 + 3 * wr μ' - 2 * wr μ)) ∧ (μ.1 111 9 ≤ μ'.1 111 9) ∧ (μ.1 111 29 ≤ μ'.1 111 29) ∧ (wr μ ≤ wr μ' ∧ bd μ ≤ bd μ') ∧ (nn μ ≤ nn μ' ∧ nn μ' ≤ nn μ + 9 * wr μ' ∧ nn μ' ≤ 9 ∧ 9 * wr μ' ≤ nn μ') ∧ (μ'.1 111 39 = μ.1 111 39) ∧ (∀ j, j < μ.1 111 39 → μ'.1 126 j = μ.1 126 j) ∧ (∀ _ : Unit, bd μ' = 0 → mEX μ μ' tt 1 0 (11 * (9 - nn μ))) ∧ (mEXT μ μ')) := by
  have h := mlv_9 ω l
  unfold mLvE at h
  exact h μ tt htt hPM hnn hn8 hcd hW hsl (by omega) hH0
