abbrev cX12_expr : ByteArray := prog_14_method_58_code
def yX12_expr : MethodName := ⟨RX12, "expr", "()V"⟩
abbrev cX12_two : ByteArray := prog_14_method_63_code
def yX12_two : MethodName := ⟨RX12, "two", "(II)V"⟩
abbrev cX12_unary : ByteArray := prog_14_method_68_code
def yX12_unary : MethodName := ⟨RX12, "unary", "()V"⟩
abbrev cX12_ofPart : ByteArray := prog_14_method_74_code
def yX12_ofPart : MethodName := ⟨RX12, "ofPart", "(IIII)V"⟩
theorem dX12_two_0 : decode cX12_two 0 = .ok (.aload_n 0, 1) := by decide +kernel
theorem dX12_two_1 : decode cX12_two 1 = .ok (.iconst 1, 1) := by decide +kernel
theorem dX12_two_2 : decode cX12_two 2 = .ok (.invokevirtual 468, 3) := by decide +kernel
theorem dX12_two_5 : decode cX12_two 5 = .ok (.istore_n 3, 1) := by decide +kernel
theorem dX12_two_6 : decode cX12_two 6 = .ok (.aload_n 0, 1) := by decide +kernel
theorem dX12_two_7 : decode cX12_two 7 = .ok (.bipush 31, 2) := by decide +kernel
theorem dX12_two_9 : decode cX12_two 9 = .ok (.iload_n 1, 1) := by decide +kernel
theorem dX12_two_10 : decode cX12_two 10 = .ok (.i2l, 1) := by decide +kernel
theorem dX12_two_11 : decode cX12_two 11 = .ok (.iconst 0, 1) := by decide +kernel
theorem dX12_two_12 : decode cX12_two 12 = .ok (.invokevirtual 374, 3) := by decide +kernel
theorem dX12_two_15 : decode cX12_two 15 = .ok (.pop, 1) := by decide +kernel
theorem dX12_two_16 : decode cX12_two 16 = .ok (.aload_n 0, 1) := by decide +kernel
theorem dX12_two_17 : decode cX12_two 17 = .ok (.iload_n 2, 1) := by decide +kernel
theorem dX12_two_18 : decode cX12_two 18 = .ok (.invokevirtual 474, 3) := by decide +kernel
theorem dX12_two_21 : decode cX12_two 21 = .ok (.aload_n 0, 1) := by decide +kernel
theorem dX12_two_22 : decode cX12_two 22 = .ok (.iload_n 3, 1) := by decide +kernel
theorem dX12_two_23 : decode cX12_two 23 = .ok (.invokevirtual 474, 3) := by decide +kernel
theorem dX12_two_26 : decode cX12_two 26 = .ok (.return_, 1) := by decide +kernel
theorem dX12_ofPart_0 : decode cX12_ofPart 0 = .ok (.aload_n 0, 1) := by decide +kernel
theorem dX12_ofPart_1 : decode cX12_ofPart 1 = .ok (.iload_n 2, 1) := by decide +kernel
theorem dX12_ofPart_2 : decode cX12_ofPart 2 = .ok (.invokevirtual 378, 3) := by decide +kernel
theorem dX12_ofPart_5 : decode cX12_ofPart 5 = .ok (.aload_n 0, 1) := by decide +kernel
theorem dX12_ofPart_6 : decode cX12_ofPart 6 = .ok (.invokevirtual 402, 3) := by decide +kernel
theorem dX12_ofPart_9 : decode cX12_ofPart 9 = .ok (.aload_n 0, 1) := by decide +kernel
theorem dX12_ofPart_10 : decode cX12_ofPart 10 = .ok (.iload_n 3, 1) := by decide +kernel
theorem dX12_ofPart_11 : decode cX12_ofPart 11 = .ok (.invokevirtual 387, 3) := by decide +kernel
theorem dX12_ofPart_14 : decode cX12_ofPart 14 = .ok (.aload_n 0, 1) := by decide +kernel
theorem dX12_ofPart_15 : decode cX12_ofPart 15 = .ok (.iconst 0, 1) := by decide +kernel
theorem dX12_ofPart_16 : decode cX12_ofPart 16 = .ok (.invokevirtual 468, 3) := by decide +kernel
theorem dX12_ofPart_19 : decode cX12_ofPart 19 = .ok (.istore 5, 2) := by decide +kernel
theorem dX12_ofPart_21 : decode cX12_ofPart 21 = .ok (.aload_n 0, 1) := by decide +kernel
theorem dX12_ofPart_22 : decode cX12_ofPart 22 = .ok (.iload_n 1, 1) := by decide +kernel
theorem dX12_ofPart_23 : decode cX12_ofPart 23 = .ok (.lconst 0, 1) := by decide +kernel
theorem dX12_ofPart_24 : decode cX12_ofPart 24 = .ok (.iload 4, 2) := by decide +kernel
theorem dX12_ofPart_26 : decode cX12_ofPart 26 = .ok (.invokevirtual 374, 3) := by decide +kernel
theorem dX12_ofPart_29 : decode cX12_ofPart 29 = .ok (.pop, 1) := by decide +kernel
theorem dX12_ofPart_30 : decode cX12_ofPart 30 = .ok (.aload_n 0, 1) := by decide +kernel
theorem dX12_ofPart_31 : decode cX12_ofPart 31 = .ok (.iload 5, 2) := by decide +kernel
theorem dX12_ofPart_33 : decode cX12_ofPart 33 = .ok (.invokevirtual 474, 3) := by decide +kernel
theorem dX12_ofPart_36 : decode cX12_ofPart 36 = .ok (.return_, 1) := by decide +kernel
theorem as_h0 {μo μ μ1 : M3} {t H : Int} (h : mEX μo μ t 1 0 H) (g : mAD μ μ1 34 0 0) : mH0 μ1 := by
  have z := g.1.fo (t := t) _ (Int.le_refl _)
  have h1 := h.h
  have h0 := h.h0
  have c0 := h.1.1
  refine ⟨by have := h0.1; have := g.2.1; omega, ?_⟩
  rw [g.2.1, mh_s (by have := h0.1; omega), g.2.2.1, z.1, h1, g.2.2.2.2, show eem 34 0 = -1 from rfl]
  have := h0.2
  omega
theorem as_elsr {μo μ μ1 μ2 ν : M3} {t H r : Int} (h : mEX μo μ t 1 0 H) (ht : t = 2) (g : mAD μ μ1 34 0 0) (k : mEX μ1 μ2 t 1 0 H) (hr : r = μ.1 111 22) (l : mMF μ2 ν r (μ2.1 111 22)) : mEX μo ν t 1 0 H := by
  subst hr
  exact as_els h ht g k l
set_option maxHeartbeats 4000000 in
set_option maxRecDepth 100000 in
theorem c_X12_two (ω : Om) (l : Launch) (μ : M3) (x1 : Int) (x2 : Int) (μo : M3) (H : Int) (tt : Int) (hx1 : ir x1) (hx2 : ir x2) (htt : tt = μ.1 111 14) (hcd : 0 ≤ μ.1 111 22 ∧ μ.1 111 22 < 8980) (hsg : sgn x1) (ha : x2 = -1 ∨ (0 ≤ x2 ∧ x2 < μ.1 111 22)) (hX : ∀ _ : Unit, bd μ = 0 → mPX μo μ tt 2 1 H (lsk x2 ++ [])) : CtV ω l yX12_two cX12_two 4 2 46 [.ref (oP ω 111), .int (iv x1), .int (iv x2)] μ (fun (μ' : M3) => (FrM [111, 115, 116, 117] μ μ') ∧ (∀ j, j ∉ ([22] : List Int) → μ'.1 111 j = μ.1 111 j) ∧ (μ.1 111 22 ≤ μ'.1 111 22 ∧ μ'.1 111 22 ≤ μ.1 111 22 + 2) ∧ (bd μ' = bd μ) ∧ (∀ _ : Unit, bd μ' = 0 → mEX μo μ' tt 1 0 H) ∧ (∀ π : M3, mEXT π μ → (x2 = -1 ∨ π.1 111 22 ≤ x2) → mEXT π μ')) := by
  refine CtV.go (by decide) (Nat.le_of_ble_eq_true rfl) (fun ρ p e s m below meth c R ls G hR hret hlk hl => ?_)
  have hx := G.1.1
  have hb := G.1.2.1
  have hl : lv_has ls 4 [(0, .ref (oP ω 111)), (1, .int (iv x1)), (2, .int (iv x2))] := hl
  generalize s.drawn = d0 at G ⊢
  have hr_x1 : -2147483648 ≤ x1 ∧ x1 ≤ 2147483647 := hx1
  have hr_x2 : -2147483648 ≤ x2 ∧ x2 ≤ 2147483647 := hx2
  have hw_0 := wr_r (μ := μ)
  refine lv_aload_n hx hb dX12_two_0 rfl (lv_at hl 0 rfl) ?_
  refine lv_iconst (v := iv 1) hx hb dX12_two_1 rfl ?_
  have e_1 : μ.1 111 14 = tt := htt.symm
  refine xc_iV G (b := 111) (rest := []) (As := [.int (iv 1)]) (c_X12_skips ω l μ 1 tt (by unfold ir; omega) (by omega) (by omega)) (wm 9 159 rfl rfl) (wm 9 161 rfl rfl) (wm 0 152 rfl rfl) rfl rfl (by decide) rfl (wm 1 18 rfl rfl) (wm 9 162 rfl rfl) (by decide) hR (by decide) (n := 1) rfl rfl (Nat.le_of_ble_eq_true rfl) hl.1 dX12_two_2 (fun r_3 μ2 ρ d0 H locs hr_r_3 hp G => ?_)
  have hr_r_3 : -2147483648 ≤ r_3 ∧ r_3 ≤ 2147483647 := hr_r_3
  obtain ⟨F_4, hp_5, hp_6, hp_7⟩ := hp
  have hqr_ : (r_3 = -1) ∨ (0 ≤ r_3 ∧ r_3 < μ2.1 111 22) := by rcases hp_6 with ⟨q1, q2, q3, q4⟩ | ⟨q1, q2, q3⟩; (right; have := q2.2.1; omega); (left; exact q2)
  replace hp_6 := fun _ : Unit => hp_6
  refine lv_istore_n (lv' := [(3, .int (iv r_3)), (0, .ref (oP ω 111)), (1, .int (iv x1)), (2, .int (iv x2))]) hx hb dX12_two_5 rfl hl (by decide) rfl (fun ls hl => ?_)
  refine lv_aload_n hx hb dX12_two_6 rfl (lv_at hl 1 rfl) ?_
  refine lv_bipush (v := iv 31) hx hb dX12_two_7 rfl ?_
  refine lv_iload_n hx hb dX12_two_9 rfl (lv_at hl 2 rfl) ?_
  refine xb_i2l hx hb (by unfold ir; omega) dX12_two_10 ?_
  refine lv_iconst (v := iv 0) hx hb dX12_two_11 rfl ?_
  refine xc_iV G (b := 111) (rest := []) (As := [.int (iv 31), .long (jv x1), .int (iv 0)]) (c_X12_emit ω l μ2 31 x1 0 (by unfold ir; omega) (by unfold jr; omega) (by unfold ir; omega) (by omega)) (wm 9 126 rfl rfl) (wm 9 128 rfl rfl) (wm 0 144 rfl rfl) rfl rfl (by decide) rfl (wm 1 18 rfl rfl) (wm 9 129 rfl rfl) (by decide) hR (by decide) (n := 3) rfl rfl (Nat.le_of_ble_eq_true rfl) hl.1 dX12_two_12 (fun r_9 μ8 ρ d0 H locs hr_r_9 hp G => ?_)
  have hr_r_9 : -2147483648 ≤ r_9 ∧ r_9 ≤ 2147483647 := hr_r_9
  obtain ⟨F_10, hp_11, hp_12, hp_13, hp_14⟩ := hp
  refine lv_pop hx hb dX12_two_15 rfl ?_
  refine lv_aload_n hx hb dX12_two_16 rfl (lv_at hl 1 rfl) ?_
  refine lv_iload_n hx hb dX12_two_17 rfl (lv_at hl 3 rfl) ?_
  refine xc_vV G (b := 111) (rest := []) (As := [.int (iv x2)]) (c_X12_landsSkip ω l μ8 x2 (by unfold ir; omega) (by omega) (by omega)) (wm 9 163 rfl rfl) (wm 9 165 rfl rfl) (wm 0 153 rfl rfl) rfl rfl (by decide) rfl (wm 1 18 rfl rfl) (wm 9 166 rfl rfl) (by decide) hR (by decide) (n := 1) rfl rfl (Nat.le_of_ble_eq_true rfl) hl.1 dX12_two_18 (fun μ15 ρ d0 H locs hp G => ?_)
  obtain ⟨F_16, hp_17, hp_18⟩ := hp
  refine lv_aload_n hx hb dX12_two_21 rfl (lv_at hl 1 rfl) ?_
  refine lv_iload_n hx hb dX12_two_22 rfl (lv_at hl 0 rfl) ?_
  have e_19 : μ15.1 111 22 = μ8.1 111 22 := (F_16.1 111 (by decide) 22)
  have e_20 : μ15.1 111 22 = μ8.1 111 22 := (F_16.1 111 (by decide) 22)
  have e_21 : μ15.1 111 22 = μ8.1 111 22 := (F_16.1 111 (by decide) 22)
  have e_22 : μ15.1 111 22 = μ8.1 111 22 := (F_16.1 111 (by decide) 22)
  have e_23 : μ15.1 111 22 = μ8.1 111 22 := (F_16.1 111 (by decide) 22)
  refine xc_vV G (b := 111) (rest := []) (As := [.int (iv r_3)]) (c_X12_landsSkip ω l μ15 r_3 (by unfold ir; omega) (by omega) (by omega)) (wm 9 163 rfl rfl) (wm 9 165 rfl rfl) (wm 0 153 rfl rfl) rfl rfl (by decide) rfl (wm 1 18 rfl rfl) (wm 9 166 rfl rfl) (by decide) hR (by decide) (n := 1) rfl rfl (Nat.le_of_ble_eq_true rfl) hl.1 dX12_two_23 (fun μ24 ρ d0 H locs hp G => ?_)
  obtain ⟨F_25, hp_26, hp_27⟩ := hp
  have e_28 : bd μ24 = bd μ := ((bd_cg (F_25.1 111 (by decide) 15) (F_25.1 111 (by decide) 16) (F_25.1 111 (by decide) 17)).trans ((bd_cg (F_16.1 111 (by decide) 15) (F_16.1 111 (by decide) 16) (F_16.1 111 (by decide) 17)).trans ((bd_cg (hp_11 15 (by decide)) (hp_11 16 (by decide)) (hp_11 17 (by decide))).trans (bd_cg (hp_5 15 (by decide)) (hp_5 16 (by decide)) (hp_5 17 (by decide))))))
  have e_29 : μ24.1 111 22 = μ8.1 111 22 := ((F_25.1 111 (by decide) 22).trans (F_16.1 111 (by decide) 22))
  have e_30 : μ24.1 111 22 = μ8.1 111 22 := ((F_25.1 111 (by decide) 22).trans (F_16.1 111 (by decide) 22))
  have e_31 : bd μ24 = bd μ := ((bd_cg (F_25.1 111 (by decide) 15) (F_25.1 111 (by decide) 16) (F_25.1 111 (by decide) 17)).trans ((bd_cg (F_16.1 111 (by decide) 15) (F_16.1 111 (by decide) 16) (F_16.1 111 (by decide) 17)).trans ((bd_cg (hp_11 15 (by decide)) (hp_11 16 (by decide)) (hp_11 17 (by decide))).trans (bd_cg (hp_5 15 (by decide)) (hp_5 16 (by decide)) (hp_5 17 (by decide))))))
  exact xr_v G hret hlk dX12_two_26 ⟨(FrM.tr (FrM.tr (FrM.tr (FrM.tr FrM.rf F_4 (by decide)) F_10 (by decide)) F_16 (by decide)) F_25 (by decide)), (fun j hj => ((F_25.1 111 (by decide) j).trans ((F_16.1 111 (by decide) j).trans ((hp_11 j (fun h9 => hj ((by decide : ∀ x ∈ ([22] : List Int), x ∈ ([22] : List Int)) j h9))).trans (hp_5 j (fun h9 => hj ((by decide : ∀ x ∈ ([22] : List Int), x ∈ ([22] : List Int)) j h9))))))), (by omega), (by omega), (fun _ h0 => as_two hsg (hX () (by have e9 : bd μ = bd μ := rfl; have e8 : bd μ24 = bd μ := ((bd_cg (F_25.1 111 (by decide) 15) (F_25.1 111 (by decide) 16) (F_25.1 111 (by decide) 17)).trans ((bd_cg (F_16.1 111 (by decide) 15) (F_16.1 111 (by decide) 16) (F_16.1 111 (by decide) 17)).trans ((bd_cg (hp_11 15 (by decide)) (hp_11 16 (by decide)) (hp_11 17 (by decide))).trans (bd_cg (hp_5 15 (by decide)) (hp_5 16 (by decide)) (hp_5 17 (by decide)))))); omega)) (hp_6 ()) hp_12 hp_17 hp_26), (as_twoE (hp_6 ()) hp_12 hp_17 hp_26)⟩

set_option maxHeartbeats 4000000 in
set_option maxRecDepth 100000 in
theorem c_X12_ofPart (ω : Om) (l : Launch) (μ : M3) (x1 : Int) (x2 : Int) (x3 : Int) (x4 : Int) (F : Nat) (Lo : Nat) (Fu : Nat) (Lu : Nat) (kf : Int) (tt : Int) (hx1 : ir x1) (hx2 : ir x2) (hx3 : ir x3) (hx4 : ir x4) (htt : tt = μ.1 111 14) (hF : 60 ≤ F) (hLo : 2000 ≤ Lo) (hFu : Fu ≤ F) (hLu : Lu ≤ Lo) (hE : ∀ (μ : M3) (tt : Int) (htt : tt = μ.1 111 14) (hPM : PM μ) (hnn : 0 ≤ nn μ ∧ nn μ ≤ 9 ∧ 9 * wr μ ≤ nn μ) (hn8 : nn μ ≤ 8 + wr μ) (hcd : 0 ≤ μ.1 111 22 ∧ μ.1 111 22 ≤ 2 * μ.1 111 9 + 200 + 40 * wr μ) (hW : 0 ≤ μ.1 111 39 ∧ μ.1 111 39 ≤ μ.1 111 22) (hsl : 0 ≤ μ.1 111 31 ∧ μ.1 111 31 ≤ 300) (hfu : 0 ≤ (kf - 1) ∧ 9 ≤ nn μ + (kf - 1)) (hH0 : ∀ _ : Unit, bd μ = 0 → mH0 μ), CtV ω l yX12_expr cX12_expr 1 (F + 0) (Lo + 0) [.ref (oP ω 111)] μ (fun (μ' : M3) => (FrM [111, 113, 115, 116, 117, 123, 126] μ μ') ∧ (∀ j, j ∉ ([6, 8, 9, 10, 11, 12, 13, 15, 16, 17, 18, 22, 29, 39] : List Int) → μ'.1 111 j = μ.1 111 j) ∧ (PM μ') ∧ (μ.1 111 22 ≤ μ'.1 111 22 ∧ μ'.1 111 22 ≤ μ.1 111 22 + 2 * (μ'.1 111 9 - μ.1 111 9) + (- 1 + 3 * wr μ' - 2 * wr μ)) ∧ (μ.1 111 9 ≤ μ'.1 111 9) ∧ (μ.1 111 29 ≤ μ'.1 111 29) ∧ (wr μ ≤ wr μ' ∧ bd μ ≤ bd μ') ∧ (nn μ ≤ nn μ' ∧ nn μ' ≤ nn μ + 9 * wr μ' ∧ nn μ' ≤ 9 ∧ 9 * wr μ' ≤ nn μ') ∧ (μ'.1 111 39 = μ.1 111 39) ∧ (∀ j, j < μ.1 111 39 → μ'.1 126 j = μ.1 126 j) ∧ (∀ _ : Unit, bd μ' = 0 → mEX μ μ' tt 1 0 (11 * (9 - nn μ))) ∧ (mEXT μ μ'))) (hU : ∀ (μ : M3) (tt : Int) (htt : tt = μ.1 111 14) (hPM : PM μ) (hnn : 0 ≤ nn μ ∧ nn μ ≤ 9 ∧ 9 * wr μ ≤ nn μ) (hn8 : nn μ ≤ 8 + wr μ) (hcd : 0 ≤ μ.1 111 22 ∧ μ.1 111 22 ≤ 2 * μ.1 111 9 + 200 + 40 * wr μ) (hW : 0 ≤ μ.1 111 39 ∧ μ.1 111 39 ≤ μ.1 111 22) (hsl : 0 ≤ μ.1 111 31 ∧ μ.1 111 31 ≤ 300) (hfu : 0 ≤ (kf - 1) ∧ 9 ≤ nn μ + (kf - 1)) (hH0 : ∀ _ : Unit, bd μ = 0 → mH0 μ), CtV ω l yX12_unary cX12_unary 6 (Fu + 0) (Lu + 0) [.ref (oP ω 111)] μ (fun (μ' : M3) => (FrM [111, 113, 115, 116, 117, 123, 126] μ μ') ∧ (∀ j, j ∉ ([6, 8, 9, 10, 11, 12, 13, 15, 16, 17, 18, 22, 29, 39] : List Int) → μ'.1 111 j = μ.1 111 j) ∧ (PM μ') ∧ (μ.1 111 22 ≤ μ'.1 111 22 ∧ μ'.1 111 22 ≤ μ.1 111 22 + 2 * (μ'.1 111 9 - μ.1 111 9) + (- 1 + 3 * wr μ' - 2 * wr μ)) ∧ (μ.1 111 9 ≤ μ'.1 111 9) ∧ (μ.1 111 29 ≤ μ'.1 111 29) ∧ (wr μ ≤ wr μ' ∧ bd μ ≤ bd μ') ∧ (nn μ ≤ nn μ' ∧ nn μ' ≤ nn μ + 9 * wr μ' ∧ nn μ' ≤ 9 ∧ 9 * wr μ' ≤ nn μ') ∧ (μ'.1 111 39 = μ.1 111 39) ∧ (∀ j, j < μ.1 111 39 → μ'.1 126 j = μ.1 126 j) ∧ (∀ _ : Unit, bd μ' = 0 → mEX μ μ' tt 1 0 (11 * (9 - nn μ) - 3)) ∧ (mEXT μ μ'))) (hPM : PM μ) (hnn : 0 ≤ nn μ ∧ nn μ ≤ 9 ∧ 9 * wr μ ≤ nn μ) (hn8 : nn μ ≤ 8 + wr μ) (hcd : 0 ≤ μ.1 111 22 ∧ μ.1 111 22 ≤ 2 * μ.1 111 9 + 200 + 40 * wr μ) (hW : 0 ≤ μ.1 111 39 ∧ μ.1 111 39 ≤ μ.1 111 22) (hsl : 0 ≤ μ.1 111 31 ∧ μ.1 111 31 ≤ 300) (hfu : 0 ≤ kf ∧ 9 ≤ nn μ + kf) (hH0 : ∀ _ : Unit, bd μ = 0 → mH0 μ) (ho : x1 = 22 ∨ x1 = 23 ∨ x1 = 29 ∨ x1 = 32) (hb29 : x1 = 29 → tt = 2) (hk1 : 1 ≤ kf) : CtV ω l yX12_ofPart cX12_ofPart 6 (F + 1) (Lo + 20) [.ref (oP ω 111), .int (iv x1), .int (iv x2), .int (iv x3), .int (iv x4)] μ (fun (μ' : M3) => (FrM [111, 113, 115, 116, 117, 123, 126] μ μ') ∧ (∀ j, j ∉ ([6, 8, 9, 10, 11, 12, 13, 15, 16, 17, 18, 22, 29, 39] : List Int) → μ'.1 111 j = μ.1 111 j) ∧ (PM μ') ∧ (μ.1 111 22 ≤ μ'.1 111 22 ∧ μ'.1 111 22 ≤ μ.1 111 22 + 2 * (μ'.1 111 9 - μ.1 111 9) + (- 3 + 5 * wr μ')) ∧ (μ.1 111 9 ≤ μ'.1 111 9) ∧ (μ.1 111 29 ≤ μ'.1 111 29) ∧ (wr μ ≤ wr μ' ∧ bd μ ≤ bd μ') ∧ (nn μ ≤ nn μ' ∧ nn μ' ≤ nn μ + 9 * wr μ' ∧ nn μ' ≤ 9 ∧ 9 * wr μ' ≤ nn μ') ∧ (μ'.1 111 39 = μ.1 111 39) ∧ (∀ j, j < μ.1 111 39 → μ'.1 126 j = μ.1 126 j) ∧ (∀ _ : Unit, bd μ' = 0 → mEX μ μ' tt 1 0 (11 * (9 - nn μ) - 3)) ∧ (mEXT μ μ')) := by
  refine CtV.go (by decide) (Nat.le_of_ble_eq_true rfl) (fun ρ p e s m below meth c R ls G hR hret hlk hl => ?_)
  have hx := G.1.1
  have hb := G.1.2.1
  have hl : lv_has ls 6 [(0, .ref (oP ω 111)), (1, .int (iv x1)), (2, .int (iv x2)), (3, .int (iv x3)), (4, .int (iv x4))] := hl
  generalize s.drawn = d0 at G ⊢
  have hr_x1 : -2147483648 ≤ x1 ∧ x1 ≤ 2147483647 := hx1
  have hr_x2 : -2147483648 ≤ x2 ∧ x2 ≤ 2147483647 := hx2
  have hr_x3 : -2147483648 ≤ x3 ∧ x3 ≤ 2147483647 := hx3
  have hr_x4 : -2147483648 ≤ x4 ∧ x4 ≤ 2147483647 := hx4
  have hw_0 := wr_r (μ := μ)
  have hpp_ := hPM.1.2.1
  have hpn_ := hPM.2.1
  have hpt_ := hPM.1.2.2.2.1
  have hpw_ := hPM.1.2.2.2.2.1
  have hpa_ := hPM.1.1
  have hX_1 : ∀ _ : Unit, bd μ = 0 → mPX μ μ tt 0 1 (11 * (9 - nn μ) - 3) [] := fun _ h0 => mPX.nil (hH0 () h0) (by omega)
  refine lv_aload_n hx hb dX12_ofPart_0 rfl (lv_at hl 0 rfl) ?_
  refine lv_iload_n hx hb dX12_ofPart_1 rfl (lv_at hl 2 rfl) ?_
  refine xc_vV G (b := 111) (rest := []) (As := [.int (iv x2)]) (c_X12_opensWith ω l μ x2 (by unfold ir; omega) hPM (by omega) (by omega)) (wm 9 86 rfl rfl) (wm 9 88 rfl rfl) (wm 0 134 rfl rfl) rfl rfl (by decide) rfl (wm 1 18 rfl rfl) (wm 9 89 rfl rfl) (by decide) hR ⟨nfr hF (by decide), nlo hLo (by decide)⟩ (n := 1) rfl rfl (Nat.le_of_ble_eq_true rfl) hl.1 dX12_ofPart_2 (fun μ2 ρ d0 H locs hp G => ?_)
  obtain ⟨F_3, hp_4, hp_5, hp_6, hp_7, hp_8, hp_9⟩ := hp
  have hpl_10 := hp_5.pl
  have hw_11 := wr_r (μ := μ2)
  have e_12 : μ2.1 111 31 = μ.1 111 31 := (hp_4 31 (by decide))
  refine lv_aload_n hx hb dX12_ofPart_5 rfl (lv_at hl 0 rfl) ?_
  have e_13 : μ2.1 111 29 = μ.1 111 29 := (hp_4 29 (by decide))
  have e_15 : μ2.1 111 29 = μ.1 111 29 := (hp_4 29 (by decide))
  have hX_14 : ∀ _ : Unit, bd μ2 = 0 → mPX μ μ2 tt 0 1 (11 * (9 - nn μ) - 3) [] := fun _ h0 => (hX_1 () (by have e9 : bd μ = bd μ := rfl; have e8 : bd μ2 = bd μ2 := rfl; omega)).qm (q0m.fr (K := [111]) (FrM.tr FrM.rf F_3 (by decide)) (by decide) (by decide) (by decide) (hp_4 22 (by decide)) (nS.le (by omega) (Int.le_of_eq ((hp_4 31 (by decide))).symm)))
  have e_16 : μ2.1 111 29 = μ.1 111 29 := (hp_4 29 (by decide))
  have e_17 : μ2.1 111 29 = μ.1 111 29 := (hp_4 29 (by decide))
  have hxt_18 : mEXT μ μ2 := (q0m.fr (K := [111]) (FrM.tr FrM.rf F_3 (by decide)) (by decide) (by decide) (by decide) (hp_4 22 (by decide)) (nS.le (by omega) (Int.le_of_eq ((hp_4 31 (by decide))).symm))).1
  have e_19 : μ2.1 111 14 = tt := ((hp_4 14 (by decide)).trans htt.symm)
  have e_20 : μ2.1 111 22 = μ.1 111 22 := (hp_4 22 (by decide))
  have e_21 : μ2.1 111 22 = μ.1 111 22 := (hp_4 22 (by decide))
  have e_22 : μ2.1 111 39 = μ.1 111 39 := (hp_4 39 (by decide))
  have e_23 : μ2.1 111 39 = μ.1 111 39 := (hp_4 39 (by decide))
  have e_24 : μ2.1 111 22 = μ.1 111 22 := (hp_4 22 (by decide))
  have e_25 : μ2.1 111 31 = μ.1 111 31 := (hp_4 31 (by decide))
  have e_26 : μ2.1 111 31 = μ.1 111 31 := (hp_4 31 (by decide))
  have e_27 : μ2.1 111 22 = μ.1 111 22 := (hp_4 22 (by decide))
  have e_28 : μ2.1 111 22 = μ.1 111 22 := (hp_4 22 (by decide))
  have e_29 : μ2.1 111 29 = μ.1 111 29 := (hp_4 29 (by decide))
  have e_30 : μ2.1 111 39 = μ.1 111 39 := (hp_4 39 (by decide))
  refine xc_vV G (b := 111) (rest := []) (As := []) (((fun (_ : Om) (_ : Launch) => hE)) ω l μ2 tt (by omega) hp_5 (by omega) (by omega) (by omega) (by omega) (by omega) (by omega) (fun _ h0 => ((hX_14 ()) h0).h1.1)) (wm 9 139 rfl rfl) (wm 9 141 rfl rfl) (wm 0 147 rfl rfl) rfl rfl (by decide) rfl (wm 1 18 rfl rfl) (wm 9 142 rfl rfl) (by decide) hR ⟨sfr (F := F) (a := 0) (by decide), slo (L := Lo) (m := 1) (a := 0) (by decide)⟩ (n := 0) rfl rfl (Nat.le_of_ble_eq_true rfl) hl.1 dX12_ofPart_6 (fun μ31 ρ d0 H locs hp G => ?_)
  obtain ⟨F_32, hp_33, hp_34, hp_35, hp_36, hp_37, hp_38, hp_39, hp_40, hp_41, hp_42, hp_43⟩ := hp
  have hpl_44 := hp_34.pl
  have hw_45 := wr_r (μ := μ31)
  have hxt_46 : mEXT μ μ31 := hxt_18.tr hp_43
  have e_47 : μ31.1 111 31 = μ.1 111 31 := ((hp_33 31 (by decide)).trans (hp_4 31 (by decide)))
  have hX_48 : ∀ _ : Unit, bd μ31 = 0 → mPX μ μ31 tt 1 1 (11 * (9 - nn μ) - 3) [] := fun _ h0 => (((hX_14 ()) (by have e9 : bd μ2 = bd μ2 := rfl; have e8 : bd μ31 = bd μ31 := rfl; omega)).app (hp_42 () h0) (by omega)).ee (by omega)
  refine lv_aload_n hx hb dX12_ofPart_9 rfl (lv_at hl 0 rfl) ?_
  refine lv_iload_n hx hb dX12_ofPart_10 rfl (lv_at hl 3 rfl) ?_
  refine xc_vV G (b := 111) (rest := []) (As := [.int (iv x3)]) (c_X12_closesWith ω l μ31 x3 (by unfold ir; omega) hp_34 (by omega) (by omega)) (wm 9 110 rfl rfl) (wm 9 112 rfl rfl) (wm 0 140 rfl rfl) rfl rfl (by decide) rfl (wm 1 18 rfl rfl) (wm 9 113 rfl rfl) (by decide) hR ⟨nfr hF (by decide), nlo hLo (by decide)⟩ (n := 1) rfl rfl (Nat.le_of_ble_eq_true rfl) hl.1 dX12_ofPart_11 (fun μ49 ρ d0 H locs hp G => ?_)
  obtain ⟨F_50, hp_51, hp_52, hp_53, hp_54, hp_55, hp_56⟩ := hp
  have hpl_57 := hp_52.pl
  have hw_58 := wr_r (μ := μ49)
  have e_59 : μ49.1 111 31 = μ.1 111 31 := ((hp_51 31 (by decide)).trans ((hp_33 31 (by decide)).trans (hp_4 31 (by decide))))
  refine lv_aload_n hx hb dX12_ofPart_14 rfl (lv_at hl 0 rfl) ?_
  refine lv_iconst (v := iv 0) hx hb dX12_ofPart_15 rfl ?_
  have e_60 : μ49.1 111 29 = μ31.1 111 29 := (hp_51 29 (by decide))
  have e_62 : μ49.1 111 29 = μ31.1 111 29 := (hp_51 29 (by decide))
  have hX_61 : ∀ _ : Unit, bd μ49 = 0 → mPX μ μ49 tt 1 1 (11 * (9 - nn μ) - 3) [] := fun _ h0 => (hX_48 () (by have e9 : bd μ31 = bd μ31 := rfl; have e8 : bd μ49 = bd μ49 := rfl; omega)).qm (q0m.fr (K := [111]) (FrM.tr FrM.rf F_50 (by decide)) (by decide) (by decide) (by decide) (hp_51 22 (by decide)) (nS.le (by omega) (Int.le_of_eq (((((hp_51 31 (by decide)).trans ((hp_33 31 (by decide)).trans (hp_4 31 (by decide))))).trans (((hp_33 31 (by decide)).trans (hp_4 31 (by decide)))).symm)).symm)))
  have e_63 : μ49.1 111 29 = μ31.1 111 29 := (hp_51 29 (by decide))
  have e_64 : μ49.1 111 29 = μ31.1 111 29 := (hp_51 29 (by decide))
  have hxt_65 : mEXT μ μ49 := hxt_46.tr (q0m.fr (K := [111]) (FrM.tr FrM.rf F_50 (by decide)) (by decide) (by decide) (by decide) (hp_51 22 (by decide)) (nS.le (by omega) (Int.le_of_eq (((((hp_51 31 (by decide)).trans ((hp_33 31 (by decide)).trans (hp_4 31 (by decide))))).trans (((hp_33 31 (by decide)).trans (hp_4 31 (by decide)))).symm)).symm))).1
  have e_66 : μ49.1 111 14 = tt := ((hp_51 14 (by decide)).trans ((hp_33 14 (by decide)).trans ((hp_4 14 (by decide)).trans htt.symm)))
  have e_67 : μ49.1 111 22 = μ31.1 111 22 := (hp_51 22 (by decide))
  have e_68 : μ49.1 111 22 = μ31.1 111 22 := (hp_51 22 (by decide))
  have e_69 : μ49.1 111 22 = μ31.1 111 22 := (hp_51 22 (by decide))
  have e_70 : μ49.1 111 22 = μ31.1 111 22 := (hp_51 22 (by decide))
  refine xc_iV G (b := 111) (rest := []) (As := [.int (iv 0)]) (c_X12_skips ω l μ49 0 tt (by unfold ir; omega) (by omega) (by omega)) (wm 9 159 rfl rfl) (wm 9 161 rfl rfl) (wm 0 152 rfl rfl) rfl rfl (by decide) rfl (wm 1 18 rfl rfl) (wm 9 162 rfl rfl) (by decide) hR ⟨nfr hF (by decide), nlo hLo (by decide)⟩ (n := 1) rfl rfl (Nat.le_of_ble_eq_true rfl) hl.1 dX12_ofPart_16 (fun r_72 μ71 ρ d0 H locs hr_r_72 hp G => ?_)
  have hr_r_72 : -2147483648 ≤ r_72 ∧ r_72 ≤ 2147483647 := hr_r_72
  obtain ⟨F_73, hp_74, hp_75, hp_76⟩ := hp
  have hqr_r_72 : (r_72 = -1) ∨ (μ.1 111 22 ≤ r_72 ∧ r_72 < μ71.1 111 22) := by rcases hp_75 with ⟨q1, q2, q3, q4⟩ | ⟨q1, q2, q3⟩; (right; have := q2.2.1; omega); (left; exact q2)
  have hxt_77 : mEXT μ μ71 := hxt_65.tr hp_75.ext
  have e_78 : μ71.1 111 31 = μ.1 111 31 := ((hp_74 31 (by decide)).trans ((hp_51 31 (by decide)).trans ((hp_33 31 (by decide)).trans (hp_4 31 (by decide)))))
  have e_79 : wr μ71 = wr μ49 := (wr_cg (hp_74 15 (by decide)))
  have e_80 : bd μ71 = bd μ49 := (bd_cg (hp_74 15 (by decide)) (hp_74 16 (by decide)) (hp_74 17 (by decide)))
  have e_81 : nn μ71 = nn μ49 := (nn_cg (hp_74 15 (by decide)) (hp_74 18 (by decide)))
  replace hp_75 := fun _ : Unit => hp_75
  have e_83 : μ71.1 111 29 = μ31.1 111 29 := ((hp_74 29 (by decide)).trans (hp_51 29 (by decide)))
  have hX_82 : ∀ _ : Unit, bd μ71 = 0 → mPX μ μ71 tt 1 1 (11 * (9 - nn μ) - 3) (lsk r_72 ++ []) := fun _ h0 => mPX.sk ((hX_61 ()) (by have e9 : bd μ49 = bd μ49 := rfl; have e8 : bd μ71 = bd μ49 := (bd_cg (hp_74 15 (by decide)) (hp_74 16 (by decide)) (hp_74 17 (by decide))); omega)) (hp_75 ()) (by omega) (by omega) (by decide)
  refine lv_istore (lv' := [(5, .int (iv r_72)), (0, .ref (oP ω 111)), (1, .int (iv x1)), (2, .int (iv x2)), (3, .int (iv x3)), (4, .int (iv x4))]) hx hb dX12_ofPart_19 hl (by decide) rfl (fun ls hl => ?_)
  refine lv_aload_n hx hb dX12_ofPart_21 rfl (lv_at hl 1 rfl) ?_
  refine lv_iload_n hx hb dX12_ofPart_22 rfl (lv_at hl 2 rfl) ?_
  refine lv_lconst (v := jv 0) hx hb dX12_ofPart_23 rfl ?_
  refine lv_iload hx hb dX12_ofPart_24 (lv_at hl 5 rfl) ?_
  have e_84 : μ71.1 111 29 = μ31.1 111 29 := ((hp_74 29 (by decide)).trans (hp_51 29 (by decide)))
  refine xc_iV G (b := 111) (rest := []) (As := [.int (iv x1), .long (jv 0), .int (iv x4)]) (c_X12_emit ω l μ71 x1 0 x4 (by unfold ir; omega) (by unfold jr; omega) (by unfold ir; omega) (by omega)) (wm 9 126 rfl rfl) (wm 9 128 rfl rfl) (wm 0 144 rfl rfl) rfl rfl (by decide) rfl (wm 1 18 rfl rfl) (wm 9 129 rfl rfl) (by decide) hR ⟨nfr hF (by decide), nlo hLo (by decide)⟩ (n := 3) rfl rfl (Nat.le_of_ble_eq_true rfl) hl.1 dX12_ofPart_26 (fun r_86 μ85 ρ d0 H locs hr_r_86 hp G => ?_)
  have hr_r_86 : -2147483648 ≤ r_86 ∧ r_86 ≤ 2147483647 := hr_r_86
  obtain ⟨F_87, hp_88, hp_89, hp_90, hp_91⟩ := hp
  have hxt_92 : mEXT μ μ85 := hxt_77.tr hp_89.1
  have e_93 : μ85.1 111 31 = μ.1 111 31 := ((hp_88 31 (by decide)).trans ((hp_74 31 (by decide)).trans ((hp_51 31 (by decide)).trans ((hp_33 31 (by decide)).trans (hp_4 31 (by decide))))))
  have e_94 : wr μ85 = wr μ49 := ((wr_cg (hp_88 15 (by decide))).trans (wr_cg (hp_74 15 (by decide))))
  have e_95 : bd μ85 = bd μ49 := ((bd_cg (hp_88 15 (by decide)) (hp_88 16 (by decide)) (hp_88 17 (by decide))).trans (bd_cg (hp_74 15 (by decide)) (hp_74 16 (by decide)) (hp_74 17 (by decide))))
  have e_96 : nn μ85 = nn μ49 := ((nn_cg (hp_88 15 (by decide)) (hp_88 18 (by decide))).trans (nn_cg (hp_74 15 (by decide)) (hp_74 18 (by decide))))
  refine lv_pop hx hb dX12_ofPart_29 rfl ?_
  refine lv_aload_n hx hb dX12_ofPart_30 rfl (lv_at hl 1 rfl) ?_
  refine lv_iload hx hb dX12_ofPart_31 (lv_at hl 0 rfl) ?_
  have e_97 : μ85.1 111 29 = μ31.1 111 29 := ((hp_88 29 (by decide)).trans ((hp_74 29 (by decide)).trans (hp_51 29 (by decide))))
  refine xc_vV G (b := 111) (rest := []) (As := [.int (iv r_72)]) (c_X12_landsSkip ω l μ85 r_72 (by unfold ir; omega) (by omega) (by omega)) (wm 9 163 rfl rfl) (wm 9 165 rfl rfl) (wm 0 153 rfl rfl) rfl rfl (by decide) rfl (wm 1 18 rfl rfl) (wm 9 166 rfl rfl) (by decide) hR ⟨nfr hF (by decide), nlo hLo (by decide)⟩ (n := 1) rfl rfl (Nat.le_of_ble_eq_true rfl) hl.1 dX12_ofPart_33 (fun μ98 ρ d0 H locs hp G => ?_)
  obtain ⟨F_99, hp_100, hp_101⟩ := hp
  have e_103 : μ98.1 111 22 = μ85.1 111 22 := (F_99.1 111 (by decide) 22)
  have hxt_102 : mEXT μ μ98 := hxt_92.aim hp_100 (by omega)
  have e_104 : μ98.1 111 22 = μ85.1 111 22 := (F_99.1 111 (by decide) 22)
  have e_105 : μ98.1 111 9 = μ49.1 111 9 := ((F_99.1 111 (by decide) 9).trans ((hp_88 9 (by decide)).trans (hp_74 9 (by decide))))
  have e_106 : μ98.1 111 29 = μ31.1 111 29 := ((F_99.1 111 (by decide) 29).trans ((hp_88 29 (by decide)).trans ((hp_74 29 (by decide)).trans (hp_51 29 (by decide)))))
  have e_107 : μ98.1 111 39 = μ31.1 111 39 := ((F_99.1 111 (by decide) 39).trans ((hp_88 39 (by decide)).trans ((hp_74 39 (by decide)).trans (hp_51 39 (by decide)))))
  have e_108 : wr μ98 = wr μ49 := ((wr_cg (F_99.1 111 (by decide) 15)).trans ((wr_cg (hp_88 15 (by decide))).trans (wr_cg (hp_74 15 (by decide)))))
  have e_109 : bd μ98 = bd μ49 := ((bd_cg (F_99.1 111 (by decide) 15) (F_99.1 111 (by decide) 16) (F_99.1 111 (by decide) 17)).trans ((bd_cg (hp_88 15 (by decide)) (hp_88 16 (by decide)) (hp_88 17 (by decide))).trans (bd_cg (hp_74 15 (by decide)) (hp_74 16 (by decide)) (hp_74 17 (by decide)))))
  have e_110 : nn μ98 = nn μ49 := ((nn_cg (F_99.1 111 (by decide) 15) (F_99.1 111 (by decide) 18)).trans ((nn_cg (hp_88 15 (by decide)) (hp_88 18 (by decide))).trans (nn_cg (hp_74 15 (by decide)) (hp_74 18 (by decide)))))
  have hPM_111 : PM μ98 := hp_52.cg ((((F_99.1 111 (by decide) 4).trans ((hp_88 4 (by decide)).trans ((hp_74 4 (by decide)).trans ((hp_51 4 (by decide)).trans ((hp_33 4 (by decide)).trans (hp_4 4 (by decide)))))))).trans (((hp_51 4 (by decide)).trans ((hp_33 4 (by decide)).trans (hp_4 4 (by decide))))).symm) ((F_99.1 111 (by decide) 6).trans ((hp_88 6 (by decide)).trans (hp_74 6 (by decide)))) ((((F_99.1 111 (by decide) 7).trans ((hp_88 7 (by decide)).trans ((hp_74 7 (by decide)).trans ((hp_51 7 (by decide)).trans ((hp_33 7 (by decide)).trans (hp_4 7 (by decide)))))))).trans (((hp_51 7 (by decide)).trans ((hp_33 7 (by decide)).trans (hp_4 7 (by decide))))).symm) ((F_99.1 111 (by decide) 8).trans ((hp_88 8 (by decide)).trans (hp_74 8 (by decide)))) ((F_99.1 111 (by decide) 9).trans ((hp_88 9 (by decide)).trans (hp_74 9 (by decide)))) ((F_99.1 111 (by decide) 11).trans ((hp_88 11 (by decide)).trans (hp_74 11 (by decide)))) ((F_99.1 111 (by decide) 12).trans ((hp_88 12 (by decide)).trans (hp_74 12 (by decide)))) ((((F_99.1 111 (by decide) 14).trans ((hp_88 14 (by decide)).trans ((hp_74 14 (by decide)).trans ((hp_51 14 (by decide)).trans ((hp_33 14 (by decide)).trans ((hp_4 14 (by decide)).trans htt.symm))))))).trans (((hp_51 14 (by decide)).trans ((hp_33 14 (by decide)).trans ((hp_4 14 (by decide)).trans htt.symm)))).symm) ((F_99.1 111 (by decide) 15).trans ((hp_88 15 (by decide)).trans (hp_74 15 (by decide)))) ((((F_99.1 111 (by decide) 29).trans ((hp_88 29 (by decide)).trans ((hp_74 29 (by decide)).trans (hp_51 29 (by decide)))))).trans ((hp_51 29 (by decide))).symm) (fun j => ((F_99.1 123 (by decide) j).trans ((F_87.1 123 (by decide) j).trans (F_73.1 123 (by decide) j))))
  have e_112 : μ98.1 111 22 = μ85.1 111 22 := (F_99.1 111 (by decide) 22)
  have e_113 : μ98.1 111 22 = μ85.1 111 22 := (F_99.1 111 (by decide) 22)
  have e_114 : μ98.1 111 9 = μ49.1 111 9 := ((F_99.1 111 (by decide) 9).trans ((hp_88 9 (by decide)).trans (hp_74 9 (by decide))))
  have e_115 : wr μ98 = wr μ49 := ((wr_cg (F_99.1 111 (by decide) 15)).trans ((wr_cg (hp_88 15 (by decide))).trans (wr_cg (hp_74 15 (by decide)))))
  have e_116 : μ98.1 111 9 = μ49.1 111 9 := ((F_99.1 111 (by decide) 9).trans ((hp_88 9 (by decide)).trans (hp_74 9 (by decide))))
  have e_117 : μ98.1 111 29 = μ31.1 111 29 := ((F_99.1 111 (by decide) 29).trans ((hp_88 29 (by decide)).trans ((hp_74 29 (by decide)).trans (hp_51 29 (by decide)))))
  have e_118 : wr μ98 = wr μ49 := ((wr_cg (F_99.1 111 (by decide) 15)).trans ((wr_cg (hp_88 15 (by decide))).trans (wr_cg (hp_74 15 (by decide)))))
  have e_119 : bd μ98 = bd μ49 := ((bd_cg (F_99.1 111 (by decide) 15) (F_99.1 111 (by decide) 16) (F_99.1 111 (by decide) 17)).trans ((bd_cg (hp_88 15 (by decide)) (hp_88 16 (by decide)) (hp_88 17 (by decide))).trans (bd_cg (hp_74 15 (by decide)) (hp_74 16 (by decide)) (hp_74 17 (by decide)))))
  have e_120 : wr μ98 = wr μ49 := ((wr_cg (F_99.1 111 (by decide) 15)).trans ((wr_cg (hp_88 15 (by decide))).trans (wr_cg (hp_74 15 (by decide)))))
  have e_121 : nn μ98 = nn μ49 := ((nn_cg (F_99.1 111 (by decide) 15) (F_99.1 111 (by decide) 18)).trans ((nn_cg (hp_88 15 (by decide)) (hp_88 18 (by decide))).trans (nn_cg (hp_74 15 (by decide)) (hp_74 18 (by decide)))))
  have e_122 : μ98.1 111 39 = μ31.1 111 39 := ((F_99.1 111 (by decide) 39).trans ((hp_88 39 (by decide)).trans ((hp_74 39 (by decide)).trans (hp_51 39 (by decide)))))
  exact xr_v G hret hlk dX12_ofPart_36 ⟨(FrM.tr (FrM.tr (FrM.tr (FrM.tr (FrM.tr (FrM.tr FrM.rf F_3 (by decide)) F_32 (by decide)) F_50 (by decide)) F_73 (by decide)) F_87 (by decide)) F_99 (by decide)), (fun j hj => ((F_99.1 111 (by decide) j).trans ((hp_88 j (fun h9 => hj ((by decide : ∀ x ∈ ([22] : List Int), x ∈ ([6, 8, 9, 10, 11, 12, 13, 15, 16, 17, 18, 22, 29, 39] : List Int)) j h9))).trans ((hp_74 j (fun h9 => hj ((by decide : ∀ x ∈ ([22] : List Int), x ∈ ([6, 8, 9, 10, 11, 12, 13, 15, 16, 17, 18, 22, 29, 39] : List Int)) j h9))).trans ((hp_51 j (fun h9 => hj ((by decide : ∀ x ∈ ([6, 8, 9, 10, 11, 12, 13, 15, 18] : List Int), x ∈ ([6, 8, 9, 10, 11, 12, 13, 15, 16, 17, 18, 22, 29, 39] : List Int)) j h9))).trans ((hp_33 j (fun h9 => hj ((by decide : ∀ x ∈ ([6, 8, 9, 10, 11, 12, 13, 15, 16, 17, 18, 22, 29, 39] : List Int), x ∈ ([6, 8, 9, 10, 11, 12, 13, 15, 16, 17, 18, 22, 29, 39] : List Int)) j h9))).trans (hp_4 j (fun h9 => hj ((by decide : ∀ x ∈ ([6, 8, 9, 10, 11, 12, 13, 15, 18] : List Int), x ∈ ([6, 8, 9, 10, 11, 12, 13, 15, 16, 17, 18, 22, 29, 39] : List Int)) j h9))))))))), hPM_111, (by omega), (by omega), (by omega), (by omega), (by omega), (by omega), (fun j hj => ((F_99.1 126 (by decide) j).trans ((F_87.1 126 (by decide) j).trans ((F_73.1 126 (by decide) j).trans ((F_50.1 126 (by decide) j).trans ((hp_41 j (by omega)).trans (F_3.1 126 (by decide) j))))))), (fun _ h0 => as_part (mPX.ex ((hX_61 ()) (by have e9 : bd μ49 = bd μ49 := rfl; have e8 : bd μ98 = bd μ49 := ((bd_cg (F_99.1 111 (by decide) 15) (F_99.1 111 (by decide) 16) (F_99.1 111 (by decide) 17)).trans ((bd_cg (hp_88 15 (by decide)) (hp_88 16 (by decide)) (hp_88 17 (by decide))).trans (bd_cg (hp_74 15 (by decide)) (hp_74 16 (by decide)) (hp_74 17 (by decide))))); omega))) (hp_75 ()) hp_89 ho hb29 hp_100), hxt_102⟩
