abbrev cX4_isHeld : ByteArray := prog_6_method_25_code
def yX4_isHeld : MethodName := ⟨RX4, "isHeld", "(I)Z"⟩
theorem dX4_isHeld_0 : decode cX4_isHeld 0 = .ok (.aload_n 0, 1) := by decide +kernel
theorem dX4_isHeld_1 : decode cX4_isHeld 1 = .ok (.getfield 43, 3) := by decide +kernel
theorem dX4_isHeld_4 : decode cX4_isHeld 4 = .ok (.invokevirtual 304, 3) := by decide +kernel
theorem dX4_isHeld_7 : decode cX4_isHeld 7 = .ok (.istore_n 2, 1) := by decide +kernel
theorem dX4_isHeld_8 : decode cX4_isHeld 8 = .ok (.iload_n 2, 1) := by decide +kernel
theorem dX4_isHeld_9 : decode cX4_isHeld 9 = .ok (.aload_n 0, 1) := by decide +kernel
theorem dX4_isHeld_10 : decode cX4_isHeld 10 = .ok (.getfield 36, 3) := by decide +kernel
theorem dX4_isHeld_13 : decode cX4_isHeld 13 = .ok (.invokevirtual 305, 3) := by decide +kernel
theorem dX4_isHeld_16 : decode cX4_isHeld 16 = .ok (.if_icmp .le 148, 3) := by decide +kernel
theorem dX4_isHeld_19 : decode cX4_isHeld 19 = .ok (.aload_n 0, 1) := by decide +kernel
theorem dX4_isHeld_20 : decode cX4_isHeld 20 = .ok (.getfield 43, 3) := by decide +kernel
theorem dX4_isHeld_23 : decode cX4_isHeld 23 = .ok (.invokevirtual 308, 3) := by decide +kernel
theorem dX4_isHeld_26 : decode cX4_isHeld 26 = .ok (.istore_n 3, 1) := by decide +kernel
theorem dX4_isHeld_27 : decode cX4_isHeld 27 = .ok (.iload_n 3, 1) := by decide +kernel
theorem dX4_isHeld_28 : decode cX4_isHeld 28 = .ok (.iconst 4, 1) := by decide +kernel
theorem dX4_isHeld_29 : decode cX4_isHeld 29 = .ok (.if_icmp .ne 39, 3) := by decide +kernel
theorem dX4_isHeld_32 : decode cX4_isHeld 32 = .ok (.aload_n 0, 1) := by decide +kernel
theorem dX4_isHeld_33 : decode cX4_isHeld 33 = .ok (.getfield 43, 3) := by decide +kernel
theorem dX4_isHeld_36 : decode cX4_isHeld 36 = .ok (.iconst 2, 1) := by decide +kernel
theorem dX4_isHeld_37 : decode cX4_isHeld 37 = .ok (.iload_n 1, 1) := by decide +kernel
theorem dX4_isHeld_38 : decode cX4_isHeld 38 = .ok (.invokevirtual 249, 3) := by decide +kernel
theorem dX4_isHeld_41 : decode cX4_isHeld 41 = .ok (.aload_n 0, 1) := by decide +kernel
theorem dX4_isHeld_42 : decode cX4_isHeld 42 = .ok (.getfield 14, 3) := by decide +kernel
theorem dX4_isHeld_45 : decode cX4_isHeld 45 = .ok (.aload_n 0, 1) := by decide +kernel
theorem dX4_isHeld_46 : decode cX4_isHeld 46 = .ok (.getfield 36, 3) := by decide +kernel
theorem dX4_isHeld_49 : decode cX4_isHeld 49 = .ok (.invokevirtual 310, 3) := by decide +kernel
theorem dX4_isHeld_52 : decode cX4_isHeld 52 = .ok (.invokevirtual 151, 3) := by decide +kernel
theorem dX4_isHeld_55 : decode cX4_isHeld 55 = .ok (.aload_n 0, 1) := by decide +kernel
theorem dX4_isHeld_56 : decode cX4_isHeld 56 = .ok (.aload_n 0, 1) := by decide +kernel
theorem dX4_isHeld_57 : decode cX4_isHeld 57 = .ok (.getfield 43, 3) := by decide +kernel
theorem dX4_isHeld_60 : decode cX4_isHeld 60 = .ok (.invokevirtual 313, 3) := by decide +kernel
theorem dX4_isHeld_63 : decode cX4_isHeld 63 = .ok (.putfield 55, 3) := by decide +kernel
theorem dX4_isHeld_66 : decode cX4_isHeld 66 = .ok (.iconst 1, 1) := by decide +kernel
theorem dX4_isHeld_67 : decode cX4_isHeld 67 = .ok (.ireturn, 1) := by decide +kernel
theorem dX4_isHeld_68 : decode cX4_isHeld 68 = .ok (.iload_n 3, 1) := by decide +kernel
theorem dX4_isHeld_69 : decode cX4_isHeld 69 = .ok (.iconst 5, 1) := by decide +kernel
theorem dX4_isHeld_70 : decode cX4_isHeld 70 = .ok (.if_icmp .ne 18, 3) := by decide +kernel
theorem dX4_isHeld_73 : decode cX4_isHeld 73 = .ok (.aload_n 0, 1) := by decide +kernel
theorem dX4_isHeld_74 : decode cX4_isHeld 74 = .ok (.getfield 29, 3) := by decide +kernel
theorem dX4_isHeld_77 : decode cX4_isHeld 77 = .ok (.iload_n 1, 1) := by decide +kernel
theorem dX4_isHeld_78 : decode cX4_isHeld 78 = .ok (.aload_n 0, 1) := by decide +kernel
theorem dX4_isHeld_79 : decode cX4_isHeld 79 = .ok (.getfield 43, 3) := by decide +kernel
theorem dX4_isHeld_82 : decode cX4_isHeld 82 = .ok (.invokevirtual 316, 3) := by decide +kernel
theorem dX4_isHeld_85 : decode cX4_isHeld 85 = .ok (.invokevirtual 319, 3) := by decide +kernel
theorem dX4_isHeld_88 : decode cX4_isHeld 88 = .ok (.aload_n 0, 1) := by decide +kernel
theorem dX4_isHeld_89 : decode cX4_isHeld 89 = .ok (.iload_n 3, 1) := by decide +kernel
theorem dX4_isHeld_90 : decode cX4_isHeld 90 = .ok (.aload_n 0, 1) := by decide +kernel
theorem dX4_isHeld_91 : decode cX4_isHeld 91 = .ok (.getfield 29, 3) := by decide +kernel
theorem dX4_isHeld_94 : decode cX4_isHeld 94 = .ok (.iload_n 1, 1) := by decide +kernel
theorem dX4_isHeld_95 : decode cX4_isHeld 95 = .ok (.iconst 1, 1) := by decide +kernel
theorem dX4_isHeld_96 : decode cX4_isHeld 96 = .ok (.invokevirtual 113, 3) := by decide +kernel
theorem dX4_isHeld_99 : decode cX4_isHeld 99 = .ok (.invokevirtual 322, 3) := by decide +kernel
theorem dX4_isHeld_102 : decode cX4_isHeld 102 = .ok (.istore 4, 2) := by decide +kernel
theorem dX4_isHeld_104 : decode cX4_isHeld 104 = .ok (.aload_n 0, 1) := by decide +kernel
theorem dX4_isHeld_105 : decode cX4_isHeld 105 = .ok (.getfield 43, 3) := by decide +kernel
theorem dX4_isHeld_108 : decode cX4_isHeld 108 = .ok (.invokevirtual 246, 3) := by decide +kernel
theorem dX4_isHeld_111 : decode cX4_isHeld 111 = .ok (.iload 4, 2) := by decide +kernel
theorem dX4_isHeld_113 : decode cX4_isHeld 113 = .ok (.ifCond .lt 45, 3) := by decide +kernel
theorem dX4_isHeld_116 : decode cX4_isHeld 116 = .ok (.aload_n 0, 1) := by decide +kernel
theorem dX4_isHeld_117 : decode cX4_isHeld 117 = .ok (.getfield 14, 3) := by decide +kernel
theorem dX4_isHeld_120 : decode cX4_isHeld 120 = .ok (.aload_n 0, 1) := by decide +kernel
theorem dX4_isHeld_121 : decode cX4_isHeld 121 = .ok (.getfield 36, 3) := by decide +kernel
theorem dX4_isHeld_124 : decode cX4_isHeld 124 = .ok (.invokevirtual 310, 3) := by decide +kernel
theorem dX4_isHeld_127 : decode cX4_isHeld 127 = .ok (.invokevirtual 151, 3) := by decide +kernel
theorem dX4_isHeld_130 : decode cX4_isHeld 130 = .ok (.iload_n 3, 1) := by decide +kernel
theorem dX4_isHeld_131 : decode cX4_isHeld 131 = .ok (.iconst 2, 1) := by decide +kernel
theorem dX4_isHeld_132 : decode cX4_isHeld 132 = .ok (.if_icmp .eq 18, 3) := by decide +kernel
theorem dX4_isHeld_135 : decode cX4_isHeld 135 = .ok (.aload_n 0, 1) := by decide +kernel
theorem dX4_isHeld_136 : decode cX4_isHeld 136 = .ok (.getfield 14, 3) := by decide +kernel
theorem dX4_isHeld_139 : decode cX4_isHeld 139 = .ok (.aload_n 0, 1) := by decide +kernel
theorem dX4_isHeld_140 : decode cX4_isHeld 140 = .ok (.getfield 29, 3) := by decide +kernel
theorem dX4_isHeld_143 : decode cX4_isHeld 143 = .ok (.invokevirtual 284, 3) := by decide +kernel
theorem dX4_isHeld_146 : decode cX4_isHeld 146 = .ok (.iload_n 1, 1) := by decide +kernel
theorem dX4_isHeld_147 : decode cX4_isHeld 147 = .ok (.invokevirtual 179, 3) := by decide +kernel
theorem dX4_isHeld_150 : decode cX4_isHeld 150 = .ok (.aload_n 0, 1) := by decide +kernel
theorem dX4_isHeld_151 : decode cX4_isHeld 151 = .ok (.iload 4, 2) := by decide +kernel
theorem dX4_isHeld_153 : decode cX4_isHeld 153 = .ok (.putfield 55, 3) := by decide +kernel
theorem dX4_isHeld_156 : decode cX4_isHeld 156 = .ok (.iconst 1, 1) := by decide +kernel
theorem dX4_isHeld_157 : decode cX4_isHeld 157 = .ok (.ireturn, 1) := by decide +kernel
theorem dX4_isHeld_158 : decode cX4_isHeld 158 = .ok (.iinc 2 (-1), 3) := by decide +kernel
theorem dX4_isHeld_161 : decode cX4_isHeld 161 = .ok (.goto (-153), 3) := by decide +kernel
theorem dX4_isHeld_164 : decode cX4_isHeld 164 = .ok (.iconst 0, 1) := by decide +kernel
theorem dX4_isHeld_165 : decode cX4_isHeld 165 = .ok (.ireturn, 1) := by decide +kernel
set_option maxHeartbeats 4000000 in
set_option maxRecDepth 100000 in
theorem c_X4_isHeld (ω : Om) (l : Launch) (μ : M3) (x1 : Int) (cr1 : Int → Int → Int) (S : Int) (P : Int) (g : Int) (y : Int) (hx1 : ir x1) (hI : IC μ) (hS : S = μ.1 33 3) (hP : P = μ.1 32 10) (hg : g = μ.1 60 6) (hy : y = μ.1 45 4) (hcc : ∀ q, ctc μ P (cr1 q)) (hgo : ∀ j, ofF μ 59 ≤ j → j < μ.1 60 6 → gok μ P cr1 j (μ.1 61 j) (μ.1 62 j)) (hgb : 0 ≤ ofF μ 59 ∧ ofF μ 59 ≤ μ.1 60 6) (hly : μ.1 45 4 + μ.1 60 6 ≤ 10010) (hfl : ofF μ 56 ≤ 239000) : CtI ω l yX4_isHeld cX4_isHeld 5 .boolean 5 172 [.ref (oP ω 32), .int (iv x1)] μ (fun (r : Int) (μ' : M3) => (Fr [45, 46, 51, 60, 66, 67, 68, 69, 33, 34, 35, 36, 32, 61, 64, 65] μ μ') ∧ (IC μ') ∧ ((r = 0 ∧ μ'.1 33 3 = S ∧ μ'.1 60 6 = ofF μ 59 ∧ μ'.1 32 12 = μ.1 32 12) ∨ (r = 1 ∧ μ'.1 33 3 ≤ max (ofF μ 56) 0 + 1 ∧ ofF μ 59 ≤ μ'.1 60 6)) ∧ (r = 1 → gtc (cr1 (μ'.1 60 6)) (μ'.1 32 12)) ∧ (μ'.1 60 6 ≤ g ∧ μ'.1 45 4 + μ'.1 60 6 ≤ y + g) ∧ (∀ j, μ'.1 61 j = μ.1 61 j ∨ μ'.1 61 j = 5) ∧ (μ'.1 45 1 = μ.1 45 1) ∧ (μ'.1 32 10 = μ.1 32 10) ∧ (μ'.1 32 11 = μ.1 32 11) ∧ (μ'.1 32 13 = μ.1 32 13) ∧ (μ'.1 32 14 = μ.1 32 14) ∧ (μ'.1 32 15 = μ.1 32 15) ∧ (μ'.1 32 16 = μ.1 32 16)) := by
  refine CtI.go (by decide) (Nat.le_of_ble_eq_true rfl) (fun ρ p e s m below meth c R ls G hR hret hlk hl => ?_)
  have hx := G.1.1
  have hb := G.1.2.1
  have hl : lv_has ls 5 [(0, .ref (oP ω 32)), (1, .int (iv x1))] := hl
  generalize s.drawn = d0 at G ⊢
  have hr_x1 : -2147483648 ≤ x1 ∧ x1 ≤ 2147483647 := hx1
  have hk_1 := hI.row (r := 33) (by unfold isRow; decide)
  unfold rk at hk_1
  simp only [Int.reduceAdd] at hk_1
  have hbr_33 : BR 33 = 240100 := rfl
  have hn_2 : 0 ≤ μ.1 60 6 ∧ μ.1 60 6 ≤ 400 := hI.nm.2.2.2.2.2.1
  have hn_3 : 0 ≤ μ.1 45 4 ∧ 2 * μ.1 45 4 ≤ μ.2.1 51 := hI.nm.2.2.2.2.2.2.2.1
  have hk_4 := hI.row (r := 37) (by unfold isRow; decide)
  unfold rk at hk_4
  simp only [Int.reduceAdd] at hk_4
  have hbr_37 : BR 37 = 20410 := rfl
  have hprP : isPr P := by have h9 := G.sr0.2.2.2.2.1; rw [← hP] at h9; exact h9
  have hprP_d : P = 13 ∨ P = 71 ∨ P = 81 ∨ P = 91 ∨ P = 101 := hprP
  refine lv_aload_n hx hb dX4_isHeld_0 rfl (lv_at hl 0 rfl) ?_
  refine xa_getr G fd_X4 (a := 32) (x := 60) 8 rfl (by decide) rfl (wm 2 152 rfl rfl) ⟨rfl, rfl, rfl⟩ dX4_isHeld_1 rfl (G.sk 41 rfl) (by decide) rfl ?_
  have e_5 : μ.1 60 6 = g := hg.symm
  refine xc_iV G (b := 60) (rest := []) (As := []) (c_X3_count ω l μ  hI) (wm 5 89 rfl rfl) (wm 5 90 rfl rfl) (wm 5 91 rfl rfl) rfl rfl (by decide) rfl (wm 1 17 rfl rfl) (wm 5 92 rfl rfl) (by decide) hR (by decide) (n := 0) rfl rfl (Nat.le_of_ble_eq_true rfl) hl.1 dX4_isHeld_4 (fun r_7 μ6 ρ d0 H locs hr_r_7 hp G => ?_)
  have hr_r_7 : -2147483648 ≤ r_7 ∧ r_7 ≤ 2147483647 := hr_r_7
  obtain ⟨hsm_8, hp_9⟩ := hp
  have hsm_8 := Eq.symm hsm_8
  subst hsm_8
  refine lv_istore_n (lv' := [(2, .int (iv r_7)), (0, .ref (oP ω 32)), (1, .int (iv x1))]) hx hb dX4_isHeld_7 rfl hl (by decide) rfl (fun ls hl => ?_)
  have e_10 : μ.1 60 6 = g := hg.symm
  have e_11 : μ.1 45 4 = y := hy.symm
  have e_12 : μ.1 60 6 = g := hg.symm
  have e_13 : μ.1 45 4 = y := hy.symm
  refine xl (fun n_9 μ' ls => ∃ (i9 : Int), (Fr [45, 46, 51, 60, 66, 67, 68, 69] μ μ') ∧ (-2147483648 ≤ i9 ∧ i9 ≤ 2147483647) ∧ (i9 = μ'.1 60 6) ∧ (ofF μ 59 ≤ i9) ∧ (i9 ≤ g) ∧ (μ'.1 45 4 + μ'.1 60 6 ≤ y + g) ∧ (0 ≤ μ'.1 45 4) ∧ (μ'.1 45 1 = μ.1 45 1) ∧ (IC μ') ∧ n_9 = Int.toNat (i9) ∧ lv_has ls 5 [(2, .int (iv i9)), (0, .ref (oP ω 32)), (1, .int (iv x1))]) (fun n_9 ρ μL14 d0 H locs ls hI_l G ih => ?_) _ _ _ _ _ _ _ ⟨r_7, Fr.rf, (by omega), (by omega), (by omega), (by omega), (by omega), (by omega), rfl, hI, rfl, lv_sub hl [0, 1, 2] rfl⟩ G
  obtain ⟨i9, FL15, hi_17, hi_18, hi_19, hi_20, hi_21, hi_22, hi_23, hi_24, hn16, hl⟩ := hI_l
  refine lv_iload_n hx hb dX4_isHeld_8 rfl (lv_at hl 0 rfl) ?_
  refine lv_aload_n hx hb dX4_isHeld_9 rfl (lv_at hl 1 rfl) ?_
  refine xa_getr G fd_X4 (a := 32) (x := 52) 7 rfl (by decide) rfl (wm 2 151 rfl rfl) ⟨rfl, rfl, rfl⟩ dX4_isHeld_10 rfl (G.sk 40 rfl) (by decide) rfl ?_
  have e_25 : ofF μL14 59 = ofF μ 59 := (ofF_fr FL15 (by decide) (by decide))
  refine xc_iV G (b := 52) (rest := [.int (iv i9)]) (As := []) (c_X2_guardBase ω l μL14  hi_24) (wm 5 115 rfl rfl) (wm 5 116 rfl rfl) (wm 5 117 rfl rfl) rfl rfl (by decide) rfl (wm 1 16 rfl rfl) (wm 5 118 rfl rfl) (by decide) hR (by decide) (n := 0) rfl rfl (Nat.le_of_ble_eq_true rfl) hl.1 dX4_isHeld_13 (fun r_27 μ26 ρ d0 H locs hr_r_27 hp G => ?_)
  have hr_r_27 : -2147483648 ≤ r_27 ∧ r_27 ≤ 2147483647 := hr_r_27
  obtain ⟨hsm_28, hp_29⟩ := hp
  have hsm_28 := Eq.symm hsm_28
  subst hsm_28
  refine xb_icmp_le (tgt := 164) hx hb (by unfold ir; omega) (by unfold ir; omega) dX4_isHeld_16 (by decide) (fun c_16 => ?_) (fun c_16 => ?_)
  · refine lv_iconst (v := iv 0) hx hb dX4_isHeld_164 rfl ?_
    have e_30 : μL14.1 33 3 = S := ((FL15.1 33 (by decide) 3).trans hS.symm)
    have e_31 : μL14.1 32 12 = μ.1 32 12 := (FL15.1 32 (by decide) 12)
    have e_32 : μL14.1 33 3 = S := ((FL15.1 33 (by decide) 3).trans hS.symm)
    have e_33 : μL14.1 45 1 = μ.1 45 1 := hi_23
    have e_34 : μL14.1 32 10 = P := ((FL15.1 32 (by decide) 10).trans hP.symm)
    have e_35 : μL14.1 32 11 = μ.1 32 11 := (FL15.1 32 (by decide) 11)
    have e_36 : μL14.1 32 13 = μ.1 32 13 := (FL15.1 32 (by decide) 13)
    have e_37 : μL14.1 32 14 = μ.1 32 14 := (FL15.1 32 (by decide) 14)
    have e_38 : μL14.1 32 15 = μ.1 32 15 := (FL15.1 32 (by decide) 15)
    have e_39 : μL14.1 32 16 = μ.1 32 16 := (FL15.1 32 (by decide) 16)
    exact xr_i G (x := 0) hret hlk (by unfold ir; omega) (zr (by omega)) dX4_isHeld_165 ⟨(Fr.tr Fr.rf FL15 (by decide)), hi_24, (by omega), (fun h9 => absurd h9 (by omega)), (by omega), (fun j => Or.inl ((FL15.1 61 (by decide) j))), (by omega), (by omega), (by omega), (by omega), (by omega), (by omega), (by omega)⟩
  · refine lv_aload_n hx hb dX4_isHeld_19 rfl (lv_at hl 1 rfl) ?_
    refine xa_getr G fd_X4 (a := 32) (x := 60) 8 rfl (by decide) rfl (wm 2 152 rfl rfl) ⟨rfl, rfl, rfl⟩ dX4_isHeld_20 rfl (G.sk 41 rfl) (by decide) rfl ?_
    refine xc_iV G (b := 60) (rest := []) (As := []) (c_X3_kind ω l μL14  hi_24) (wm 5 123 rfl rfl) (wm 5 124 rfl rfl) (wm 5 125 rfl rfl) rfl rfl (by decide) rfl (wm 1 17 rfl rfl) (wm 5 126 rfl rfl) (by decide) hR (by decide) (n := 0) rfl rfl (Nat.le_of_ble_eq_true rfl) hl.1 dX4_isHeld_23 (fun r_41 μ40 ρ d0 H locs hr_r_41 hp G => ?_)
    have hr_r_41 : -2147483648 ≤ r_41 ∧ r_41 ≤ 2147483647 := hr_r_41
    obtain ⟨hsm_42, hp_43⟩ := hp
    have hsm_42 := Eq.symm hsm_42
    subst hsm_42
    have hkd : r_41 = μ.1 61 (i9 - 1) := by have h8 : ofG μL14 61 = μL14.1 61 (i9 - 1) := ofG_at (k := i9) (by have h9 : μL14.1 60 6 = μL14.1 60 6 := rfl; omega) (by omega); have h7 : μL14.1 61 (i9 - 1) = μ.1 61 (i9 - 1) := (FL15.1 61 (by decide) (i9 - 1)); omega
    refine lv_istore_n (lv' := [(3, .int (iv r_41)), (2, .int (iv i9)), (0, .ref (oP ω 32)), (1, .int (iv x1))]) hx hb dX4_isHeld_26 rfl hl (by decide) rfl (fun ls hl => ?_)
    refine lv_iload_n hx hb dX4_isHeld_27 rfl (lv_at hl 0 rfl) ?_
    refine lv_iconst (v := iv 4) hx hb dX4_isHeld_28 rfl ?_
    refine xb_icmp_ne (tgt := 68) hx hb (by unfold ir; omega) (by unfold ir; omega) dX4_isHeld_29 (by decide) (fun c_29 => ?_) (fun c_29 => ?_)
    · refine lv_iload_n hx hb dX4_isHeld_68 rfl (lv_at hl 0 rfl) ?_
      refine lv_iconst (v := iv 5) hx hb dX4_isHeld_69 rfl ?_
      refine xb_icmp_ne (tgt := 88) hx hb (by unfold ir; omega) (by unfold ir; omega) dX4_isHeld_70 (by decide) (fun c_70 => ?_) (fun c_70 => ?_)
      · refine lv_aload_n hx hb dX4_isHeld_88 rfl (lv_at hl 2 rfl) ?_
        refine lv_iload_n hx hb dX4_isHeld_89 rfl (lv_at hl 0 rfl) ?_
        refine lv_aload_n hx hb dX4_isHeld_90 rfl (lv_at hl 2 rfl) ?_
        refine xa_getr G fd_X4 (a := 32) (x := 45) 6 rfl (by decide) rfl (wm 2 150 rfl rfl) ⟨rfl, rfl, rfl⟩ dX4_isHeld_91 rfl (G.sk 39 rfl) (by decide) rfl ?_
        refine lv_iload_n hx hb dX4_isHeld_94 rfl (lv_at hl 3 rfl) ?_
        refine lv_iconst (v := iv 1) hx hb dX4_isHeld_95 rfl ?_
        have hn_44 : 0 ≤ μ.1 45 1 ∧ 9 * μ.1 45 1 ≤ μ.2.1 46 := hI.nm.2.2.2.2.2.2.1
        have e_45 : μL14.1 45 1 = μ.1 45 1 := hi_23
        have e_46 : μL14.1 45 1 = μ.1 45 1 := hi_23
        have hn_47 : 0 ≤ μL14.1 45 4 ∧ 2 * μL14.1 45 4 ≤ μL14.2.1 51 := hi_24.nm.2.2.2.2.2.2.2.1
        refine xc_iV G (b := 45) (rest := [.int (iv r_41), .ref (oP ω 32)]) (As := [.int (iv x1), .int (iv 1)]) (c_X1_fact ω l μL14 x1 1 (μ.1 45 1) (μL14.1 45 4) (by unfold ir; omega) (by unfold ir; omega) hi_24 (by omega) (by omega)) (wm 5 168 rfl rfl) (wm 5 169 rfl rfl) (wm 5 170 rfl rfl) rfl rfl (by decide) rfl (wm 1 15 rfl rfl) (wm 5 171 rfl rfl) (by decide) hR (by decide) (n := 2) rfl rfl (Nat.le_of_ble_eq_true rfl) hl.1 dX4_isHeld_96 (fun r_49 μ48 ρ d0 H locs hr_r_49 hp G => ?_)
        have hr_r_49 : -2147483648 ≤ r_49 ∧ r_49 ≤ 2147483647 := hr_r_49
        have hsm_50 := hp
        have hsm_50 := Eq.symm hsm_50
        subst hsm_50
        have hcc_51 : ∀ q, ctc μL14 P (cr1 q) := fun q => (hcc q).fr (L := [45, 46, 51, 60, 66, 67, 68, 69]) (Fr.tr Fr.rf FL15 (by decide)) hprP (by decide)
        have hok_52_e : ofG μL14 62 = μ.1 62 (i9 - 1) := (ofG_at (k := i9) (by have h9 : μL14.1 60 6 = μL14.1 60 6 := rfl; omega) (by omega)).trans ((FL15.1 62 (by decide) (i9 - 1)))
        have hok_52 : gok0 μL14 P (cr1 (i9 - 1)) r_41 (ofG μL14 62) := by rw [hok_52_e, show r_41 = μ.1 61 (i9 - 1) by omega]; exact ((hgo (i9 - 1) (by omega) (by omega)).fr (L := [45, 46, 51, 60, 66, 67, 68, 69]) (Fr.tr Fr.rf FL15 (by decide)) hprP (by decide)).1
        have e_53 : μL14.1 32 10 = P := ((FL15.1 32 (by decide) 10).trans hP.symm)
        refine xc_iV G (b := 32) (rest := []) (As := [.int (iv r_41), .int (iv r_49)]) (c_X4_targetFor ω l μL14 r_41 r_49 (cr1 (i9 - 1)) P (by unfold ir; omega) (by unfold ir; omega) hi_24 (by omega) (hcc_51 (i9 - 1)) hok_52) (wm 5 173 rfl rfl) (wm 5 175 rfl rfl) (wm 0 69 rfl rfl) rfl rfl (by decide) rfl (wm 1 14 rfl rfl) (wm 5 176 rfl rfl) (by decide) hR (by decide) (n := 2) rfl rfl (Nat.le_of_ble_eq_true rfl) hl.1 dX4_isHeld_99 (fun r_55 μ54 ρ d0 H locs hr_r_55 hp G => ?_)
        have hr_r_55 : -2147483648 ≤ r_55 ∧ r_55 ≤ 2147483647 := hr_r_55
        obtain ⟨hsm_56, hp_57⟩ := hp
        have hsm_56 := Eq.symm hsm_56
        subst hsm_56
        refine lv_istore (lv' := [(4, .int (iv r_55)), (3, .int (iv r_41)), (2, .int (iv i9)), (0, .ref (oP ω 32)), (1, .int (iv x1))]) hx hb dX4_isHeld_102 hl (by decide) rfl (fun ls hl => ?_)
        refine lv_aload_n hx hb dX4_isHeld_104 rfl (lv_at hl 3 rfl) ?_
        refine xa_getr G fd_X4 (a := 32) (x := 60) 8 rfl (by decide) rfl (wm 2 152 rfl rfl) ⟨rfl, rfl, rfl⟩ dX4_isHeld_105 rfl (G.sk 41 rfl) (by decide) rfl ?_
        have hn_58 : 0 ≤ μL14.1 60 6 ∧ μL14.1 60 6 ≤ 400 := hi_24.nm.2.2.2.2.2.1
        refine xc_vV G (b := 60) (rest := []) (As := []) (c_X3_pop ω l μL14 (μL14.1 60 6) hi_24 (by omega)) (wm 5 192 rfl rfl) (wm 5 193 rfl rfl) (wm 5 194 rfl rfl) rfl rfl (by decide) rfl (wm 1 17 rfl rfl) (wm 5 195 rfl rfl) (by decide) hR (by decide) (n := 0) rfl rfl (Nat.le_of_ble_eq_true rfl) hl.1 dX4_isHeld_108 (fun μ59 ρ d0 H locs hp G => ?_)
        obtain ⟨F_60, hI_61, hp_62⟩ := hp
        have hn_63 : 0 ≤ μ59.1 60 6 ∧ μ59.1 60 6 ≤ 400 := hI_61.nm.2.2.2.2.2.1
        refine lv_iload hx hb dX4_isHeld_111 (lv_at hl 0 rfl) ?_
        refine xb_if_lt (tgt := 158) hx hb (by unfold ir; omega) dX4_isHeld_113 (by decide) (fun c_113 => ?_) (fun c_113 => ?_)
        · refine lv_iinc (v := iv (i9 - 1)) (lv' := [(2, .int (iv (i9 - 1))), (4, .int (iv r_55)), (3, .int (iv r_41)), (0, .ref (oP ω 32)), (1, .int (iv x1))]) hx hb dX4_isHeld_158 hl (k := 2) rfl (by rw [show Int32.ofInt (-1) = iv (-1) from rfl, iv_add] <;> (congr 1 <;> omega)) (by decide) rfl (fun ls hl => ?_)
          refine lv_goto (tgt := 8) hx hb dX4_isHeld_161 (by decide) ?_
          have e_64 : μ59.1 45 4 = μL14.1 45 4 := (F_60.1 45 (by decide) 4)
          have e_65 : μ59.1 45 4 = μL14.1 45 4 := (F_60.1 45 (by decide) 4)
          exact ih _ _ _ _ _ _ _ (by omega) ⟨i9 - 1, (Fr.tr FL15 F_60 (by decide)), (by omega), (by omega), (by omega), (by omega), (by omega), (by omega), ((F_60.1 45 (by decide) 1).trans hi_23), hI_61, rfl, lv_sub hl [0, 3, 4] rfl⟩ G
        · refine lv_aload_n hx hb dX4_isHeld_116 rfl (lv_at hl 3 rfl) ?_
          refine xa_getr G fd_X4 (a := 32) (x := 33) 3 rfl (by decide) rfl (wm 2 147 rfl rfl) ⟨rfl, rfl, rfl⟩ dX4_isHeld_117 rfl (G.sk 36 rfl) (by decide) rfl ?_
          refine lv_aload_n hx hb dX4_isHeld_120 rfl (lv_at hl 3 rfl) ?_
          refine xa_getr G fd_X4 (a := 32) (x := 52) 7 rfl (by decide) rfl (wm 2 151 rfl rfl) ⟨rfl, rfl, rfl⟩ dX4_isHeld_121 rfl (G.sk 40 rfl) (by decide) rfl ?_
          have e_66 : ofF μ59 56 = ofF μ 56 := ((ofF_fr F_60 (by decide) (by decide)).trans (ofF_fr FL15 (by decide) (by decide)))
          refine xc_iV G (b := 52) (rest := [.ref (oP ω 33)]) (As := []) (c_X2_floor ω l μ59  hI_61) (wm 5 135 rfl rfl) (wm 5 136 rfl rfl) (wm 5 137 rfl rfl) rfl rfl (by decide) rfl (wm 1 16 rfl rfl) (wm 5 138 rfl rfl) (by decide) hR (by decide) (n := 0) rfl rfl (Nat.le_of_ble_eq_true rfl) hl.1 dX4_isHeld_124 (fun r_68 μ67 ρ d0 H locs hr_r_68 hp G => ?_)
          have hr_r_68 : -2147483648 ≤ r_68 ∧ r_68 ≤ 2147483647 := hr_r_68
          obtain ⟨hsm_69, hp_70⟩ := hp
          have hsm_69 := Eq.symm hsm_69
          subst hsm_69
          refine xc_vV G (b := 33) (rest := []) (As := [.int (iv r_68)]) (c_X9_resize ω l μ59 33 r_68 (by unfold isRow; decide) (by unfold ir; omega) hI_61 (by omega)) (wm 5 55 rfl rfl) (wm 3 15 rfl rfl) (wm 3 16 rfl rfl) rfl rfl (by decide) rfl (wm 1 10 rfl rfl) (wm 3 17 rfl rfl) (by decide) hR (by decide) (n := 1) rfl rfl (Nat.le_of_ble_eq_true rfl) hl.1 dX4_isHeld_127 (fun μ71 ρ d0 H locs hp G => ?_)
          obtain ⟨F_72, hI_73, hs_74⟩ := hp
          refine lv_iload_n hx hb dX4_isHeld_130 rfl (lv_at hl 1 rfl) ?_
          refine lv_iconst (v := iv 2) hx hb dX4_isHeld_131 rfl ?_
          refine xb_icmp_eq (tgt := 150) hx hb (by unfold ir; omega) (by unfold ir; omega) dX4_isHeld_132 (by decide) (fun c_132 => ?_) (fun c_132 => ?_)
          · refine lv_aload_n hx hb dX4_isHeld_150 rfl (lv_at hl 3 rfl) ?_
            refine lv_iload hx hb dX4_isHeld_151 (lv_at hl 0 rfl) ?_
            refine xa_puti G fd_X4 (a := 32) (x := r_55) 12 (kz := 12) rfl rfl (by decide) rfl (by unfold ir; omega) (wm 2 156 rfl rfl) ⟨rfl, rfl, rfl, rfl⟩ rfl dX4_isHeld_153 rfl (fun H locs G => ?_)
            refine lv_iconst (v := iv 1) hx hb dX4_isHeld_156 rfl ?_
            have h606 : (sv μ71 32 12 r_55).1 60 6 = i9 - 1 := by have h9 : (sv μ71 32 12 r_55).1 60 6 = μ59.1 60 6 := ((sv_n _ (fun h9 => absurd h9.1 (by decide))).trans (F_72.1 60 (by decide) 6)); omega
            have hI_75 : IC (sv μ71 32 12 r_55) := (IC.put hI_73 (by decide +kernel))
            have e_76 : (sv μ71 32 12 r_55).1 33 3 = max r_68 0 := ((sv_n _ (fun h9 => absurd h9.1 (by decide))).trans hs_74)
            have e_77 : (sv μ71 32 12 r_55).1 60 6 = μ59.1 60 6 := ((sv_n _ (fun h9 => absurd h9.1 (by decide))).trans (F_72.1 60 (by decide) 6))
            have e_78 : (sv μ71 32 12 r_55).1 32 12 = r_55 := (sv_s _ _ _ _)
            have e_79 : (sv μ71 32 12 r_55).1 33 3 = max r_68 0 := ((sv_n _ (fun h9 => absurd h9.1 (by decide))).trans hs_74)
            have e_80 : (sv μ71 32 12 r_55).1 60 6 = μ59.1 60 6 := ((sv_n _ (fun h9 => absurd h9.1 (by decide))).trans (F_72.1 60 (by decide) 6))
            have e_81 : (sv μ71 32 12 r_55).1 60 6 = μ59.1 60 6 := ((sv_n _ (fun h9 => absurd h9.1 (by decide))).trans (F_72.1 60 (by decide) 6))
            have e_82 : (sv μ71 32 12 r_55).1 45 4 = μL14.1 45 4 := ((sv_n _ (fun h9 => absurd h9.1 (by decide))).trans ((F_72.1 45 (by decide) 4).trans (F_60.1 45 (by decide) 4)))
            have e_83 : (sv μ71 32 12 r_55).1 60 6 = μ59.1 60 6 := ((sv_n _ (fun h9 => absurd h9.1 (by decide))).trans (F_72.1 60 (by decide) 6))
            have e_84 : (sv μ71 32 12 r_55).1 45 1 = μ.1 45 1 := ((sv_n _ (fun h9 => absurd h9.1 (by decide))).trans ((F_72.1 45 (by decide) 1).trans ((F_60.1 45 (by decide) 1).trans hi_23)))
            have e_85 : (sv μ71 32 12 r_55).1 32 10 = P := ((sv_n _ (by decide)).trans ((F_72.1 32 (by decide) 10).trans ((F_60.1 32 (by decide) 10).trans ((FL15.1 32 (by decide) 10).trans hP.symm))))
            have e_86 : (sv μ71 32 12 r_55).1 32 11 = μ.1 32 11 := ((sv_n _ (by decide)).trans ((F_72.1 32 (by decide) 11).trans ((F_60.1 32 (by decide) 11).trans (FL15.1 32 (by decide) 11))))
            have e_87 : (sv μ71 32 12 r_55).1 32 13 = μ.1 32 13 := ((sv_n _ (by decide)).trans ((F_72.1 32 (by decide) 13).trans ((F_60.1 32 (by decide) 13).trans (FL15.1 32 (by decide) 13))))
            have e_88 : (sv μ71 32 12 r_55).1 32 14 = μ.1 32 14 := ((sv_n _ (by decide)).trans ((F_72.1 32 (by decide) 14).trans ((F_60.1 32 (by decide) 14).trans (FL15.1 32 (by decide) 14))))
            have e_89 : (sv μ71 32 12 r_55).1 32 15 = μ.1 32 15 := ((sv_n _ (by decide)).trans ((F_72.1 32 (by decide) 15).trans ((F_60.1 32 (by decide) 15).trans (FL15.1 32 (by decide) 15))))
            have e_90 : (sv μ71 32 12 r_55).1 32 16 = μ.1 32 16 := ((sv_n _ (by decide)).trans ((F_72.1 32 (by decide) 16).trans ((F_60.1 32 (by decide) 16).trans (FL15.1 32 (by decide) 16))))
            exact xr_i G (x := 1) hret hlk (by unfold ir; omega) (zr (by omega)) dX4_isHeld_157 ⟨(Fr.put (Fr.tr (Fr.tr (Fr.tr Fr.rf FL15 (by decide)) F_60 (by decide)) F_72 (by decide)) (by decide)), hI_75, (by omega), (fun _ => by rw [show (sv μ71 32 12 r_55).1 32 12 = r_55 from (sv_s _ _ _ _), h606]; exact hp_57.resolve_left (by omega)), (by omega), (fun j => Or.inl (((sv_n _ (by omega)).trans ((F_72.1 61 (by decide) j).trans ((F_60.1 61 (by decide) j).trans (FL15.1 61 (by decide) j)))))), (by omega), (by omega), (by omega), (by omega), (by omega), (by omega), (by omega)⟩
          · refine lv_aload_n hx hb dX4_isHeld_135 rfl (lv_at hl 3 rfl) ?_
            refine xa_getr G fd_X4 (a := 32) (x := 33) 3 rfl (by decide) rfl (wm 2 147 rfl rfl) ⟨rfl, rfl, rfl⟩ dX4_isHeld_136 rfl (G.sk 36 rfl) (by decide) rfl ?_
            refine lv_aload_n hx hb dX4_isHeld_139 rfl (lv_at hl 3 rfl) ?_
            refine xa_getr G fd_X4 (a := 32) (x := 45) 6 rfl (by decide) rfl (wm 2 150 rfl rfl) ⟨rfl, rfl, rfl⟩ dX4_isHeld_140 rfl (G.sk 39 rfl) (by decide) rfl ?_
            refine xc_rV G (b := 45) (rest := [.ref (oP ω 33)]) (As := []) (c_X1_values ω l μ71  hI_73) (wm 5 196 rfl rfl) (wm 5 197 rfl rfl) (wm 5 198 rfl rfl) rfl rfl (by decide) rfl (wm 1 15 rfl rfl) (wm 5 199 rfl rfl) (by decide) hR (by decide) (n := 0) rfl rfl (Nat.le_of_ble_eq_true rfl) hl.1 dX4_isHeld_143 (fun r_92 μ91 ρ d0 H locs hp G => ?_)
            obtain ⟨hsm_93, hp_94⟩ := hp
            have hsm_93 := Eq.symm hsm_93
            subst hsm_93
            subst hp_94
            refine lv_iload_n hx hb dX4_isHeld_146 rfl (lv_at hl 4 rfl) ?_
            have e_95 : μ71.1 33 3 = max r_68 0 := hs_74
            refine xc_vV G (b := 33) (rest := []) (As := [.ref (oP ω 47), .int (iv x1)]) (c_X9_pushCopy ω l μ71 33 47 x1 (max r_68 0) (by unfold isRow; decide) (by unfold isRow; decide) (by unfold ir; omega) hI_73 (by omega) (by omega)) (wm 5 200 rfl rfl) (wm 5 201 rfl rfl) (wm 5 202 rfl rfl) rfl rfl (by decide) rfl (wm 1 10 rfl rfl) (wm 5 203 rfl rfl) (by decide) hR (by decide) (n := 2) rfl rfl (Nat.le_of_ble_eq_true rfl) hl.1 dX4_isHeld_147 (fun μ96 ρ d0 H locs hp G => ?_)
            obtain ⟨F_97, hI_98, hs_99⟩ := hp
            refine lv_aload_n hx hb dX4_isHeld_150 rfl (lv_at hl 3 rfl) ?_
            refine lv_iload hx hb dX4_isHeld_151 (lv_at hl 0 rfl) ?_
            refine xa_puti G fd_X4 (a := 32) (x := r_55) 12 (kz := 12) rfl rfl (by decide) rfl (by unfold ir; omega) (wm 2 156 rfl rfl) ⟨rfl, rfl, rfl, rfl⟩ rfl dX4_isHeld_153 rfl (fun H locs G => ?_)
            refine lv_iconst (v := iv 1) hx hb dX4_isHeld_156 rfl ?_
            have h606 : (sv μ96 32 12 r_55).1 60 6 = i9 - 1 := by have h9 : (sv μ96 32 12 r_55).1 60 6 = μ59.1 60 6 := ((sv_n _ (fun h9 => absurd h9.1 (by decide))).trans ((F_97.1 60 (by decide) 6).trans (F_72.1 60 (by decide) 6))); omega
            have hI_100 : IC (sv μ96 32 12 r_55) := (IC.put hI_98 (by decide +kernel))
            have e_101 : (sv μ96 32 12 r_55).1 33 3 = (max r_68 0) + 1 := ((sv_n _ (fun h9 => absurd h9.1 (by decide))).trans hs_99)
            have e_102 : (sv μ96 32 12 r_55).1 60 6 = μ59.1 60 6 := ((sv_n _ (fun h9 => absurd h9.1 (by decide))).trans ((F_97.1 60 (by decide) 6).trans (F_72.1 60 (by decide) 6)))
            have e_103 : (sv μ96 32 12 r_55).1 32 12 = r_55 := (sv_s _ _ _ _)
            have e_104 : (sv μ96 32 12 r_55).1 33 3 = (max r_68 0) + 1 := ((sv_n _ (fun h9 => absurd h9.1 (by decide))).trans hs_99)
            have e_105 : (sv μ96 32 12 r_55).1 60 6 = μ59.1 60 6 := ((sv_n _ (fun h9 => absurd h9.1 (by decide))).trans ((F_97.1 60 (by decide) 6).trans (F_72.1 60 (by decide) 6)))
            have e_106 : (sv μ96 32 12 r_55).1 60 6 = μ59.1 60 6 := ((sv_n _ (fun h9 => absurd h9.1 (by decide))).trans ((F_97.1 60 (by decide) 6).trans (F_72.1 60 (by decide) 6)))
            have e_107 : (sv μ96 32 12 r_55).1 45 4 = μL14.1 45 4 := ((sv_n _ (fun h9 => absurd h9.1 (by decide))).trans ((F_97.1 45 (by decide) 4).trans ((F_72.1 45 (by decide) 4).trans (F_60.1 45 (by decide) 4))))
            have e_108 : (sv μ96 32 12 r_55).1 60 6 = μ59.1 60 6 := ((sv_n _ (fun h9 => absurd h9.1 (by decide))).trans ((F_97.1 60 (by decide) 6).trans (F_72.1 60 (by decide) 6)))
            have e_109 : (sv μ96 32 12 r_55).1 45 1 = μ.1 45 1 := ((sv_n _ (fun h9 => absurd h9.1 (by decide))).trans ((F_97.1 45 (by decide) 1).trans ((F_72.1 45 (by decide) 1).trans ((F_60.1 45 (by decide) 1).trans hi_23))))
            have e_110 : (sv μ96 32 12 r_55).1 32 10 = P := ((sv_n _ (by decide)).trans ((F_97.1 32 (by decide) 10).trans ((F_72.1 32 (by decide) 10).trans ((F_60.1 32 (by decide) 10).trans ((FL15.1 32 (by decide) 10).trans hP.symm)))))
            have e_111 : (sv μ96 32 12 r_55).1 32 11 = μ.1 32 11 := ((sv_n _ (by decide)).trans ((F_97.1 32 (by decide) 11).trans ((F_72.1 32 (by decide) 11).trans ((F_60.1 32 (by decide) 11).trans (FL15.1 32 (by decide) 11)))))
            have e_112 : (sv μ96 32 12 r_55).1 32 13 = μ.1 32 13 := ((sv_n _ (by decide)).trans ((F_97.1 32 (by decide) 13).trans ((F_72.1 32 (by decide) 13).trans ((F_60.1 32 (by decide) 13).trans (FL15.1 32 (by decide) 13)))))
            have e_113 : (sv μ96 32 12 r_55).1 32 14 = μ.1 32 14 := ((sv_n _ (by decide)).trans ((F_97.1 32 (by decide) 14).trans ((F_72.1 32 (by decide) 14).trans ((F_60.1 32 (by decide) 14).trans (FL15.1 32 (by decide) 14)))))
            have e_114 : (sv μ96 32 12 r_55).1 32 15 = μ.1 32 15 := ((sv_n _ (by decide)).trans ((F_97.1 32 (by decide) 15).trans ((F_72.1 32 (by decide) 15).trans ((F_60.1 32 (by decide) 15).trans (FL15.1 32 (by decide) 15)))))
            have e_115 : (sv μ96 32 12 r_55).1 32 16 = μ.1 32 16 := ((sv_n _ (by decide)).trans ((F_97.1 32 (by decide) 16).trans ((F_72.1 32 (by decide) 16).trans ((F_60.1 32 (by decide) 16).trans (FL15.1 32 (by decide) 16)))))
            exact xr_i G (x := 1) hret hlk (by unfold ir; omega) (zr (by omega)) dX4_isHeld_157 ⟨(Fr.put (Fr.tr (Fr.tr (Fr.tr (Fr.tr Fr.rf FL15 (by decide)) F_60 (by decide)) F_72 (by decide)) F_97 (by decide)) (by decide)), hI_100, (by omega), (fun _ => by rw [show (sv μ96 32 12 r_55).1 32 12 = r_55 from (sv_s _ _ _ _), h606]; exact hp_57.resolve_left (by omega)), (by omega), (fun j => Or.inl (((sv_n _ (by omega)).trans ((F_97.1 61 (by decide) j).trans ((F_72.1 61 (by decide) j).trans ((F_60.1 61 (by decide) j).trans (FL15.1 61 (by decide) j))))))), (by omega), (by omega), (by omega), (by omega), (by omega), (by omega), (by omega)⟩
      · refine lv_aload_n hx hb dX4_isHeld_73 rfl (lv_at hl 2 rfl) ?_
        refine xa_getr G fd_X4 (a := 32) (x := 45) 6 rfl (by decide) rfl (wm 2 150 rfl rfl) ⟨rfl, rfl, rfl⟩ dX4_isHeld_74 rfl (G.sk 39 rfl) (by decide) rfl ?_
        refine lv_iload_n hx hb dX4_isHeld_77 rfl (lv_at hl 3 rfl) ?_
        refine lv_aload_n hx hb dX4_isHeld_78 rfl (lv_at hl 2 rfl) ?_
        refine xa_getr G fd_X4 (a := 32) (x := 60) 8 rfl (by decide) rfl (wm 2 152 rfl rfl) ⟨rfl, rfl, rfl⟩ dX4_isHeld_79 rfl (G.sk 41 rfl) (by decide) rfl ?_
        refine xc_iV G (b := 60) (rest := [.int (iv x1), .ref (oP ω 45)]) (As := []) (c_X3_failureUnderWay ω l μL14  hi_24) (wm 5 143 rfl rfl) (wm 5 144 rfl rfl) (wm 5 145 rfl rfl) rfl rfl (by decide) rfl (wm 1 17 rfl rfl) (wm 5 146 rfl rfl) (by decide) hR (by decide) (n := 0) rfl rfl (Nat.le_of_ble_eq_true rfl) hl.1 dX4_isHeld_82 (fun r_117 μ116 ρ d0 H locs hr_r_117 hp G => ?_)
        have hr_r_117 : -2147483648 ≤ r_117 ∧ r_117 ≤ 2147483647 := hr_r_117
        have hsm_118 := hp
        have hsm_118 := Eq.symm hsm_118
        subst hsm_118
        have hn_119 : 0 ≤ μ.1 45 1 ∧ 9 * μ.1 45 1 ≤ μ.2.1 46 := hI.nm.2.2.2.2.2.2.1
        have e_120 : μL14.1 45 1 = μ.1 45 1 := hi_23
        have e_121 : μL14.1 45 1 = μ.1 45 1 := hi_23
        have hn_122 : 0 ≤ μL14.1 45 4 ∧ 2 * μL14.1 45 4 ≤ μL14.2.1 51 := hi_24.nm.2.2.2.2.2.2.2.1
        have e_123 : μL14.1 45 1 = μ.1 45 1 := hi_23
        have e_124 : μL14.1 45 1 = μ.1 45 1 := hi_23
        refine xc_vV G (b := 45) (rest := []) (As := [.int (iv x1), .int (iv r_117)]) (c_X1_putUnder ω l μL14 x1 r_117 (μ.1 45 1) (μL14.1 45 4) (by unfold ir; omega) (by unfold ir; omega) hi_24 (by omega) (by omega) (by omega)) (wm 5 163 rfl rfl) (wm 5 164 rfl rfl) (wm 5 165 rfl rfl) rfl rfl (by decide) rfl (wm 1 15 rfl rfl) (wm 5 166 rfl rfl) (by decide) hR (by decide) (n := 2) rfl rfl (Nat.le_of_ble_eq_true rfl) hl.1 dX4_isHeld_85 (fun μ125 ρ d0 H locs hp G => ?_)
        obtain ⟨F_126, hI_127, hp_128, hp_129, hs_130⟩ := hp
        have hn_131 : 0 ≤ μ125.1 45 1 ∧ 9 * μ125.1 45 1 ≤ μ125.2.1 46 := hI_127.nm.2.2.2.2.2.2.1
        have hn_132 : 0 ≤ μ125.1 45 4 ∧ 2 * μ125.1 45 4 ≤ μ125.2.1 51 := hI_127.nm.2.2.2.2.2.2.2.1
        refine lv_aload_n hx hb dX4_isHeld_88 rfl (lv_at hl 2 rfl) ?_
        refine lv_iload_n hx hb dX4_isHeld_89 rfl (lv_at hl 0 rfl) ?_
        refine lv_aload_n hx hb dX4_isHeld_90 rfl (lv_at hl 2 rfl) ?_
        refine xa_getr G fd_X4 (a := 32) (x := 45) 6 rfl (by decide) rfl (wm 2 150 rfl rfl) ⟨rfl, rfl, rfl⟩ dX4_isHeld_91 rfl (G.sk 39 rfl) (by decide) rfl ?_
        refine lv_iload_n hx hb dX4_isHeld_94 rfl (lv_at hl 3 rfl) ?_
        refine lv_iconst (v := iv 1) hx hb dX4_isHeld_95 rfl ?_
        have e_133 : μ125.1 45 1 = μ.1 45 1 := (hs_130.trans hi_23)
        have e_134 : μ125.1 45 1 = μ.1 45 1 := (hs_130.trans hi_23)
        refine xc_iV G (b := 45) (rest := [.int (iv r_41), .ref (oP ω 32)]) (As := [.int (iv x1), .int (iv 1)]) (c_X1_fact ω l μ125 x1 1 (μ.1 45 1) (μ125.1 45 4) (by unfold ir; omega) (by unfold ir; omega) hI_127 (by omega) (by omega)) (wm 5 168 rfl rfl) (wm 5 169 rfl rfl) (wm 5 170 rfl rfl) rfl rfl (by decide) rfl (wm 1 15 rfl rfl) (wm 5 171 rfl rfl) (by decide) hR (by decide) (n := 2) rfl rfl (Nat.le_of_ble_eq_true rfl) hl.1 dX4_isHeld_96 (fun r_136 μ135 ρ d0 H locs hr_r_136 hp G => ?_)
        have hr_r_136 : -2147483648 ≤ r_136 ∧ r_136 ≤ 2147483647 := hr_r_136
        have hsm_137 := hp
        have hsm_137 := Eq.symm hsm_137
        subst hsm_137
        have hcc_138 : ∀ q, ctc μ125 P (cr1 q) := fun q => (hcc q).fr (L := [45, 46, 51, 60, 66, 67, 68, 69]) (Fr.tr (Fr.tr Fr.rf FL15 (by decide)) F_126 (by decide)) hprP (by decide)
        have hok_139_e : ofG μ125 62 = μ.1 62 (i9 - 1) := (ofG_at (k := i9) (by have h9 : μ125.1 60 6 = μL14.1 60 6 := (F_126.1 60 (by decide) 6); omega) (by omega)).trans (((F_126.1 62 (by decide) (i9 - 1)).trans (FL15.1 62 (by decide) (i9 - 1))))
        have hok_139 : gok0 μ125 P (cr1 (i9 - 1)) r_41 (ofG μ125 62) := by rw [hok_139_e, show r_41 = μ.1 61 (i9 - 1) by omega]; exact ((hgo (i9 - 1) (by omega) (by omega)).fr (L := [45, 46, 51, 60, 66, 67, 68, 69]) (Fr.tr (Fr.tr Fr.rf FL15 (by decide)) F_126 (by decide)) hprP (by decide)).1
        have e_140 : μ125.1 32 10 = P := ((F_126.1 32 (by decide) 10).trans ((FL15.1 32 (by decide) 10).trans hP.symm))
        refine xc_iV G (b := 32) (rest := []) (As := [.int (iv r_41), .int (iv r_136)]) (c_X4_targetFor ω l μ125 r_41 r_136 (cr1 (i9 - 1)) P (by unfold ir; omega) (by unfold ir; omega) hI_127 (by omega) (hcc_138 (i9 - 1)) hok_139) (wm 5 173 rfl rfl) (wm 5 175 rfl rfl) (wm 0 69 rfl rfl) rfl rfl (by decide) rfl (wm 1 14 rfl rfl) (wm 5 176 rfl rfl) (by decide) hR (by decide) (n := 2) rfl rfl (Nat.le_of_ble_eq_true rfl) hl.1 dX4_isHeld_99 (fun r_142 μ141 ρ d0 H locs hr_r_142 hp G => ?_)
        have hr_r_142 : -2147483648 ≤ r_142 ∧ r_142 ≤ 2147483647 := hr_r_142
        obtain ⟨hsm_143, hp_144⟩ := hp
        have hsm_143 := Eq.symm hsm_143
        subst hsm_143
        refine lv_istore (lv' := [(4, .int (iv r_142)), (3, .int (iv r_41)), (2, .int (iv i9)), (0, .ref (oP ω 32)), (1, .int (iv x1))]) hx hb dX4_isHeld_102 hl (by decide) rfl (fun ls hl => ?_)
        refine lv_aload_n hx hb dX4_isHeld_104 rfl (lv_at hl 3 rfl) ?_
        refine xa_getr G fd_X4 (a := 32) (x := 60) 8 rfl (by decide) rfl (wm 2 152 rfl rfl) ⟨rfl, rfl, rfl⟩ dX4_isHeld_105 rfl (G.sk 41 rfl) (by decide) rfl ?_
        have hn_145 : 0 ≤ μL14.1 60 6 ∧ μL14.1 60 6 ≤ 400 := hi_24.nm.2.2.2.2.2.1
        have e_146 : μ125.1 60 6 = μL14.1 60 6 := (F_126.1 60 (by decide) 6)
        refine xc_vV G (b := 60) (rest := []) (As := []) (c_X3_pop ω l μ125 (μL14.1 60 6) hI_127 (by omega)) (wm 5 192 rfl rfl) (wm 5 193 rfl rfl) (wm 5 194 rfl rfl) rfl rfl (by decide) rfl (wm 1 17 rfl rfl) (wm 5 195 rfl rfl) (by decide) hR (by decide) (n := 0) rfl rfl (Nat.le_of_ble_eq_true rfl) hl.1 dX4_isHeld_108 (fun μ147 ρ d0 H locs hp G => ?_)
        obtain ⟨F_148, hI_149, hp_150⟩ := hp
        have hn_151 : 0 ≤ μ147.1 60 6 ∧ μ147.1 60 6 ≤ 400 := hI_149.nm.2.2.2.2.2.1
        refine lv_iload hx hb dX4_isHeld_111 (lv_at hl 0 rfl) ?_
        refine xb_if_lt (tgt := 158) hx hb (by unfold ir; omega) dX4_isHeld_113 (by decide) (fun c_113 => ?_) (fun c_113 => ?_)
        · refine lv_iinc (v := iv (i9 - 1)) (lv' := [(2, .int (iv (i9 - 1))), (4, .int (iv r_142)), (3, .int (iv r_41)), (0, .ref (oP ω 32)), (1, .int (iv x1))]) hx hb dX4_isHeld_158 hl (k := 2) rfl (by rw [show Int32.ofInt (-1) = iv (-1) from rfl, iv_add] <;> (congr 1 <;> omega)) (by decide) rfl (fun ls hl => ?_)
          refine lv_goto (tgt := 8) hx hb dX4_isHeld_161 (by decide) ?_
          have e_152 : μ147.1 45 4 = μ125.1 45 4 := (F_148.1 45 (by decide) 4)
          have e_153 : μ147.1 45 4 = μ125.1 45 4 := (F_148.1 45 (by decide) 4)
          exact ih _ _ _ _ _ _ _ (by omega) ⟨i9 - 1, (Fr.tr (Fr.tr FL15 F_126 (by decide)) F_148 (by decide)), (by omega), (by omega), (by omega), (by omega), (by omega), (by omega), ((F_148.1 45 (by decide) 1).trans (hs_130.trans hi_23)), hI_149, rfl, lv_sub hl [0, 3, 4] rfl⟩ G
        · refine lv_aload_n hx hb dX4_isHeld_116 rfl (lv_at hl 3 rfl) ?_
          refine xa_getr G fd_X4 (a := 32) (x := 33) 3 rfl (by decide) rfl (wm 2 147 rfl rfl) ⟨rfl, rfl, rfl⟩ dX4_isHeld_117 rfl (G.sk 36 rfl) (by decide) rfl ?_
          refine lv_aload_n hx hb dX4_isHeld_120 rfl (lv_at hl 3 rfl) ?_
          refine xa_getr G fd_X4 (a := 32) (x := 52) 7 rfl (by decide) rfl (wm 2 151 rfl rfl) ⟨rfl, rfl, rfl⟩ dX4_isHeld_121 rfl (G.sk 40 rfl) (by decide) rfl ?_
          have e_154 : ofF μ147 56 = ofF μ 56 := ((ofF_fr F_148 (by decide) (by decide)).trans ((ofF_fr F_126 (by decide) (by decide)).trans (ofF_fr FL15 (by decide) (by decide))))
          refine xc_iV G (b := 52) (rest := [.ref (oP ω 33)]) (As := []) (c_X2_floor ω l μ147  hI_149) (wm 5 135 rfl rfl) (wm 5 136 rfl rfl) (wm 5 137 rfl rfl) rfl rfl (by decide) rfl (wm 1 16 rfl rfl) (wm 5 138 rfl rfl) (by decide) hR (by decide) (n := 0) rfl rfl (Nat.le_of_ble_eq_true rfl) hl.1 dX4_isHeld_124 (fun r_156 μ155 ρ d0 H locs hr_r_156 hp G => ?_)
          have hr_r_156 : -2147483648 ≤ r_156 ∧ r_156 ≤ 2147483647 := hr_r_156
          obtain ⟨hsm_157, hp_158⟩ := hp
          have hsm_157 := Eq.symm hsm_157
          subst hsm_157
          refine xc_vV G (b := 33) (rest := []) (As := [.int (iv r_156)]) (c_X9_resize ω l μ147 33 r_156 (by unfold isRow; decide) (by unfold ir; omega) hI_149 (by omega)) (wm 5 55 rfl rfl) (wm 3 15 rfl rfl) (wm 3 16 rfl rfl) rfl rfl (by decide) rfl (wm 1 10 rfl rfl) (wm 3 17 rfl rfl) (by decide) hR (by decide) (n := 1) rfl rfl (Nat.le_of_ble_eq_true rfl) hl.1 dX4_isHeld_127 (fun μ159 ρ d0 H locs hp G => ?_)
          obtain ⟨F_160, hI_161, hs_162⟩ := hp
          refine lv_iload_n hx hb dX4_isHeld_130 rfl (lv_at hl 1 rfl) ?_
          refine lv_iconst (v := iv 2) hx hb dX4_isHeld_131 rfl ?_
          refine xb_icmp_eq (tgt := 150) hx hb (by unfold ir; omega) (by unfold ir; omega) dX4_isHeld_132 (by decide) (fun c_132 => ?_) (fun c_132 => ?_)
          · refine lv_aload_n hx hb dX4_isHeld_150 rfl (lv_at hl 3 rfl) ?_
            refine lv_iload hx hb dX4_isHeld_151 (lv_at hl 0 rfl) ?_
            refine xa_puti G fd_X4 (a := 32) (x := r_142) 12 (kz := 12) rfl rfl (by decide) rfl (by unfold ir; omega) (wm 2 156 rfl rfl) ⟨rfl, rfl, rfl, rfl⟩ rfl dX4_isHeld_153 rfl (fun H locs G => ?_)
            refine lv_iconst (v := iv 1) hx hb dX4_isHeld_156 rfl ?_
            have h606 : (sv μ159 32 12 r_142).1 60 6 = i9 - 1 := by have h9 : (sv μ159 32 12 r_142).1 60 6 = μ147.1 60 6 := ((sv_n _ (fun h9 => absurd h9.1 (by decide))).trans (F_160.1 60 (by decide) 6)); omega
            have hI_163 : IC (sv μ159 32 12 r_142) := (IC.put hI_161 (by decide +kernel))
            have e_164 : (sv μ159 32 12 r_142).1 33 3 = max r_156 0 := ((sv_n _ (fun h9 => absurd h9.1 (by decide))).trans hs_162)
            have e_165 : (sv μ159 32 12 r_142).1 60 6 = μ147.1 60 6 := ((sv_n _ (fun h9 => absurd h9.1 (by decide))).trans (F_160.1 60 (by decide) 6))
            have e_166 : (sv μ159 32 12 r_142).1 32 12 = r_142 := (sv_s _ _ _ _)
            have e_167 : (sv μ159 32 12 r_142).1 33 3 = max r_156 0 := ((sv_n _ (fun h9 => absurd h9.1 (by decide))).trans hs_162)
            have e_168 : (sv μ159 32 12 r_142).1 60 6 = μ147.1 60 6 := ((sv_n _ (fun h9 => absurd h9.1 (by decide))).trans (F_160.1 60 (by decide) 6))
            have e_169 : (sv μ159 32 12 r_142).1 60 6 = μ147.1 60 6 := ((sv_n _ (fun h9 => absurd h9.1 (by decide))).trans (F_160.1 60 (by decide) 6))
            have e_170 : (sv μ159 32 12 r_142).1 45 4 = μ125.1 45 4 := ((sv_n _ (fun h9 => absurd h9.1 (by decide))).trans ((F_160.1 45 (by decide) 4).trans (F_148.1 45 (by decide) 4)))
            have e_171 : (sv μ159 32 12 r_142).1 60 6 = μ147.1 60 6 := ((sv_n _ (fun h9 => absurd h9.1 (by decide))).trans (F_160.1 60 (by decide) 6))
            have e_172 : (sv μ159 32 12 r_142).1 45 1 = μ.1 45 1 := ((sv_n _ (fun h9 => absurd h9.1 (by decide))).trans ((F_160.1 45 (by decide) 1).trans ((F_148.1 45 (by decide) 1).trans (hs_130.trans hi_23))))
            have e_173 : (sv μ159 32 12 r_142).1 32 10 = P := ((sv_n _ (by decide)).trans ((F_160.1 32 (by decide) 10).trans ((F_148.1 32 (by decide) 10).trans ((F_126.1 32 (by decide) 10).trans ((FL15.1 32 (by decide) 10).trans hP.symm)))))
            have e_174 : (sv μ159 32 12 r_142).1 32 11 = μ.1 32 11 := ((sv_n _ (by decide)).trans ((F_160.1 32 (by decide) 11).trans ((F_148.1 32 (by decide) 11).trans ((F_126.1 32 (by decide) 11).trans (FL15.1 32 (by decide) 11)))))
            have e_175 : (sv μ159 32 12 r_142).1 32 13 = μ.1 32 13 := ((sv_n _ (by decide)).trans ((F_160.1 32 (by decide) 13).trans ((F_148.1 32 (by decide) 13).trans ((F_126.1 32 (by decide) 13).trans (FL15.1 32 (by decide) 13)))))
            have e_176 : (sv μ159 32 12 r_142).1 32 14 = μ.1 32 14 := ((sv_n _ (by decide)).trans ((F_160.1 32 (by decide) 14).trans ((F_148.1 32 (by decide) 14).trans ((F_126.1 32 (by decide) 14).trans (FL15.1 32 (by decide) 14)))))
            have e_177 : (sv μ159 32 12 r_142).1 32 15 = μ.1 32 15 := ((sv_n _ (by decide)).trans ((F_160.1 32 (by decide) 15).trans ((F_148.1 32 (by decide) 15).trans ((F_126.1 32 (by decide) 15).trans (FL15.1 32 (by decide) 15)))))
            have e_178 : (sv μ159 32 12 r_142).1 32 16 = μ.1 32 16 := ((sv_n _ (by decide)).trans ((F_160.1 32 (by decide) 16).trans ((F_148.1 32 (by decide) 16).trans ((F_126.1 32 (by decide) 16).trans (FL15.1 32 (by decide) 16)))))
            exact xr_i G (x := 1) hret hlk (by unfold ir; omega) (zr (by omega)) dX4_isHeld_157 ⟨(Fr.put (Fr.tr (Fr.tr (Fr.tr (Fr.tr Fr.rf FL15 (by decide)) F_126 (by decide)) F_148 (by decide)) F_160 (by decide)) (by decide)), hI_163, (by omega), (fun _ => by rw [show (sv μ159 32 12 r_142).1 32 12 = r_142 from (sv_s _ _ _ _), h606]; exact hp_144.resolve_left (by omega)), (by omega), (fun j => Or.inl (((sv_n _ (by omega)).trans ((F_160.1 61 (by decide) j).trans ((F_148.1 61 (by decide) j).trans ((F_126.1 61 (by decide) j).trans (FL15.1 61 (by decide) j))))))), (by omega), (by omega), (by omega), (by omega), (by omega), (by omega), (by omega)⟩
          · refine lv_aload_n hx hb dX4_isHeld_135 rfl (lv_at hl 3 rfl) ?_
            refine xa_getr G fd_X4 (a := 32) (x := 33) 3 rfl (by decide) rfl (wm 2 147 rfl rfl) ⟨rfl, rfl, rfl⟩ dX4_isHeld_136 rfl (G.sk 36 rfl) (by decide) rfl ?_
            refine lv_aload_n hx hb dX4_isHeld_139 rfl (lv_at hl 3 rfl) ?_
            refine xa_getr G fd_X4 (a := 32) (x := 45) 6 rfl (by decide) rfl (wm 2 150 rfl rfl) ⟨rfl, rfl, rfl⟩ dX4_isHeld_140 rfl (G.sk 39 rfl) (by decide) rfl ?_
            refine xc_rV G (b := 45) (rest := [.ref (oP ω 33)]) (As := []) (c_X1_values ω l μ159  hI_161) (wm 5 196 rfl rfl) (wm 5 197 rfl rfl) (wm 5 198 rfl rfl) rfl rfl (by decide) rfl (wm 1 15 rfl rfl) (wm 5 199 rfl rfl) (by decide) hR (by decide) (n := 0) rfl rfl (Nat.le_of_ble_eq_true rfl) hl.1 dX4_isHeld_143 (fun r_180 μ179 ρ d0 H locs hp G => ?_)
            obtain ⟨hsm_181, hp_182⟩ := hp
            have hsm_181 := Eq.symm hsm_181
            subst hsm_181
            subst hp_182
            refine lv_iload_n hx hb dX4_isHeld_146 rfl (lv_at hl 4 rfl) ?_
            have e_183 : μ159.1 33 3 = max r_156 0 := hs_162
            refine xc_vV G (b := 33) (rest := []) (As := [.ref (oP ω 47), .int (iv x1)]) (c_X9_pushCopy ω l μ159 33 47 x1 (max r_156 0) (by unfold isRow; decide) (by unfold isRow; decide) (by unfold ir; omega) hI_161 (by omega) (by omega)) (wm 5 200 rfl rfl) (wm 5 201 rfl rfl) (wm 5 202 rfl rfl) rfl rfl (by decide) rfl (wm 1 10 rfl rfl) (wm 5 203 rfl rfl) (by decide) hR (by decide) (n := 2) rfl rfl (Nat.le_of_ble_eq_true rfl) hl.1 dX4_isHeld_147 (fun μ184 ρ d0 H locs hp G => ?_)
            obtain ⟨F_185, hI_186, hs_187⟩ := hp
            refine lv_aload_n hx hb dX4_isHeld_150 rfl (lv_at hl 3 rfl) ?_
            refine lv_iload hx hb dX4_isHeld_151 (lv_at hl 0 rfl) ?_
            refine xa_puti G fd_X4 (a := 32) (x := r_142) 12 (kz := 12) rfl rfl (by decide) rfl (by unfold ir; omega) (wm 2 156 rfl rfl) ⟨rfl, rfl, rfl, rfl⟩ rfl dX4_isHeld_153 rfl (fun H locs G => ?_)
            refine lv_iconst (v := iv 1) hx hb dX4_isHeld_156 rfl ?_
            have h606 : (sv μ184 32 12 r_142).1 60 6 = i9 - 1 := by have h9 : (sv μ184 32 12 r_142).1 60 6 = μ147.1 60 6 := ((sv_n _ (fun h9 => absurd h9.1 (by decide))).trans ((F_185.1 60 (by decide) 6).trans (F_160.1 60 (by decide) 6))); omega
            have hI_188 : IC (sv μ184 32 12 r_142) := (IC.put hI_186 (by decide +kernel))
            have e_189 : (sv μ184 32 12 r_142).1 33 3 = (max r_156 0) + 1 := ((sv_n _ (fun h9 => absurd h9.1 (by decide))).trans hs_187)
            have e_190 : (sv μ184 32 12 r_142).1 60 6 = μ147.1 60 6 := ((sv_n _ (fun h9 => absurd h9.1 (by decide))).trans ((F_185.1 60 (by decide) 6).trans (F_160.1 60 (by decide) 6)))
            have e_191 : (sv μ184 32 12 r_142).1 32 12 = r_142 := (sv_s _ _ _ _)
            have e_192 : (sv μ184 32 12 r_142).1 33 3 = (max r_156 0) + 1 := ((sv_n _ (fun h9 => absurd h9.1 (by decide))).trans hs_187)
            have e_193 : (sv μ184 32 12 r_142).1 60 6 = μ147.1 60 6 := ((sv_n _ (fun h9 => absurd h9.1 (by decide))).trans ((F_185.1 60 (by decide) 6).trans (F_160.1 60 (by decide) 6)))
            have e_194 : (sv μ184 32 12 r_142).1 60 6 = μ147.1 60 6 := ((sv_n _ (fun h9 => absurd h9.1 (by decide))).trans ((F_185.1 60 (by decide) 6).trans (F_160.1 60 (by decide) 6)))
            have e_195 : (sv μ184 32 12 r_142).1 45 4 = μ125.1 45 4 := ((sv_n _ (fun h9 => absurd h9.1 (by decide))).trans ((F_185.1 45 (by decide) 4).trans ((F_160.1 45 (by decide) 4).trans (F_148.1 45 (by decide) 4))))
            have e_196 : (sv μ184 32 12 r_142).1 60 6 = μ147.1 60 6 := ((sv_n _ (fun h9 => absurd h9.1 (by decide))).trans ((F_185.1 60 (by decide) 6).trans (F_160.1 60 (by decide) 6)))
            have e_197 : (sv μ184 32 12 r_142).1 45 1 = μ.1 45 1 := ((sv_n _ (fun h9 => absurd h9.1 (by decide))).trans ((F_185.1 45 (by decide) 1).trans ((F_160.1 45 (by decide) 1).trans ((F_148.1 45 (by decide) 1).trans (hs_130.trans hi_23)))))
            have e_198 : (sv μ184 32 12 r_142).1 32 10 = P := ((sv_n _ (by decide)).trans ((F_185.1 32 (by decide) 10).trans ((F_160.1 32 (by decide) 10).trans ((F_148.1 32 (by decide) 10).trans ((F_126.1 32 (by decide) 10).trans ((FL15.1 32 (by decide) 10).trans hP.symm))))))
            have e_199 : (sv μ184 32 12 r_142).1 32 11 = μ.1 32 11 := ((sv_n _ (by decide)).trans ((F_185.1 32 (by decide) 11).trans ((F_160.1 32 (by decide) 11).trans ((F_148.1 32 (by decide) 11).trans ((F_126.1 32 (by decide) 11).trans (FL15.1 32 (by decide) 11))))))
            have e_200 : (sv μ184 32 12 r_142).1 32 13 = μ.1 32 13 := ((sv_n _ (by decide)).trans ((F_185.1 32 (by decide) 13).trans ((F_160.1 32 (by decide) 13).trans ((F_148.1 32 (by decide) 13).trans ((F_126.1 32 (by decide) 13).trans (FL15.1 32 (by decide) 13))))))
            have e_201 : (sv μ184 32 12 r_142).1 32 14 = μ.1 32 14 := ((sv_n _ (by decide)).trans ((F_185.1 32 (by decide) 14).trans ((F_160.1 32 (by decide) 14).trans ((F_148.1 32 (by decide) 14).trans ((F_126.1 32 (by decide) 14).trans (FL15.1 32 (by decide) 14))))))
            have e_202 : (sv μ184 32 12 r_142).1 32 15 = μ.1 32 15 := ((sv_n _ (by decide)).trans ((F_185.1 32 (by decide) 15).trans ((F_160.1 32 (by decide) 15).trans ((F_148.1 32 (by decide) 15).trans ((F_126.1 32 (by decide) 15).trans (FL15.1 32 (by decide) 15))))))
            have e_203 : (sv μ184 32 12 r_142).1 32 16 = μ.1 32 16 := ((sv_n _ (by decide)).trans ((F_185.1 32 (by decide) 16).trans ((F_160.1 32 (by decide) 16).trans ((F_148.1 32 (by decide) 16).trans ((F_126.1 32 (by decide) 16).trans (FL15.1 32 (by decide) 16))))))
            exact xr_i G (x := 1) hret hlk (by unfold ir; omega) (zr (by omega)) dX4_isHeld_157 ⟨(Fr.put (Fr.tr (Fr.tr (Fr.tr (Fr.tr (Fr.tr Fr.rf FL15 (by decide)) F_126 (by decide)) F_148 (by decide)) F_160 (by decide)) F_185 (by decide)) (by decide)), hI_188, (by omega), (fun _ => by rw [show (sv μ184 32 12 r_142).1 32 12 = r_142 from (sv_s _ _ _ _), h606]; exact hp_144.resolve_left (by omega)), (by omega), (fun j => Or.inl (((sv_n _ (by omega)).trans ((F_185.1 61 (by decide) j).trans ((F_160.1 61 (by decide) j).trans ((F_148.1 61 (by decide) j).trans ((F_126.1 61 (by decide) j).trans (FL15.1 61 (by decide) j)))))))), (by omega), (by omega), (by omega), (by omega), (by omega), (by omega), (by omega)⟩
    · refine lv_aload_n hx hb dX4_isHeld_32 rfl (lv_at hl 2 rfl) ?_
      refine xa_getr G fd_X4 (a := 32) (x := 60) 8 rfl (by decide) rfl (wm 2 152 rfl rfl) ⟨rfl, rfl, rfl⟩ dX4_isHeld_33 rfl (G.sk 41 rfl) (by decide) rfl ?_
      refine lv_iconst (v := iv 2) hx hb dX4_isHeld_36 rfl ?_
      refine lv_iload_n hx hb dX4_isHeld_37 rfl (lv_at hl 3 rfl) ?_
      have hn_204 : 0 ≤ μL14.1 60 6 ∧ μL14.1 60 6 ≤ 400 := hi_24.nm.2.2.2.2.2.1
      refine xc_vV G (b := 60) (rest := []) (As := [.int (iv 2), .int (iv x1)]) (c_X3_finish ω l μL14 2 x1 (μL14.1 60 6) (by unfold ir; omega) (by unfold ir; omega) hi_24 (by omega)) (wm 5 131 rfl rfl) (wm 5 132 rfl rfl) (wm 5 133 rfl rfl) rfl rfl (by decide) rfl (wm 1 17 rfl rfl) (wm 5 134 rfl rfl) (by decide) hR (by decide) (n := 2) rfl rfl (Nat.le_of_ble_eq_true rfl) hl.1 dX4_isHeld_38 (fun μ205 ρ d0 H locs hp G => ?_)
      obtain ⟨F_206, hI_207, hp_208, ha_209⟩ := hp
      have hk5 : μ205.1 61 (i9 - 1) = 5 := hp_208.elim (fun h9 => absurd h9 (by omega)) (fun h9 => by rw [show i9 - 1 = (μL14.1 60 6) - 1 by omega]; exact h9)
      refine lv_aload_n hx hb dX4_isHeld_41 rfl (lv_at hl 2 rfl) ?_
      refine xa_getr G fd_X4 (a := 32) (x := 33) 3 rfl (by decide) rfl (wm 2 147 rfl rfl) ⟨rfl, rfl, rfl⟩ dX4_isHeld_42 rfl (G.sk 36 rfl) (by decide) rfl ?_
      refine lv_aload_n hx hb dX4_isHeld_45 rfl (lv_at hl 2 rfl) ?_
      refine xa_getr G fd_X4 (a := 32) (x := 52) 7 rfl (by decide) rfl (wm 2 151 rfl rfl) ⟨rfl, rfl, rfl⟩ dX4_isHeld_46 rfl (G.sk 40 rfl) (by decide) rfl ?_
      have e_210 : ofF μ205 56 = ofF μ 56 := ((ofF_fr F_206 (by decide) (by decide)).trans (ofF_fr FL15 (by decide) (by decide)))
      refine xc_iV G (b := 52) (rest := [.ref (oP ω 33)]) (As := []) (c_X2_floor ω l μ205  hI_207) (wm 5 135 rfl rfl) (wm 5 136 rfl rfl) (wm 5 137 rfl rfl) rfl rfl (by decide) rfl (wm 1 16 rfl rfl) (wm 5 138 rfl rfl) (by decide) hR (by decide) (n := 0) rfl rfl (Nat.le_of_ble_eq_true rfl) hl.1 dX4_isHeld_49 (fun r_212 μ211 ρ d0 H locs hr_r_212 hp G => ?_)
      have hr_r_212 : -2147483648 ≤ r_212 ∧ r_212 ≤ 2147483647 := hr_r_212
      obtain ⟨hsm_213, hp_214⟩ := hp
      have hsm_213 := Eq.symm hsm_213
      subst hsm_213
      refine xc_vV G (b := 33) (rest := []) (As := [.int (iv r_212)]) (c_X9_resize ω l μ205 33 r_212 (by unfold isRow; decide) (by unfold ir; omega) hI_207 (by omega)) (wm 5 55 rfl rfl) (wm 3 15 rfl rfl) (wm 3 16 rfl rfl) rfl rfl (by decide) rfl (wm 1 10 rfl rfl) (wm 3 17 rfl rfl) (by decide) hR (by decide) (n := 1) rfl rfl (Nat.le_of_ble_eq_true rfl) hl.1 dX4_isHeld_52 (fun μ215 ρ d0 H locs hp G => ?_)
      obtain ⟨F_216, hI_217, hs_218⟩ := hp
      refine lv_aload_n hx hb dX4_isHeld_55 rfl (lv_at hl 2 rfl) ?_
      refine lv_aload_n hx hb dX4_isHeld_56 rfl (lv_at hl 2 rfl) ?_
      refine xa_getr G fd_X4 (a := 32) (x := 60) 8 rfl (by decide) rfl (wm 2 152 rfl rfl) ⟨rfl, rfl, rfl⟩ dX4_isHeld_57 rfl (G.sk 41 rfl) (by decide) rfl ?_
      have e_219 : ofG μ215 62 = ofG μL14 62 := ((ofG_fr F_216 (by decide) (by decide)).trans (ofG_fr F_206 (by decide) (by decide)))
      refine xc_iV G (b := 60) (rest := [.ref (oP ω 32)]) (As := []) (c_X3_target ω l μ215  hI_217) (wm 5 139 rfl rfl) (wm 5 140 rfl rfl) (wm 5 141 rfl rfl) rfl rfl (by decide) rfl (wm 1 17 rfl rfl) (wm 5 142 rfl rfl) (by decide) hR (by decide) (n := 0) rfl rfl (Nat.le_of_ble_eq_true rfl) hl.1 dX4_isHeld_60 (fun r_221 μ220 ρ d0 H locs hr_r_221 hp G => ?_)
      have hr_r_221 : -2147483648 ≤ r_221 ∧ r_221 ≤ 2147483647 := hr_r_221
      obtain ⟨hsm_222, hp_223⟩ := hp
      have hsm_222 := Eq.symm hsm_222
      subst hsm_222
      have htg : r_221 = μ.1 62 (i9 - 1) := by have h8 : ofG μ215 62 = μ215.1 62 (i9 - 1) := ofG_at (k := i9) (by have h9 : μ215.1 60 6 = μL14.1 60 6 := ((F_216.1 60 (by decide) 6).trans (F_206.1 60 (by decide) 6)); omega) (by omega); have h7 : μ215.1 62 (i9 - 1) = μ.1 62 (i9 - 1) := ((F_216.1 62 (by decide) (i9 - 1)).trans ((F_206.1 62 (by decide) (i9 - 1)).trans (FL15.1 62 (by decide) (i9 - 1)))); omega
      refine xa_puti G fd_X4 (a := 32) (x := r_221) 12 (kz := 12) rfl rfl (by decide) rfl (by unfold ir; omega) (wm 2 156 rfl rfl) ⟨rfl, rfl, rfl, rfl⟩ rfl dX4_isHeld_63 rfl (fun H locs G => ?_)
      refine lv_iconst (v := iv 1) hx hb dX4_isHeld_66 rfl ?_
      have hpc : (sv μ215 32 12 r_221).1 32 12 = μ.1 62 (i9 - 1) := by have h9 : (sv μ215 32 12 r_221).1 32 12 = r_221 := (sv_s _ _ _ _); omega
      have h606 : (sv μ215 32 12 r_221).1 60 6 = i9 - 1 + 1 := by have h9 : (sv μ215 32 12 r_221).1 60 6 = μL14.1 60 6 := ((sv_n _ (fun h9 => absurd h9.1 (by decide))).trans ((F_216.1 60 (by decide) 6).trans (F_206.1 60 (by decide) 6))); omega
      have hI_224 : IC (sv μ215 32 12 r_221) := (IC.put hI_217 (by decide +kernel))
      have e_225 : (sv μ215 32 12 r_221).1 33 3 = max r_212 0 := ((sv_n _ (fun h9 => absurd h9.1 (by decide))).trans hs_218)
      have e_226 : (sv μ215 32 12 r_221).1 60 6 = μL14.1 60 6 := ((sv_n _ (fun h9 => absurd h9.1 (by decide))).trans ((F_216.1 60 (by decide) 6).trans (F_206.1 60 (by decide) 6)))
      have e_227 : (sv μ215 32 12 r_221).1 32 12 = r_221 := (sv_s _ _ _ _)
      have e_228 : (sv μ215 32 12 r_221).1 33 3 = max r_212 0 := ((sv_n _ (fun h9 => absurd h9.1 (by decide))).trans hs_218)
      have e_229 : (sv μ215 32 12 r_221).1 60 6 = μL14.1 60 6 := ((sv_n _ (fun h9 => absurd h9.1 (by decide))).trans ((F_216.1 60 (by decide) 6).trans (F_206.1 60 (by decide) 6)))
      have e_230 : (sv μ215 32 12 r_221).1 60 6 = μL14.1 60 6 := ((sv_n _ (fun h9 => absurd h9.1 (by decide))).trans ((F_216.1 60 (by decide) 6).trans (F_206.1 60 (by decide) 6)))
      have e_231 : (sv μ215 32 12 r_221).1 45 4 = μL14.1 45 4 := ((sv_n _ (fun h9 => absurd h9.1 (by decide))).trans ((F_216.1 45 (by decide) 4).trans (F_206.1 45 (by decide) 4)))
      have e_232 : (sv μ215 32 12 r_221).1 60 6 = μL14.1 60 6 := ((sv_n _ (fun h9 => absurd h9.1 (by decide))).trans ((F_216.1 60 (by decide) 6).trans (F_206.1 60 (by decide) 6)))
      have e_233 : (sv μ215 32 12 r_221).1 45 1 = μ.1 45 1 := ((sv_n _ (fun h9 => absurd h9.1 (by decide))).trans ((F_216.1 45 (by decide) 1).trans ((F_206.1 45 (by decide) 1).trans hi_23)))
      have e_234 : (sv μ215 32 12 r_221).1 32 10 = P := ((sv_n _ (by decide)).trans ((F_216.1 32 (by decide) 10).trans ((F_206.1 32 (by decide) 10).trans ((FL15.1 32 (by decide) 10).trans hP.symm))))
      have e_235 : (sv μ215 32 12 r_221).1 32 11 = μ.1 32 11 := ((sv_n _ (by decide)).trans ((F_216.1 32 (by decide) 11).trans ((F_206.1 32 (by decide) 11).trans (FL15.1 32 (by decide) 11))))
      have e_236 : (sv μ215 32 12 r_221).1 32 13 = μ.1 32 13 := ((sv_n _ (by decide)).trans ((F_216.1 32 (by decide) 13).trans ((F_206.1 32 (by decide) 13).trans (FL15.1 32 (by decide) 13))))
      have e_237 : (sv μ215 32 12 r_221).1 32 14 = μ.1 32 14 := ((sv_n _ (by decide)).trans ((F_216.1 32 (by decide) 14).trans ((F_206.1 32 (by decide) 14).trans (FL15.1 32 (by decide) 14))))
      have e_238 : (sv μ215 32 12 r_221).1 32 15 = μ.1 32 15 := ((sv_n _ (by decide)).trans ((F_216.1 32 (by decide) 15).trans ((F_206.1 32 (by decide) 15).trans (FL15.1 32 (by decide) 15))))
      have e_239 : (sv μ215 32 12 r_221).1 32 16 = μ.1 32 16 := ((sv_n _ (by decide)).trans ((F_216.1 32 (by decide) 16).trans ((F_206.1 32 (by decide) 16).trans (FL15.1 32 (by decide) 16))))
      exact xr_i G (x := 1) hret hlk (by unfold ir; omega) (zr (by omega)) dX4_isHeld_67 ⟨(Fr.put (Fr.tr (Fr.tr (Fr.tr Fr.rf FL15 (by decide)) F_206 (by decide)) F_216 (by decide)) (by decide)), hI_224, (by omega), (fun _ => by rw [hpc, h606]; exact (hgo (i9 - 1) (by omega) (by omega)).2 (by omega)), (by omega), (fun j => (Classical.em (j = i9 - 1)).elim (fun hj => Or.inr (by rw [hj]; exact ((sv_n _ (fun h9 => absurd h9.1 (by decide))).trans ((F_216.1 61 (by decide) (i9 - 1)).trans hk5)))) (fun hj => Or.inl ((sv_n _ (by omega)).trans ((F_216.1 61 (by decide) j).trans ((ha_209 j (by omega)).trans (FL15.1 61 (by decide) j)))))), (by omega), (by omega), (by omega), (by omega), (by omega), (by omega), (by omega)⟩
